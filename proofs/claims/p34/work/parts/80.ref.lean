theorem hm_X12_colour_1 : (.fieldLink RX12 48 "HolelessHouseModel" "colours" "[I" : Cond) ∈ wsX12_colour := List.mem_of_getElem? (i := 1) rfl
theorem hm_X12_setTree_1 : (.fieldLink RX12 164 "HolelessHouseModel" "cliqueMany" "I" : Cond) ∈ wsX12_setTree := List.mem_of_getElem? (i := 1) rfl
theorem hm_X12_setTree_2 : (.fieldLink RX12 51 "HolelessHouseModel" "parents" "[I" : Cond) ∈ wsX12_setTree := List.mem_of_getElem? (i := 2) rfl
theorem hm_X12_setTree_3 : (.fieldLink RX12 45 "HolelessHouseModel" "cliques" "[I" : Cond) ∈ wsX12_setTree := List.mem_of_getElem? (i := 3) rfl
set_option maxHeartbeats 4000000 in
set_option maxRecDepth 100000 in
theorem kX12_isColoured_10 (l : Launch) (dC : Nat → ClassId) (dI : Nat → Nat → Nat) (cI c2 cZ : ClassId) (o1 : Nat) (o3 : Nat) (o6 : Nat) (o9 : Nat) (o11 : Nat) (o14 : Nat) (o17 : Nat) (o22 : Nat) (o24 : Nat) (o26 : Nat) (o28 : Nat) (o30 : Nat) (o33 : Nat) (o35 : Nat) (o37 : Nat) (o40 : Nat) (o42 : Nat) (o44 : Nat) (o47 : Nat) (v2 : Int32) (v5 : Int32) (fw7 : Nat → Int32) (v8 : Int32) (v13 : Int32) (v16 : Int32) (v19 : Int32) (v20 : Int32) (v21 : Int32) (v32 : Int32) (fw34 : Nat → Int32) (v39 : Int32) (v46 : Int32) (a2 : Int32) (sz : Nat) (v5_h : Iv 3 12 v5) (fw7_b : Bd 12 0 4095 fw7) (v8_h : Iv 0 8 v8) (v13_h : Iv 0 12 v13) (v16_h : Iv 0 12 v16) (v19_h : Iv (-9) 12 v19) (v32_h : Iv 0 99 v32) (fw34_b : Bd 12 0 11 fw34) (v39_h : Iv 0 12 v39) (v46_h : Iv 0 12 v46) (a2_h : Iv 0 12 a2) : Met l yX12_isColoured wsX12_isColoured ({ frames := 9, cells := 0, slots := 0, locals := 225 }) (va_Pc [.ref o1, .int 3, .int a2] (wPre (dC, dI) [(cI, .int), (c2, .array .int), (cZ, .boolean)] ([(o1, .inr (12, [.int v2, .ref o3, .int v5, .ref o6, .int v8, .ref o9, .ref o11, .int v13, .ref o14, .int v16, .ref o17, .int v19, .int v20, .int v21, .ref o22, .ref o24, .ref o26, .ref o28, .ref o30, .int v32, .ref o33, .ref o35, .ref o37, .int v39, .ref o40, .ref o42, .ref o44, .int v46, .ref o47])), (o6, .inl (cI, 12, .inl fw7)), (o33, .inl (cI, 12, .inl fw34))]) sz)) (va_Qi (fun (r : Int32) (u : (Nat → Int32)) => Iv 0 1 r ∧ Bd 12 0 11 u ∧ (∀ i8, i8 < 3 → u i8 = fw34 i8) ∧ (Int32.toInt v5 ≤ Int32.toInt a2 → ¬ r = 0)) (fun u t => wPost (dC, dI) [(cI, .int), (c2, .array .int), (cZ, .boolean)] (va_A ([(o1, .inr (12, [.int v2, .ref o3, .int v5, .ref o6, .int v8, .ref o9, .ref o11, .int v13, .ref o14, .int v16, .ref o17, .int v19, .int v20, .int v21, .ref o22, .ref o24, .ref o26, .ref o28, .ref o30, .int v32, .ref o33, .ref o35, .ref o37, .int v39, .ref o40, .ref o42, .ref o44, .int v46, .ref o47])), (o6, .inl (cI, 12, .inl fw7)), (o33, .inl (cI, 12, .inl fw34))]) sz) ([(o1, .inr (12, [.int v2, .ref o3, .int v5, .ref o6, .int v8, .ref o9, .ref o11, .int v13, .ref o14, .int v16, .ref o17, .int v19, .int v20, .int v21, .ref o22, .ref o24, .ref o26, .ref o28, .ref o30, .int v32, .ref o33, .ref o35, .ref o37, .int v39, .ref o40, .ref o42, .ref o44, .int v46, .ref o47])), (o6, .inl (cI, 12, .inl fw7)), (o33, .inl (cI, 12, .inl u))]) t) (va_A ([(o1, .inr (12, [.int v2, .ref o3, .int v5, .ref o6, .int v8, .ref o9, .ref o11, .int v13, .ref o14, .int v16, .ref o17, .int v19, .int v20, .int v21, .ref o22, .ref o24, .ref o26, .ref o28, .ref o30, .int v32, .ref o33, .ref o35, .ref o37, .int v39, .ref o40, .ref o42, .ref o44, .int v46, .ref o47])), (o6, .inl (cI, 12, .inl fw7)), (o33, .inl (cI, 12, .inl fw34))]) sz)) 0 0 (va_A ([(o1, .inr (12, [.int v2, .ref o3, .int v5, .ref o6, .int v8, .ref o9, .ref o11, .int v13, .ref o14, .int v16, .ref o17, .int v19, .int v20, .int v21, .ref o22, .ref o24, .ref o26, .ref o28, .ref o30, .int v32, .ref o33, .ref o35, .ref o37, .int v39, .ref o40, .ref o42, .ref o44, .int v46, .ref o47])), (o6, .inl (cI, 12, .inl fw7)), (o33, .inl (cI, 12, .inl fw34))]) sz) := by
  refine Met.ofW (cc := cX12_isColoured) (maxL := 6) (ret := (some .boolean)) (by decide) rfl ?_
  intro p e s m args below meth c s₁ B hml hv
  obtain ⟨rfl, hsz, hP, hK, hD0, hN⟩ := hv
  have hx := B.exec
  have hb := B.bytes
  have hr := B.returns
  have hts := atoms_spec (ws := wsX12_isColoured) B.pre
  have hown : s.vm.findClass RX12 = some m.cls := findClass_of_methodNamed B.named
  have hlocks := B.notSynchronized
  subst hsz
  have hD := hD0.self (sz := s.heap.size)
  generalize hAe : va_A ([(o1, .inr (12, [.int v2, .ref o3, .int v5, .ref o6, .int v8, .ref o9, .ref o11, .int v13, .ref o14, .int v16, .ref o17, .int v19, .int v20, .int v21, .ref o22, .ref o24, .ref o26, .ref o28, .ref o30, .int v32, .ref o33, .ref o35, .ref o37, .int v39, .ref o40, .ref o42, .ref o44, .int v46, .ref o47])), (o6, .inl (cI, 12, .inl fw7)), (o33, .inl (cI, 12, .inl fw34))]) s.heap.size = A at hD ⊢
  have hA : ∀ q : Nat, s.heap.size ≤ q → A q := fun q h => by rw [← hAe]; exact Or.inr h
  have hS : va_S A s.heap s.heap [] := va_S.rf
  have hP : va_P (dC, dI) vwCl ([(o1, .inr (12, [.int v2, .ref o3, .int v5, .ref o6, .int v8, .ref o9, .ref o11, .int v13, .ref o14, .int v16, .ref o17, .int v19, .int v20, .int v21, .ref o22, .ref o24, .ref o26, .ref o28, .ref o30, .int v32, .ref o33, .ref o35, .ref o37, .int v39, .ref o40, .ref o42, .ref o44, .int v46, .ref o47])), (o6, .inl (cI, 12, .inl fw7)), (o33, .inl (cI, 12, .inl fw34))]) s.heap := hP
  have hl := lv_entry ([.ref o1, .int 3, .int a2]) (n := 6) (Nat.le_of_ble_eq_true rfl)
  rw [lg_entry_eq]
  generalize (lg_sl ([.ref o1, .int 3, .int a2]) ++ List.replicate (6 - (lg_sl ([.ref o1, .int 3, .int a2])).length) Slot.unset).toArray = ls at hl ⊢
  have hl : lv_has ls 6 [(0, .ref o1), (1, .int 3), (2, .int a2)] := hl
  refine gen_Q (fun Q hQ => ?_)
  refine lv_iload_n hx hb dX12_isColoured_0 rfl (lv_at hl 1 rfl) ?_
  refine lv_aload_n hx hb dX12_isColoured_1 rfl (lv_at hl 0 rfl) ?_
  refine va_get (D := (dC, dI)) (ci := 12) (v := .int v5) (C := RX12) (T := TX12) (N := 29) hx hb hts iw_X12_isColoured_X12 hown hK hP 0 rfl rfl 2 (by decide) (hts (.fieldLink RX12 73 "HolelessHouseModel" "n" "I") hm_X12_isColoured_1) (fun _ h9 => h9) rfl dX12_isColoured_2 ?_
  refine lv_icmp_ne (tgt := 10) hx hb dX12_isColoured_5 (by decide) (fun h1 => ?_) (fun h1 => ?_)
  ·
    have j2 : Iv 4 12 v5 := r_nelo (fun q => h1 q.symm) v5_h ik_3 (by decide)
    refine lv_iconst (v := 0) hx hb dX12_isColoured_10 (by decide) ?_
    refine lv_istore_n (lv' := [(3, .int 0), (0, .ref o1), (1, .int 3), (2, .int a2)]) hx hb dX12_isColoured_11 rfl hl (by decide) rfl (fun ls hl => ?_)
    have L9 : ∀ (N : Nat) (x652 : Int32) (f653 : Nat → Int32) (H : Heap) (locs : List Loc) (ls : Array Slot), (12 - x652.toInt).toNat < N → Iv 0 12 x652 → Bd 12 0 11 f653 → (∀ i8, i8 < 3 → f653 i8 = fw34 i8) → (Int32.toInt v5 ≤ Int32.toInt a2 → CW fw34 3 (Int32.toNatClampNeg x652)) → va_P (dC, dI) vwCl ([(o1, .inr (12, [.int v2, .ref o3, .int v5, .ref o6, .int v8, .ref o9, .ref o11, .int v13, .ref o14, .int v16, .ref o17, .int v19, .int v20, .int v21, .ref o22, .ref o24, .ref o26, .ref o28, .ref o30, .int v32, .ref o33, .ref o35, .ref o37, .int v39, .ref o40, .ref o42, .ref o44, .int v46, .ref o47])), (o6, .inl (cI, 12, .inl fw7)), (o33, .inl (cI, 12, .inl f653))]) H → va_D A ([(o1, .inr (12, [.int v2, .ref o3, .int v5, .ref o6, .int v8, .ref o9, .ref o11, .int v13, .ref o14, .int v16, .ref o17, .int v19, .int v20, .int v21, .ref o22, .ref o24, .ref o26, .ref o28, .ref o30, .int v32, .ref o33, .ref o35, .ref o37, .int v39, .ref o40, .ref o42, .ref o44, .int v46, .ref o47])), (o6, .inl (cI, 12, .inl fw7)), (o33, .inl (cI, 12, .inl f653))]) → va_S A s.heap H locs → lv_has ls 6 [(3, .int x652), (0, .ref o1), (1, .int 3), (2, .int a2)] → W p l e ({ frames := 9, cells := 0, slots := 0, locals := 225 }) s m ([.ref o1, .int 3, .int a2] : List Value).toArray below meth c H locs 0 0 Q (F0 m 12 ls []) := by
      intro N
      induction N with
      | zero =>
        intro x652 f653 H locs ls hM
        exact absurd hM (Nat.not_lt_zero _)
      | succ N ih9 =>
        intro x652 f653 H locs ls hM9 x652_h f653_b iv9_0 iv9_1 hP hD hS hl
        refine lv_iload_n hx hb dX12_isColoured_12 rfl (lv_at hl 0 rfl) ?_
        refine lv_iload_n hx hb dX12_isColoured_13 rfl (lv_at hl 3 rfl) ?_
        refine lv_icmp_ge (tgt := 103) hx hb dX12_isColoured_14 (by decide) (fun h654 => ?_) (fun h654 => ?_)
        ·
          have qh654 := le_i h654
          refine lv_iconst (v := 0) hx hb dX12_isColoured_103 (by decide) ?_
          rw [hQ]
          exact W.zret (v := 0) (ty := .boolean) hx hb hr rfl (fun t ht hW => ⟨⟨0, f653, rfl, ⟨(iv_w ik_0 (by decide)), f653_b, iv9_0, (fun h8 => (co_no (iv9_1 h8) qh654 a2_h h8 (show (3 : Int) + 1 ≤ _ from (show _ ≤ _ ∧ _ ≤ _ from j2).1)).elim)⟩, by rw [ht]; exact hP, va_K.moved hW.alike hK, hD⟩, hS.F ht⟩) hS.2.2 dX12_isColoured_104
        ·
          have qh654 := nle_i h654
          have j655 : Iv 0 11 x652 := r_ltl qh654 x652_h a2_h (by decide)
          have j656 : Iv 1 12 a2 := r_ltr qh654 x652_h a2_h (by decide)
          refine lv_iconst (v := 1) hx hb dX12_isColoured_17 (by decide) ?_
          refine lv_istore (lv' := [(4, .int 1), (3, .int x652), (0, .ref o1), (1, .int 3), (2, .int a2)]) hx hb dX12_isColoured_18 hl (by decide) rfl (fun ls hl => ?_)
          refine lv_iconst (v := 0) hx hb dX12_isColoured_20 (by decide) ?_
          refine lv_istore (lv' := [(5, .int 0), (4, .int 1), (3, .int x652), (0, .ref o1), (1, .int 3), (2, .int a2)]) hx hb dX12_isColoured_21 hl (by decide) rfl (fun ls hl => ?_)
          have L10 : ∀ (N : Nat) (x696 : Int32) (x697 : Int32) (H : Heap) (locs : List Loc) (ls : Array Slot), (3 - x696.toInt).toNat < N → Iv 0 3 x696 → Iv 0 1 x697 → (x697 = 0 → ∃ q, q < (Int32.toNatClampNeg x696) ∧ f653 q = x652) → va_P (dC, dI) vwCl ([(o1, .inr (12, [.int v2, .ref o3, .int v5, .ref o6, .int v8, .ref o9, .ref o11, .int v13, .ref o14, .int v16, .ref o17, .int v19, .int v20, .int v21, .ref o22, .ref o24, .ref o26, .ref o28, .ref o30, .int v32, .ref o33, .ref o35, .ref o37, .int v39, .ref o40, .ref o42, .ref o44, .int v46, .ref o47])), (o6, .inl (cI, 12, .inl fw7)), (o33, .inl (cI, 12, .inl f653))]) H → va_D A ([(o1, .inr (12, [.int v2, .ref o3, .int v5, .ref o6, .int v8, .ref o9, .ref o11, .int v13, .ref o14, .int v16, .ref o17, .int v19, .int v20, .int v21, .ref o22, .ref o24, .ref o26, .ref o28, .ref o30, .int v32, .ref o33, .ref o35, .ref o37, .int v39, .ref o40, .ref o42, .ref o44, .int v46, .ref o47])), (o6, .inl (cI, 12, .inl fw7)), (o33, .inl (cI, 12, .inl f653))]) → va_S A s.heap H locs → lv_has ls 6 [(5, .int x696), (4, .int x697), (3, .int x652), (0, .ref o1), (1, .int 3), (2, .int a2)] → W p l e ({ frames := 9, cells := 0, slots := 0, locals := 225 }) s m ([.ref o1, .int 3, .int a2] : List Value).toArray below meth c H locs 0 0 Q (F0 m 23 ls []) := by
            intro N
            induction N with
            | zero =>
              intro x696 x697 H locs ls hM
              exact absurd hM (Nat.not_lt_zero _)
            | succ N ih10 =>
              intro x696 x697 H locs ls hM10 x696_h x697_h iv10_0 hP hD hS hl
              refine lv_iload hx hb dX12_isColoured_23 (lv_at hl 0 rfl) ?_
              refine lv_iload_n hx hb dX12_isColoured_25 rfl (lv_at hl 4 rfl) ?_
              refine lv_icmp_ge (tgt := 72) hx hb dX12_isColoured_26 (by decide) (fun h698 => ?_) (fun h698 => ?_)
              ·
                have qh698 := le_i h698
                have j699 : Iv 3 3 x696 := r_ler qh698 ik_3 x696_h (by decide)
                refine lv_aload_n hx hb dX12_isColoured_72 rfl (lv_at hl 3 rfl) ?_
                refine va_get (D := (dC, dI)) (ci := 12) (v := .ref o33) (C := RX12) (T := TX12) (N := 29) hx hb hts iw_X12_isColoured_X12 hown hK hP 0 rfl rfl 20 (by decide) (hts (.fieldLink RX12 48 "HolelessHouseModel" "colours" "[I") hm_X12_isColoured_3) (fun _ h9 => h9) rfl dX12_isColoured_73 ?_
                refine lv_iload_n hx hb dX12_isColoured_76 rfl (lv_at hl 4 rfl) ?_
                refine lv_iload_n hx hb dX12_isColoured_77 rfl (lv_at hl 2 rfl) ?_
                refine k_iast hx hb hK hP hD hS 2 0 rfl rfl (vin_iv ik_3 (by decide)) dX12_isColoured_78 (fun f700 H locs f700_e hP hD hS => ?_)
                have f700_b : Bd 12 0 11 f700 := bd_upd f700_e f653_b j655 (by decide)
                have hP : va_P (dC, dI) vwCl ([(o1, .inr (12, [.int v2, .ref o3, .int v5, .ref o6, .int v8, .ref o9, .ref o11, .int v13, .ref o14, .int v16, .ref o17, .int v19, .int v20, .int v21, .ref o22, .ref o24, .ref o26, .ref o28, .ref o30, .int v32, .ref o33, .ref o35, .ref o37, .int v39, .ref o40, .ref o42, .ref o44, .int v46, .ref o47])), (o6, .inl (cI, 12, .inl fw7)), (o33, .inl (cI, 12, .inl f700))]) H := hP
                have hD : va_D A ([(o1, .inr (12, [.int v2, .ref o3, .int v5, .ref o6, .int v8, .ref o9, .ref o11, .int v13, .ref o14, .int v16, .ref o17, .int v19, .int v20, .int v21, .ref o22, .ref o24, .ref o26, .ref o28, .ref o30, .int v32, .ref o33, .ref o35, .ref o37, .int v39, .ref o40, .ref o42, .ref o44, .int v46, .ref o47])), (o6, .inl (cI, 12, .inl fw7)), (o33, .inl (cI, 12, .inl f700))]) := hD
                refine lv_iload hx hb dX12_isColoured_79 (lv_at hl 1 rfl) ?_
                refine lv_if_eq (tgt := 97) hx hb dX12_isColoured_81 (by decide) (fun h701 => ?_) (fun h701 => ?_)
                ·
                  have j702 : Iv 0 0 x697 := r_eq h701 ik_0
                  obtain ⟨x703, x703_e⟩ : ∃ z : Int32, z = x652 + 1 := ⟨_, rfl⟩
                  have x703_h : Iv 1 12 x703 := iv_e x703_e (iv_add j655 ik_1 (by decide))
                  refine lv_iinc (v := x703) (lv' := [(3, .int x703), (5, .int x696), (4, .int x697), (0, .ref o1), (1, .int 3), (2, .int a2)]) hx hb dX12_isColoured_97 hl (k := 2) rfl (incN (by decide +kernel) x703_e) (by decide) rfl (fun ls hl => ?_)
                  refine lv_goto (tgt := 12) hx hb dX12_isColoured_100 (by decide) ?_
                  exact ih9 x703 f700 _ _ _ (ms_up x703_e j655 (by decide) hM9) (iv_w x703_h (by decide)) f700_b (co_k f700_e (by decide +kernel) iv9_0) (fun h8 => CW_s (iv9_1 h8) (iv_w (c := 0) (d := 4095) j655 (by decide)) x703_e (co_w3 (iv10_0 h701) (Nat.le_of_eq (by rw [d_eq j699 ik_3]; decide +kernel)) iv9_0)) hP hD hS (lv_sub hl [0, 3, 4, 5] rfl)
                ·
                  have j704 : Iv 1 1 x697 := r_nelo h701 x697_h ik_0 (by decide)
                  refine lv_aload_n hx hb dX12_isColoured_84 rfl (lv_at hl 3 rfl) ?_
                  refine lv_iload_n hx hb dX12_isColoured_85 rfl (lv_at hl 4 rfl) ?_
                  refine lv_iconst (v := 1) hx hb dX12_isColoured_86 (by decide) ?_
                  refine lv_iadd hx hb dX12_isColoured_87 (tk_i (v := 4) (by decide +kernel) ?_)
                  refine lv_iload_n hx hb dX12_isColoured_88 rfl (lv_at hl 5 rfl) ?_
                  refine kc_i (D := (dC, dI)) (S := (Nat → Int32)) (wc := [(o1, .inr (12, [.int v2, .ref o3, .int v5, .ref o6, .int v8, .ref o9, .ref o11, .int v13, .ref o14, .int v16, .ref o17, .int v19, .int v20, .int v21, .ref o22, .ref o24, .ref o26, .ref o28, .ref o30, .int v32, .ref o33, .ref o35, .ref o37, .int v39, .ref o40, .ref o42, .ref o44, .int v46, .ref o47])), (o6, .inl (cI, 12, .inl fw7)), (o33, .inl (cI, 12, .inl f700))]) (wr := []) (w1 := fun u => [(o1, .inr (12, [.int v2, .ref o3, .int v5, .ref o6, .int v8, .ref o9, .ref o11, .int v13, .ref o14, .int v16, .ref o17, .int v19, .int v20, .int v21, .ref o22, .ref o24, .ref o26, .ref o28, .ref o30, .int v32, .ref o33, .ref o35, .ref o37, .int v39, .ref o40, .ref o42, .ref o44, .int v46, .ref o47])), (o6, .inl (cI, 12, .inl fw7)), (o33, .inl (cI, 12, .inl u))]) (wn := fun u => [(o1, .inr (12, [.int v2, .ref o3, .int v5, .ref o6, .int v8, .ref o9, .ref o11, .int v13, .ref o14, .int v16, .ref o17, .int v19, .int v20, .int v21, .ref o22, .ref o24, .ref o26, .ref o28, .ref o30, .int v32, .ref o33, .ref o35, .ref o37, .int v39, .ref o40, .ref o42, .ref o44, .int v46, .ref o47])), (o6, .inl (cI, 12, .inl fw7)), (o33, .inl (cI, 12, .inl u))]) (fun hPc hDc => va_runV (As := [.int 4, .int a2]) (rest := []) ⟨hx, hb, hml, hown, hts⟩ (kX12_isColoured_9 l dC dI cI c2 cZ o1 o3 o6 o9 o11 o14 o17 o22 o24 o26 o28 o30 o33 o35 o37 o40 o42 o44 o47 v2 v5 fw7 v8 v13 v16 v19 v20 v21 v32 f700 v39 v46 a2 H.size j2 fw7_b v8_h v13_h v16_h v19_h v32_h f700_b v39_h v46_h (iv_w j656 (by decide))) (cwV 2 hts gX12_isColoured_X12_isColoured rfl rfl rfl (by decide +kernel) ⟨Nat.le_of_ble_eq_true rfl, Nat.le_of_ble_eq_true rfl⟩) (pre_V hPc hK hDc hN (ci := 12) (q0 := 0) rfl rfl) rfl rfl hl.1 rfl (lv_room (Nat.le_of_ble_eq_true rfl)) dX12_isColoured_89 ⟨Nat.le_of_ble_eq_true rfl, Nat.le_of_ble_eq_true rfl⟩) hP hD hS hA [0, 1, 2] [] [0, 1, 2] rfl rfl (by decide +kernel) (by decide +kernel) (by decide +kernel) (by decide +kernel) (fun _ => rfl) (fun x706 f705 H locs hq hP hD hS => ?_)
                  obtain ⟨x706_h, f705_b, e707, e708⟩ := hq
                  have hP : va_P (dC, dI) vwCl ([(o1, .inr (12, [.int v2, .ref o3, .int v5, .ref o6, .int v8, .ref o9, .ref o11, .int v13, .ref o14, .int v16, .ref o17, .int v19, .int v20, .int v21, .ref o22, .ref o24, .ref o26, .ref o28, .ref o30, .int v32, .ref o33, .ref o35, .ref o37, .int v39, .ref o40, .ref o42, .ref o44, .int v46, .ref o47])), (o6, .inl (cI, 12, .inl fw7)), (o33, .inl (cI, 12, .inl f705))]) H := hP
                  have hD : va_D A ([(o1, .inr (12, [.int v2, .ref o3, .int v5, .ref o6, .int v8, .ref o9, .ref o11, .int v13, .ref o14, .int v16, .ref o17, .int v19, .int v20, .int v21, .ref o22, .ref o24, .ref o26, .ref o28, .ref o30, .int v32, .ref o33, .ref o35, .ref o37, .int v39, .ref o40, .ref o42, .ref o44, .int v46, .ref o47])), (o6, .inl (cI, 12, .inl fw7)), (o33, .inl (cI, 12, .inl f705))]) := hD
                  refine lv_if_eq (tgt := 97) hx hb dX12_isColoured_92 (by decide) (fun h709 => ?_) (fun h709 => ?_)
                  ·
                    have j710 : Iv 0 0 x706 := r_eq h709 ik_0
                    obtain ⟨x711, x711_e⟩ : ∃ z : Int32, z = x652 + 1 := ⟨_, rfl⟩
                    have x711_h : Iv 1 12 x711 := iv_e x711_e (iv_add j655 ik_1 (by decide))
                    refine lv_iinc (v := x711) (lv' := [(3, .int x711), (5, .int x696), (4, .int x697), (0, .ref o1), (1, .int 3), (2, .int a2)]) hx hb dX12_isColoured_97 hl (k := 2) rfl (incN (by decide +kernel) x711_e) (by decide) rfl (fun ls hl => ?_)
                    refine lv_goto (tgt := 12) hx hb dX12_isColoured_100 (by decide) ?_
                    exact ih9 x711 f705 _ _ _ (ms_up x711_e j655 (by decide) hM9) (iv_w x711_h (by decide)) f705_b (co_t e707 (by decide) (co_k f700_e (by decide +kernel) iv9_0)) (fun h8 => absurd h709 (e708 h8)) hP hD hS (lv_sub hl [0, 3, 4, 5] rfl)
                  ·
                    have j712 : Iv 1 1 x706 := r_nelo h709 x706_h ik_0 (by decide)
                    refine lv_iconst (v := 1) hx hb dX12_isColoured_95 (by decide) ?_
                    rw [hQ]
                    exact W.zret (v := 1) (ty := .boolean) hx hb hr rfl (fun t ht hW => ⟨⟨1, f705, rfl, ⟨(iv_w ik_1 (by decide)), f705_b, (co_t e707 (by decide) (co_k f700_e (by decide +kernel) iv9_0)), (fun _ h8 => absurd h8 (by decide +kernel))⟩, by rw [ht]; exact hP, va_K.moved hW.alike hK, hD⟩, hS.F ht⟩) hS.2.2 dX12_isColoured_96
              ·
                have qh698 := nle_i h698
                have j713 : Iv 0 2 x696 := r_ltl qh698 x696_h ik_3 (by decide)
                refine lv_iload hx hb dX12_isColoured_29 (lv_at hl 1 rfl) ?_
                refine lv_if_eq (tgt := 63) hx hb dX12_isColoured_31 (by decide) (fun h714 => ?_) (fun h714 => ?_)
                ·
                  have j715 : Iv 0 0 x697 := r_eq h714 ik_0
                  refine lv_iconst (v := 0) hx hb dX12_isColoured_63 (by decide) ?_
                  refine lv_istore (lv' := [(4, .int 0), (5, .int x696), (3, .int x652), (0, .ref o1), (1, .int 3), (2, .int a2)]) hx hb dX12_isColoured_64 hl (by decide) rfl (fun ls hl => ?_)
                  obtain ⟨x716, x716_e⟩ : ∃ z : Int32, z = x696 + 1 := ⟨_, rfl⟩
                  have x716_h : Iv 1 3 x716 := iv_e x716_e (iv_add j713 ik_1 (by decide))
                  refine lv_iinc (v := x716) (lv' := [(5, .int x716), (4, .int 0), (3, .int x652), (0, .ref o1), (1, .int 3), (2, .int a2)]) hx hb dX12_isColoured_66 hl (k := 1) rfl (incN (by decide +kernel) x716_e) (by decide) rfl (fun ls hl => ?_)
                  refine lv_goto (tgt := 23) hx hb dX12_isColoured_69 (by decide) ?_
                  exact ih10 x716 0 _ _ _ (ms_up x716_e j713 (by decide) hM10) (iv_w x716_h (by decide)) (iv_w ik_0 (by decide)) (fun _ => co_w1 (iv10_0 h714) (iv_w (c := 0) (d := 4095) j713 (by decide)) x716_e) hP hD hS hl
                ·
                  have j717 : Iv 1 1 x697 := r_nelo h714 x697_h ik_0 (by decide)
                  refine lv_aload_n hx hb dX12_isColoured_34 rfl (lv_at hl 3 rfl) ?_
                  refine va_get (D := (dC, dI)) (ci := 12) (v := .ref o6) (C := RX12) (T := TX12) (N := 29) hx hb hts iw_X12_isColoured_X12 hown hK hP 0 rfl rfl 3 (by decide) (hts (.fieldLink RX12 13 "HolelessHouseModel" "near" "[I") hm_X12_isColoured_2) (fun _ h9 => h9) rfl dX12_isColoured_35 ?_
                  refine lv_iload_n hx hb dX12_isColoured_38 rfl (lv_at hl 4 rfl) ?_
                  refine va_iald hx hb hK hP 1 0 rfl rfl (vin_iv ik_3 (by decide)) dX12_isColoured_39 (lv_topi (fun x718 x718_e => ?_))
                  have x718_h : Iv 0 4095 x718 := iv_e x718_e (bd_at fw7_b (vin_iv ik_3 (by decide)))
                  refine lv_iload hx hb dX12_isColoured_40 (lv_at hl 0 rfl) ?_
                  refine kc_i (D := (dC, dI)) (S := Unit) (wc := []) (wr := [(o1, .inr (12, [.int v2, .ref o3, .int v5, .ref o6, .int v8, .ref o9, .ref o11, .int v13, .ref o14, .int v16, .ref o17, .int v19, .int v20, .int v21, .ref o22, .ref o24, .ref o26, .ref o28, .ref o30, .int v32, .ref o33, .ref o35, .ref o37, .int v39, .ref o40, .ref o42, .ref o44, .int v46, .ref o47])), (o6, .inl (cI, 12, .inl fw7)), (o33, .inl (cI, 12, .inl f653))]) (w1 := fun _ => []) (wn := fun _ => [(o1, .inr (12, [.int v2, .ref o3, .int v5, .ref o6, .int v8, .ref o9, .ref o11, .int v13, .ref o14, .int v16, .ref o17, .int v19, .int v20, .int v21, .ref o22, .ref o24, .ref o26, .ref o28, .ref o30, .int v32, .ref o33, .ref o35, .ref o37, .int v39, .ref o40, .ref o42, .ref o44, .int v46, .ref o47])), (o6, .inl (cI, 12, .inl fw7)), (o33, .inl (cI, 12, .inl f653))]) (fun hPc hDc => va_runS (As := [.int x718, .int x696]) (rest := []) ⟨hx, hb, hml, hown, hts⟩ (kX12_has_1 l dC dI cI c2 cZ x718 x696 H.size (iv_w j713 (by decide))) (va_cwS 2 hts gX12_isColoured_X12_has rfl rfl rfl (by decide +kernel) ⟨Nat.le_of_ble_eq_true rfl, Nat.le_of_ble_eq_true rfl⟩) (pre_S hPc hK hDc hN) rfl rfl hl.1 rfl (lv_room (Nat.le_of_ble_eq_true rfl)) dX12_isColoured_42 ⟨Nat.le_of_ble_eq_true rfl, Nat.le_of_ble_eq_true rfl⟩) hP hD hS hA [] [0, 1, 2] [0, 1, 2] rfl rfl (by decide +kernel) (by decide +kernel) (by decide +kernel) (by decide +kernel) (fun _ => rfl) (fun x719 _ H locs hq hP hD hS => ?_)
                  obtain ⟨x719_h, e720⟩ := hq
                  have hP : va_P (dC, dI) vwCl ([(o1, .inr (12, [.int v2, .ref o3, .int v5, .ref o6, .int v8, .ref o9, .ref o11, .int v13, .ref o14, .int v16, .ref o17, .int v19, .int v20, .int v21, .ref o22, .ref o24, .ref o26, .ref o28, .ref o30, .int v32, .ref o33, .ref o35, .ref o37, .int v39, .ref o40, .ref o42, .ref o44, .int v46, .ref o47])), (o6, .inl (cI, 12, .inl fw7)), (o33, .inl (cI, 12, .inl f653))]) H := hP
                  have hD : va_D A ([(o1, .inr (12, [.int v2, .ref o3, .int v5, .ref o6, .int v8, .ref o9, .ref o11, .int v13, .ref o14, .int v16, .ref o17, .int v19, .int v20, .int v21, .ref o22, .ref o24, .ref o26, .ref o28, .ref o30, .int v32, .ref o33, .ref o35, .ref o37, .int v39, .ref o40, .ref o42, .ref o44, .int v46, .ref o47])), (o6, .inl (cI, 12, .inl fw7)), (o33, .inl (cI, 12, .inl f653))]) := hD
                  refine lv_if_eq (tgt := 59) hx hb dX12_isColoured_45 (by decide) (fun h721 => ?_) (fun h721 => ?_)
                  ·
                    have j722 : Iv 0 0 x719 := r_eq h721 ik_0
                    have b723 : bt x718 (Int32.toNatClampNeg x696) = false := has_f e720 h721
                    refine lv_iconst (v := 1) hx hb dX12_isColoured_59 (by decide) ?_
                    refine lv_goto (tgt := 64) hx hb dX12_isColoured_60 (by decide) ?_
                    refine lv_istore (lv' := [(4, .int 1), (5, .int x696), (3, .int x652), (0, .ref o1), (1, .int 3), (2, .int a2)]) hx hb dX12_isColoured_64 hl (by decide) rfl (fun ls hl => ?_)
                    obtain ⟨x724, x724_e⟩ : ∃ z : Int32, z = x696 + 1 := ⟨_, rfl⟩
                    have x724_h : Iv 1 3 x724 := iv_e x724_e (iv_add j713 ik_1 (by decide))
                    refine lv_iinc (v := x724) (lv' := [(5, .int x724), (4, .int 1), (3, .int x652), (0, .ref o1), (1, .int 3), (2, .int a2)]) hx hb dX12_isColoured_66 hl (k := 1) rfl (incN (by decide +kernel) x724_e) (by decide) rfl (fun ls hl => ?_)
                    refine lv_goto (tgt := 23) hx hb dX12_isColoured_69 (by decide) ?_
                    exact ih10 x724 1 _ _ _ (ms_up x724_e j713 (by decide) hM10) (iv_w x724_h (by decide)) (iv_w ik_1 (by decide)) (fun h8 => absurd h8 (by decide +kernel)) hP hD hS hl
                  ·
                    have j725 : Iv 1 1 x719 := r_nelo h721 x719_h ik_0 (by decide)
                    have b726 : bt x718 (Int32.toNatClampNeg x696) = true := has_t e720 h721
                    refine lv_aload_n hx hb dX12_isColoured_48 rfl (lv_at hl 3 rfl) ?_
                    refine va_get (D := (dC, dI)) (ci := 12) (v := .ref o33) (C := RX12) (T := TX12) (N := 29) hx hb hts iw_X12_isColoured_X12 hown hK hP 0 rfl rfl 20 (by decide) (hts (.fieldLink RX12 48 "HolelessHouseModel" "colours" "[I") hm_X12_isColoured_3) (fun _ h9 => h9) rfl dX12_isColoured_49 ?_
                    refine lv_iload hx hb dX12_isColoured_52 (lv_at hl 0 rfl) ?_
                    refine va_iald hx hb hK hP 2 0 rfl rfl (vin_iv j713 (by decide)) dX12_isColoured_54 (lv_topi (fun x727 x727_e => ?_))
                    have x727_h : Iv 0 11 x727 := iv_e x727_e (bd_at f653_b (vin_iv j713 (by decide)))
                    refine lv_iload_n hx hb dX12_isColoured_55 rfl (lv_at hl 2 rfl) ?_
                    refine lv_icmp_eq (tgt := 63) hx hb dX12_isColoured_56 (by decide) (fun h728 => ?_) (fun h728 => ?_)
                    ·
                      refine lv_iconst (v := 0) hx hb dX12_isColoured_63 (by decide) ?_
                      refine lv_istore (lv' := [(4, .int 0), (5, .int x696), (3, .int x652), (0, .ref o1), (1, .int 3), (2, .int a2)]) hx hb dX12_isColoured_64 hl (by decide) rfl (fun ls hl => ?_)
                      obtain ⟨x729, x729_e⟩ : ∃ z : Int32, z = x696 + 1 := ⟨_, rfl⟩
                      have x729_h : Iv 1 3 x729 := iv_e x729_e (iv_add j713 ik_1 (by decide))
                      refine lv_iinc (v := x729) (lv' := [(5, .int x729), (4, .int 0), (3, .int x652), (0, .ref o1), (1, .int 3), (2, .int a2)]) hx hb dX12_isColoured_66 hl (k := 1) rfl (incN (by decide +kernel) x729_e) (by decide) rfl (fun ls hl => ?_)
                      refine lv_goto (tgt := 23) hx hb dX12_isColoured_69 (by decide) ?_
                      exact ih10 x729 0 _ _ _ (ms_up x729_e j713 (by decide) hM10) (iv_w x729_h (by decide)) (iv_w ik_0 (by decide)) (fun _ => co_w2 x727_e h728 (iv_w (c := 0) (d := 4095) j713 (by decide)) x729_e) hP hD hS hl
                    ·
                      refine lv_iconst (v := 1) hx hb dX12_isColoured_59 (by decide) ?_
                      refine lv_goto (tgt := 64) hx hb dX12_isColoured_60 (by decide) ?_
                      refine lv_istore (lv' := [(4, .int 1), (5, .int x696), (3, .int x652), (0, .ref o1), (1, .int 3), (2, .int a2)]) hx hb dX12_isColoured_64 hl (by decide) rfl (fun ls hl => ?_)
                      obtain ⟨x730, x730_e⟩ : ∃ z : Int32, z = x696 + 1 := ⟨_, rfl⟩
                      have x730_h : Iv 1 3 x730 := iv_e x730_e (iv_add j713 ik_1 (by decide))
                      refine lv_iinc (v := x730) (lv' := [(5, .int x730), (4, .int 1), (3, .int x652), (0, .ref o1), (1, .int 3), (2, .int a2)]) hx hb dX12_isColoured_66 hl (k := 1) rfl (incN (by decide +kernel) x730_e) (by decide) rfl (fun ls hl => ?_)
                      refine lv_goto (tgt := 23) hx hb dX12_isColoured_69 (by decide) ?_
                      exact ih10 x730 1 _ _ _ (ms_up x730_e j713 (by decide) hM10) (iv_w x730_h (by decide)) (iv_w ik_1 (by decide)) (fun h8 => absurd h8 (by decide +kernel)) hP hD hS hl
          exact L10 _ 0 1 _ _ _ (Nat.lt_succ_self _) (iv_w ik_0 (by decide)) (iv_w ik_1 (by decide)) co_w0 hP hD hS hl
    exact L9 _ 0 fw34 _ _ _ (Nat.lt_succ_self _) (iv_w ik_0 (by decide)) fw34_b (fun _ _ => rfl) (fun _ => CW_0) hP hD hS hl
  ·
    have j731 : Iv 3 3 v5 := r_eq h1.symm ik_3
    refine lv_iconst (v := 1) hx hb dX12_isColoured_8 (by decide) ?_
    rw [hQ]
    exact W.zret (v := 1) (ty := .boolean) hx hb hr rfl (fun t ht hW => ⟨⟨1, fw34, rfl, ⟨(iv_w ik_1 (by decide)), fw34_b, (fun _ _ => rfl), (fun _ h8 => absurd h8 (by decide +kernel))⟩, by rw [ht]; exact hP, va_K.moved hW.alike hK, hD⟩, hS.F ht⟩) hS.2.2 dX12_isColoured_9
set_option maxHeartbeats 4000000 in
set_option maxRecDepth 100000 in
theorem kX12_isColoured_11 (l : Launch) (dC : Nat → ClassId) (dI : Nat → Nat → Nat) (cI c2 cZ : ClassId) (o1 : Nat) (o3 : Nat) (o6 : Nat) (o9 : Nat) (o11 : Nat) (o14 : Nat) (o17 : Nat) (o22 : Nat) (o24 : Nat) (o26 : Nat) (o28 : Nat) (o30 : Nat) (o33 : Nat) (o35 : Nat) (o37 : Nat) (o40 : Nat) (o42 : Nat) (o44 : Nat) (o47 : Nat) (v2 : Int32) (v5 : Int32) (fw7 : Nat → Int32) (v8 : Int32) (v13 : Int32) (v16 : Int32) (v19 : Int32) (v20 : Int32) (v21 : Int32) (v32 : Int32) (fw34 : Nat → Int32) (v39 : Int32) (v46 : Int32) (a2 : Int32) (sz : Nat) (v5_h : Iv 2 12 v5) (fw7_b : Bd 12 0 4095 fw7) (v8_h : Iv 0 8 v8) (v13_h : Iv 0 12 v13) (v16_h : Iv 0 12 v16) (v19_h : Iv (-9) 12 v19) (v32_h : Iv 0 99 v32) (fw34_b : Bd 12 0 11 fw34) (v39_h : Iv 0 12 v39) (v46_h : Iv 0 12 v46) (a2_h : Iv 0 12 a2) : Met l yX12_isColoured wsX12_isColoured ({ frames := 10, cells := 0, slots := 0, locals := 250 }) (va_Pc [.ref o1, .int 2, .int a2] (wPre (dC, dI) [(cI, .int), (c2, .array .int), (cZ, .boolean)] ([(o1, .inr (12, [.int v2, .ref o3, .int v5, .ref o6, .int v8, .ref o9, .ref o11, .int v13, .ref o14, .int v16, .ref o17, .int v19, .int v20, .int v21, .ref o22, .ref o24, .ref o26, .ref o28, .ref o30, .int v32, .ref o33, .ref o35, .ref o37, .int v39, .ref o40, .ref o42, .ref o44, .int v46, .ref o47])), (o6, .inl (cI, 12, .inl fw7)), (o33, .inl (cI, 12, .inl fw34))]) sz)) (va_Qi (fun (r : Int32) (u : (Nat → Int32)) => Iv 0 1 r ∧ Bd 12 0 11 u ∧ (∀ i8, i8 < 2 → u i8 = fw34 i8) ∧ (Int32.toInt v5 ≤ Int32.toInt a2 → ¬ r = 0)) (fun u t => wPost (dC, dI) [(cI, .int), (c2, .array .int), (cZ, .boolean)] (va_A ([(o1, .inr (12, [.int v2, .ref o3, .int v5, .ref o6, .int v8, .ref o9, .ref o11, .int v13, .ref o14, .int v16, .ref o17, .int v19, .int v20, .int v21, .ref o22, .ref o24, .ref o26, .ref o28, .ref o30, .int v32, .ref o33, .ref o35, .ref o37, .int v39, .ref o40, .ref o42, .ref o44, .int v46, .ref o47])), (o6, .inl (cI, 12, .inl fw7)), (o33, .inl (cI, 12, .inl fw34))]) sz) ([(o1, .inr (12, [.int v2, .ref o3, .int v5, .ref o6, .int v8, .ref o9, .ref o11, .int v13, .ref o14, .int v16, .ref o17, .int v19, .int v20, .int v21, .ref o22, .ref o24, .ref o26, .ref o28, .ref o30, .int v32, .ref o33, .ref o35, .ref o37, .int v39, .ref o40, .ref o42, .ref o44, .int v46, .ref o47])), (o6, .inl (cI, 12, .inl fw7)), (o33, .inl (cI, 12, .inl u))]) t) (va_A ([(o1, .inr (12, [.int v2, .ref o3, .int v5, .ref o6, .int v8, .ref o9, .ref o11, .int v13, .ref o14, .int v16, .ref o17, .int v19, .int v20, .int v21, .ref o22, .ref o24, .ref o26, .ref o28, .ref o30, .int v32, .ref o33, .ref o35, .ref o37, .int v39, .ref o40, .ref o42, .ref o44, .int v46, .ref o47])), (o6, .inl (cI, 12, .inl fw7)), (o33, .inl (cI, 12, .inl fw34))]) sz)) 0 0 (va_A ([(o1, .inr (12, [.int v2, .ref o3, .int v5, .ref o6, .int v8, .ref o9, .ref o11, .int v13, .ref o14, .int v16, .ref o17, .int v19, .int v20, .int v21, .ref o22, .ref o24, .ref o26, .ref o28, .ref o30, .int v32, .ref o33, .ref o35, .ref o37, .int v39, .ref o40, .ref o42, .ref o44, .int v46, .ref o47])), (o6, .inl (cI, 12, .inl fw7)), (o33, .inl (cI, 12, .inl fw34))]) sz) := by
  refine Met.ofW (cc := cX12_isColoured) (maxL := 6) (ret := (some .boolean)) (by decide) rfl ?_
  intro p e s m args below meth c s₁ B hml hv
  obtain ⟨rfl, hsz, hP, hK, hD0, hN⟩ := hv
  have hx := B.exec
  have hb := B.bytes
  have hr := B.returns
  have hts := atoms_spec (ws := wsX12_isColoured) B.pre
  have hown : s.vm.findClass RX12 = some m.cls := findClass_of_methodNamed B.named
  have hlocks := B.notSynchronized
  subst hsz
  have hD := hD0.self (sz := s.heap.size)
  generalize hAe : va_A ([(o1, .inr (12, [.int v2, .ref o3, .int v5, .ref o6, .int v8, .ref o9, .ref o11, .int v13, .ref o14, .int v16, .ref o17, .int v19, .int v20, .int v21, .ref o22, .ref o24, .ref o26, .ref o28, .ref o30, .int v32, .ref o33, .ref o35, .ref o37, .int v39, .ref o40, .ref o42, .ref o44, .int v46, .ref o47])), (o6, .inl (cI, 12, .inl fw7)), (o33, .inl (cI, 12, .inl fw34))]) s.heap.size = A at hD ⊢
  have hA : ∀ q : Nat, s.heap.size ≤ q → A q := fun q h => by rw [← hAe]; exact Or.inr h
  have hS : va_S A s.heap s.heap [] := va_S.rf
  have hP : va_P (dC, dI) vwCl ([(o1, .inr (12, [.int v2, .ref o3, .int v5, .ref o6, .int v8, .ref o9, .ref o11, .int v13, .ref o14, .int v16, .ref o17, .int v19, .int v20, .int v21, .ref o22, .ref o24, .ref o26, .ref o28, .ref o30, .int v32, .ref o33, .ref o35, .ref o37, .int v39, .ref o40, .ref o42, .ref o44, .int v46, .ref o47])), (o6, .inl (cI, 12, .inl fw7)), (o33, .inl (cI, 12, .inl fw34))]) s.heap := hP
  have hl := lv_entry ([.ref o1, .int 2, .int a2]) (n := 6) (Nat.le_of_ble_eq_true rfl)
  rw [lg_entry_eq]
  generalize (lg_sl ([.ref o1, .int 2, .int a2]) ++ List.replicate (6 - (lg_sl ([.ref o1, .int 2, .int a2])).length) Slot.unset).toArray = ls at hl ⊢
  have hl : lv_has ls 6 [(0, .ref o1), (1, .int 2), (2, .int a2)] := hl
  refine gen_Q (fun Q hQ => ?_)
  refine lv_iload_n hx hb dX12_isColoured_0 rfl (lv_at hl 1 rfl) ?_
  refine lv_aload_n hx hb dX12_isColoured_1 rfl (lv_at hl 0 rfl) ?_
  refine va_get (D := (dC, dI)) (ci := 12) (v := .int v5) (C := RX12) (T := TX12) (N := 29) hx hb hts iw_X12_isColoured_X12 hown hK hP 0 rfl rfl 2 (by decide) (hts (.fieldLink RX12 73 "HolelessHouseModel" "n" "I") hm_X12_isColoured_1) (fun _ h9 => h9) rfl dX12_isColoured_2 ?_
  refine lv_icmp_ne (tgt := 10) hx hb dX12_isColoured_5 (by decide) (fun h1 => ?_) (fun h1 => ?_)
  ·
    have j2 : Iv 3 12 v5 := r_nelo (fun q => h1 q.symm) v5_h ik_2 (by decide)
    refine lv_iconst (v := 0) hx hb dX12_isColoured_10 (by decide) ?_
    refine lv_istore_n (lv' := [(3, .int 0), (0, .ref o1), (1, .int 2), (2, .int a2)]) hx hb dX12_isColoured_11 rfl hl (by decide) rfl (fun ls hl => ?_)
    have L9 : ∀ (N : Nat) (x652 : Int32) (f653 : Nat → Int32) (H : Heap) (locs : List Loc) (ls : Array Slot), (12 - x652.toInt).toNat < N → Iv 0 12 x652 → Bd 12 0 11 f653 → (∀ i8, i8 < 2 → f653 i8 = fw34 i8) → (Int32.toInt v5 ≤ Int32.toInt a2 → CW fw34 2 (Int32.toNatClampNeg x652)) → va_P (dC, dI) vwCl ([(o1, .inr (12, [.int v2, .ref o3, .int v5, .ref o6, .int v8, .ref o9, .ref o11, .int v13, .ref o14, .int v16, .ref o17, .int v19, .int v20, .int v21, .ref o22, .ref o24, .ref o26, .ref o28, .ref o30, .int v32, .ref o33, .ref o35, .ref o37, .int v39, .ref o40, .ref o42, .ref o44, .int v46, .ref o47])), (o6, .inl (cI, 12, .inl fw7)), (o33, .inl (cI, 12, .inl f653))]) H → va_D A ([(o1, .inr (12, [.int v2, .ref o3, .int v5, .ref o6, .int v8, .ref o9, .ref o11, .int v13, .ref o14, .int v16, .ref o17, .int v19, .int v20, .int v21, .ref o22, .ref o24, .ref o26, .ref o28, .ref o30, .int v32, .ref o33, .ref o35, .ref o37, .int v39, .ref o40, .ref o42, .ref o44, .int v46, .ref o47])), (o6, .inl (cI, 12, .inl fw7)), (o33, .inl (cI, 12, .inl f653))]) → va_S A s.heap H locs → lv_has ls 6 [(3, .int x652), (0, .ref o1), (1, .int 2), (2, .int a2)] → W p l e ({ frames := 10, cells := 0, slots := 0, locals := 250 }) s m ([.ref o1, .int 2, .int a2] : List Value).toArray below meth c H locs 0 0 Q (F0 m 12 ls []) := by
      intro N
      induction N with
      | zero =>
        intro x652 f653 H locs ls hM
        exact absurd hM (Nat.not_lt_zero _)
      | succ N ih9 =>
        intro x652 f653 H locs ls hM9 x652_h f653_b iv9_0 iv9_1 hP hD hS hl
        refine lv_iload_n hx hb dX12_isColoured_12 rfl (lv_at hl 0 rfl) ?_
        refine lv_iload_n hx hb dX12_isColoured_13 rfl (lv_at hl 3 rfl) ?_
        refine lv_icmp_ge (tgt := 103) hx hb dX12_isColoured_14 (by decide) (fun h654 => ?_) (fun h654 => ?_)
        ·
          have qh654 := le_i h654
          refine lv_iconst (v := 0) hx hb dX12_isColoured_103 (by decide) ?_
          rw [hQ]
          exact W.zret (v := 0) (ty := .boolean) hx hb hr rfl (fun t ht hW => ⟨⟨0, f653, rfl, ⟨(iv_w ik_0 (by decide)), f653_b, iv9_0, (fun h8 => (co_no (iv9_1 h8) qh654 a2_h h8 (show (2 : Int) + 1 ≤ _ from (show _ ≤ _ ∧ _ ≤ _ from j2).1)).elim)⟩, by rw [ht]; exact hP, va_K.moved hW.alike hK, hD⟩, hS.F ht⟩) hS.2.2 dX12_isColoured_104
        ·
          have qh654 := nle_i h654
          have j655 : Iv 0 11 x652 := r_ltl qh654 x652_h a2_h (by decide)
          have j656 : Iv 1 12 a2 := r_ltr qh654 x652_h a2_h (by decide)
          refine lv_iconst (v := 1) hx hb dX12_isColoured_17 (by decide) ?_
          refine lv_istore (lv' := [(4, .int 1), (3, .int x652), (0, .ref o1), (1, .int 2), (2, .int a2)]) hx hb dX12_isColoured_18 hl (by decide) rfl (fun ls hl => ?_)
          refine lv_iconst (v := 0) hx hb dX12_isColoured_20 (by decide) ?_
          refine lv_istore (lv' := [(5, .int 0), (4, .int 1), (3, .int x652), (0, .ref o1), (1, .int 2), (2, .int a2)]) hx hb dX12_isColoured_21 hl (by decide) rfl (fun ls hl => ?_)
          have L10 : ∀ (N : Nat) (x696 : Int32) (x697 : Int32) (H : Heap) (locs : List Loc) (ls : Array Slot), (2 - x696.toInt).toNat < N → Iv 0 2 x696 → Iv 0 1 x697 → (x697 = 0 → ∃ q, q < (Int32.toNatClampNeg x696) ∧ f653 q = x652) → va_P (dC, dI) vwCl ([(o1, .inr (12, [.int v2, .ref o3, .int v5, .ref o6, .int v8, .ref o9, .ref o11, .int v13, .ref o14, .int v16, .ref o17, .int v19, .int v20, .int v21, .ref o22, .ref o24, .ref o26, .ref o28, .ref o30, .int v32, .ref o33, .ref o35, .ref o37, .int v39, .ref o40, .ref o42, .ref o44, .int v46, .ref o47])), (o6, .inl (cI, 12, .inl fw7)), (o33, .inl (cI, 12, .inl f653))]) H → va_D A ([(o1, .inr (12, [.int v2, .ref o3, .int v5, .ref o6, .int v8, .ref o9, .ref o11, .int v13, .ref o14, .int v16, .ref o17, .int v19, .int v20, .int v21, .ref o22, .ref o24, .ref o26, .ref o28, .ref o30, .int v32, .ref o33, .ref o35, .ref o37, .int v39, .ref o40, .ref o42, .ref o44, .int v46, .ref o47])), (o6, .inl (cI, 12, .inl fw7)), (o33, .inl (cI, 12, .inl f653))]) → va_S A s.heap H locs → lv_has ls 6 [(5, .int x696), (4, .int x697), (3, .int x652), (0, .ref o1), (1, .int 2), (2, .int a2)] → W p l e ({ frames := 10, cells := 0, slots := 0, locals := 250 }) s m ([.ref o1, .int 2, .int a2] : List Value).toArray below meth c H locs 0 0 Q (F0 m 23 ls []) := by
            intro N
            induction N with
            | zero =>
              intro x696 x697 H locs ls hM
              exact absurd hM (Nat.not_lt_zero _)
            | succ N ih10 =>
              intro x696 x697 H locs ls hM10 x696_h x697_h iv10_0 hP hD hS hl
              refine lv_iload hx hb dX12_isColoured_23 (lv_at hl 0 rfl) ?_
              refine lv_iload_n hx hb dX12_isColoured_25 rfl (lv_at hl 4 rfl) ?_
              refine lv_icmp_ge (tgt := 72) hx hb dX12_isColoured_26 (by decide) (fun h698 => ?_) (fun h698 => ?_)
              ·
                have qh698 := le_i h698
                have j699 : Iv 2 2 x696 := r_ler qh698 ik_2 x696_h (by decide)
                refine lv_aload_n hx hb dX12_isColoured_72 rfl (lv_at hl 3 rfl) ?_
                refine va_get (D := (dC, dI)) (ci := 12) (v := .ref o33) (C := RX12) (T := TX12) (N := 29) hx hb hts iw_X12_isColoured_X12 hown hK hP 0 rfl rfl 20 (by decide) (hts (.fieldLink RX12 48 "HolelessHouseModel" "colours" "[I") hm_X12_isColoured_3) (fun _ h9 => h9) rfl dX12_isColoured_73 ?_
                refine lv_iload_n hx hb dX12_isColoured_76 rfl (lv_at hl 4 rfl) ?_
                refine lv_iload_n hx hb dX12_isColoured_77 rfl (lv_at hl 2 rfl) ?_
                refine k_iast hx hb hK hP hD hS 2 0 rfl rfl (vin_iv ik_2 (by decide)) dX12_isColoured_78 (fun f700 H locs f700_e hP hD hS => ?_)
                have f700_b : Bd 12 0 11 f700 := bd_upd f700_e f653_b j655 (by decide)
                have hP : va_P (dC, dI) vwCl ([(o1, .inr (12, [.int v2, .ref o3, .int v5, .ref o6, .int v8, .ref o9, .ref o11, .int v13, .ref o14, .int v16, .ref o17, .int v19, .int v20, .int v21, .ref o22, .ref o24, .ref o26, .ref o28, .ref o30, .int v32, .ref o33, .ref o35, .ref o37, .int v39, .ref o40, .ref o42, .ref o44, .int v46, .ref o47])), (o6, .inl (cI, 12, .inl fw7)), (o33, .inl (cI, 12, .inl f700))]) H := hP
                have hD : va_D A ([(o1, .inr (12, [.int v2, .ref o3, .int v5, .ref o6, .int v8, .ref o9, .ref o11, .int v13, .ref o14, .int v16, .ref o17, .int v19, .int v20, .int v21, .ref o22, .ref o24, .ref o26, .ref o28, .ref o30, .int v32, .ref o33, .ref o35, .ref o37, .int v39, .ref o40, .ref o42, .ref o44, .int v46, .ref o47])), (o6, .inl (cI, 12, .inl fw7)), (o33, .inl (cI, 12, .inl f700))]) := hD
                refine lv_iload hx hb dX12_isColoured_79 (lv_at hl 1 rfl) ?_
                refine lv_if_eq (tgt := 97) hx hb dX12_isColoured_81 (by decide) (fun h701 => ?_) (fun h701 => ?_)
                ·
                  have j702 : Iv 0 0 x697 := r_eq h701 ik_0
                  obtain ⟨x703, x703_e⟩ : ∃ z : Int32, z = x652 + 1 := ⟨_, rfl⟩
                  have x703_h : Iv 1 12 x703 := iv_e x703_e (iv_add j655 ik_1 (by decide))
                  refine lv_iinc (v := x703) (lv' := [(3, .int x703), (5, .int x696), (4, .int x697), (0, .ref o1), (1, .int 2), (2, .int a2)]) hx hb dX12_isColoured_97 hl (k := 2) rfl (incN (by decide +kernel) x703_e) (by decide) rfl (fun ls hl => ?_)
                  refine lv_goto (tgt := 12) hx hb dX12_isColoured_100 (by decide) ?_
                  exact ih9 x703 f700 _ _ _ (ms_up x703_e j655 (by decide) hM9) (iv_w x703_h (by decide)) f700_b (co_k f700_e (by decide +kernel) iv9_0) (fun h8 => CW_s (iv9_1 h8) (iv_w (c := 0) (d := 4095) j655 (by decide)) x703_e (co_w3 (iv10_0 h701) (Nat.le_of_eq (by rw [d_eq j699 ik_2]; decide +kernel)) iv9_0)) hP hD hS (lv_sub hl [0, 3, 4, 5] rfl)
                ·
                  have j704 : Iv 1 1 x697 := r_nelo h701 x697_h ik_0 (by decide)
                  refine lv_aload_n hx hb dX12_isColoured_84 rfl (lv_at hl 3 rfl) ?_
                  refine lv_iload_n hx hb dX12_isColoured_85 rfl (lv_at hl 4 rfl) ?_
                  refine lv_iconst (v := 1) hx hb dX12_isColoured_86 (by decide) ?_
                  refine lv_iadd hx hb dX12_isColoured_87 (tk_i (v := 3) (by decide +kernel) ?_)
                  refine lv_iload_n hx hb dX12_isColoured_88 rfl (lv_at hl 5 rfl) ?_
                  refine kc_i (D := (dC, dI)) (S := (Nat → Int32)) (wc := [(o1, .inr (12, [.int v2, .ref o3, .int v5, .ref o6, .int v8, .ref o9, .ref o11, .int v13, .ref o14, .int v16, .ref o17, .int v19, .int v20, .int v21, .ref o22, .ref o24, .ref o26, .ref o28, .ref o30, .int v32, .ref o33, .ref o35, .ref o37, .int v39, .ref o40, .ref o42, .ref o44, .int v46, .ref o47])), (o6, .inl (cI, 12, .inl fw7)), (o33, .inl (cI, 12, .inl f700))]) (wr := []) (w1 := fun u => [(o1, .inr (12, [.int v2, .ref o3, .int v5, .ref o6, .int v8, .ref o9, .ref o11, .int v13, .ref o14, .int v16, .ref o17, .int v19, .int v20, .int v21, .ref o22, .ref o24, .ref o26, .ref o28, .ref o30, .int v32, .ref o33, .ref o35, .ref o37, .int v39, .ref o40, .ref o42, .ref o44, .int v46, .ref o47])), (o6, .inl (cI, 12, .inl fw7)), (o33, .inl (cI, 12, .inl u))]) (wn := fun u => [(o1, .inr (12, [.int v2, .ref o3, .int v5, .ref o6, .int v8, .ref o9, .ref o11, .int v13, .ref o14, .int v16, .ref o17, .int v19, .int v20, .int v21, .ref o22, .ref o24, .ref o26, .ref o28, .ref o30, .int v32, .ref o33, .ref o35, .ref o37, .int v39, .ref o40, .ref o42, .ref o44, .int v46, .ref o47])), (o6, .inl (cI, 12, .inl fw7)), (o33, .inl (cI, 12, .inl u))]) (fun hPc hDc => va_runV (As := [.int 3, .int a2]) (rest := []) ⟨hx, hb, hml, hown, hts⟩ (kX12_isColoured_10 l dC dI cI c2 cZ o1 o3 o6 o9 o11 o14 o17 o22 o24 o26 o28 o30 o33 o35 o37 o40 o42 o44 o47 v2 v5 fw7 v8 v13 v16 v19 v20 v21 v32 f700 v39 v46 a2 H.size j2 fw7_b v8_h v13_h v16_h v19_h v32_h f700_b v39_h v46_h (iv_w j656 (by decide))) (cwV 2 hts gX12_isColoured_X12_isColoured rfl rfl rfl (by decide +kernel) ⟨Nat.le_of_ble_eq_true rfl, Nat.le_of_ble_eq_true rfl⟩) (pre_V hPc hK hDc hN (ci := 12) (q0 := 0) rfl rfl) rfl rfl hl.1 rfl (lv_room (Nat.le_of_ble_eq_true rfl)) dX12_isColoured_89 ⟨Nat.le_of_ble_eq_true rfl, Nat.le_of_ble_eq_true rfl⟩) hP hD hS hA [0, 1, 2] [] [0, 1, 2] rfl rfl (by decide +kernel) (by decide +kernel) (by decide +kernel) (by decide +kernel) (fun _ => rfl) (fun x706 f705 H locs hq hP hD hS => ?_)
                  obtain ⟨x706_h, f705_b, e707, e708⟩ := hq
                  have hP : va_P (dC, dI) vwCl ([(o1, .inr (12, [.int v2, .ref o3, .int v5, .ref o6, .int v8, .ref o9, .ref o11, .int v13, .ref o14, .int v16, .ref o17, .int v19, .int v20, .int v21, .ref o22, .ref o24, .ref o26, .ref o28, .ref o30, .int v32, .ref o33, .ref o35, .ref o37, .int v39, .ref o40, .ref o42, .ref o44, .int v46, .ref o47])), (o6, .inl (cI, 12, .inl fw7)), (o33, .inl (cI, 12, .inl f705))]) H := hP
                  have hD : va_D A ([(o1, .inr (12, [.int v2, .ref o3, .int v5, .ref o6, .int v8, .ref o9, .ref o11, .int v13, .ref o14, .int v16, .ref o17, .int v19, .int v20, .int v21, .ref o22, .ref o24, .ref o26, .ref o28, .ref o30, .int v32, .ref o33, .ref o35, .ref o37, .int v39, .ref o40, .ref o42, .ref o44, .int v46, .ref o47])), (o6, .inl (cI, 12, .inl fw7)), (o33, .inl (cI, 12, .inl f705))]) := hD
                  refine lv_if_eq (tgt := 97) hx hb dX12_isColoured_92 (by decide) (fun h709 => ?_) (fun h709 => ?_)
                  ·
                    have j710 : Iv 0 0 x706 := r_eq h709 ik_0
                    obtain ⟨x711, x711_e⟩ : ∃ z : Int32, z = x652 + 1 := ⟨_, rfl⟩
                    have x711_h : Iv 1 12 x711 := iv_e x711_e (iv_add j655 ik_1 (by decide))
                    refine lv_iinc (v := x711) (lv' := [(3, .int x711), (5, .int x696), (4, .int x697), (0, .ref o1), (1, .int 2), (2, .int a2)]) hx hb dX12_isColoured_97 hl (k := 2) rfl (incN (by decide +kernel) x711_e) (by decide) rfl (fun ls hl => ?_)
                    refine lv_goto (tgt := 12) hx hb dX12_isColoured_100 (by decide) ?_
                    exact ih9 x711 f705 _ _ _ (ms_up x711_e j655 (by decide) hM9) (iv_w x711_h (by decide)) f705_b (co_t e707 (by decide) (co_k f700_e (by decide +kernel) iv9_0)) (fun h8 => absurd h709 (e708 h8)) hP hD hS (lv_sub hl [0, 3, 4, 5] rfl)
                  ·
                    have j712 : Iv 1 1 x706 := r_nelo h709 x706_h ik_0 (by decide)
                    refine lv_iconst (v := 1) hx hb dX12_isColoured_95 (by decide) ?_
                    rw [hQ]
                    exact W.zret (v := 1) (ty := .boolean) hx hb hr rfl (fun t ht hW => ⟨⟨1, f705, rfl, ⟨(iv_w ik_1 (by decide)), f705_b, (co_t e707 (by decide) (co_k f700_e (by decide +kernel) iv9_0)), (fun _ h8 => absurd h8 (by decide +kernel))⟩, by rw [ht]; exact hP, va_K.moved hW.alike hK, hD⟩, hS.F ht⟩) hS.2.2 dX12_isColoured_96
              ·
                have qh698 := nle_i h698
                have j713 : Iv 0 1 x696 := r_ltl qh698 x696_h ik_2 (by decide)
                refine lv_iload hx hb dX12_isColoured_29 (lv_at hl 1 rfl) ?_
                refine lv_if_eq (tgt := 63) hx hb dX12_isColoured_31 (by decide) (fun h714 => ?_) (fun h714 => ?_)
                ·
                  have j715 : Iv 0 0 x697 := r_eq h714 ik_0
                  refine lv_iconst (v := 0) hx hb dX12_isColoured_63 (by decide) ?_
                  refine lv_istore (lv' := [(4, .int 0), (5, .int x696), (3, .int x652), (0, .ref o1), (1, .int 2), (2, .int a2)]) hx hb dX12_isColoured_64 hl (by decide) rfl (fun ls hl => ?_)
                  obtain ⟨x716, x716_e⟩ : ∃ z : Int32, z = x696 + 1 := ⟨_, rfl⟩
                  have x716_h : Iv 1 2 x716 := iv_e x716_e (iv_add j713 ik_1 (by decide))
                  refine lv_iinc (v := x716) (lv' := [(5, .int x716), (4, .int 0), (3, .int x652), (0, .ref o1), (1, .int 2), (2, .int a2)]) hx hb dX12_isColoured_66 hl (k := 1) rfl (incN (by decide +kernel) x716_e) (by decide) rfl (fun ls hl => ?_)
                  refine lv_goto (tgt := 23) hx hb dX12_isColoured_69 (by decide) ?_
                  exact ih10 x716 0 _ _ _ (ms_up x716_e j713 (by decide) hM10) (iv_w x716_h (by decide)) (iv_w ik_0 (by decide)) (fun _ => co_w1 (iv10_0 h714) (iv_w (c := 0) (d := 4095) j713 (by decide)) x716_e) hP hD hS hl
                ·
                  have j717 : Iv 1 1 x697 := r_nelo h714 x697_h ik_0 (by decide)
                  refine lv_aload_n hx hb dX12_isColoured_34 rfl (lv_at hl 3 rfl) ?_
                  refine va_get (D := (dC, dI)) (ci := 12) (v := .ref o6) (C := RX12) (T := TX12) (N := 29) hx hb hts iw_X12_isColoured_X12 hown hK hP 0 rfl rfl 3 (by decide) (hts (.fieldLink RX12 13 "HolelessHouseModel" "near" "[I") hm_X12_isColoured_2) (fun _ h9 => h9) rfl dX12_isColoured_35 ?_
                  refine lv_iload_n hx hb dX12_isColoured_38 rfl (lv_at hl 4 rfl) ?_
                  refine va_iald hx hb hK hP 1 0 rfl rfl (vin_iv ik_2 (by decide)) dX12_isColoured_39 (lv_topi (fun x718 x718_e => ?_))
                  have x718_h : Iv 0 4095 x718 := iv_e x718_e (bd_at fw7_b (vin_iv ik_2 (by decide)))
                  refine lv_iload hx hb dX12_isColoured_40 (lv_at hl 0 rfl) ?_
                  refine kc_i (D := (dC, dI)) (S := Unit) (wc := []) (wr := [(o1, .inr (12, [.int v2, .ref o3, .int v5, .ref o6, .int v8, .ref o9, .ref o11, .int v13, .ref o14, .int v16, .ref o17, .int v19, .int v20, .int v21, .ref o22, .ref o24, .ref o26, .ref o28, .ref o30, .int v32, .ref o33, .ref o35, .ref o37, .int v39, .ref o40, .ref o42, .ref o44, .int v46, .ref o47])), (o6, .inl (cI, 12, .inl fw7)), (o33, .inl (cI, 12, .inl f653))]) (w1 := fun _ => []) (wn := fun _ => [(o1, .inr (12, [.int v2, .ref o3, .int v5, .ref o6, .int v8, .ref o9, .ref o11, .int v13, .ref o14, .int v16, .ref o17, .int v19, .int v20, .int v21, .ref o22, .ref o24, .ref o26, .ref o28, .ref o30, .int v32, .ref o33, .ref o35, .ref o37, .int v39, .ref o40, .ref o42, .ref o44, .int v46, .ref o47])), (o6, .inl (cI, 12, .inl fw7)), (o33, .inl (cI, 12, .inl f653))]) (fun hPc hDc => va_runS (As := [.int x718, .int x696]) (rest := []) ⟨hx, hb, hml, hown, hts⟩ (kX12_has_1 l dC dI cI c2 cZ x718 x696 H.size (iv_w j713 (by decide))) (va_cwS 2 hts gX12_isColoured_X12_has rfl rfl rfl (by decide +kernel) ⟨Nat.le_of_ble_eq_true rfl, Nat.le_of_ble_eq_true rfl⟩) (pre_S hPc hK hDc hN) rfl rfl hl.1 rfl (lv_room (Nat.le_of_ble_eq_true rfl)) dX12_isColoured_42 ⟨Nat.le_of_ble_eq_true rfl, Nat.le_of_ble_eq_true rfl⟩) hP hD hS hA [] [0, 1, 2] [0, 1, 2] rfl rfl (by decide +kernel) (by decide +kernel) (by decide +kernel) (by decide +kernel) (fun _ => rfl) (fun x719 _ H locs hq hP hD hS => ?_)
                  obtain ⟨x719_h, e720⟩ := hq
                  have hP : va_P (dC, dI) vwCl ([(o1, .inr (12, [.int v2, .ref o3, .int v5, .ref o6, .int v8, .ref o9, .ref o11, .int v13, .ref o14, .int v16, .ref o17, .int v19, .int v20, .int v21, .ref o22, .ref o24, .ref o26, .ref o28, .ref o30, .int v32, .ref o33, .ref o35, .ref o37, .int v39, .ref o40, .ref o42, .ref o44, .int v46, .ref o47])), (o6, .inl (cI, 12, .inl fw7)), (o33, .inl (cI, 12, .inl f653))]) H := hP
                  have hD : va_D A ([(o1, .inr (12, [.int v2, .ref o3, .int v5, .ref o6, .int v8, .ref o9, .ref o11, .int v13, .ref o14, .int v16, .ref o17, .int v19, .int v20, .int v21, .ref o22, .ref o24, .ref o26, .ref o28, .ref o30, .int v32, .ref o33, .ref o35, .ref o37, .int v39, .ref o40, .ref o42, .ref o44, .int v46, .ref o47])), (o6, .inl (cI, 12, .inl fw7)), (o33, .inl (cI, 12, .inl f653))]) := hD
                  refine lv_if_eq (tgt := 59) hx hb dX12_isColoured_45 (by decide) (fun h721 => ?_) (fun h721 => ?_)
                  ·
                    have j722 : Iv 0 0 x719 := r_eq h721 ik_0
                    have b723 : bt x718 (Int32.toNatClampNeg x696) = false := has_f e720 h721
                    refine lv_iconst (v := 1) hx hb dX12_isColoured_59 (by decide) ?_
                    refine lv_goto (tgt := 64) hx hb dX12_isColoured_60 (by decide) ?_
                    refine lv_istore (lv' := [(4, .int 1), (5, .int x696), (3, .int x652), (0, .ref o1), (1, .int 2), (2, .int a2)]) hx hb dX12_isColoured_64 hl (by decide) rfl (fun ls hl => ?_)
                    obtain ⟨x724, x724_e⟩ : ∃ z : Int32, z = x696 + 1 := ⟨_, rfl⟩
                    have x724_h : Iv 1 2 x724 := iv_e x724_e (iv_add j713 ik_1 (by decide))
                    refine lv_iinc (v := x724) (lv' := [(5, .int x724), (4, .int 1), (3, .int x652), (0, .ref o1), (1, .int 2), (2, .int a2)]) hx hb dX12_isColoured_66 hl (k := 1) rfl (incN (by decide +kernel) x724_e) (by decide) rfl (fun ls hl => ?_)
                    refine lv_goto (tgt := 23) hx hb dX12_isColoured_69 (by decide) ?_
                    exact ih10 x724 1 _ _ _ (ms_up x724_e j713 (by decide) hM10) (iv_w x724_h (by decide)) (iv_w ik_1 (by decide)) (fun h8 => absurd h8 (by decide +kernel)) hP hD hS hl
                  ·
                    have j725 : Iv 1 1 x719 := r_nelo h721 x719_h ik_0 (by decide)
                    have b726 : bt x718 (Int32.toNatClampNeg x696) = true := has_t e720 h721
                    refine lv_aload_n hx hb dX12_isColoured_48 rfl (lv_at hl 3 rfl) ?_
                    refine va_get (D := (dC, dI)) (ci := 12) (v := .ref o33) (C := RX12) (T := TX12) (N := 29) hx hb hts iw_X12_isColoured_X12 hown hK hP 0 rfl rfl 20 (by decide) (hts (.fieldLink RX12 48 "HolelessHouseModel" "colours" "[I") hm_X12_isColoured_3) (fun _ h9 => h9) rfl dX12_isColoured_49 ?_
                    refine lv_iload hx hb dX12_isColoured_52 (lv_at hl 0 rfl) ?_
                    refine va_iald hx hb hK hP 2 0 rfl rfl (vin_iv j713 (by decide)) dX12_isColoured_54 (lv_topi (fun x727 x727_e => ?_))
                    have x727_h : Iv 0 11 x727 := iv_e x727_e (bd_at f653_b (vin_iv j713 (by decide)))
                    refine lv_iload_n hx hb dX12_isColoured_55 rfl (lv_at hl 2 rfl) ?_
                    refine lv_icmp_eq (tgt := 63) hx hb dX12_isColoured_56 (by decide) (fun h728 => ?_) (fun h728 => ?_)
                    ·
                      refine lv_iconst (v := 0) hx hb dX12_isColoured_63 (by decide) ?_
                      refine lv_istore (lv' := [(4, .int 0), (5, .int x696), (3, .int x652), (0, .ref o1), (1, .int 2), (2, .int a2)]) hx hb dX12_isColoured_64 hl (by decide) rfl (fun ls hl => ?_)
                      obtain ⟨x729, x729_e⟩ : ∃ z : Int32, z = x696 + 1 := ⟨_, rfl⟩
                      have x729_h : Iv 1 2 x729 := iv_e x729_e (iv_add j713 ik_1 (by decide))
                      refine lv_iinc (v := x729) (lv' := [(5, .int x729), (4, .int 0), (3, .int x652), (0, .ref o1), (1, .int 2), (2, .int a2)]) hx hb dX12_isColoured_66 hl (k := 1) rfl (incN (by decide +kernel) x729_e) (by decide) rfl (fun ls hl => ?_)
                      refine lv_goto (tgt := 23) hx hb dX12_isColoured_69 (by decide) ?_
                      exact ih10 x729 0 _ _ _ (ms_up x729_e j713 (by decide) hM10) (iv_w x729_h (by decide)) (iv_w ik_0 (by decide)) (fun _ => co_w2 x727_e h728 (iv_w (c := 0) (d := 4095) j713 (by decide)) x729_e) hP hD hS hl
                    ·
                      refine lv_iconst (v := 1) hx hb dX12_isColoured_59 (by decide) ?_
                      refine lv_goto (tgt := 64) hx hb dX12_isColoured_60 (by decide) ?_
                      refine lv_istore (lv' := [(4, .int 1), (5, .int x696), (3, .int x652), (0, .ref o1), (1, .int 2), (2, .int a2)]) hx hb dX12_isColoured_64 hl (by decide) rfl (fun ls hl => ?_)
                      obtain ⟨x730, x730_e⟩ : ∃ z : Int32, z = x696 + 1 := ⟨_, rfl⟩
                      have x730_h : Iv 1 2 x730 := iv_e x730_e (iv_add j713 ik_1 (by decide))
                      refine lv_iinc (v := x730) (lv' := [(5, .int x730), (4, .int 1), (3, .int x652), (0, .ref o1), (1, .int 2), (2, .int a2)]) hx hb dX12_isColoured_66 hl (k := 1) rfl (incN (by decide +kernel) x730_e) (by decide) rfl (fun ls hl => ?_)
                      refine lv_goto (tgt := 23) hx hb dX12_isColoured_69 (by decide) ?_
                      exact ih10 x730 1 _ _ _ (ms_up x730_e j713 (by decide) hM10) (iv_w x730_h (by decide)) (iv_w ik_1 (by decide)) (fun h8 => absurd h8 (by decide +kernel)) hP hD hS hl
          exact L10 _ 0 1 _ _ _ (Nat.lt_succ_self _) (iv_w ik_0 (by decide)) (iv_w ik_1 (by decide)) co_w0 hP hD hS hl
    exact L9 _ 0 fw34 _ _ _ (Nat.lt_succ_self _) (iv_w ik_0 (by decide)) fw34_b (fun _ _ => rfl) (fun _ => CW_0) hP hD hS hl
  ·
    have j731 : Iv 2 2 v5 := r_eq h1.symm ik_2
    refine lv_iconst (v := 1) hx hb dX12_isColoured_8 (by decide) ?_
    rw [hQ]
    exact W.zret (v := 1) (ty := .boolean) hx hb hr rfl (fun t ht hW => ⟨⟨1, fw34, rfl, ⟨(iv_w ik_1 (by decide)), fw34_b, (fun _ _ => rfl), (fun _ h8 => absurd h8 (by decide +kernel))⟩, by rw [ht]; exact hP, va_K.moved hW.alike hK, hD⟩, hS.F ht⟩) hS.2.2 dX12_isColoured_9
set_option maxHeartbeats 4000000 in
set_option maxRecDepth 100000 in
theorem kX12_isColoured_12 (l : Launch) (dC : Nat → ClassId) (dI : Nat → Nat → Nat) (cI c2 cZ : ClassId) (o1 : Nat) (o3 : Nat) (o6 : Nat) (o9 : Nat) (o11 : Nat) (o14 : Nat) (o17 : Nat) (o22 : Nat) (o24 : Nat) (o26 : Nat) (o28 : Nat) (o30 : Nat) (o33 : Nat) (o35 : Nat) (o37 : Nat) (o40 : Nat) (o42 : Nat) (o44 : Nat) (o47 : Nat) (v2 : Int32) (v5 : Int32) (fw7 : Nat → Int32) (v8 : Int32) (v13 : Int32) (v16 : Int32) (v19 : Int32) (v20 : Int32) (v21 : Int32) (v32 : Int32) (fw34 : Nat → Int32) (v39 : Int32) (v46 : Int32) (a2 : Int32) (sz : Nat) (v5_h : Iv 1 12 v5) (fw7_b : Bd 12 0 4095 fw7) (v8_h : Iv 0 8 v8) (v13_h : Iv 0 12 v13) (v16_h : Iv 0 12 v16) (v19_h : Iv (-9) 12 v19) (v32_h : Iv 0 99 v32) (fw34_b : Bd 12 0 11 fw34) (v39_h : Iv 0 12 v39) (v46_h : Iv 0 12 v46) (a2_h : Iv 0 12 a2) : Met l yX12_isColoured wsX12_isColoured ({ frames := 11, cells := 0, slots := 0, locals := 275 }) (va_Pc [.ref o1, .int 1, .int a2] (wPre (dC, dI) [(cI, .int), (c2, .array .int), (cZ, .boolean)] ([(o1, .inr (12, [.int v2, .ref o3, .int v5, .ref o6, .int v8, .ref o9, .ref o11, .int v13, .ref o14, .int v16, .ref o17, .int v19, .int v20, .int v21, .ref o22, .ref o24, .ref o26, .ref o28, .ref o30, .int v32, .ref o33, .ref o35, .ref o37, .int v39, .ref o40, .ref o42, .ref o44, .int v46, .ref o47])), (o6, .inl (cI, 12, .inl fw7)), (o33, .inl (cI, 12, .inl fw34))]) sz)) (va_Qi (fun (r : Int32) (u : (Nat → Int32)) => Iv 0 1 r ∧ Bd 12 0 11 u ∧ (∀ i8, i8 < 1 → u i8 = fw34 i8) ∧ (Int32.toInt v5 ≤ Int32.toInt a2 → ¬ r = 0)) (fun u t => wPost (dC, dI) [(cI, .int), (c2, .array .int), (cZ, .boolean)] (va_A ([(o1, .inr (12, [.int v2, .ref o3, .int v5, .ref o6, .int v8, .ref o9, .ref o11, .int v13, .ref o14, .int v16, .ref o17, .int v19, .int v20, .int v21, .ref o22, .ref o24, .ref o26, .ref o28, .ref o30, .int v32, .ref o33, .ref o35, .ref o37, .int v39, .ref o40, .ref o42, .ref o44, .int v46, .ref o47])), (o6, .inl (cI, 12, .inl fw7)), (o33, .inl (cI, 12, .inl fw34))]) sz) ([(o1, .inr (12, [.int v2, .ref o3, .int v5, .ref o6, .int v8, .ref o9, .ref o11, .int v13, .ref o14, .int v16, .ref o17, .int v19, .int v20, .int v21, .ref o22, .ref o24, .ref o26, .ref o28, .ref o30, .int v32, .ref o33, .ref o35, .ref o37, .int v39, .ref o40, .ref o42, .ref o44, .int v46, .ref o47])), (o6, .inl (cI, 12, .inl fw7)), (o33, .inl (cI, 12, .inl u))]) t) (va_A ([(o1, .inr (12, [.int v2, .ref o3, .int v5, .ref o6, .int v8, .ref o9, .ref o11, .int v13, .ref o14, .int v16, .ref o17, .int v19, .int v20, .int v21, .ref o22, .ref o24, .ref o26, .ref o28, .ref o30, .int v32, .ref o33, .ref o35, .ref o37, .int v39, .ref o40, .ref o42, .ref o44, .int v46, .ref o47])), (o6, .inl (cI, 12, .inl fw7)), (o33, .inl (cI, 12, .inl fw34))]) sz)) 0 0 (va_A ([(o1, .inr (12, [.int v2, .ref o3, .int v5, .ref o6, .int v8, .ref o9, .ref o11, .int v13, .ref o14, .int v16, .ref o17, .int v19, .int v20, .int v21, .ref o22, .ref o24, .ref o26, .ref o28, .ref o30, .int v32, .ref o33, .ref o35, .ref o37, .int v39, .ref o40, .ref o42, .ref o44, .int v46, .ref o47])), (o6, .inl (cI, 12, .inl fw7)), (o33, .inl (cI, 12, .inl fw34))]) sz) := by
  refine Met.ofW (cc := cX12_isColoured) (maxL := 6) (ret := (some .boolean)) (by decide) rfl ?_
  intro p e s m args below meth c s₁ B hml hv
  obtain ⟨rfl, hsz, hP, hK, hD0, hN⟩ := hv
  have hx := B.exec
  have hb := B.bytes
  have hr := B.returns
  have hts := atoms_spec (ws := wsX12_isColoured) B.pre
  have hown : s.vm.findClass RX12 = some m.cls := findClass_of_methodNamed B.named
  have hlocks := B.notSynchronized
  subst hsz
  have hD := hD0.self (sz := s.heap.size)
  generalize hAe : va_A ([(o1, .inr (12, [.int v2, .ref o3, .int v5, .ref o6, .int v8, .ref o9, .ref o11, .int v13, .ref o14, .int v16, .ref o17, .int v19, .int v20, .int v21, .ref o22, .ref o24, .ref o26, .ref o28, .ref o30, .int v32, .ref o33, .ref o35, .ref o37, .int v39, .ref o40, .ref o42, .ref o44, .int v46, .ref o47])), (o6, .inl (cI, 12, .inl fw7)), (o33, .inl (cI, 12, .inl fw34))]) s.heap.size = A at hD ⊢
  have hA : ∀ q : Nat, s.heap.size ≤ q → A q := fun q h => by rw [← hAe]; exact Or.inr h
  have hS : va_S A s.heap s.heap [] := va_S.rf
  have hP : va_P (dC, dI) vwCl ([(o1, .inr (12, [.int v2, .ref o3, .int v5, .ref o6, .int v8, .ref o9, .ref o11, .int v13, .ref o14, .int v16, .ref o17, .int v19, .int v20, .int v21, .ref o22, .ref o24, .ref o26, .ref o28, .ref o30, .int v32, .ref o33, .ref o35, .ref o37, .int v39, .ref o40, .ref o42, .ref o44, .int v46, .ref o47])), (o6, .inl (cI, 12, .inl fw7)), (o33, .inl (cI, 12, .inl fw34))]) s.heap := hP
  have hl := lv_entry ([.ref o1, .int 1, .int a2]) (n := 6) (Nat.le_of_ble_eq_true rfl)
  rw [lg_entry_eq]
  generalize (lg_sl ([.ref o1, .int 1, .int a2]) ++ List.replicate (6 - (lg_sl ([.ref o1, .int 1, .int a2])).length) Slot.unset).toArray = ls at hl ⊢
  have hl : lv_has ls 6 [(0, .ref o1), (1, .int 1), (2, .int a2)] := hl
  refine gen_Q (fun Q hQ => ?_)
  refine lv_iload_n hx hb dX12_isColoured_0 rfl (lv_at hl 1 rfl) ?_
  refine lv_aload_n hx hb dX12_isColoured_1 rfl (lv_at hl 0 rfl) ?_
  refine va_get (D := (dC, dI)) (ci := 12) (v := .int v5) (C := RX12) (T := TX12) (N := 29) hx hb hts iw_X12_isColoured_X12 hown hK hP 0 rfl rfl 2 (by decide) (hts (.fieldLink RX12 73 "HolelessHouseModel" "n" "I") hm_X12_isColoured_1) (fun _ h9 => h9) rfl dX12_isColoured_2 ?_
  refine lv_icmp_ne (tgt := 10) hx hb dX12_isColoured_5 (by decide) (fun h1 => ?_) (fun h1 => ?_)
  ·
    have j2 : Iv 2 12 v5 := r_nelo (fun q => h1 q.symm) v5_h ik_1 (by decide)
    refine lv_iconst (v := 0) hx hb dX12_isColoured_10 (by decide) ?_
    refine lv_istore_n (lv' := [(3, .int 0), (0, .ref o1), (1, .int 1), (2, .int a2)]) hx hb dX12_isColoured_11 rfl hl (by decide) rfl (fun ls hl => ?_)
    have L9 : ∀ (N : Nat) (x652 : Int32) (f653 : Nat → Int32) (H : Heap) (locs : List Loc) (ls : Array Slot), (12 - x652.toInt).toNat < N → Iv 0 12 x652 → Bd 12 0 11 f653 → (∀ i8, i8 < 1 → f653 i8 = fw34 i8) → (Int32.toInt v5 ≤ Int32.toInt a2 → CW fw34 1 (Int32.toNatClampNeg x652)) → va_P (dC, dI) vwCl ([(o1, .inr (12, [.int v2, .ref o3, .int v5, .ref o6, .int v8, .ref o9, .ref o11, .int v13, .ref o14, .int v16, .ref o17, .int v19, .int v20, .int v21, .ref o22, .ref o24, .ref o26, .ref o28, .ref o30, .int v32, .ref o33, .ref o35, .ref o37, .int v39, .ref o40, .ref o42, .ref o44, .int v46, .ref o47])), (o6, .inl (cI, 12, .inl fw7)), (o33, .inl (cI, 12, .inl f653))]) H → va_D A ([(o1, .inr (12, [.int v2, .ref o3, .int v5, .ref o6, .int v8, .ref o9, .ref o11, .int v13, .ref o14, .int v16, .ref o17, .int v19, .int v20, .int v21, .ref o22, .ref o24, .ref o26, .ref o28, .ref o30, .int v32, .ref o33, .ref o35, .ref o37, .int v39, .ref o40, .ref o42, .ref o44, .int v46, .ref o47])), (o6, .inl (cI, 12, .inl fw7)), (o33, .inl (cI, 12, .inl f653))]) → va_S A s.heap H locs → lv_has ls 6 [(3, .int x652), (0, .ref o1), (1, .int 1), (2, .int a2)] → W p l e ({ frames := 11, cells := 0, slots := 0, locals := 275 }) s m ([.ref o1, .int 1, .int a2] : List Value).toArray below meth c H locs 0 0 Q (F0 m 12 ls []) := by
      intro N
      induction N with
      | zero =>
        intro x652 f653 H locs ls hM
        exact absurd hM (Nat.not_lt_zero _)
      | succ N ih9 =>
        intro x652 f653 H locs ls hM9 x652_h f653_b iv9_0 iv9_1 hP hD hS hl
        refine lv_iload_n hx hb dX12_isColoured_12 rfl (lv_at hl 0 rfl) ?_
        refine lv_iload_n hx hb dX12_isColoured_13 rfl (lv_at hl 3 rfl) ?_
        refine lv_icmp_ge (tgt := 103) hx hb dX12_isColoured_14 (by decide) (fun h654 => ?_) (fun h654 => ?_)
        ·
          have qh654 := le_i h654
          refine lv_iconst (v := 0) hx hb dX12_isColoured_103 (by decide) ?_
          rw [hQ]
          exact W.zret (v := 0) (ty := .boolean) hx hb hr rfl (fun t ht hW => ⟨⟨0, f653, rfl, ⟨(iv_w ik_0 (by decide)), f653_b, iv9_0, (fun h8 => (co_no (iv9_1 h8) qh654 a2_h h8 (show (1 : Int) + 1 ≤ _ from (show _ ≤ _ ∧ _ ≤ _ from j2).1)).elim)⟩, by rw [ht]; exact hP, va_K.moved hW.alike hK, hD⟩, hS.F ht⟩) hS.2.2 dX12_isColoured_104
        ·
          have qh654 := nle_i h654
          have j655 : Iv 0 11 x652 := r_ltl qh654 x652_h a2_h (by decide)
          have j656 : Iv 1 12 a2 := r_ltr qh654 x652_h a2_h (by decide)
          refine lv_iconst (v := 1) hx hb dX12_isColoured_17 (by decide) ?_
          refine lv_istore (lv' := [(4, .int 1), (3, .int x652), (0, .ref o1), (1, .int 1), (2, .int a2)]) hx hb dX12_isColoured_18 hl (by decide) rfl (fun ls hl => ?_)
          refine lv_iconst (v := 0) hx hb dX12_isColoured_20 (by decide) ?_
          refine lv_istore (lv' := [(5, .int 0), (4, .int 1), (3, .int x652), (0, .ref o1), (1, .int 1), (2, .int a2)]) hx hb dX12_isColoured_21 hl (by decide) rfl (fun ls hl => ?_)
          have L10 : ∀ (N : Nat) (x696 : Int32) (x697 : Int32) (H : Heap) (locs : List Loc) (ls : Array Slot), (1 - x696.toInt).toNat < N → Iv 0 1 x696 → Iv 0 1 x697 → (x697 = 0 → ∃ q, q < (Int32.toNatClampNeg x696) ∧ f653 q = x652) → va_P (dC, dI) vwCl ([(o1, .inr (12, [.int v2, .ref o3, .int v5, .ref o6, .int v8, .ref o9, .ref o11, .int v13, .ref o14, .int v16, .ref o17, .int v19, .int v20, .int v21, .ref o22, .ref o24, .ref o26, .ref o28, .ref o30, .int v32, .ref o33, .ref o35, .ref o37, .int v39, .ref o40, .ref o42, .ref o44, .int v46, .ref o47])), (o6, .inl (cI, 12, .inl fw7)), (o33, .inl (cI, 12, .inl f653))]) H → va_D A ([(o1, .inr (12, [.int v2, .ref o3, .int v5, .ref o6, .int v8, .ref o9, .ref o11, .int v13, .ref o14, .int v16, .ref o17, .int v19, .int v20, .int v21, .ref o22, .ref o24, .ref o26, .ref o28, .ref o30, .int v32, .ref o33, .ref o35, .ref o37, .int v39, .ref o40, .ref o42, .ref o44, .int v46, .ref o47])), (o6, .inl (cI, 12, .inl fw7)), (o33, .inl (cI, 12, .inl f653))]) → va_S A s.heap H locs → lv_has ls 6 [(5, .int x696), (4, .int x697), (3, .int x652), (0, .ref o1), (1, .int 1), (2, .int a2)] → W p l e ({ frames := 11, cells := 0, slots := 0, locals := 275 }) s m ([.ref o1, .int 1, .int a2] : List Value).toArray below meth c H locs 0 0 Q (F0 m 23 ls []) := by
            intro N
            induction N with
            | zero =>
              intro x696 x697 H locs ls hM
              exact absurd hM (Nat.not_lt_zero _)
            | succ N ih10 =>
              intro x696 x697 H locs ls hM10 x696_h x697_h iv10_0 hP hD hS hl
              refine lv_iload hx hb dX12_isColoured_23 (lv_at hl 0 rfl) ?_
              refine lv_iload_n hx hb dX12_isColoured_25 rfl (lv_at hl 4 rfl) ?_
              refine lv_icmp_ge (tgt := 72) hx hb dX12_isColoured_26 (by decide) (fun h698 => ?_) (fun h698 => ?_)
              ·
                have qh698 := le_i h698
                have j699 : Iv 1 1 x696 := r_ler qh698 ik_1 x696_h (by decide)
                refine lv_aload_n hx hb dX12_isColoured_72 rfl (lv_at hl 3 rfl) ?_
                refine va_get (D := (dC, dI)) (ci := 12) (v := .ref o33) (C := RX12) (T := TX12) (N := 29) hx hb hts iw_X12_isColoured_X12 hown hK hP 0 rfl rfl 20 (by decide) (hts (.fieldLink RX12 48 "HolelessHouseModel" "colours" "[I") hm_X12_isColoured_3) (fun _ h9 => h9) rfl dX12_isColoured_73 ?_
                refine lv_iload_n hx hb dX12_isColoured_76 rfl (lv_at hl 4 rfl) ?_
                refine lv_iload_n hx hb dX12_isColoured_77 rfl (lv_at hl 2 rfl) ?_
                refine k_iast hx hb hK hP hD hS 2 0 rfl rfl (vin_iv ik_1 (by decide)) dX12_isColoured_78 (fun f700 H locs f700_e hP hD hS => ?_)
                have f700_b : Bd 12 0 11 f700 := bd_upd f700_e f653_b j655 (by decide)
                have hP : va_P (dC, dI) vwCl ([(o1, .inr (12, [.int v2, .ref o3, .int v5, .ref o6, .int v8, .ref o9, .ref o11, .int v13, .ref o14, .int v16, .ref o17, .int v19, .int v20, .int v21, .ref o22, .ref o24, .ref o26, .ref o28, .ref o30, .int v32, .ref o33, .ref o35, .ref o37, .int v39, .ref o40, .ref o42, .ref o44, .int v46, .ref o47])), (o6, .inl (cI, 12, .inl fw7)), (o33, .inl (cI, 12, .inl f700))]) H := hP
                have hD : va_D A ([(o1, .inr (12, [.int v2, .ref o3, .int v5, .ref o6, .int v8, .ref o9, .ref o11, .int v13, .ref o14, .int v16, .ref o17, .int v19, .int v20, .int v21, .ref o22, .ref o24, .ref o26, .ref o28, .ref o30, .int v32, .ref o33, .ref o35, .ref o37, .int v39, .ref o40, .ref o42, .ref o44, .int v46, .ref o47])), (o6, .inl (cI, 12, .inl fw7)), (o33, .inl (cI, 12, .inl f700))]) := hD
                refine lv_iload hx hb dX12_isColoured_79 (lv_at hl 1 rfl) ?_
                refine lv_if_eq (tgt := 97) hx hb dX12_isColoured_81 (by decide) (fun h701 => ?_) (fun h701 => ?_)
                ·
                  have j702 : Iv 0 0 x697 := r_eq h701 ik_0
                  obtain ⟨x703, x703_e⟩ : ∃ z : Int32, z = x652 + 1 := ⟨_, rfl⟩
                  have x703_h : Iv 1 12 x703 := iv_e x703_e (iv_add j655 ik_1 (by decide))
                  refine lv_iinc (v := x703) (lv' := [(3, .int x703), (5, .int x696), (4, .int x697), (0, .ref o1), (1, .int 1), (2, .int a2)]) hx hb dX12_isColoured_97 hl (k := 2) rfl (incN (by decide +kernel) x703_e) (by decide) rfl (fun ls hl => ?_)
                  refine lv_goto (tgt := 12) hx hb dX12_isColoured_100 (by decide) ?_
                  exact ih9 x703 f700 _ _ _ (ms_up x703_e j655 (by decide) hM9) (iv_w x703_h (by decide)) f700_b (co_k f700_e (by decide +kernel) iv9_0) (fun h8 => CW_s (iv9_1 h8) (iv_w (c := 0) (d := 4095) j655 (by decide)) x703_e (co_w3 (iv10_0 h701) (Nat.le_of_eq (by rw [d_eq j699 ik_1]; decide +kernel)) iv9_0)) hP hD hS (lv_sub hl [0, 3, 4, 5] rfl)
                ·
                  have j704 : Iv 1 1 x697 := r_nelo h701 x697_h ik_0 (by decide)
                  refine lv_aload_n hx hb dX12_isColoured_84 rfl (lv_at hl 3 rfl) ?_
                  refine lv_iload_n hx hb dX12_isColoured_85 rfl (lv_at hl 4 rfl) ?_
                  refine lv_iconst (v := 1) hx hb dX12_isColoured_86 (by decide) ?_
                  refine lv_iadd hx hb dX12_isColoured_87 (tk_i (v := 2) (by decide +kernel) ?_)
                  refine lv_iload_n hx hb dX12_isColoured_88 rfl (lv_at hl 5 rfl) ?_
                  refine kc_i (D := (dC, dI)) (S := (Nat → Int32)) (wc := [(o1, .inr (12, [.int v2, .ref o3, .int v5, .ref o6, .int v8, .ref o9, .ref o11, .int v13, .ref o14, .int v16, .ref o17, .int v19, .int v20, .int v21, .ref o22, .ref o24, .ref o26, .ref o28, .ref o30, .int v32, .ref o33, .ref o35, .ref o37, .int v39, .ref o40, .ref o42, .ref o44, .int v46, .ref o47])), (o6, .inl (cI, 12, .inl fw7)), (o33, .inl (cI, 12, .inl f700))]) (wr := []) (w1 := fun u => [(o1, .inr (12, [.int v2, .ref o3, .int v5, .ref o6, .int v8, .ref o9, .ref o11, .int v13, .ref o14, .int v16, .ref o17, .int v19, .int v20, .int v21, .ref o22, .ref o24, .ref o26, .ref o28, .ref o30, .int v32, .ref o33, .ref o35, .ref o37, .int v39, .ref o40, .ref o42, .ref o44, .int v46, .ref o47])), (o6, .inl (cI, 12, .inl fw7)), (o33, .inl (cI, 12, .inl u))]) (wn := fun u => [(o1, .inr (12, [.int v2, .ref o3, .int v5, .ref o6, .int v8, .ref o9, .ref o11, .int v13, .ref o14, .int v16, .ref o17, .int v19, .int v20, .int v21, .ref o22, .ref o24, .ref o26, .ref o28, .ref o30, .int v32, .ref o33, .ref o35, .ref o37, .int v39, .ref o40, .ref o42, .ref o44, .int v46, .ref o47])), (o6, .inl (cI, 12, .inl fw7)), (o33, .inl (cI, 12, .inl u))]) (fun hPc hDc => va_runV (As := [.int 2, .int a2]) (rest := []) ⟨hx, hb, hml, hown, hts⟩ (kX12_isColoured_11 l dC dI cI c2 cZ o1 o3 o6 o9 o11 o14 o17 o22 o24 o26 o28 o30 o33 o35 o37 o40 o42 o44 o47 v2 v5 fw7 v8 v13 v16 v19 v20 v21 v32 f700 v39 v46 a2 H.size j2 fw7_b v8_h v13_h v16_h v19_h v32_h f700_b v39_h v46_h (iv_w j656 (by decide))) (cwV 2 hts gX12_isColoured_X12_isColoured rfl rfl rfl (by decide +kernel) ⟨Nat.le_of_ble_eq_true rfl, Nat.le_of_ble_eq_true rfl⟩) (pre_V hPc hK hDc hN (ci := 12) (q0 := 0) rfl rfl) rfl rfl hl.1 rfl (lv_room (Nat.le_of_ble_eq_true rfl)) dX12_isColoured_89 ⟨Nat.le_of_ble_eq_true rfl, Nat.le_of_ble_eq_true rfl⟩) hP hD hS hA [0, 1, 2] [] [0, 1, 2] rfl rfl (by decide +kernel) (by decide +kernel) (by decide +kernel) (by decide +kernel) (fun _ => rfl) (fun x706 f705 H locs hq hP hD hS => ?_)
                  obtain ⟨x706_h, f705_b, e707, e708⟩ := hq
                  have hP : va_P (dC, dI) vwCl ([(o1, .inr (12, [.int v2, .ref o3, .int v5, .ref o6, .int v8, .ref o9, .ref o11, .int v13, .ref o14, .int v16, .ref o17, .int v19, .int v20, .int v21, .ref o22, .ref o24, .ref o26, .ref o28, .ref o30, .int v32, .ref o33, .ref o35, .ref o37, .int v39, .ref o40, .ref o42, .ref o44, .int v46, .ref o47])), (o6, .inl (cI, 12, .inl fw7)), (o33, .inl (cI, 12, .inl f705))]) H := hP
                  have hD : va_D A ([(o1, .inr (12, [.int v2, .ref o3, .int v5, .ref o6, .int v8, .ref o9, .ref o11, .int v13, .ref o14, .int v16, .ref o17, .int v19, .int v20, .int v21, .ref o22, .ref o24, .ref o26, .ref o28, .ref o30, .int v32, .ref o33, .ref o35, .ref o37, .int v39, .ref o40, .ref o42, .ref o44, .int v46, .ref o47])), (o6, .inl (cI, 12, .inl fw7)), (o33, .inl (cI, 12, .inl f705))]) := hD
                  refine lv_if_eq (tgt := 97) hx hb dX12_isColoured_92 (by decide) (fun h709 => ?_) (fun h709 => ?_)
                  ·
                    have j710 : Iv 0 0 x706 := r_eq h709 ik_0
                    obtain ⟨x711, x711_e⟩ : ∃ z : Int32, z = x652 + 1 := ⟨_, rfl⟩
                    have x711_h : Iv 1 12 x711 := iv_e x711_e (iv_add j655 ik_1 (by decide))
                    refine lv_iinc (v := x711) (lv' := [(3, .int x711), (5, .int x696), (4, .int x697), (0, .ref o1), (1, .int 1), (2, .int a2)]) hx hb dX12_isColoured_97 hl (k := 2) rfl (incN (by decide +kernel) x711_e) (by decide) rfl (fun ls hl => ?_)
                    refine lv_goto (tgt := 12) hx hb dX12_isColoured_100 (by decide) ?_
                    exact ih9 x711 f705 _ _ _ (ms_up x711_e j655 (by decide) hM9) (iv_w x711_h (by decide)) f705_b (co_t e707 (by decide) (co_k f700_e (by decide +kernel) iv9_0)) (fun h8 => absurd h709 (e708 h8)) hP hD hS (lv_sub hl [0, 3, 4, 5] rfl)
                  ·
                    have j712 : Iv 1 1 x706 := r_nelo h709 x706_h ik_0 (by decide)
                    refine lv_iconst (v := 1) hx hb dX12_isColoured_95 (by decide) ?_
                    rw [hQ]
                    exact W.zret (v := 1) (ty := .boolean) hx hb hr rfl (fun t ht hW => ⟨⟨1, f705, rfl, ⟨(iv_w ik_1 (by decide)), f705_b, (co_t e707 (by decide) (co_k f700_e (by decide +kernel) iv9_0)), (fun _ h8 => absurd h8 (by decide +kernel))⟩, by rw [ht]; exact hP, va_K.moved hW.alike hK, hD⟩, hS.F ht⟩) hS.2.2 dX12_isColoured_96
              ·
                have qh698 := nle_i h698
                have j713 : Iv 0 0 x696 := r_ltl qh698 x696_h ik_1 (by decide)
                refine lv_iload hx hb dX12_isColoured_29 (lv_at hl 1 rfl) ?_
                refine lv_if_eq (tgt := 63) hx hb dX12_isColoured_31 (by decide) (fun h714 => ?_) (fun h714 => ?_)
                ·
                  have j715 : Iv 0 0 x697 := r_eq h714 ik_0
                  refine lv_iconst (v := 0) hx hb dX12_isColoured_63 (by decide) ?_
                  refine lv_istore (lv' := [(4, .int 0), (5, .int x696), (3, .int x652), (0, .ref o1), (1, .int 1), (2, .int a2)]) hx hb dX12_isColoured_64 hl (by decide) rfl (fun ls hl => ?_)
                  obtain ⟨x716, x716_e⟩ : ∃ z : Int32, z = x696 + 1 := ⟨_, rfl⟩
                  have x716_h : Iv 1 1 x716 := iv_e x716_e (iv_add j713 ik_1 (by decide))
                  refine lv_iinc (v := x716) (lv' := [(5, .int x716), (4, .int 0), (3, .int x652), (0, .ref o1), (1, .int 1), (2, .int a2)]) hx hb dX12_isColoured_66 hl (k := 1) rfl (incN (by decide +kernel) x716_e) (by decide) rfl (fun ls hl => ?_)
                  refine lv_goto (tgt := 23) hx hb dX12_isColoured_69 (by decide) ?_
                  exact ih10 x716 0 _ _ _ (ms_up x716_e j713 (by decide) hM10) (iv_w x716_h (by decide)) (iv_w ik_0 (by decide)) (fun _ => co_w1 (iv10_0 h714) (iv_w (c := 0) (d := 4095) j713 (by decide)) x716_e) hP hD hS hl
                ·
                  have j717 : Iv 1 1 x697 := r_nelo h714 x697_h ik_0 (by decide)
                  refine lv_aload_n hx hb dX12_isColoured_34 rfl (lv_at hl 3 rfl) ?_
                  refine va_get (D := (dC, dI)) (ci := 12) (v := .ref o6) (C := RX12) (T := TX12) (N := 29) hx hb hts iw_X12_isColoured_X12 hown hK hP 0 rfl rfl 3 (by decide) (hts (.fieldLink RX12 13 "HolelessHouseModel" "near" "[I") hm_X12_isColoured_2) (fun _ h9 => h9) rfl dX12_isColoured_35 ?_
                  refine lv_iload_n hx hb dX12_isColoured_38 rfl (lv_at hl 4 rfl) ?_
                  refine va_iald hx hb hK hP 1 0 rfl rfl (vin_iv ik_1 (by decide)) dX12_isColoured_39 (lv_topi (fun x718 x718_e => ?_))
                  have x718_h : Iv 0 4095 x718 := iv_e x718_e (bd_at fw7_b (vin_iv ik_1 (by decide)))
                  refine lv_iload hx hb dX12_isColoured_40 (lv_at hl 0 rfl) ?_
                  refine kc_i (D := (dC, dI)) (S := Unit) (wc := []) (wr := [(o1, .inr (12, [.int v2, .ref o3, .int v5, .ref o6, .int v8, .ref o9, .ref o11, .int v13, .ref o14, .int v16, .ref o17, .int v19, .int v20, .int v21, .ref o22, .ref o24, .ref o26, .ref o28, .ref o30, .int v32, .ref o33, .ref o35, .ref o37, .int v39, .ref o40, .ref o42, .ref o44, .int v46, .ref o47])), (o6, .inl (cI, 12, .inl fw7)), (o33, .inl (cI, 12, .inl f653))]) (w1 := fun _ => []) (wn := fun _ => [(o1, .inr (12, [.int v2, .ref o3, .int v5, .ref o6, .int v8, .ref o9, .ref o11, .int v13, .ref o14, .int v16, .ref o17, .int v19, .int v20, .int v21, .ref o22, .ref o24, .ref o26, .ref o28, .ref o30, .int v32, .ref o33, .ref o35, .ref o37, .int v39, .ref o40, .ref o42, .ref o44, .int v46, .ref o47])), (o6, .inl (cI, 12, .inl fw7)), (o33, .inl (cI, 12, .inl f653))]) (fun hPc hDc => va_runS (As := [.int x718, .int x696]) (rest := []) ⟨hx, hb, hml, hown, hts⟩ (kX12_has_1 l dC dI cI c2 cZ x718 x696 H.size (iv_w j713 (by decide))) (va_cwS 2 hts gX12_isColoured_X12_has rfl rfl rfl (by decide +kernel) ⟨Nat.le_of_ble_eq_true rfl, Nat.le_of_ble_eq_true rfl⟩) (pre_S hPc hK hDc hN) rfl rfl hl.1 rfl (lv_room (Nat.le_of_ble_eq_true rfl)) dX12_isColoured_42 ⟨Nat.le_of_ble_eq_true rfl, Nat.le_of_ble_eq_true rfl⟩) hP hD hS hA [] [0, 1, 2] [0, 1, 2] rfl rfl (by decide +kernel) (by decide +kernel) (by decide +kernel) (by decide +kernel) (fun _ => rfl) (fun x719 _ H locs hq hP hD hS => ?_)
                  obtain ⟨x719_h, e720⟩ := hq
                  have hP : va_P (dC, dI) vwCl ([(o1, .inr (12, [.int v2, .ref o3, .int v5, .ref o6, .int v8, .ref o9, .ref o11, .int v13, .ref o14, .int v16, .ref o17, .int v19, .int v20, .int v21, .ref o22, .ref o24, .ref o26, .ref o28, .ref o30, .int v32, .ref o33, .ref o35, .ref o37, .int v39, .ref o40, .ref o42, .ref o44, .int v46, .ref o47])), (o6, .inl (cI, 12, .inl fw7)), (o33, .inl (cI, 12, .inl f653))]) H := hP
                  have hD : va_D A ([(o1, .inr (12, [.int v2, .ref o3, .int v5, .ref o6, .int v8, .ref o9, .ref o11, .int v13, .ref o14, .int v16, .ref o17, .int v19, .int v20, .int v21, .ref o22, .ref o24, .ref o26, .ref o28, .ref o30, .int v32, .ref o33, .ref o35, .ref o37, .int v39, .ref o40, .ref o42, .ref o44, .int v46, .ref o47])), (o6, .inl (cI, 12, .inl fw7)), (o33, .inl (cI, 12, .inl f653))]) := hD
                  refine lv_if_eq (tgt := 59) hx hb dX12_isColoured_45 (by decide) (fun h721 => ?_) (fun h721 => ?_)
                  ·
                    have j722 : Iv 0 0 x719 := r_eq h721 ik_0
                    have b723 : bt x718 (Int32.toNatClampNeg x696) = false := has_f e720 h721
                    refine lv_iconst (v := 1) hx hb dX12_isColoured_59 (by decide) ?_
                    refine lv_goto (tgt := 64) hx hb dX12_isColoured_60 (by decide) ?_
                    refine lv_istore (lv' := [(4, .int 1), (5, .int x696), (3, .int x652), (0, .ref o1), (1, .int 1), (2, .int a2)]) hx hb dX12_isColoured_64 hl (by decide) rfl (fun ls hl => ?_)
                    obtain ⟨x724, x724_e⟩ : ∃ z : Int32, z = x696 + 1 := ⟨_, rfl⟩
                    have x724_h : Iv 1 1 x724 := iv_e x724_e (iv_add j713 ik_1 (by decide))
                    refine lv_iinc (v := x724) (lv' := [(5, .int x724), (4, .int 1), (3, .int x652), (0, .ref o1), (1, .int 1), (2, .int a2)]) hx hb dX12_isColoured_66 hl (k := 1) rfl (incN (by decide +kernel) x724_e) (by decide) rfl (fun ls hl => ?_)
                    refine lv_goto (tgt := 23) hx hb dX12_isColoured_69 (by decide) ?_
                    exact ih10 x724 1 _ _ _ (ms_up x724_e j713 (by decide) hM10) (iv_w x724_h (by decide)) (iv_w ik_1 (by decide)) (fun h8 => absurd h8 (by decide +kernel)) hP hD hS hl
                  ·
                    have j725 : Iv 1 1 x719 := r_nelo h721 x719_h ik_0 (by decide)
                    have b726 : bt x718 (Int32.toNatClampNeg x696) = true := has_t e720 h721
                    refine lv_aload_n hx hb dX12_isColoured_48 rfl (lv_at hl 3 rfl) ?_
                    refine va_get (D := (dC, dI)) (ci := 12) (v := .ref o33) (C := RX12) (T := TX12) (N := 29) hx hb hts iw_X12_isColoured_X12 hown hK hP 0 rfl rfl 20 (by decide) (hts (.fieldLink RX12 48 "HolelessHouseModel" "colours" "[I") hm_X12_isColoured_3) (fun _ h9 => h9) rfl dX12_isColoured_49 ?_
                    refine lv_iload hx hb dX12_isColoured_52 (lv_at hl 0 rfl) ?_
                    refine va_iald hx hb hK hP 2 0 rfl rfl (vin_iv j713 (by decide)) dX12_isColoured_54 (lv_topi (fun x727 x727_e => ?_))
                    have x727_h : Iv 0 11 x727 := iv_e x727_e (bd_at f653_b (vin_iv j713 (by decide)))
                    refine lv_iload_n hx hb dX12_isColoured_55 rfl (lv_at hl 2 rfl) ?_
                    refine lv_icmp_eq (tgt := 63) hx hb dX12_isColoured_56 (by decide) (fun h728 => ?_) (fun h728 => ?_)
                    ·
                      refine lv_iconst (v := 0) hx hb dX12_isColoured_63 (by decide) ?_
                      refine lv_istore (lv' := [(4, .int 0), (5, .int x696), (3, .int x652), (0, .ref o1), (1, .int 1), (2, .int a2)]) hx hb dX12_isColoured_64 hl (by decide) rfl (fun ls hl => ?_)
                      obtain ⟨x729, x729_e⟩ : ∃ z : Int32, z = x696 + 1 := ⟨_, rfl⟩
                      have x729_h : Iv 1 1 x729 := iv_e x729_e (iv_add j713 ik_1 (by decide))
                      refine lv_iinc (v := x729) (lv' := [(5, .int x729), (4, .int 0), (3, .int x652), (0, .ref o1), (1, .int 1), (2, .int a2)]) hx hb dX12_isColoured_66 hl (k := 1) rfl (incN (by decide +kernel) x729_e) (by decide) rfl (fun ls hl => ?_)
                      refine lv_goto (tgt := 23) hx hb dX12_isColoured_69 (by decide) ?_
                      exact ih10 x729 0 _ _ _ (ms_up x729_e j713 (by decide) hM10) (iv_w x729_h (by decide)) (iv_w ik_0 (by decide)) (fun _ => co_w2 x727_e h728 (iv_w (c := 0) (d := 4095) j713 (by decide)) x729_e) hP hD hS hl
                    ·
                      refine lv_iconst (v := 1) hx hb dX12_isColoured_59 (by decide) ?_
                      refine lv_goto (tgt := 64) hx hb dX12_isColoured_60 (by decide) ?_
                      refine lv_istore (lv' := [(4, .int 1), (5, .int x696), (3, .int x652), (0, .ref o1), (1, .int 1), (2, .int a2)]) hx hb dX12_isColoured_64 hl (by decide) rfl (fun ls hl => ?_)
                      obtain ⟨x730, x730_e⟩ : ∃ z : Int32, z = x696 + 1 := ⟨_, rfl⟩
                      have x730_h : Iv 1 1 x730 := iv_e x730_e (iv_add j713 ik_1 (by decide))
                      refine lv_iinc (v := x730) (lv' := [(5, .int x730), (4, .int 1), (3, .int x652), (0, .ref o1), (1, .int 1), (2, .int a2)]) hx hb dX12_isColoured_66 hl (k := 1) rfl (incN (by decide +kernel) x730_e) (by decide) rfl (fun ls hl => ?_)
                      refine lv_goto (tgt := 23) hx hb dX12_isColoured_69 (by decide) ?_
                      exact ih10 x730 1 _ _ _ (ms_up x730_e j713 (by decide) hM10) (iv_w x730_h (by decide)) (iv_w ik_1 (by decide)) (fun h8 => absurd h8 (by decide +kernel)) hP hD hS hl
          exact L10 _ 0 1 _ _ _ (Nat.lt_succ_self _) (iv_w ik_0 (by decide)) (iv_w ik_1 (by decide)) co_w0 hP hD hS hl
    exact L9 _ 0 fw34 _ _ _ (Nat.lt_succ_self _) (iv_w ik_0 (by decide)) fw34_b (fun _ _ => rfl) (fun _ => CW_0) hP hD hS hl
  ·
    have j731 : Iv 1 1 v5 := r_eq h1.symm ik_1
    refine lv_iconst (v := 1) hx hb dX12_isColoured_8 (by decide) ?_
    rw [hQ]
    exact W.zret (v := 1) (ty := .boolean) hx hb hr rfl (fun t ht hW => ⟨⟨1, fw34, rfl, ⟨(iv_w ik_1 (by decide)), fw34_b, (fun _ _ => rfl), (fun _ h8 => absurd h8 (by decide +kernel))⟩, by rw [ht]; exact hP, va_K.moved hW.alike hK, hD⟩, hS.F ht⟩) hS.2.2 dX12_isColoured_9
set_option maxHeartbeats 4000000 in
set_option maxRecDepth 100000 in
theorem kX12_isColoured_13 (l : Launch) (dC : Nat → ClassId) (dI : Nat → Nat → Nat) (cI c2 cZ : ClassId) (o1 : Nat) (o3 : Nat) (o6 : Nat) (o9 : Nat) (o11 : Nat) (o14 : Nat) (o17 : Nat) (o22 : Nat) (o24 : Nat) (o26 : Nat) (o28 : Nat) (o30 : Nat) (o33 : Nat) (o35 : Nat) (o37 : Nat) (o40 : Nat) (o42 : Nat) (o44 : Nat) (o47 : Nat) (v2 : Int32) (v5 : Int32) (fw7 : Nat → Int32) (v8 : Int32) (v13 : Int32) (v16 : Int32) (v19 : Int32) (v20 : Int32) (v21 : Int32) (v32 : Int32) (fw34 : Nat → Int32) (v39 : Int32) (v46 : Int32) (a2 : Int32) (sz : Nat) (v5_h : Iv 0 12 v5) (fw7_b : Bd 12 0 4095 fw7) (v8_h : Iv 0 8 v8) (v13_h : Iv 0 12 v13) (v16_h : Iv 0 12 v16) (v19_h : Iv (-9) 12 v19) (v32_h : Iv 0 99 v32) (fw34_b : Bd 12 0 11 fw34) (v39_h : Iv 0 12 v39) (v46_h : Iv 0 12 v46) (a2_h : Iv 0 12 a2) : Met l yX12_isColoured wsX12_isColoured ({ frames := 12, cells := 0, slots := 0, locals := 300 }) (va_Pc [.ref o1, .int 0, .int a2] (wPre (dC, dI) [(cI, .int), (c2, .array .int), (cZ, .boolean)] ([(o1, .inr (12, [.int v2, .ref o3, .int v5, .ref o6, .int v8, .ref o9, .ref o11, .int v13, .ref o14, .int v16, .ref o17, .int v19, .int v20, .int v21, .ref o22, .ref o24, .ref o26, .ref o28, .ref o30, .int v32, .ref o33, .ref o35, .ref o37, .int v39, .ref o40, .ref o42, .ref o44, .int v46, .ref o47])), (o33, .inl (cI, 12, .inl fw34)), (o6, .inl (cI, 12, .inl fw7))]) sz)) (va_Qi (fun (r : Int32) (u : (Nat → Int32)) => Iv 0 1 r ∧ Bd 12 0 11 u ∧ (∀ i8, i8 < 0 → u i8 = fw34 i8) ∧ (Int32.toInt v5 ≤ Int32.toInt a2 → ¬ r = 0)) (fun u t => wPost (dC, dI) [(cI, .int), (c2, .array .int), (cZ, .boolean)] (va_A ([(o1, .inr (12, [.int v2, .ref o3, .int v5, .ref o6, .int v8, .ref o9, .ref o11, .int v13, .ref o14, .int v16, .ref o17, .int v19, .int v20, .int v21, .ref o22, .ref o24, .ref o26, .ref o28, .ref o30, .int v32, .ref o33, .ref o35, .ref o37, .int v39, .ref o40, .ref o42, .ref o44, .int v46, .ref o47])), (o33, .inl (cI, 12, .inl fw34)), (o6, .inl (cI, 12, .inl fw7))]) sz) ([(o1, .inr (12, [.int v2, .ref o3, .int v5, .ref o6, .int v8, .ref o9, .ref o11, .int v13, .ref o14, .int v16, .ref o17, .int v19, .int v20, .int v21, .ref o22, .ref o24, .ref o26, .ref o28, .ref o30, .int v32, .ref o33, .ref o35, .ref o37, .int v39, .ref o40, .ref o42, .ref o44, .int v46, .ref o47])), (o33, .inl (cI, 12, .inl u)), (o6, .inl (cI, 12, .inl fw7))]) t) (va_A ([(o1, .inr (12, [.int v2, .ref o3, .int v5, .ref o6, .int v8, .ref o9, .ref o11, .int v13, .ref o14, .int v16, .ref o17, .int v19, .int v20, .int v21, .ref o22, .ref o24, .ref o26, .ref o28, .ref o30, .int v32, .ref o33, .ref o35, .ref o37, .int v39, .ref o40, .ref o42, .ref o44, .int v46, .ref o47])), (o33, .inl (cI, 12, .inl fw34)), (o6, .inl (cI, 12, .inl fw7))]) sz)) 0 0 (va_A ([(o1, .inr (12, [.int v2, .ref o3, .int v5, .ref o6, .int v8, .ref o9, .ref o11, .int v13, .ref o14, .int v16, .ref o17, .int v19, .int v20, .int v21, .ref o22, .ref o24, .ref o26, .ref o28, .ref o30, .int v32, .ref o33, .ref o35, .ref o37, .int v39, .ref o40, .ref o42, .ref o44, .int v46, .ref o47])), (o33, .inl (cI, 12, .inl fw34)), (o6, .inl (cI, 12, .inl fw7))]) sz) := by
  refine Met.ofW (cc := cX12_isColoured) (maxL := 6) (ret := (some .boolean)) (by decide) rfl ?_
  intro p e s m args below meth c s₁ B hml hv
  obtain ⟨rfl, hsz, hP, hK, hD0, hN⟩ := hv
  have hx := B.exec
  have hb := B.bytes
  have hr := B.returns
  have hts := atoms_spec (ws := wsX12_isColoured) B.pre
  have hown : s.vm.findClass RX12 = some m.cls := findClass_of_methodNamed B.named
  have hlocks := B.notSynchronized
  subst hsz
  have hD := hD0.self (sz := s.heap.size)
  generalize hAe : va_A ([(o1, .inr (12, [.int v2, .ref o3, .int v5, .ref o6, .int v8, .ref o9, .ref o11, .int v13, .ref o14, .int v16, .ref o17, .int v19, .int v20, .int v21, .ref o22, .ref o24, .ref o26, .ref o28, .ref o30, .int v32, .ref o33, .ref o35, .ref o37, .int v39, .ref o40, .ref o42, .ref o44, .int v46, .ref o47])), (o33, .inl (cI, 12, .inl fw34)), (o6, .inl (cI, 12, .inl fw7))]) s.heap.size = A at hD ⊢
  have hA : ∀ q : Nat, s.heap.size ≤ q → A q := fun q h => by rw [← hAe]; exact Or.inr h
  have hS : va_S A s.heap s.heap [] := va_S.rf
  have hP : va_P (dC, dI) vwCl ([(o1, .inr (12, [.int v2, .ref o3, .int v5, .ref o6, .int v8, .ref o9, .ref o11, .int v13, .ref o14, .int v16, .ref o17, .int v19, .int v20, .int v21, .ref o22, .ref o24, .ref o26, .ref o28, .ref o30, .int v32, .ref o33, .ref o35, .ref o37, .int v39, .ref o40, .ref o42, .ref o44, .int v46, .ref o47])), (o33, .inl (cI, 12, .inl fw34)), (o6, .inl (cI, 12, .inl fw7))]) s.heap := hP
  have hl := lv_entry ([.ref o1, .int 0, .int a2]) (n := 6) (Nat.le_of_ble_eq_true rfl)
  rw [lg_entry_eq]
  generalize (lg_sl ([.ref o1, .int 0, .int a2]) ++ List.replicate (6 - (lg_sl ([.ref o1, .int 0, .int a2])).length) Slot.unset).toArray = ls at hl ⊢
  have hl : lv_has ls 6 [(0, .ref o1), (1, .int 0), (2, .int a2)] := hl
  refine gen_Q (fun Q hQ => ?_)
  refine lv_iload_n hx hb dX12_isColoured_0 rfl (lv_at hl 1 rfl) ?_
  refine lv_aload_n hx hb dX12_isColoured_1 rfl (lv_at hl 0 rfl) ?_
  refine va_get (D := (dC, dI)) (ci := 12) (v := .int v5) (C := RX12) (T := TX12) (N := 29) hx hb hts iw_X12_isColoured_X12 hown hK hP 0 rfl rfl 2 (by decide) (hts (.fieldLink RX12 73 "HolelessHouseModel" "n" "I") hm_X12_isColoured_1) (fun _ h9 => h9) rfl dX12_isColoured_2 ?_
  refine lv_icmp_ne (tgt := 10) hx hb dX12_isColoured_5 (by decide) (fun h1 => ?_) (fun h1 => ?_)
  ·
    have j2 : Iv 1 12 v5 := r_nelo (fun q => h1 q.symm) v5_h ik_0 (by decide)
    refine lv_iconst (v := 0) hx hb dX12_isColoured_10 (by decide) ?_
    refine lv_istore_n (lv' := [(3, .int 0), (0, .ref o1), (1, .int 0), (2, .int a2)]) hx hb dX12_isColoured_11 rfl hl (by decide) rfl (fun ls hl => ?_)
    have L1 : ∀ (N : Nat) (x120 : Int32) (f121 : Nat → Int32) (H : Heap) (locs : List Loc) (ls : Array Slot), (12 - x120.toInt).toNat < N → Iv 0 12 x120 → Bd 12 0 11 f121 → (∀ i8, i8 < 0 → f121 i8 = fw34 i8) → (Int32.toInt v5 ≤ Int32.toInt a2 → CW fw34 0 (Int32.toNatClampNeg x120)) → va_P (dC, dI) vwCl ([(o1, .inr (12, [.int v2, .ref o3, .int v5, .ref o6, .int v8, .ref o9, .ref o11, .int v13, .ref o14, .int v16, .ref o17, .int v19, .int v20, .int v21, .ref o22, .ref o24, .ref o26, .ref o28, .ref o30, .int v32, .ref o33, .ref o35, .ref o37, .int v39, .ref o40, .ref o42, .ref o44, .int v46, .ref o47])), (o33, .inl (cI, 12, .inl f121)), (o6, .inl (cI, 12, .inl fw7))]) H → va_D A ([(o1, .inr (12, [.int v2, .ref o3, .int v5, .ref o6, .int v8, .ref o9, .ref o11, .int v13, .ref o14, .int v16, .ref o17, .int v19, .int v20, .int v21, .ref o22, .ref o24, .ref o26, .ref o28, .ref o30, .int v32, .ref o33, .ref o35, .ref o37, .int v39, .ref o40, .ref o42, .ref o44, .int v46, .ref o47])), (o33, .inl (cI, 12, .inl f121)), (o6, .inl (cI, 12, .inl fw7))]) → va_S A s.heap H locs → lv_has ls 6 [(3, .int x120), (0, .ref o1), (1, .int 0), (2, .int a2)] → W p l e ({ frames := 12, cells := 0, slots := 0, locals := 300 }) s m ([.ref o1, .int 0, .int a2] : List Value).toArray below meth c H locs 0 0 Q (F0 m 12 ls []) := by
      intro N
      induction N with
      | zero =>
        intro x120 f121 H locs ls hM
        exact absurd hM (Nat.not_lt_zero _)
      | succ N ih1 =>
        intro x120 f121 H locs ls hM1 x120_h f121_b iv1_0 iv1_1 hP hD hS hl
        refine lv_iload_n hx hb dX12_isColoured_12 rfl (lv_at hl 0 rfl) ?_
        refine lv_iload_n hx hb dX12_isColoured_13 rfl (lv_at hl 3 rfl) ?_
        refine lv_icmp_ge (tgt := 103) hx hb dX12_isColoured_14 (by decide) (fun h122 => ?_) (fun h122 => ?_)
        ·
          have qh122 := le_i h122
          refine lv_iconst (v := 0) hx hb dX12_isColoured_103 (by decide) ?_
          rw [hQ]
          exact W.zret (v := 0) (ty := .boolean) hx hb hr rfl (fun t ht hW => ⟨⟨0, f121, rfl, ⟨(iv_w ik_0 (by decide)), f121_b, iv1_0, (fun h8 => (co_no (iv1_1 h8) qh122 a2_h h8 (show (0 : Int) + 1 ≤ _ from (show _ ≤ _ ∧ _ ≤ _ from j2).1)).elim)⟩, by rw [ht]; exact hP, va_K.moved hW.alike hK, hD⟩, hS.F ht⟩) hS.2.2 dX12_isColoured_104
        ·
          have qh122 := nle_i h122
          have j123 : Iv 0 11 x120 := r_ltl qh122 x120_h a2_h (by decide)
          have j124 : Iv 1 12 a2 := r_ltr qh122 x120_h a2_h (by decide)
          refine lv_iconst (v := 1) hx hb dX12_isColoured_17 (by decide) ?_
          refine lv_istore (lv' := [(4, .int 1), (3, .int x120), (0, .ref o1), (1, .int 0), (2, .int a2)]) hx hb dX12_isColoured_18 hl (by decide) rfl (fun ls hl => ?_)
          refine lv_iconst (v := 0) hx hb dX12_isColoured_20 (by decide) ?_
          refine lv_istore (lv' := [(5, .int 0), (4, .int 1), (3, .int x120), (0, .ref o1), (1, .int 0), (2, .int a2)]) hx hb dX12_isColoured_21 hl (by decide) rfl (fun ls hl => ?_)
          refine lv_iload hx hb dX12_isColoured_23 (lv_at hl 0 rfl) ?_
          refine lv_iload_n hx hb dX12_isColoured_25 rfl (lv_at hl 4 rfl) ?_
          refine lv_icmp_ge (tgt := 72) hx hb dX12_isColoured_26 (by decide) (fun _ => ?_) (fun h9 => absurd (by decide +kernel) h9)
          refine lv_aload_n hx hb dX12_isColoured_72 rfl (lv_at hl 3 rfl) ?_
          refine va_get (D := (dC, dI)) (ci := 12) (v := .ref o33) (C := RX12) (T := TX12) (N := 29) hx hb hts iw_X12_isColoured_X12 hown hK hP 0 rfl rfl 20 (by decide) (hts (.fieldLink RX12 48 "HolelessHouseModel" "colours" "[I") hm_X12_isColoured_3) (fun _ h9 => h9) rfl dX12_isColoured_73 ?_
          refine lv_iload_n hx hb dX12_isColoured_76 rfl (lv_at hl 4 rfl) ?_
          refine lv_iload_n hx hb dX12_isColoured_77 rfl (lv_at hl 2 rfl) ?_
          refine k_iast hx hb hK hP hD hS 1 0 rfl rfl (vin_iv ik_0 (by decide)) dX12_isColoured_78 (fun f126 H locs f126_e hP hD hS => ?_)
          have f126_b : Bd 12 0 11 f126 := bd_upd f126_e f121_b j123 (by decide)
          have hP : va_P (dC, dI) vwCl ([(o1, .inr (12, [.int v2, .ref o3, .int v5, .ref o6, .int v8, .ref o9, .ref o11, .int v13, .ref o14, .int v16, .ref o17, .int v19, .int v20, .int v21, .ref o22, .ref o24, .ref o26, .ref o28, .ref o30, .int v32, .ref o33, .ref o35, .ref o37, .int v39, .ref o40, .ref o42, .ref o44, .int v46, .ref o47])), (o33, .inl (cI, 12, .inl f126)), (o6, .inl (cI, 12, .inl fw7))]) H := hP
          have hD : va_D A ([(o1, .inr (12, [.int v2, .ref o3, .int v5, .ref o6, .int v8, .ref o9, .ref o11, .int v13, .ref o14, .int v16, .ref o17, .int v19, .int v20, .int v21, .ref o22, .ref o24, .ref o26, .ref o28, .ref o30, .int v32, .ref o33, .ref o35, .ref o37, .int v39, .ref o40, .ref o42, .ref o44, .int v46, .ref o47])), (o33, .inl (cI, 12, .inl f126)), (o6, .inl (cI, 12, .inl fw7))]) := hD
          refine lv_iload hx hb dX12_isColoured_79 (lv_at hl 1 rfl) ?_
          refine lv_if_eq (tgt := 97) hx hb dX12_isColoured_81 (by decide) (fun h9 => absurd h9 (by decide +kernel)) (fun _ => ?_)
          refine lv_aload_n hx hb dX12_isColoured_84 rfl (lv_at hl 3 rfl) ?_
          refine lv_iload_n hx hb dX12_isColoured_85 rfl (lv_at hl 4 rfl) ?_
          refine lv_iconst (v := 1) hx hb dX12_isColoured_86 (by decide) ?_
          refine lv_iadd hx hb dX12_isColoured_87 (tk_i (v := 1) (by decide +kernel) ?_)
          refine lv_iload_n hx hb dX12_isColoured_88 rfl (lv_at hl 5 rfl) ?_
          refine kc_i (D := (dC, dI)) (S := (Nat → Int32)) (wc := [(o1, .inr (12, [.int v2, .ref o3, .int v5, .ref o6, .int v8, .ref o9, .ref o11, .int v13, .ref o14, .int v16, .ref o17, .int v19, .int v20, .int v21, .ref o22, .ref o24, .ref o26, .ref o28, .ref o30, .int v32, .ref o33, .ref o35, .ref o37, .int v39, .ref o40, .ref o42, .ref o44, .int v46, .ref o47])), (o6, .inl (cI, 12, .inl fw7)), (o33, .inl (cI, 12, .inl f126))]) (wr := []) (w1 := fun u => [(o1, .inr (12, [.int v2, .ref o3, .int v5, .ref o6, .int v8, .ref o9, .ref o11, .int v13, .ref o14, .int v16, .ref o17, .int v19, .int v20, .int v21, .ref o22, .ref o24, .ref o26, .ref o28, .ref o30, .int v32, .ref o33, .ref o35, .ref o37, .int v39, .ref o40, .ref o42, .ref o44, .int v46, .ref o47])), (o6, .inl (cI, 12, .inl fw7)), (o33, .inl (cI, 12, .inl u))]) (wn := fun u => [(o1, .inr (12, [.int v2, .ref o3, .int v5, .ref o6, .int v8, .ref o9, .ref o11, .int v13, .ref o14, .int v16, .ref o17, .int v19, .int v20, .int v21, .ref o22, .ref o24, .ref o26, .ref o28, .ref o30, .int v32, .ref o33, .ref o35, .ref o37, .int v39, .ref o40, .ref o42, .ref o44, .int v46, .ref o47])), (o33, .inl (cI, 12, .inl u)), (o6, .inl (cI, 12, .inl fw7))]) (fun hPc hDc => va_runV (As := [.int 1, .int a2]) (rest := []) ⟨hx, hb, hml, hown, hts⟩ (kX12_isColoured_12 l dC dI cI c2 cZ o1 o3 o6 o9 o11 o14 o17 o22 o24 o26 o28 o30 o33 o35 o37 o40 o42 o44 o47 v2 v5 fw7 v8 v13 v16 v19 v20 v21 v32 f126 v39 v46 a2 H.size j2 fw7_b v8_h v13_h v16_h v19_h v32_h f126_b v39_h v46_h (iv_w j124 (by decide))) (cwV 2 hts gX12_isColoured_X12_isColoured rfl rfl rfl (by decide +kernel) ⟨Nat.le_of_ble_eq_true rfl, Nat.le_of_ble_eq_true rfl⟩) (pre_V hPc hK hDc hN (ci := 12) (q0 := 0) rfl rfl) rfl rfl hl.1 rfl (lv_room (Nat.le_of_ble_eq_true rfl)) dX12_isColoured_89 ⟨Nat.le_of_ble_eq_true rfl, Nat.le_of_ble_eq_true rfl⟩) hP hD hS hA [0, 2, 1] [] [0, 2, 1] rfl rfl (by decide +kernel) (by decide +kernel) (by decide +kernel) (by decide +kernel) (fun _ => rfl) (fun x128 f127 H locs hq hP hD hS => ?_)
          obtain ⟨x128_h, f127_b, e129, e130⟩ := hq
          have hP : va_P (dC, dI) vwCl ([(o1, .inr (12, [.int v2, .ref o3, .int v5, .ref o6, .int v8, .ref o9, .ref o11, .int v13, .ref o14, .int v16, .ref o17, .int v19, .int v20, .int v21, .ref o22, .ref o24, .ref o26, .ref o28, .ref o30, .int v32, .ref o33, .ref o35, .ref o37, .int v39, .ref o40, .ref o42, .ref o44, .int v46, .ref o47])), (o33, .inl (cI, 12, .inl f127)), (o6, .inl (cI, 12, .inl fw7))]) H := hP
          have hD : va_D A ([(o1, .inr (12, [.int v2, .ref o3, .int v5, .ref o6, .int v8, .ref o9, .ref o11, .int v13, .ref o14, .int v16, .ref o17, .int v19, .int v20, .int v21, .ref o22, .ref o24, .ref o26, .ref o28, .ref o30, .int v32, .ref o33, .ref o35, .ref o37, .int v39, .ref o40, .ref o42, .ref o44, .int v46, .ref o47])), (o33, .inl (cI, 12, .inl f127)), (o6, .inl (cI, 12, .inl fw7))]) := hD
          refine lv_if_eq (tgt := 97) hx hb dX12_isColoured_92 (by decide) (fun h131 => ?_) (fun h131 => ?_)
          ·
            have j132 : Iv 0 0 x128 := r_eq h131 ik_0
            obtain ⟨x133, x133_e⟩ : ∃ z : Int32, z = x120 + 1 := ⟨_, rfl⟩
            have x133_h : Iv 1 12 x133 := iv_e x133_e (iv_add j123 ik_1 (by decide))
            refine lv_iinc (v := x133) (lv' := [(3, .int x133), (5, .int 0), (4, .int 1), (0, .ref o1), (1, .int 0), (2, .int a2)]) hx hb dX12_isColoured_97 hl (k := 2) rfl (incN (by decide +kernel) x133_e) (by decide) rfl (fun ls hl => ?_)
            refine lv_goto (tgt := 12) hx hb dX12_isColoured_100 (by decide) ?_
            exact ih1 x133 f127 _ _ _ (ms_up x133_e j123 (by decide) hM1) (iv_w x133_h (by decide)) f127_b (co_t e129 (by decide) (co_k f126_e (by decide +kernel) iv1_0)) (fun h8 => absurd h131 (e130 h8)) hP hD hS (lv_sub hl [0, 3, 4, 5] rfl)
          ·
            have j134 : Iv 1 1 x128 := r_nelo h131 x128_h ik_0 (by decide)
            refine lv_iconst (v := 1) hx hb dX12_isColoured_95 (by decide) ?_
            rw [hQ]
            exact W.zret (v := 1) (ty := .boolean) hx hb hr rfl (fun t ht hW => ⟨⟨1, f127, rfl, ⟨(iv_w ik_1 (by decide)), f127_b, (co_t e129 (by decide) (co_k f126_e (by decide +kernel) iv1_0)), (fun _ h8 => absurd h8 (by decide +kernel))⟩, by rw [ht]; exact hP, va_K.moved hW.alike hK, hD⟩, hS.F ht⟩) hS.2.2 dX12_isColoured_96
    exact L1 _ 0 fw34 _ _ _ (Nat.lt_succ_self _) (iv_w ik_0 (by decide)) fw34_b (fun _ _ => rfl) (fun _ => CW_0) hP hD hS hl
  ·
    have j135 : Iv 0 0 v5 := r_eq h1.symm ik_0
    refine lv_iconst (v := 1) hx hb dX12_isColoured_8 (by decide) ?_
    rw [hQ]
    exact W.zret (v := 1) (ty := .boolean) hx hb hr rfl (fun t ht hW => ⟨⟨1, fw34, rfl, ⟨(iv_w ik_1 (by decide)), fw34_b, (fun _ _ => rfl), (fun _ h8 => absurd h8 (by decide +kernel))⟩, by rw [ht]; exact hP, va_K.moved hW.alike hK, hD⟩, hS.F ht⟩) hS.2.2 dX12_isColoured_9
theorem iw_X12_colour_X12 : ∀ w ∈ wsX120, w ∈ wsX12_colour := fun _ h => List.mem_cons.mpr (Or.inr (List.mem_append.mpr (Or.inr h)))
set_option maxHeartbeats 4000000 in
set_option maxRecDepth 100000 in
theorem kX12_colour_1 (l : Launch) (dC : Nat → ClassId) (dI : Nat → Nat → Nat) (cI c2 cZ : ClassId) (o1 : Nat) (o3 : Nat) (o6 : Nat) (o9 : Nat) (o11 : Nat) (o14 : Nat) (o17 : Nat) (o22 : Nat) (o24 : Nat) (o26 : Nat) (o28 : Nat) (o30 : Nat) (o33 : Nat) (o35 : Nat) (o37 : Nat) (o40 : Nat) (o42 : Nat) (o44 : Nat) (o47 : Nat) (v2 : Int32) (v5 : Int32) (fw7 : Nat → Int32) (v8 : Int32) (v13 : Int32) (v16 : Int32) (v19 : Int32) (v20 : Int32) (v21 : Int32) (v32 : Int32) (fw34 : Nat → Int32) (v39 : Int32) (v46 : Int32) (a1 : Int32) (sz : Nat) (v5_h : Iv 0 12 v5) (fw7_b : Bd 12 0 4095 fw7) (v8_h : Iv 0 8 v8) (v13_h : Iv 0 12 v13) (v16_h : Iv 0 12 v16) (v19_h : Iv (-9) 12 v19) (v32_h : Iv 0 99 v32) (fw34_b : Bd 12 0 11 fw34) (v39_h : Iv 0 12 v39) (v46_h : Iv 0 12 v46) : Met l yX12_colour wsX12_colour ({ frames := 13, cells := 0, slots := 0, locals := 325 }) (va_Pc [.ref o1, .int a1] (wPre (dC, dI) [(cI, .int), (c2, .array .int), (cZ, .boolean)] ([(o1, .inr (12, [.int v2, .ref o3, .int v5, .ref o6, .int v8, .ref o9, .ref o11, .int v13, .ref o14, .int v16, .ref o17, .int v19, .int v20, .int v21, .ref o22, .ref o24, .ref o26, .ref o28, .ref o30, .int v32, .ref o33, .ref o35, .ref o37, .int v39, .ref o40, .ref o42, .ref o44, .int v46, .ref o47])), (o33, .inl (cI, 12, .inl fw34)), (o6, .inl (cI, 12, .inl fw7))]) sz)) (va_Qi (fun (r : Int32) (u : (Nat → Int32)) => Iv (-1) 12 r ∧ Bd 12 0 11 u) (fun u t => wPost (dC, dI) [(cI, .int), (c2, .array .int), (cZ, .boolean)] (va_A ([(o1, .inr (12, [.int v2, .ref o3, .int v5, .ref o6, .int v8, .ref o9, .ref o11, .int v13, .ref o14, .int v16, .ref o17, .int v19, .int v20, .int v21, .ref o22, .ref o24, .ref o26, .ref o28, .ref o30, .int v32, .ref o33, .ref o35, .ref o37, .int v39, .ref o40, .ref o42, .ref o44, .int v46, .ref o47])), (o33, .inl (cI, 12, .inl fw34)), (o6, .inl (cI, 12, .inl fw7))]) sz) ([(o1, .inr (12, [.int v2, .ref o3, .int v5, .ref o6, .int v8, .ref o9, .ref o11, .int v13, .ref o14, .int v16, .ref o17, .int v19, .int v20, .int v21, .ref o22, .ref o24, .ref o26, .ref o28, .ref o30, .int v32, .ref o33, .ref o35, .ref o37, .int v39, .ref o40, .ref o42, .ref o44, .int v46, .ref o47])), (o33, .inl (cI, 12, .inl u)), (o6, .inl (cI, 12, .inl fw7))]) t) (va_A ([(o1, .inr (12, [.int v2, .ref o3, .int v5, .ref o6, .int v8, .ref o9, .ref o11, .int v13, .ref o14, .int v16, .ref o17, .int v19, .int v20, .int v21, .ref o22, .ref o24, .ref o26, .ref o28, .ref o30, .int v32, .ref o33, .ref o35, .ref o37, .int v39, .ref o40, .ref o42, .ref o44, .int v46, .ref o47])), (o33, .inl (cI, 12, .inl fw34)), (o6, .inl (cI, 12, .inl fw7))]) sz)) 0 0 (va_A ([(o1, .inr (12, [.int v2, .ref o3, .int v5, .ref o6, .int v8, .ref o9, .ref o11, .int v13, .ref o14, .int v16, .ref o17, .int v19, .int v20, .int v21, .ref o22, .ref o24, .ref o26, .ref o28, .ref o30, .int v32, .ref o33, .ref o35, .ref o37, .int v39, .ref o40, .ref o42, .ref o44, .int v46, .ref o47])), (o33, .inl (cI, 12, .inl fw34)), (o6, .inl (cI, 12, .inl fw7))]) sz) := by
  refine Met.ofW (cc := cX12_colour) (maxL := 3) (ret := (some .int)) (by decide) rfl ?_
  intro p e s m args below meth c s₁ B hml hv
  obtain ⟨rfl, hsz, hP, hK, hD0, hN⟩ := hv
  have hx := B.exec
  have hb := B.bytes
  have hr := B.returns
  have hts := atoms_spec (ws := wsX12_colour) B.pre
  have hown : s.vm.findClass RX12 = some m.cls := findClass_of_methodNamed B.named
  have hlocks := B.notSynchronized
  subst hsz
  have hD := hD0.self (sz := s.heap.size)
  generalize hAe : va_A ([(o1, .inr (12, [.int v2, .ref o3, .int v5, .ref o6, .int v8, .ref o9, .ref o11, .int v13, .ref o14, .int v16, .ref o17, .int v19, .int v20, .int v21, .ref o22, .ref o24, .ref o26, .ref o28, .ref o30, .int v32, .ref o33, .ref o35, .ref o37, .int v39, .ref o40, .ref o42, .ref o44, .int v46, .ref o47])), (o33, .inl (cI, 12, .inl fw34)), (o6, .inl (cI, 12, .inl fw7))]) s.heap.size = A at hD ⊢
  have hA : ∀ q : Nat, s.heap.size ≤ q → A q := fun q h => by rw [← hAe]; exact Or.inr h
  have hS : va_S A s.heap s.heap [] := va_S.rf
  have hP : va_P (dC, dI) vwCl ([(o1, .inr (12, [.int v2, .ref o3, .int v5, .ref o6, .int v8, .ref o9, .ref o11, .int v13, .ref o14, .int v16, .ref o17, .int v19, .int v20, .int v21, .ref o22, .ref o24, .ref o26, .ref o28, .ref o30, .int v32, .ref o33, .ref o35, .ref o37, .int v39, .ref o40, .ref o42, .ref o44, .int v46, .ref o47])), (o33, .inl (cI, 12, .inl fw34)), (o6, .inl (cI, 12, .inl fw7))]) s.heap := hP
  have hl := lv_entry ([.ref o1, .int a1]) (n := 3) (Nat.le_of_ble_eq_true rfl)
  rw [lg_entry_eq]
  generalize (lg_sl ([.ref o1, .int a1]) ++ List.replicate (3 - (lg_sl ([.ref o1, .int a1])).length) Slot.unset).toArray = ls at hl ⊢
  have hl : lv_has ls 3 [(0, .ref o1), (1, .int a1)] := hl
  refine gen_Q (fun Q hQ => ?_)
  refine lv_iload_n hx hb dX12_colour_0 rfl (lv_at hl 1 rfl) ?_
  refine lv_iconst (v := (-1)) hx hb dX12_colour_1 (by decide) ?_
  refine lv_icmp_eq (tgt := 15) hx hb dX12_colour_2 (by decide) (fun h1 => ?_) (fun h1 => ?_)
  ·
    have j2 : Iv (-1) (-1) a1 := r_eq h1 ikm_1
    refine lv_iconst (v := 0) hx hb dX12_colour_15 (by decide) ?_
    refine lv_istore_n (lv' := [(2, .int 0), (0, .ref o1), (1, .int a1)]) hx hb dX12_colour_16 rfl hl (by decide) rfl (fun ls hl => ?_)
    have L1 : ∀ (N : Nat) (x32 : Int32) (f33 : Nat → Int32) (H : Heap) (locs : List Loc) (ls : Array Slot), (12 - x32.toInt).toNat < N → Iv 0 12 x32 → Bd 12 0 11 f33 → va_P (dC, dI) vwCl ([(o1, .inr (12, [.int v2, .ref o3, .int v5, .ref o6, .int v8, .ref o9, .ref o11, .int v13, .ref o14, .int v16, .ref o17, .int v19, .int v20, .int v21, .ref o22, .ref o24, .ref o26, .ref o28, .ref o30, .int v32, .ref o33, .ref o35, .ref o37, .int v39, .ref o40, .ref o42, .ref o44, .int v46, .ref o47])), (o33, .inl (cI, 12, .inl f33)), (o6, .inl (cI, 12, .inl fw7))]) H → va_D A ([(o1, .inr (12, [.int v2, .ref o3, .int v5, .ref o6, .int v8, .ref o9, .ref o11, .int v13, .ref o14, .int v16, .ref o17, .int v19, .int v20, .int v21, .ref o22, .ref o24, .ref o26, .ref o28, .ref o30, .int v32, .ref o33, .ref o35, .ref o37, .int v39, .ref o40, .ref o42, .ref o44, .int v46, .ref o47])), (o33, .inl (cI, 12, .inl f33)), (o6, .inl (cI, 12, .inl fw7))]) → va_S A s.heap H locs → lv_has ls 3 [(2, .int x32), (0, .ref o1), (1, .int a1)] → W p l e ({ frames := 13, cells := 0, slots := 0, locals := 325 }) s m ([.ref o1, .int a1] : List Value).toArray below meth c H locs 0 0 Q (F0 m 17 ls []) := by
      intro N
      induction N with
      | zero =>
        intro x32 f33 H locs ls hM
        exact absurd hM (Nat.not_lt_zero _)
      | succ N ih1 =>
        intro x32 f33 H locs ls hM1 x32_h f33_b hP hD hS hl
        refine lv_aload_n hx hb dX12_colour_17 rfl (lv_at hl 1 rfl) ?_
        refine lv_iconst (v := 0) hx hb dX12_colour_18 (by decide) ?_
        refine lv_iload_n hx hb dX12_colour_19 rfl (lv_at hl 0 rfl) ?_
        refine kc_i (D := (dC, dI)) (S := (Nat → Int32)) (wc := [(o1, .inr (12, [.int v2, .ref o3, .int v5, .ref o6, .int v8, .ref o9, .ref o11, .int v13, .ref o14, .int v16, .ref o17, .int v19, .int v20, .int v21, .ref o22, .ref o24, .ref o26, .ref o28, .ref o30, .int v32, .ref o33, .ref o35, .ref o37, .int v39, .ref o40, .ref o42, .ref o44, .int v46, .ref o47])), (o33, .inl (cI, 12, .inl f33)), (o6, .inl (cI, 12, .inl fw7))]) (wr := []) (w1 := fun u => [(o1, .inr (12, [.int v2, .ref o3, .int v5, .ref o6, .int v8, .ref o9, .ref o11, .int v13, .ref o14, .int v16, .ref o17, .int v19, .int v20, .int v21, .ref o22, .ref o24, .ref o26, .ref o28, .ref o30, .int v32, .ref o33, .ref o35, .ref o37, .int v39, .ref o40, .ref o42, .ref o44, .int v46, .ref o47])), (o33, .inl (cI, 12, .inl u)), (o6, .inl (cI, 12, .inl fw7))]) (wn := fun u => [(o1, .inr (12, [.int v2, .ref o3, .int v5, .ref o6, .int v8, .ref o9, .ref o11, .int v13, .ref o14, .int v16, .ref o17, .int v19, .int v20, .int v21, .ref o22, .ref o24, .ref o26, .ref o28, .ref o30, .int v32, .ref o33, .ref o35, .ref o37, .int v39, .ref o40, .ref o42, .ref o44, .int v46, .ref o47])), (o33, .inl (cI, 12, .inl u)), (o6, .inl (cI, 12, .inl fw7))]) (fun hPc hDc => va_runV (As := [.int 0, .int x32]) (rest := []) ⟨hx, hb, hml, hown, hts⟩ (kX12_isColoured_13 l dC dI cI c2 cZ o1 o3 o6 o9 o11 o14 o17 o22 o24 o26 o28 o30 o33 o35 o37 o40 o42 o44 o47 v2 v5 fw7 v8 v13 v16 v19 v20 v21 v32 f33 v39 v46 x32 H.size v5_h fw7_b v8_h v13_h v16_h v19_h v32_h f33_b v39_h v46_h x32_h) (cwV 2 hts gX12_colour_X12_isColoured rfl rfl rfl (by decide +kernel) ⟨Nat.le_of_ble_eq_true rfl, Nat.le_of_ble_eq_true rfl⟩) (pre_V hPc hK hDc hN (ci := 12) (q0 := 0) rfl rfl) rfl rfl hl.1 rfl (lv_room (Nat.le_of_ble_eq_true rfl)) dX12_colour_20 ⟨Nat.le_of_ble_eq_true rfl, Nat.le_of_ble_eq_true rfl⟩) hP hD hS hA [0, 1, 2] [] [0, 1, 2] rfl rfl (by decide +kernel) (by decide +kernel) (by decide +kernel) (by decide +kernel) (fun _ => rfl) (fun x35 f34 H locs hq hP hD hS => ?_)
        obtain ⟨x35_h, f34_b, e36, e37⟩ := hq
        have hP : va_P (dC, dI) vwCl ([(o1, .inr (12, [.int v2, .ref o3, .int v5, .ref o6, .int v8, .ref o9, .ref o11, .int v13, .ref o14, .int v16, .ref o17, .int v19, .int v20, .int v21, .ref o22, .ref o24, .ref o26, .ref o28, .ref o30, .int v32, .ref o33, .ref o35, .ref o37, .int v39, .ref o40, .ref o42, .ref o44, .int v46, .ref o47])), (o33, .inl (cI, 12, .inl f34)), (o6, .inl (cI, 12, .inl fw7))]) H := hP
        have hD : va_D A ([(o1, .inr (12, [.int v2, .ref o3, .int v5, .ref o6, .int v8, .ref o9, .ref o11, .int v13, .ref o14, .int v16, .ref o17, .int v19, .int v20, .int v21, .ref o22, .ref o24, .ref o26, .ref o28, .ref o30, .int v32, .ref o33, .ref o35, .ref o37, .int v39, .ref o40, .ref o42, .ref o44, .int v46, .ref o47])), (o33, .inl (cI, 12, .inl f34)), (o6, .inl (cI, 12, .inl fw7))]) := hD
        refine lv_if_ne (tgt := 32) hx hb dX12_colour_23 (by decide) (fun h38 => ?_) (fun h38 => ?_)
        ·
          have j39 : Iv 1 1 x35 := r_nelo h38 x35_h ik_0 (by decide)
          refine lv_iload_n hx hb dX12_colour_32 rfl (lv_at hl 2 rfl) ?_
          refine lv_iconst (v := (-1)) hx hb dX12_colour_33 (by decide) ?_
          refine lv_icmp_ne (tgt := 41) hx hb dX12_colour_34 (by decide) (fun h9 => absurd (d_eq j2 ikm_1) h9) (fun _ => ?_)
          refine lv_iload_n hx hb dX12_colour_37 rfl (lv_at hl 0 rfl) ?_
          refine lv_goto (tgt := 47) hx hb dX12_colour_38 (by decide) ?_
          rw [hQ]
          exact W.iret (v := x32) hx hb hr (fun t ht hW => ⟨⟨x32, f34, rfl, ⟨(iv_w x32_h (by decide)), f34_b⟩, by rw [ht]; exact hP, va_K.moved hW.alike hK, hD⟩, hS.F ht⟩) hS.2.2 dX12_colour_47
        ·
          have j40 : Iv 0 0 x35 := r_eq h38 ik_0
          have j41 : Iv 0 11 x32 := co_11 e37 h38 v5_h x32_h
          obtain ⟨x42, x42_e⟩ : ∃ z : Int32, z = x32 + 1 := ⟨_, rfl⟩
          have x42_h : Iv 1 12 x42 := iv_e x42_e (iv_add j41 ik_1 (by decide))
          refine lv_iinc (v := x42) (lv' := [(2, .int x42), (0, .ref o1), (1, .int a1)]) hx hb dX12_colour_26 hl (k := 0) rfl (incN (by decide +kernel) x42_e) (by decide) rfl (fun ls hl => ?_)
          refine lv_goto (tgt := 17) hx hb dX12_colour_29 (by decide) ?_
          exact ih1 x42 f34 _ _ _ (ms_up x42_e j41 (by decide) hM1) (iv_w x42_h (by decide)) f34_b hP hD hS hl
    exact L1 _ 0 fw34 _ _ _ (Nat.lt_succ_self _) (iv_w ik_0 (by decide)) fw34_b hP hD hS hl
  ·
    refine lv_aload_n hx hb dX12_colour_5 rfl (lv_at hl 0 rfl) ?_
    refine lv_iload_n hx hb dX12_colour_6 rfl (lv_at hl 1 rfl) ?_
    refine kc_i (D := (dC, dI)) (S := Unit) (wc := [(o1, .inr (12, [.int v2, .ref o3, .int v5, .ref o6, .int v8, .ref o9, .ref o11, .int v13, .ref o14, .int v16, .ref o17, .int v19, .int v20, .int v21, .ref o22, .ref o24, .ref o26, .ref o28, .ref o30, .int v32, .ref o33, .ref o35, .ref o37, .int v39, .ref o40, .ref o42, .ref o44, .int v46, .ref o47]))]) (wr := [(o33, .inl (cI, 12, .inl fw34)), (o6, .inl (cI, 12, .inl fw7))]) (w1 := fun _ => [(o1, .inr (12, [.int v2, .ref o3, .int v5, .ref o6, .int v8, .ref o9, .ref o11, .int v13, .ref o14, .int v16, .ref o17, .int v19, .int v20, .int v21, .ref o22, .ref o24, .ref o26, .ref o28, .ref o30, .int v32, .ref o33, .ref o35, .ref o37, .int v39, .ref o40, .ref o42, .ref o44, .int v46, .ref o47]))]) (wn := fun _ => [(o1, .inr (12, [.int v2, .ref o3, .int v5, .ref o6, .int v8, .ref o9, .ref o11, .int v13, .ref o14, .int v16, .ref o17, .int v19, .int v20, .int v21, .ref o22, .ref o24, .ref o26, .ref o28, .ref o30, .int v32, .ref o33, .ref o35, .ref o37, .int v39, .ref o40, .ref o42, .ref o44, .int v46, .ref o47])), (o33, .inl (cI, 12, .inl fw34)), (o6, .inl (cI, 12, .inl fw7))]) (fun hPc hDc => va_runV (As := [.int a1]) (rest := []) ⟨hx, hb, hml, hown, hts⟩ (kX12_isNode_1 l dC dI cI c2 cZ o1 o3 o6 o9 o11 o14 o17 o22 o24 o26 o28 o30 o33 o35 o37 o40 o42 o44 o47 v2 v5 v8 v13 v16 v19 v20 v21 v32 v39 v46 a1 s.heap.size v5_h v8_h v13_h v16_h v19_h v32_h v39_h v46_h) (cwV 1 hts gX12_colour_X12_isNode rfl rfl rfl (by decide +kernel) ⟨Nat.le_of_ble_eq_true rfl, Nat.le_of_ble_eq_true rfl⟩) (pre_V hPc hK hDc hN (ci := 12) (q0 := 0) rfl rfl) rfl rfl hl.1 rfl (lv_room (Nat.le_of_ble_eq_true rfl)) dX12_colour_7 ⟨Nat.le_of_ble_eq_true rfl, Nat.le_of_ble_eq_true rfl⟩) hP hD hS hA [0] [1, 2] [2, 0, 1] rfl rfl (by decide +kernel) (by decide +kernel) (by decide +kernel) (by decide +kernel) (fun _ => rfl) (fun x43 _ H locs hq hP hD hS => ?_)
    obtain ⟨x43_h, i44, e45⟩ := hq
    have hP : va_P (dC, dI) vwCl ([(o1, .inr (12, [.int v2, .ref o3, .int v5, .ref o6, .int v8, .ref o9, .ref o11, .int v13, .ref o14, .int v16, .ref o17, .int v19, .int v20, .int v21, .ref o22, .ref o24, .ref o26, .ref o28, .ref o30, .int v32, .ref o33, .ref o35, .ref o37, .int v39, .ref o40, .ref o42, .ref o44, .int v46, .ref o47])), (o33, .inl (cI, 12, .inl fw34)), (o6, .inl (cI, 12, .inl fw7))]) H := hP
    have hD : va_D A ([(o1, .inr (12, [.int v2, .ref o3, .int v5, .ref o6, .int v8, .ref o9, .ref o11, .int v13, .ref o14, .int v16, .ref o17, .int v19, .int v20, .int v21, .ref o22, .ref o24, .ref o26, .ref o28, .ref o30, .int v32, .ref o33, .ref o35, .ref o37, .int v39, .ref o40, .ref o42, .ref o44, .int v46, .ref o47])), (o33, .inl (cI, 12, .inl fw34)), (o6, .inl (cI, 12, .inl fw7))]) := hD
    refine lv_if_ne (tgt := 15) hx hb dX12_colour_10 (by decide) (fun h46 => ?_) (fun h46 => ?_)
    ·
      have j47 : Iv 1 1 x43 := r_nelo h46 x43_h ik_0 (by decide)
      have j48 : Iv 0 11 a1 := i44 h46
      have e49 := e45 h46
      refine lv_iconst (v := 0) hx hb dX12_colour_15 (by decide) ?_
      refine lv_istore_n (lv' := [(2, .int 0), (0, .ref o1), (1, .int a1)]) hx hb dX12_colour_16 rfl hl (by decide) rfl (fun ls hl => ?_)
      have L2 : ∀ (N : Nat) (x79 : Int32) (f80 : Nat → Int32) (H : Heap) (locs : List Loc) (ls : Array Slot), (12 - x79.toInt).toNat < N → Iv 0 12 x79 → Bd 12 0 11 f80 → va_P (dC, dI) vwCl ([(o1, .inr (12, [.int v2, .ref o3, .int v5, .ref o6, .int v8, .ref o9, .ref o11, .int v13, .ref o14, .int v16, .ref o17, .int v19, .int v20, .int v21, .ref o22, .ref o24, .ref o26, .ref o28, .ref o30, .int v32, .ref o33, .ref o35, .ref o37, .int v39, .ref o40, .ref o42, .ref o44, .int v46, .ref o47])), (o33, .inl (cI, 12, .inl f80)), (o6, .inl (cI, 12, .inl fw7))]) H → va_D A ([(o1, .inr (12, [.int v2, .ref o3, .int v5, .ref o6, .int v8, .ref o9, .ref o11, .int v13, .ref o14, .int v16, .ref o17, .int v19, .int v20, .int v21, .ref o22, .ref o24, .ref o26, .ref o28, .ref o30, .int v32, .ref o33, .ref o35, .ref o37, .int v39, .ref o40, .ref o42, .ref o44, .int v46, .ref o47])), (o33, .inl (cI, 12, .inl f80)), (o6, .inl (cI, 12, .inl fw7))]) → va_S A s.heap H locs → lv_has ls 3 [(2, .int x79), (0, .ref o1), (1, .int a1)] → W p l e ({ frames := 13, cells := 0, slots := 0, locals := 325 }) s m ([.ref o1, .int a1] : List Value).toArray below meth c H locs 0 0 Q (F0 m 17 ls []) := by
        intro N
        induction N with
        | zero =>
          intro x79 f80 H locs ls hM
          exact absurd hM (Nat.not_lt_zero _)
        | succ N ih2 =>
          intro x79 f80 H locs ls hM2 x79_h f80_b hP hD hS hl
          refine lv_aload_n hx hb dX12_colour_17 rfl (lv_at hl 1 rfl) ?_
          refine lv_iconst (v := 0) hx hb dX12_colour_18 (by decide) ?_
          refine lv_iload_n hx hb dX12_colour_19 rfl (lv_at hl 0 rfl) ?_
          refine kc_i (D := (dC, dI)) (S := (Nat → Int32)) (wc := [(o1, .inr (12, [.int v2, .ref o3, .int v5, .ref o6, .int v8, .ref o9, .ref o11, .int v13, .ref o14, .int v16, .ref o17, .int v19, .int v20, .int v21, .ref o22, .ref o24, .ref o26, .ref o28, .ref o30, .int v32, .ref o33, .ref o35, .ref o37, .int v39, .ref o40, .ref o42, .ref o44, .int v46, .ref o47])), (o33, .inl (cI, 12, .inl f80)), (o6, .inl (cI, 12, .inl fw7))]) (wr := []) (w1 := fun u => [(o1, .inr (12, [.int v2, .ref o3, .int v5, .ref o6, .int v8, .ref o9, .ref o11, .int v13, .ref o14, .int v16, .ref o17, .int v19, .int v20, .int v21, .ref o22, .ref o24, .ref o26, .ref o28, .ref o30, .int v32, .ref o33, .ref o35, .ref o37, .int v39, .ref o40, .ref o42, .ref o44, .int v46, .ref o47])), (o33, .inl (cI, 12, .inl u)), (o6, .inl (cI, 12, .inl fw7))]) (wn := fun u => [(o1, .inr (12, [.int v2, .ref o3, .int v5, .ref o6, .int v8, .ref o9, .ref o11, .int v13, .ref o14, .int v16, .ref o17, .int v19, .int v20, .int v21, .ref o22, .ref o24, .ref o26, .ref o28, .ref o30, .int v32, .ref o33, .ref o35, .ref o37, .int v39, .ref o40, .ref o42, .ref o44, .int v46, .ref o47])), (o33, .inl (cI, 12, .inl u)), (o6, .inl (cI, 12, .inl fw7))]) (fun hPc hDc => va_runV (As := [.int 0, .int x79]) (rest := []) ⟨hx, hb, hml, hown, hts⟩ (kX12_isColoured_13 l dC dI cI c2 cZ o1 o3 o6 o9 o11 o14 o17 o22 o24 o26 o28 o30 o33 o35 o37 o40 o42 o44 o47 v2 v5 fw7 v8 v13 v16 v19 v20 v21 v32 f80 v39 v46 x79 H.size v5_h fw7_b v8_h v13_h v16_h v19_h v32_h f80_b v39_h v46_h x79_h) (cwV 2 hts gX12_colour_X12_isColoured rfl rfl rfl (by decide +kernel) ⟨Nat.le_of_ble_eq_true rfl, Nat.le_of_ble_eq_true rfl⟩) (pre_V hPc hK hDc hN (ci := 12) (q0 := 0) rfl rfl) rfl rfl hl.1 rfl (lv_room (Nat.le_of_ble_eq_true rfl)) dX12_colour_20 ⟨Nat.le_of_ble_eq_true rfl, Nat.le_of_ble_eq_true rfl⟩) hP hD hS hA [0, 1, 2] [] [0, 1, 2] rfl rfl (by decide +kernel) (by decide +kernel) (by decide +kernel) (by decide +kernel) (fun _ => rfl) (fun x82 f81 H locs hq hP hD hS => ?_)
          obtain ⟨x82_h, f81_b, e83, e84⟩ := hq
          have hP : va_P (dC, dI) vwCl ([(o1, .inr (12, [.int v2, .ref o3, .int v5, .ref o6, .int v8, .ref o9, .ref o11, .int v13, .ref o14, .int v16, .ref o17, .int v19, .int v20, .int v21, .ref o22, .ref o24, .ref o26, .ref o28, .ref o30, .int v32, .ref o33, .ref o35, .ref o37, .int v39, .ref o40, .ref o42, .ref o44, .int v46, .ref o47])), (o33, .inl (cI, 12, .inl f81)), (o6, .inl (cI, 12, .inl fw7))]) H := hP
          have hD : va_D A ([(o1, .inr (12, [.int v2, .ref o3, .int v5, .ref o6, .int v8, .ref o9, .ref o11, .int v13, .ref o14, .int v16, .ref o17, .int v19, .int v20, .int v21, .ref o22, .ref o24, .ref o26, .ref o28, .ref o30, .int v32, .ref o33, .ref o35, .ref o37, .int v39, .ref o40, .ref o42, .ref o44, .int v46, .ref o47])), (o33, .inl (cI, 12, .inl f81)), (o6, .inl (cI, 12, .inl fw7))]) := hD
          refine lv_if_ne (tgt := 32) hx hb dX12_colour_23 (by decide) (fun h85 => ?_) (fun h85 => ?_)
          ·
            have j86 : Iv 1 1 x82 := r_nelo h85 x82_h ik_0 (by decide)
            refine lv_iload_n hx hb dX12_colour_32 rfl (lv_at hl 2 rfl) ?_
            refine lv_iconst (v := (-1)) hx hb dX12_colour_33 (by decide) ?_
            refine lv_icmp_ne (tgt := 41) hx hb dX12_colour_34 (by decide) (fun _ => ?_) (fun h9 => absurd h9 (d_ne j48 ikm_1 (by decide)))
            refine lv_aload_n hx hb dX12_colour_41 rfl (lv_at hl 1 rfl) ?_
            refine va_get (D := (dC, dI)) (ci := 12) (v := .ref o33) (C := RX12) (T := TX12) (N := 29) hx hb hts iw_X12_colour_X12 hown hK hP 0 rfl rfl 20 (by decide) (hts (.fieldLink RX12 48 "HolelessHouseModel" "colours" "[I") hm_X12_colour_1) (fun _ h9 => h9) rfl dX12_colour_42 ?_
            refine lv_iload_n hx hb dX12_colour_45 rfl (lv_at hl 2 rfl) ?_
            refine va_iald hx hb hK hP 1 0 rfl rfl (vin_iv j48 (by decide)) dX12_colour_46 (lv_topi (fun x87 x87_e => ?_))
            have x87_h : Iv 0 11 x87 := iv_e x87_e (bd_at f81_b (vin_iv j48 (by decide)))
            rw [hQ]
            exact W.iret (v := x87) hx hb hr (fun t ht hW => ⟨⟨x87, f81, rfl, ⟨(iv_w x87_h (by decide)), f81_b⟩, by rw [ht]; exact hP, va_K.moved hW.alike hK, hD⟩, hS.F ht⟩) hS.2.2 dX12_colour_47
          ·
            have j88 : Iv 0 0 x82 := r_eq h85 ik_0
            have j89 : Iv 0 11 x79 := co_11 e84 h85 v5_h x79_h
            obtain ⟨x90, x90_e⟩ : ∃ z : Int32, z = x79 + 1 := ⟨_, rfl⟩
            have x90_h : Iv 1 12 x90 := iv_e x90_e (iv_add j89 ik_1 (by decide))
            refine lv_iinc (v := x90) (lv' := [(2, .int x90), (0, .ref o1), (1, .int a1)]) hx hb dX12_colour_26 hl (k := 0) rfl (incN (by decide +kernel) x90_e) (by decide) rfl (fun ls hl => ?_)
            refine lv_goto (tgt := 17) hx hb dX12_colour_29 (by decide) ?_
            exact ih2 x90 f81 _ _ _ (ms_up x90_e j89 (by decide) hM2) (iv_w x90_h (by decide)) f81_b hP hD hS hl
      exact L2 _ 0 fw34 _ _ _ (Nat.lt_succ_self _) (iv_w ik_0 (by decide)) fw34_b hP hD hS hl
    ·
      have j91 : Iv 0 0 x43 := r_eq h46 ik_0
      refine lv_iconst (v := (-1)) hx hb dX12_colour_13 (by decide) ?_
      rw [hQ]
      exact W.iret (v := (-1)) hx hb hr (fun t ht hW => ⟨⟨(-1), fw34, rfl, ⟨(iv_w ikm_1 (by decide)), fw34_b⟩, by rw [ht]; exact hP, va_K.moved hW.alike hK, hD⟩, hS.F ht⟩) hS.2.2 dX12_colour_14
set_option maxHeartbeats 4000000 in
set_option maxRecDepth 100000 in
theorem kX12_apart_1 (l : Launch) (dC : Nat → ClassId) (dI : Nat → Nat → Nat) (cI c2 cZ : ClassId) (o1 : Nat) (o3 : Nat) (o6 : Nat) (o9 : Nat) (o11 : Nat) (o14 : Nat) (o17 : Nat) (o22 : Nat) (o24 : Nat) (o26 : Nat) (o28 : Nat) (o30 : Nat) (o33 : Nat) (o35 : Nat) (o37 : Nat) (o40 : Nat) (o42 : Nat) (o44 : Nat) (o47 : Nat) (v2 : Int32) (v5 : Int32) (fw7 : Nat → Int32) (v8 : Int32) (v13 : Int32) (v16 : Int32) (v19 : Int32) (v20 : Int32) (v21 : Int32) (v32 : Int32) (v39 : Int32) (v46 : Int32) (sz : Nat) (v5_h : Iv 0 12 v5) (fw7_b : Bd 12 0 4095 fw7) (v8_h : Iv 0 8 v8) (v13_h : Iv 0 12 v13) (v16_h : Iv 0 12 v16) (v19_h : Iv (-9) 12 v19) (v32_h : Iv 0 99 v32) (v39_h : Iv 0 12 v39) (v46_h : Iv 0 12 v46) : Met l yX12_apart wsX12_apart ({ frames := 2, cells := 0, slots := 0, locals := 44 }) (va_Pc [.ref o1] (wPre (dC, dI) [(cI, .int), (c2, .array .int), (cZ, .boolean)] ([(o1, .inr (12, [.int v2, .ref o3, .int v5, .ref o6, .int v8, .ref o9, .ref o11, .int v13, .ref o14, .int v16, .ref o17, .int v19, .int v20, .int v21, .ref o22, .ref o24, .ref o26, .ref o28, .ref o30, .int v32, .ref o33, .ref o35, .ref o37, .int v39, .ref o40, .ref o42, .ref o44, .int v46, .ref o47])), (o6, .inl (cI, 12, .inl fw7))]) sz)) (va_Qi (fun (r : Int32) (_ : Unit) => Iv 0 4095 r) (fun _ t => wPost (dC, dI) [(cI, .int), (c2, .array .int), (cZ, .boolean)] (va_A ([(o1, .inr (12, [.int v2, .ref o3, .int v5, .ref o6, .int v8, .ref o9, .ref o11, .int v13, .ref o14, .int v16, .ref o17, .int v19, .int v20, .int v21, .ref o22, .ref o24, .ref o26, .ref o28, .ref o30, .int v32, .ref o33, .ref o35, .ref o37, .int v39, .ref o40, .ref o42, .ref o44, .int v46, .ref o47])), (o6, .inl (cI, 12, .inl fw7))]) sz) ([(o1, .inr (12, [.int v2, .ref o3, .int v5, .ref o6, .int v8, .ref o9, .ref o11, .int v13, .ref o14, .int v16, .ref o17, .int v19, .int v20, .int v21, .ref o22, .ref o24, .ref o26, .ref o28, .ref o30, .int v32, .ref o33, .ref o35, .ref o37, .int v39, .ref o40, .ref o42, .ref o44, .int v46, .ref o47])), (o6, .inl (cI, 12, .inl fw7))]) t) (va_A ([(o1, .inr (12, [.int v2, .ref o3, .int v5, .ref o6, .int v8, .ref o9, .ref o11, .int v13, .ref o14, .int v16, .ref o17, .int v19, .int v20, .int v21, .ref o22, .ref o24, .ref o26, .ref o28, .ref o30, .int v32, .ref o33, .ref o35, .ref o37, .int v39, .ref o40, .ref o42, .ref o44, .int v46, .ref o47])), (o6, .inl (cI, 12, .inl fw7))]) sz)) 0 0 (va_A ([(o1, .inr (12, [.int v2, .ref o3, .int v5, .ref o6, .int v8, .ref o9, .ref o11, .int v13, .ref o14, .int v16, .ref o17, .int v19, .int v20, .int v21, .ref o22, .ref o24, .ref o26, .ref o28, .ref o30, .int v32, .ref o33, .ref o35, .ref o37, .int v39, .ref o40, .ref o42, .ref o44, .int v46, .ref o47])), (o6, .inl (cI, 12, .inl fw7))]) sz) := by
  refine Met.ofW (cc := cX12_apart) (maxL := 3) (ret := (some .int)) (by decide) rfl ?_
  intro p e s m args below meth c s₁ B hml hv
  obtain ⟨rfl, hsz, hP, hK, hD0, hN⟩ := hv
  have hx := B.exec
  have hb := B.bytes
  have hr := B.returns
  have hts := atoms_spec (ws := wsX12_apart) B.pre
  have hown : s.vm.findClass RX12 = some m.cls := findClass_of_methodNamed B.named
  have hlocks := B.notSynchronized
  subst hsz
  have hD := hD0.self (sz := s.heap.size)
  generalize hAe : va_A ([(o1, .inr (12, [.int v2, .ref o3, .int v5, .ref o6, .int v8, .ref o9, .ref o11, .int v13, .ref o14, .int v16, .ref o17, .int v19, .int v20, .int v21, .ref o22, .ref o24, .ref o26, .ref o28, .ref o30, .int v32, .ref o33, .ref o35, .ref o37, .int v39, .ref o40, .ref o42, .ref o44, .int v46, .ref o47])), (o6, .inl (cI, 12, .inl fw7))]) s.heap.size = A at hD ⊢
  have hA : ∀ q : Nat, s.heap.size ≤ q → A q := fun q h => by rw [← hAe]; exact Or.inr h
  have hS : va_S A s.heap s.heap [] := va_S.rf
  have hP : va_P (dC, dI) vwCl ([(o1, .inr (12, [.int v2, .ref o3, .int v5, .ref o6, .int v8, .ref o9, .ref o11, .int v13, .ref o14, .int v16, .ref o17, .int v19, .int v20, .int v21, .ref o22, .ref o24, .ref o26, .ref o28, .ref o30, .int v32, .ref o33, .ref o35, .ref o37, .int v39, .ref o40, .ref o42, .ref o44, .int v46, .ref o47])), (o6, .inl (cI, 12, .inl fw7))]) s.heap := hP
  have hl := lv_entry ([.ref o1]) (n := 3) (Nat.le_of_ble_eq_true rfl)
  rw [lg_entry_eq]
  generalize (lg_sl ([.ref o1]) ++ List.replicate (3 - (lg_sl ([.ref o1])).length) Slot.unset).toArray = ls at hl ⊢
  have hl : lv_has ls 3 [(0, .ref o1)] := hl
  refine gen_Q (fun Q hQ => ?_)
  refine lv_iconst (v := 0) hx hb dX12_apart_0 (by decide) ?_
  refine lv_istore_n (lv' := [(1, .int 0), (0, .ref o1)]) hx hb dX12_apart_1 rfl hl (by decide) rfl (fun ls hl => ?_)
  refine lv_iconst (v := 0) hx hb dX12_apart_2 (by decide) ?_
  refine lv_istore_n (lv' := [(2, .int 0), (1, .int 0), (0, .ref o1)]) hx hb dX12_apart_3 rfl hl (by decide) rfl (fun ls hl => ?_)
  have L1 : ∀ (N : Nat) (x454 : Int32) (x455 : Int32) (H : Heap) (locs : List Loc) (ls : Array Slot), (4096 - x454.toInt).toNat < N → Iv 0 4096 x454 → Iv 0 4095 x455 → va_P (dC, dI) vwCl ([(o1, .inr (12, [.int v2, .ref o3, .int v5, .ref o6, .int v8, .ref o9, .ref o11, .int v13, .ref o14, .int v16, .ref o17, .int v19, .int v20, .int v21, .ref o22, .ref o24, .ref o26, .ref o28, .ref o30, .int v32, .ref o33, .ref o35, .ref o37, .int v39, .ref o40, .ref o42, .ref o44, .int v46, .ref o47])), (o6, .inl (cI, 12, .inl fw7))]) H → va_D A ([(o1, .inr (12, [.int v2, .ref o3, .int v5, .ref o6, .int v8, .ref o9, .ref o11, .int v13, .ref o14, .int v16, .ref o17, .int v19, .int v20, .int v21, .ref o22, .ref o24, .ref o26, .ref o28, .ref o30, .int v32, .ref o33, .ref o35, .ref o37, .int v39, .ref o40, .ref o42, .ref o44, .int v46, .ref o47])), (o6, .inl (cI, 12, .inl fw7))]) → va_S A s.heap H locs → lv_has ls 3 [(2, .int x454), (1, .int x455), (0, .ref o1)] → W p l e ({ frames := 2, cells := 0, slots := 0, locals := 44 }) s m ([.ref o1] : List Value).toArray below meth c H locs 0 0 Q (F0 m 4 ls []) := by
    intro N
    induction N with
    | zero =>
      intro x454 x455 H locs ls hM
      exact absurd hM (Nat.not_lt_zero _)
    | succ N ih1 =>
      intro x454 x455 H locs ls hM1 x454_h x455_h hP hD hS hl
      refine lv_iload_n hx hb dX12_apart_4 rfl (lv_at hl 0 rfl) ?_
      refine lv_aload_n hx hb dX12_apart_5 rfl (lv_at hl 2 rfl) ?_
      refine kc_i (D := (dC, dI)) (S := Unit) (wc := [(o1, .inr (12, [.int v2, .ref o3, .int v5, .ref o6, .int v8, .ref o9, .ref o11, .int v13, .ref o14, .int v16, .ref o17, .int v19, .int v20, .int v21, .ref o22, .ref o24, .ref o26, .ref o28, .ref o30, .int v32, .ref o33, .ref o35, .ref o37, .int v39, .ref o40, .ref o42, .ref o44, .int v46, .ref o47]))]) (wr := [(o6, .inl (cI, 12, .inl fw7))]) (w1 := fun _ => [(o1, .inr (12, [.int v2, .ref o3, .int v5, .ref o6, .int v8, .ref o9, .ref o11, .int v13, .ref o14, .int v16, .ref o17, .int v19, .int v20, .int v21, .ref o22, .ref o24, .ref o26, .ref o28, .ref o30, .int v32, .ref o33, .ref o35, .ref o37, .int v39, .ref o40, .ref o42, .ref o44, .int v46, .ref o47]))]) (wn := fun _ => [(o1, .inr (12, [.int v2, .ref o3, .int v5, .ref o6, .int v8, .ref o9, .ref o11, .int v13, .ref o14, .int v16, .ref o17, .int v19, .int v20, .int v21, .ref o22, .ref o24, .ref o26, .ref o28, .ref o30, .int v32, .ref o33, .ref o35, .ref o37, .int v39, .ref o40, .ref o42, .ref o44, .int v46, .ref o47])), (o6, .inl (cI, 12, .inl fw7))]) (fun hPc hDc => va_runV (As := []) (rest := [.int x454]) ⟨hx, hb, hml, hown, hts⟩ (kX12_all_1 l dC dI cI c2 cZ o1 o3 o6 o9 o11 o14 o17 o22 o24 o26 o28 o30 o33 o35 o37 o40 o42 o44 o47 v2 v5 v8 v13 v16 v19 v20 v21 v32 v39 v46 H.size v5_h v8_h v13_h v16_h v19_h v32_h v39_h v46_h) (cwV 0 hts gX12_apart_X12_all rfl rfl rfl (by decide +kernel) ⟨Nat.le_of_ble_eq_true rfl, Nat.le_of_ble_eq_true rfl⟩) (pre_V hPc hK hDc hN (ci := 12) (q0 := 0) rfl rfl) rfl rfl hl.1 rfl (lv_room (Nat.le_of_ble_eq_true rfl)) dX12_apart_6 ⟨Nat.le_of_ble_eq_true rfl, Nat.le_of_ble_eq_true rfl⟩) hP hD hS hA [0] [1] [1, 0] rfl rfl (by decide +kernel) (by decide +kernel) (by decide +kernel) (by decide +kernel) (fun _ => rfl) (fun x456 _ H locs hq hP hD hS => ?_)
      obtain ⟨x456_h, e457⟩ := hq
      have hP : va_P (dC, dI) vwCl ([(o1, .inr (12, [.int v2, .ref o3, .int v5, .ref o6, .int v8, .ref o9, .ref o11, .int v13, .ref o14, .int v16, .ref o17, .int v19, .int v20, .int v21, .ref o22, .ref o24, .ref o26, .ref o28, .ref o30, .int v32, .ref o33, .ref o35, .ref o37, .int v39, .ref o40, .ref o42, .ref o44, .int v46, .ref o47])), (o6, .inl (cI, 12, .inl fw7))]) H := hP
      have hD : va_D A ([(o1, .inr (12, [.int v2, .ref o3, .int v5, .ref o6, .int v8, .ref o9, .ref o11, .int v13, .ref o14, .int v16, .ref o17, .int v19, .int v20, .int v21, .ref o22, .ref o24, .ref o26, .ref o28, .ref o30, .int v32, .ref o33, .ref o35, .ref o37, .int v39, .ref o40, .ref o42, .ref o44, .int v46, .ref o47])), (o6, .inl (cI, 12, .inl fw7))]) := hD
      refine lv_icmp_gt (tgt := 43) hx hb dX12_apart_9 (by decide) (fun h458 => ?_) (fun h458 => ?_)
      ·
        have qh458 := lt_i h458
        have j459 : Iv 1 4096 x454 := r_ltr qh458 x456_h x454_h (by decide)
        refine lv_iload_n hx hb dX12_apart_43 rfl (lv_at hl 1 rfl) ?_
        rw [hQ]
        exact W.iret (v := x455) hx hb hr (fun t ht hW => ⟨⟨x455, (), rfl, x455_h, by rw [ht]; exact hP, va_K.moved hW.alike hK, hD⟩, hS.F ht⟩) hS.2.2 dX12_apart_44
      ·
        have qh458 := nlt_i h458
        have j460 : Iv 0 4095 x454 := r_lel qh458 x454_h x456_h (by decide)
        refine lv_iload_n hx hb dX12_apart_12 rfl (lv_at hl 0 rfl) ?_
        refine kc_i (D := (dC, dI)) (S := Unit) (wc := []) (wr := [(o1, .inr (12, [.int v2, .ref o3, .int v5, .ref o6, .int v8, .ref o9, .ref o11, .int v13, .ref o14, .int v16, .ref o17, .int v19, .int v20, .int v21, .ref o22, .ref o24, .ref o26, .ref o28, .ref o30, .int v32, .ref o33, .ref o35, .ref o37, .int v39, .ref o40, .ref o42, .ref o44, .int v46, .ref o47])), (o6, .inl (cI, 12, .inl fw7))]) (w1 := fun _ => []) (wn := fun _ => [(o1, .inr (12, [.int v2, .ref o3, .int v5, .ref o6, .int v8, .ref o9, .ref o11, .int v13, .ref o14, .int v16, .ref o17, .int v19, .int v20, .int v21, .ref o22, .ref o24, .ref o26, .ref o28, .ref o30, .int v32, .ref o33, .ref o35, .ref o37, .int v39, .ref o40, .ref o42, .ref o44, .int v46, .ref o47])), (o6, .inl (cI, 12, .inl fw7))]) (fun hPc hDc => va_runS (As := [.int x454]) (rest := []) ⟨hx, hb, hml, hown, hts⟩ (kX12_bits_1 l dC dI cI c2 cZ x454 H.size) (va_cwS 1 hts gX12_apart_X12_bits rfl rfl rfl (by decide +kernel) ⟨Nat.le_of_ble_eq_true rfl, Nat.le_of_ble_eq_true rfl⟩) (pre_S hPc hK hDc hN) rfl rfl hl.1 rfl (lv_room (Nat.le_of_ble_eq_true rfl)) dX12_apart_13 ⟨Nat.le_of_ble_eq_true rfl, Nat.le_of_ble_eq_true rfl⟩) hP hD hS hA [] [0, 1] [0, 1] rfl rfl (by decide +kernel) (by decide +kernel) (by decide +kernel) (by decide +kernel) (fun _ => rfl) (fun x461 _ H locs hq hP hD hS => ?_)
        obtain ⟨x461_h, e462⟩ := hq
        have hP : va_P (dC, dI) vwCl ([(o1, .inr (12, [.int v2, .ref o3, .int v5, .ref o6, .int v8, .ref o9, .ref o11, .int v13, .ref o14, .int v16, .ref o17, .int v19, .int v20, .int v21, .ref o22, .ref o24, .ref o26, .ref o28, .ref o30, .int v32, .ref o33, .ref o35, .ref o37, .int v39, .ref o40, .ref o42, .ref o44, .int v46, .ref o47])), (o6, .inl (cI, 12, .inl fw7))]) H := hP
        have hD : va_D A ([(o1, .inr (12, [.int v2, .ref o3, .int v5, .ref o6, .int v8, .ref o9, .ref o11, .int v13, .ref o14, .int v16, .ref o17, .int v19, .int v20, .int v21, .ref o22, .ref o24, .ref o26, .ref o28, .ref o30, .int v32, .ref o33, .ref o35, .ref o37, .int v39, .ref o40, .ref o42, .ref o44, .int v46, .ref o47])), (o6, .inl (cI, 12, .inl fw7))]) := hD
        refine lv_iload_n hx hb dX12_apart_16 rfl (lv_at hl 1 rfl) ?_
        refine kc_i (D := (dC, dI)) (S := Unit) (wc := []) (wr := [(o1, .inr (12, [.int v2, .ref o3, .int v5, .ref o6, .int v8, .ref o9, .ref o11, .int v13, .ref o14, .int v16, .ref o17, .int v19, .int v20, .int v21, .ref o22, .ref o24, .ref o26, .ref o28, .ref o30, .int v32, .ref o33, .ref o35, .ref o37, .int v39, .ref o40, .ref o42, .ref o44, .int v46, .ref o47])), (o6, .inl (cI, 12, .inl fw7))]) (w1 := fun _ => []) (wn := fun _ => [(o1, .inr (12, [.int v2, .ref o3, .int v5, .ref o6, .int v8, .ref o9, .ref o11, .int v13, .ref o14, .int v16, .ref o17, .int v19, .int v20, .int v21, .ref o22, .ref o24, .ref o26, .ref o28, .ref o30, .int v32, .ref o33, .ref o35, .ref o37, .int v39, .ref o40, .ref o42, .ref o44, .int v46, .ref o47])), (o6, .inl (cI, 12, .inl fw7))]) (fun hPc hDc => va_runS (As := [.int x455]) (rest := [.int x461]) ⟨hx, hb, hml, hown, hts⟩ (kX12_bits_1 l dC dI cI c2 cZ x455 H.size) (va_cwS 1 hts gX12_apart_X12_bits rfl rfl rfl (by decide +kernel) ⟨Nat.le_of_ble_eq_true rfl, Nat.le_of_ble_eq_true rfl⟩) (pre_S hPc hK hDc hN) rfl rfl hl.1 rfl (lv_room (Nat.le_of_ble_eq_true rfl)) dX12_apart_17 ⟨Nat.le_of_ble_eq_true rfl, Nat.le_of_ble_eq_true rfl⟩) hP hD hS hA [] [0, 1] [0, 1] rfl rfl (by decide +kernel) (by decide +kernel) (by decide +kernel) (by decide +kernel) (fun _ => rfl) (fun x463 _ H locs hq hP hD hS => ?_)
        obtain ⟨x463_h, e464⟩ := hq
        have hP : va_P (dC, dI) vwCl ([(o1, .inr (12, [.int v2, .ref o3, .int v5, .ref o6, .int v8, .ref o9, .ref o11, .int v13, .ref o14, .int v16, .ref o17, .int v19, .int v20, .int v21, .ref o22, .ref o24, .ref o26, .ref o28, .ref o30, .int v32, .ref o33, .ref o35, .ref o37, .int v39, .ref o40, .ref o42, .ref o44, .int v46, .ref o47])), (o6, .inl (cI, 12, .inl fw7))]) H := hP
        have hD : va_D A ([(o1, .inr (12, [.int v2, .ref o3, .int v5, .ref o6, .int v8, .ref o9, .ref o11, .int v13, .ref o14, .int v16, .ref o17, .int v19, .int v20, .int v21, .ref o22, .ref o24, .ref o26, .ref o28, .ref o30, .int v32, .ref o33, .ref o35, .ref o37, .int v39, .ref o40, .ref o42, .ref o44, .int v46, .ref o47])), (o6, .inl (cI, 12, .inl fw7))]) := hD
        refine lv_icmp_le (tgt := 35) hx hb dX12_apart_20 (by decide) (fun h465 => ?_) (fun h465 => ?_)
        ·
          have qh465 := le_i h465
          refine lv_iload_n hx hb dX12_apart_35 rfl (lv_at hl 1 rfl) ?_
          refine lv_istore_n (lv' := [(1, .int x455), (2, .int x454), (0, .ref o1)]) hx hb dX12_apart_36 rfl hl (by decide) rfl (fun ls hl => ?_)
          obtain ⟨x466, x466_e⟩ : ∃ z : Int32, z = x454 + 1 := ⟨_, rfl⟩
          have x466_h : Iv 1 4096 x466 := iv_e x466_e (iv_add j460 ik_1 (by decide))
          refine lv_iinc (v := x466) (lv' := [(2, .int x466), (1, .int x455), (0, .ref o1)]) hx hb dX12_apart_37 hl (k := 1) rfl (incN (by decide +kernel) x466_e) (by decide) rfl (fun ls hl => ?_)
          refine lv_goto (tgt := 4) hx hb dX12_apart_40 (by decide) ?_
          exact ih1 x466 x455 _ _ _ (ms_up x466_e j460 (by decide) hM1) (iv_w x466_h (by decide)) x455_h hP hD hS hl
        ·
          have qh465 := nle_i h465
          have j467 : Iv 0 12 x463 := r_ltl qh465 x463_h x461_h (by decide)
          have j468 : Iv 1 13 x461 := r_ltr qh465 x463_h x461_h (by decide)
          refine lv_aload_n hx hb dX12_apart_23 rfl (lv_at hl 2 rfl) ?_
          refine lv_iload_n hx hb dX12_apart_24 rfl (lv_at hl 0 rfl) ?_
          refine kc_i (D := (dC, dI)) (S := Unit) (wc := [(o1, .inr (12, [.int v2, .ref o3, .int v5, .ref o6, .int v8, .ref o9, .ref o11, .int v13, .ref o14, .int v16, .ref o17, .int v19, .int v20, .int v21, .ref o22, .ref o24, .ref o26, .ref o28, .ref o30, .int v32, .ref o33, .ref o35, .ref o37, .int v39, .ref o40, .ref o42, .ref o44, .int v46, .ref o47])), (o6, .inl (cI, 12, .inl fw7))]) (wr := []) (w1 := fun _ => [(o1, .inr (12, [.int v2, .ref o3, .int v5, .ref o6, .int v8, .ref o9, .ref o11, .int v13, .ref o14, .int v16, .ref o17, .int v19, .int v20, .int v21, .ref o22, .ref o24, .ref o26, .ref o28, .ref o30, .int v32, .ref o33, .ref o35, .ref o37, .int v39, .ref o40, .ref o42, .ref o44, .int v46, .ref o47])), (o6, .inl (cI, 12, .inl fw7))]) (wn := fun _ => [(o1, .inr (12, [.int v2, .ref o3, .int v5, .ref o6, .int v8, .ref o9, .ref o11, .int v13, .ref o14, .int v16, .ref o17, .int v19, .int v20, .int v21, .ref o22, .ref o24, .ref o26, .ref o28, .ref o30, .int v32, .ref o33, .ref o35, .ref o37, .int v39, .ref o40, .ref o42, .ref o44, .int v46, .ref o47])), (o6, .inl (cI, 12, .inl fw7))]) (fun hPc hDc => va_runV (As := [.int x454]) (rest := []) ⟨hx, hb, hml, hown, hts⟩ (kX12_isApart_1 l dC dI cI c2 cZ o1 o3 o6 o9 o11 o14 o17 o22 o24 o26 o28 o30 o33 o35 o37 o40 o42 o44 o47 v2 v5 fw7 v8 v13 v16 v19 v20 v21 v32 v39 v46 x454 H.size v5_h fw7_b v8_h v13_h v16_h v19_h v32_h v39_h v46_h) (cwV 1 hts gX12_apart_X12_isApart rfl rfl rfl (by decide +kernel) ⟨Nat.le_of_ble_eq_true rfl, Nat.le_of_ble_eq_true rfl⟩) (pre_V hPc hK hDc hN (ci := 12) (q0 := 0) rfl rfl) rfl rfl hl.1 rfl (lv_room (Nat.le_of_ble_eq_true rfl)) dX12_apart_25 ⟨Nat.le_of_ble_eq_true rfl, Nat.le_of_ble_eq_true rfl⟩) hP hD hS hA [0, 1] [] [0, 1] rfl rfl (by decide +kernel) (by decide +kernel) (by decide +kernel) (by decide +kernel) (fun _ => rfl) (fun x469 _ H locs hq hP hD hS => ?_)
          have x469_h := hq
          have hP : va_P (dC, dI) vwCl ([(o1, .inr (12, [.int v2, .ref o3, .int v5, .ref o6, .int v8, .ref o9, .ref o11, .int v13, .ref o14, .int v16, .ref o17, .int v19, .int v20, .int v21, .ref o22, .ref o24, .ref o26, .ref o28, .ref o30, .int v32, .ref o33, .ref o35, .ref o37, .int v39, .ref o40, .ref o42, .ref o44, .int v46, .ref o47])), (o6, .inl (cI, 12, .inl fw7))]) H := hP
          have hD : va_D A ([(o1, .inr (12, [.int v2, .ref o3, .int v5, .ref o6, .int v8, .ref o9, .ref o11, .int v13, .ref o14, .int v16, .ref o17, .int v19, .int v20, .int v21, .ref o22, .ref o24, .ref o26, .ref o28, .ref o30, .int v32, .ref o33, .ref o35, .ref o37, .int v39, .ref o40, .ref o42, .ref o44, .int v46, .ref o47])), (o6, .inl (cI, 12, .inl fw7))]) := hD
          refine lv_if_eq (tgt := 35) hx hb dX12_apart_28 (by decide) (fun h470 => ?_) (fun h470 => ?_)
          ·
            have j471 : Iv 0 0 x469 := r_eq h470 ik_0
            refine lv_iload_n hx hb dX12_apart_35 rfl (lv_at hl 1 rfl) ?_
            refine lv_istore_n (lv' := [(1, .int x455), (2, .int x454), (0, .ref o1)]) hx hb dX12_apart_36 rfl hl (by decide) rfl (fun ls hl => ?_)
            obtain ⟨x472, x472_e⟩ : ∃ z : Int32, z = x454 + 1 := ⟨_, rfl⟩
            have x472_h : Iv 1 4096 x472 := iv_e x472_e (iv_add j460 ik_1 (by decide))
            refine lv_iinc (v := x472) (lv' := [(2, .int x472), (1, .int x455), (0, .ref o1)]) hx hb dX12_apart_37 hl (k := 1) rfl (incN (by decide +kernel) x472_e) (by decide) rfl (fun ls hl => ?_)
            refine lv_goto (tgt := 4) hx hb dX12_apart_40 (by decide) ?_
            exact ih1 x472 x455 _ _ _ (ms_up x472_e j460 (by decide) hM1) (iv_w x472_h (by decide)) x455_h hP hD hS hl
          ·
            have j473 : Iv 1 1 x469 := r_nelo h470 x469_h ik_0 (by decide)
            refine lv_iload_n hx hb dX12_apart_31 rfl (lv_at hl 0 rfl) ?_
            refine lv_goto (tgt := 36) hx hb dX12_apart_32 (by decide) ?_
            refine lv_istore_n (lv' := [(1, .int x454), (2, .int x454), (0, .ref o1)]) hx hb dX12_apart_36 rfl hl (by decide) rfl (fun ls hl => ?_)
            obtain ⟨x474, x474_e⟩ : ∃ z : Int32, z = x454 + 1 := ⟨_, rfl⟩
            have x474_h : Iv 1 4096 x474 := iv_e x474_e (iv_add j460 ik_1 (by decide))
            refine lv_iinc (v := x474) (lv' := [(2, .int x474), (1, .int x454), (0, .ref o1)]) hx hb dX12_apart_37 hl (k := 1) rfl (incN (by decide +kernel) x474_e) (by decide) rfl (fun ls hl => ?_)
            refine lv_goto (tgt := 4) hx hb dX12_apart_40 (by decide) ?_
            exact ih1 x474 x454 _ _ _ (ms_up x474_e j460 (by decide) hM1) (iv_w x474_h (by decide)) j460 hP hD hS hl
  exact L1 _ 0 0 _ _ _ (Nat.lt_succ_self _) (iv_w ik_0 (by decide)) (iv_w ik_0 (by decide)) hP hD hS hl
theorem iw_X12_setTree_X12 : ∀ w ∈ wsX120, w ∈ wsX12_setTree := fun _ h => List.mem_cons.mpr (Or.inr (List.mem_append.mpr (Or.inr h)))
set_option maxHeartbeats 4000000 in
set_option maxRecDepth 100000 in
theorem kX12_setTree_1 (l : Launch) (dC : Nat → ClassId) (dI : Nat → Nat → Nat) (cI c2 cZ : ClassId) (o1 : Nat) (o3 : Nat) (o6 : Nat) (o9 : Nat) (o11 : Nat) (o14 : Nat) (o17 : Nat) (o22 : Nat) (o24 : Nat) (o26 : Nat) (o28 : Nat) (o30 : Nat) (o33 : Nat) (o35 : Nat) (o37 : Nat) (o40 : Nat) (o42 : Nat) (o44 : Nat) (o47 : Nat) (v2 : Int32) (v5 : Int32) (v8 : Int32) (v13 : Int32) (v16 : Int32) (v19 : Int32) (v20 : Int32) (v21 : Int32) (fw31 : Nat → Int32) (v32 : Int32) (fw36 : Nat → Int32) (v39 : Int32) (v46 : Int32) (sz : Nat) (v5_h : Iv 0 12 v5) (v8_h : Iv 0 8 v8) (v13_h : Iv 0 12 v13) (v16_h : Iv 0 12 v16) (v19_h : Iv (-9) 12 v19) (fw31_b : Bd 100 0 4095 fw31) (v32_h : Iv 0 12 v32) (fw36_b : Bd 100 (-9) 99 fw36) (v39_h : Iv 0 12 v39) (v46_h : Iv 0 12 v46) : Met l yX12_setTree wsX12_setTree ({ frames := 1, cells := 0, slots := 0, locals := 22 }) (va_Pc [.ref o1] (wPre (dC, dI) [(cI, .int), (c2, .array .int), (cZ, .boolean)] ([(o1, .inr (12, [.int v2, .ref o3, .int v5, .ref o6, .int v8, .ref o9, .ref o11, .int v13, .ref o14, .int v16, .ref o17, .int v19, .int v20, .int v21, .ref o22, .ref o24, .ref o26, .ref o28, .ref o30, .int v32, .ref o33, .ref o35, .ref o37, .int v39, .ref o40, .ref o42, .ref o44, .int v46, .ref o47])), (o35, .inl (cI, 100, .inl fw36)), (o30, .inl (cI, 100, .inl fw31))]) sz)) (va_Qv (fun (u : (Nat → Int32)) => Bd 100 (-9) 99 u) (fun u t => wPost (dC, dI) [(cI, .int), (c2, .array .int), (cZ, .boolean)] (va_A ([(o1, .inr (12, [.int v2, .ref o3, .int v5, .ref o6, .int v8, .ref o9, .ref o11, .int v13, .ref o14, .int v16, .ref o17, .int v19, .int v20, .int v21, .ref o22, .ref o24, .ref o26, .ref o28, .ref o30, .int v32, .ref o33, .ref o35, .ref o37, .int v39, .ref o40, .ref o42, .ref o44, .int v46, .ref o47])), (o35, .inl (cI, 100, .inl fw36)), (o30, .inl (cI, 100, .inl fw31))]) sz) ([(o1, .inr (12, [.int v2, .ref o3, .int v5, .ref o6, .int v8, .ref o9, .ref o11, .int v13, .ref o14, .int v16, .ref o17, .int v19, .int v20, .int v21, .ref o22, .ref o24, .ref o26, .ref o28, .ref o30, .int v32, .ref o33, .ref o35, .ref o37, .int v39, .ref o40, .ref o42, .ref o44, .int v46, .ref o47])), (o35, .inl (cI, 100, .inl u)), (o30, .inl (cI, 100, .inl fw31))]) t) (va_A ([(o1, .inr (12, [.int v2, .ref o3, .int v5, .ref o6, .int v8, .ref o9, .ref o11, .int v13, .ref o14, .int v16, .ref o17, .int v19, .int v20, .int v21, .ref o22, .ref o24, .ref o26, .ref o28, .ref o30, .int v32, .ref o33, .ref o35, .ref o37, .int v39, .ref o40, .ref o42, .ref o44, .int v46, .ref o47])), (o35, .inl (cI, 100, .inl fw36)), (o30, .inl (cI, 100, .inl fw31))]) sz)) 0 0 (va_A ([(o1, .inr (12, [.int v2, .ref o3, .int v5, .ref o6, .int v8, .ref o9, .ref o11, .int v13, .ref o14, .int v16, .ref o17, .int v19, .int v20, .int v21, .ref o22, .ref o24, .ref o26, .ref o28, .ref o30, .int v32, .ref o33, .ref o35, .ref o37, .int v39, .ref o40, .ref o42, .ref o44, .int v46, .ref o47])), (o35, .inl (cI, 100, .inl fw36)), (o30, .inl (cI, 100, .inl fw31))]) sz) := by
  refine Met.ofW (cc := cX12_setTree) (maxL := 9) (ret := none) (by decide) rfl ?_
  intro p e s m args below meth c s₁ B hml hv
  obtain ⟨rfl, hsz, hP, hK, hD0, hN⟩ := hv
  have hx := B.exec
  have hb := B.bytes
  have hr := B.returns
  have hts := atoms_spec (ws := wsX12_setTree) B.pre
  have hown : s.vm.findClass RX12 = some m.cls := findClass_of_methodNamed B.named
  have hlocks := B.notSynchronized
  subst hsz
  have hD := hD0.self (sz := s.heap.size)
  generalize hAe : va_A ([(o1, .inr (12, [.int v2, .ref o3, .int v5, .ref o6, .int v8, .ref o9, .ref o11, .int v13, .ref o14, .int v16, .ref o17, .int v19, .int v20, .int v21, .ref o22, .ref o24, .ref o26, .ref o28, .ref o30, .int v32, .ref o33, .ref o35, .ref o37, .int v39, .ref o40, .ref o42, .ref o44, .int v46, .ref o47])), (o35, .inl (cI, 100, .inl fw36)), (o30, .inl (cI, 100, .inl fw31))]) s.heap.size = A at hD ⊢
  have hA : ∀ q : Nat, s.heap.size ≤ q → A q := fun q h => by rw [← hAe]; exact Or.inr h
  have hS : va_S A s.heap s.heap [] := va_S.rf
  have hP : va_P (dC, dI) vwCl ([(o1, .inr (12, [.int v2, .ref o3, .int v5, .ref o6, .int v8, .ref o9, .ref o11, .int v13, .ref o14, .int v16, .ref o17, .int v19, .int v20, .int v21, .ref o22, .ref o24, .ref o26, .ref o28, .ref o30, .int v32, .ref o33, .ref o35, .ref o37, .int v39, .ref o40, .ref o42, .ref o44, .int v46, .ref o47])), (o35, .inl (cI, 100, .inl fw36)), (o30, .inl (cI, 100, .inl fw31))]) s.heap := hP
  have hl := lv_entry ([.ref o1]) (n := 9) (Nat.le_of_ble_eq_true rfl)
  rw [lg_entry_eq]
  generalize (lg_sl ([.ref o1]) ++ List.replicate (9 - (lg_sl ([.ref o1])).length) Slot.unset).toArray = ls at hl ⊢
  have hl : lv_has ls 9 [(0, .ref o1)] := hl
  refine gen_Q (fun Q hQ => ?_)
  refine lv_iconst (v := 0) hx hb dX12_setTree_0 (by decide) ?_
  refine lv_istore_n (lv' := [(1, .int 0), (0, .ref o1)]) hx hb dX12_setTree_1 rfl hl (by decide) rfl (fun ls hl => ?_)
  have L1 : ∀ (N : Nat) (x54 : Int32) (f55 : Nat → Int32) (H : Heap) (locs : List Loc) (ls : Array Slot), (12 - x54.toInt).toNat < N → Iv 0 12 x54 → Bd 100 (-9) 99 f55 → va_P (dC, dI) vwCl ([(o1, .inr (12, [.int v2, .ref o3, .int v5, .ref o6, .int v8, .ref o9, .ref o11, .int v13, .ref o14, .int v16, .ref o17, .int v19, .int v20, .int v21, .ref o22, .ref o24, .ref o26, .ref o28, .ref o30, .int v32, .ref o33, .ref o35, .ref o37, .int v39, .ref o40, .ref o42, .ref o44, .int v46, .ref o47])), (o35, .inl (cI, 100, .inl f55)), (o30, .inl (cI, 100, .inl fw31))]) H → va_D A ([(o1, .inr (12, [.int v2, .ref o3, .int v5, .ref o6, .int v8, .ref o9, .ref o11, .int v13, .ref o14, .int v16, .ref o17, .int v19, .int v20, .int v21, .ref o22, .ref o24, .ref o26, .ref o28, .ref o30, .int v32, .ref o33, .ref o35, .ref o37, .int v39, .ref o40, .ref o42, .ref o44, .int v46, .ref o47])), (o35, .inl (cI, 100, .inl f55)), (o30, .inl (cI, 100, .inl fw31))]) → va_S A s.heap H locs → lv_has ls 9 [(1, .int x54), (0, .ref o1)] → W p l e ({ frames := 1, cells := 0, slots := 0, locals := 22 }) s m ([.ref o1] : List Value).toArray below meth c H locs 0 0 Q (F0 m 2 ls []) := by
    intro N
    induction N with
    | zero =>
      intro x54 f55 H locs ls hM
      exact absurd hM (Nat.not_lt_zero _)
    | succ N ih1 =>
      intro x54 f55 H locs ls hM1 x54_h f55_b hP hD hS hl
      refine lv_iload_n hx hb dX12_setTree_2 rfl (lv_at hl 0 rfl) ?_
      refine lv_aload_n hx hb dX12_setTree_3 rfl (lv_at hl 1 rfl) ?_
      refine va_get (D := (dC, dI)) (ci := 12) (v := .int v32) (C := RX12) (T := TX12) (N := 29) hx hb hts iw_X12_setTree_X12 hown hK hP 0 rfl rfl 19 (by decide) (hts (.fieldLink RX12 164 "HolelessHouseModel" "cliqueMany" "I") hm_X12_setTree_1) (fun _ h9 => h9) rfl dX12_setTree_4 ?_
      refine lv_icmp_ge (tgt := 24) hx hb dX12_setTree_7 (by decide) (fun h56 => ?_) (fun h56 => ?_)
      ·
        have qh56 := le_i h56
        refine lv_iconst (v := 1) hx hb dX12_setTree_24 (by decide) ?_
        refine lv_istore_n (lv' := [(1, .int 1), (0, .ref o1)]) hx hb dX12_setTree_25 rfl hl (by decide) rfl (fun ls hl => ?_)
        refine lv_iconst (v := 1) hx hb dX12_setTree_26 (by decide) ?_
        refine lv_istore_n (lv' := [(2, .int 1), (1, .int 1), (0, .ref o1)]) hx hb dX12_setTree_27 rfl hl (by decide) rfl (fun ls hl => ?_)
        have L72 : ∀ (N : Nat) (x18365 : Int32) (x18366 : Int32) (f18367 : Nat → Int32) (H : Heap) (locs : List Loc) (ls : Array Slot), (12 - x18365.toInt).toNat < N → Iv 1 12 x18365 → Iv 0 4095 x18366 → Bd 100 (-9) 99 f18367 → (bt x18366 0 = true) → (ct x18366 (Int32.toNatClampNeg v32) ≤ (Int32.toNatClampNeg x18365)) → va_P (dC, dI) vwCl ([(o1, .inr (12, [.int v2, .ref o3, .int v5, .ref o6, .int v8, .ref o9, .ref o11, .int v13, .ref o14, .int v16, .ref o17, .int v19, .int v20, .int v21, .ref o22, .ref o24, .ref o26, .ref o28, .ref o30, .int v32, .ref o33, .ref o35, .ref o37, .int v39, .ref o40, .ref o42, .ref o44, .int v46, .ref o47])), (o35, .inl (cI, 100, .inl f18367)), (o30, .inl (cI, 100, .inl fw31))]) H → va_D A ([(o1, .inr (12, [.int v2, .ref o3, .int v5, .ref o6, .int v8, .ref o9, .ref o11, .int v13, .ref o14, .int v16, .ref o17, .int v19, .int v20, .int v21, .ref o22, .ref o24, .ref o26, .ref o28, .ref o30, .int v32, .ref o33, .ref o35, .ref o37, .int v39, .ref o40, .ref o42, .ref o44, .int v46, .ref o47])), (o35, .inl (cI, 100, .inl f18367)), (o30, .inl (cI, 100, .inl fw31))]) → va_S A s.heap H locs → lv_has ls 9 [(2, .int x18365), (1, .int x18366), (0, .ref o1)] → W p l e ({ frames := 1, cells := 0, slots := 0, locals := 22 }) s m ([.ref o1] : List Value).toArray below meth c H locs 0 0 Q (F0 m 28 ls []) := by
          intro N
          induction N with
          | zero =>
            intro x18365 x18366 f18367 H locs ls hM
            exact absurd hM (Nat.not_lt_zero _)
          | succ N ih72 =>
            intro x18365 x18366 f18367 H locs ls hM72 x18365_h x18366_h f18367_b iv72_0 iv72_1 hP hD hS hl
            refine lv_iload_n hx hb dX12_setTree_28 rfl (lv_at hl 0 rfl) ?_
            refine lv_aload_n hx hb dX12_setTree_29 rfl (lv_at hl 2 rfl) ?_
            refine va_get (D := (dC, dI)) (ci := 12) (v := .int v32) (C := RX12) (T := TX12) (N := 29) hx hb hts iw_X12_setTree_X12 hown hK hP 0 rfl rfl 19 (by decide) (hts (.fieldLink RX12 164 "HolelessHouseModel" "cliqueMany" "I") hm_X12_setTree_1) (fun _ h9 => h9) rfl dX12_setTree_30 ?_
            refine lv_icmp_ge (tgt := 160) hx hb dX12_setTree_33 (by decide) (fun h18368 => ?_) (fun h18368 => ?_)
            ·
              have qh18368 := le_i h18368
              rw [hQ]
              exact W.vret hx hb hr (fun t ht hW => ⟨⟨f18367, rfl, f18367_b, by rw [ht]; exact hP, va_K.moved hW.alike hK, hD⟩, hS.F ht⟩) hS.2.2 dX12_setTree_160
            ·
              have qh18368 := nle_i h18368
              have j18369 : Iv 1 11 x18365 := r_ltl qh18368 x18365_h v32_h (by decide)
              have j18370 : Iv 2 12 v32 := r_ltr qh18368 x18365_h v32_h (by decide)
              refine lv_bipush (v := (-9)) hx hb dX12_setTree_36 (by decide) ?_
              refine lv_istore_n (lv' := [(3, .int (-9)), (2, .int x18365), (1, .int x18366), (0, .ref o1)]) hx hb dX12_setTree_38 rfl hl (by decide) rfl (fun ls hl => ?_)
              refine lv_bipush (v := (-9)) hx hb dX12_setTree_39 (by decide) ?_
              refine lv_istore (lv' := [(4, .int (-9)), (3, .int (-9)), (2, .int x18365), (1, .int x18366), (0, .ref o1)]) hx hb dX12_setTree_41 hl (by decide) rfl (fun ls hl => ?_)
              refine lv_bipush (v := (-9)) hx hb dX12_setTree_43 (by decide) ?_
              refine lv_istore (lv' := [(5, .int (-9)), (4, .int (-9)), (3, .int (-9)), (2, .int x18365), (1, .int x18366), (0, .ref o1)]) hx hb dX12_setTree_45 hl (by decide) rfl (fun ls hl => ?_)
              refine lv_iconst (v := 0) hx hb dX12_setTree_47 (by decide) ?_
              refine lv_istore (lv' := [(6, .int 0), (5, .int (-9)), (4, .int (-9)), (3, .int (-9)), (2, .int x18365), (1, .int x18366), (0, .ref o1)]) hx hb dX12_setTree_48 hl (by decide) rfl (fun ls hl => ?_)
              have L81 : ∀ (N : Nat) (x20685 : Int32) (x20686 : Int32) (x20687 : Int32) (x20688 : Int32) (H : Heap) (locs : List Loc) (ls : Array Slot), (12 - x20685.toInt).toNat < N → Iv 0 12 x20685 → Iv (-9) 13 x20686 → Iv (-9) 11 x20687 → Iv (-9) 11 x20688 → (Int32.toInt x20687 < 0 → Int32.toInt x20686 = -9 ∧ (0 < (Int32.toNatClampNeg x20685) → ∀ i, i < (Int32.toNatClampNeg v32) → bt x18366 i = true)) → va_P (dC, dI) vwCl ([(o1, .inr (12, [.int v2, .ref o3, .int v5, .ref o6, .int v8, .ref o9, .ref o11, .int v13, .ref o14, .int v16, .ref o17, .int v19, .int v20, .int v21, .ref o22, .ref o24, .ref o26, .ref o28, .ref o30, .int v32, .ref o33, .ref o35, .ref o37, .int v39, .ref o40, .ref o42, .ref o44, .int v46, .ref o47])), (o35, .inl (cI, 100, .inl f18367)), (o30, .inl (cI, 100, .inl fw31))]) H → va_D A ([(o1, .inr (12, [.int v2, .ref o3, .int v5, .ref o6, .int v8, .ref o9, .ref o11, .int v13, .ref o14, .int v16, .ref o17, .int v19, .int v20, .int v21, .ref o22, .ref o24, .ref o26, .ref o28, .ref o30, .int v32, .ref o33, .ref o35, .ref o37, .int v39, .ref o40, .ref o42, .ref o44, .int v46, .ref o47])), (o35, .inl (cI, 100, .inl f18367)), (o30, .inl (cI, 100, .inl fw31))]) → va_S A s.heap H locs → lv_has ls 9 [(6, .int x20685), (5, .int x20686), (4, .int x20687), (3, .int x20688), (2, .int x18365), (1, .int x18366), (0, .ref o1)] → W p l e ({ frames := 1, cells := 0, slots := 0, locals := 22 }) s m ([.ref o1] : List Value).toArray below meth c H locs 0 0 Q (F0 m 50 ls []) := by
                intro N
                induction N with
                | zero =>
                  intro x20685 x20686 x20687 x20688 H locs ls hM
                  exact absurd hM (Nat.not_lt_zero _)
                | succ N ih81 =>
                  intro x20685 x20686 x20687 x20688 H locs ls hM81 x20685_h x20686_h x20687_h x20688_h iv81_0 hP hD hS hl
                  refine lv_iload hx hb dX12_setTree_50 (lv_at hl 0 rfl) ?_
                  refine lv_aload_n hx hb dX12_setTree_52 rfl (lv_at hl 6 rfl) ?_
                  refine va_get (D := (dC, dI)) (ci := 12) (v := .int v32) (C := RX12) (T := TX12) (N := 29) hx hb hts iw_X12_setTree_X12 hown hK hP 0 rfl rfl 19 (by decide) (hts (.fieldLink RX12 164 "HolelessHouseModel" "cliqueMany" "I") hm_X12_setTree_1) (fun _ h9 => h9) rfl dX12_setTree_53 ?_
                  refine lv_icmp_ge (tgt := 139) hx hb dX12_setTree_56 (by decide) (fun h20689 => ?_) (fun h20689 => ?_)
                  ·
                    have qh20689 := le_i h20689
                    have j20690 : Iv 2 12 x20685 := r_ler qh20689 j18370 x20685_h (by decide)
                    have j20691 : Iv 0 11 x20687 := st_ok iv81_0 iv72_1 qh18368 qh20689 (iv_w (c := 0) (d := 12) j18369 (by decide)) x20687_h
                    refine lv_aload_n hx hb dX12_setTree_139 rfl (lv_at hl 6 rfl) ?_
                    refine va_get (D := (dC, dI)) (ci := 12) (v := .ref o35) (C := RX12) (T := TX12) (N := 29) hx hb hts iw_X12_setTree_X12 hown hK hP 0 rfl rfl 21 (by decide) (hts (.fieldLink RX12 51 "HolelessHouseModel" "parents" "[I") hm_X12_setTree_2) (fun _ h9 => h9) rfl dX12_setTree_140 ?_
                    refine lv_iload hx hb dX12_setTree_143 (lv_at hl 2 rfl) ?_
                    refine lv_iload_n hx hb dX12_setTree_145 rfl (lv_at hl 3 rfl) ?_
                    refine k_iast hx hb hK hP hD hS 1 0 rfl rfl (vin_iv j20691 (by decide)) dX12_setTree_146 (fun f20692 H locs f20692_e hP hD hS => ?_)
                    have f20692_b : Bd 100 (-9) 99 f20692 := bd_upd f20692_e f18367_b x20688_h (by decide)
                    have hP : va_P (dC, dI) vwCl ([(o1, .inr (12, [.int v2, .ref o3, .int v5, .ref o6, .int v8, .ref o9, .ref o11, .int v13, .ref o14, .int v16, .ref o17, .int v19, .int v20, .int v21, .ref o22, .ref o24, .ref o26, .ref o28, .ref o30, .int v32, .ref o33, .ref o35, .ref o37, .int v39, .ref o40, .ref o42, .ref o44, .int v46, .ref o47])), (o35, .inl (cI, 100, .inl f20692)), (o30, .inl (cI, 100, .inl fw31))]) H := hP
                    have hD : va_D A ([(o1, .inr (12, [.int v2, .ref o3, .int v5, .ref o6, .int v8, .ref o9, .ref o11, .int v13, .ref o14, .int v16, .ref o17, .int v19, .int v20, .int v21, .ref o22, .ref o24, .ref o26, .ref o28, .ref o30, .int v32, .ref o33, .ref o35, .ref o37, .int v39, .ref o40, .ref o42, .ref o44, .int v46, .ref o47])), (o35, .inl (cI, 100, .inl f20692)), (o30, .inl (cI, 100, .inl fw31))]) := hD
                    refine lv_iload_n hx hb dX12_setTree_147 rfl (lv_at hl 5 rfl) ?_
                    refine lv_iconst (v := 1) hx hb dX12_setTree_148 (by decide) ?_
                    refine lv_iload hx hb dX12_setTree_149 (lv_at hl 2 rfl) ?_
                    refine lv_ishl hx hb dX12_setTree_151 (lv_topi (fun x20693 x20693_e => ?_))
                    have x20693_h : Iv 1 2048 x20693 := iv_e x20693_e (iv_shl1 j20691 (by decide))
                    refine lv_ior hx hb dX12_setTree_152 (lv_topi (fun x20694 x20694_e => ?_))
                    have x20694_h : Iv 0 4095 x20694 := iv_e x20694_e (iv_or 12 x18366_h x20693_h (by decide))
                    refine lv_istore_n (lv' := [(1, .int x20694), (6, .int x20685), (5, .int x20686), (4, .int x20687), (3, .int x20688), (2, .int x18365), (0, .ref o1)]) hx hb dX12_setTree_153 rfl hl (by decide) rfl (fun ls hl => ?_)
                    obtain ⟨x20695, x20695_e⟩ : ∃ z : Int32, z = x18365 + 1 := ⟨_, rfl⟩
                    have x20695_h : Iv 2 12 x20695 := iv_e x20695_e (iv_add j18369 ik_1 (by decide))
                    refine lv_iinc (v := x20695) (lv' := [(2, .int x20695), (1, .int x20694), (6, .int x20685), (5, .int x20686), (4, .int x20687), (3, .int x20688), (0, .ref o1)]) hx hb dX12_setTree_154 hl (k := 5) rfl (incN (by decide +kernel) x20695_e) (by decide) rfl (fun ls hl => ?_)
                    refine lv_goto (tgt := 28) hx hb dX12_setTree_157 (by decide) ?_
                    exact ih72 x20695 x20694 f20692 _ _ _ (ms_up x20695_e j18369 (by decide) hM72) (iv_w x20695_h (by decide)) x20694_h f20692_b (bt_or0 iv72_0 x20694_e) (by rw [cl_s x20695_e (iv_w (c := 0) (d := 4095) j18369 (by decide))]; exact Nat.le_trans (ct_or1 j20691 (by decide) (Nat.le_trans (cl_b (iv_w (c := 0) (d := 12) j18370 (by decide)) (show (12 : Int) ≤ ((32 : Nat) : Int) by decide)) (Nat.le_refl _)) x20693_e x20694_e) (Nat.succ_le_succ iv72_1)) hP hD hS (lv_sub hl [0, 1, 6] rfl)
                  ·
                    have qh20689 := nle_i h20689
                    have j20696 : Iv 0 11 x20685 := r_ltl qh20689 x20685_h j18370 (by decide)
                    refine lv_iconst (v := 0) hx hb dX12_setTree_59 (by decide) ?_
                    refine lv_istore (lv' := [(7, .int 0), (6, .int x20685), (5, .int x20686), (4, .int x20687), (3, .int x20688), (2, .int x18365), (1, .int x18366), (0, .ref o1)]) hx hb dX12_setTree_60 hl (by decide) rfl (fun ls hl => ?_)
                    have L82 : ∀ (N : Nat) (x20947 : Int32) (x20948 : Int32) (x20949 : Int32) (x20950 : Int32) (H : Heap) (locs : List Loc) (ls : Array Slot), (12 - x20947.toInt).toNat < N → Iv 0 12 x20947 → Iv (-9) 13 x20948 → Iv (-9) 11 x20949 → Iv (-9) 11 x20950 → (Int32.toInt x20949 < 0 → Int32.toInt x20948 = -9 ∧ TO x18366 (Int32.toNatClampNeg x20685) (Int32.toNatClampNeg x20947) (Int32.toNatClampNeg v32)) → va_P (dC, dI) vwCl ([(o1, .inr (12, [.int v2, .ref o3, .int v5, .ref o6, .int v8, .ref o9, .ref o11, .int v13, .ref o14, .int v16, .ref o17, .int v19, .int v20, .int v21, .ref o22, .ref o24, .ref o26, .ref o28, .ref o30, .int v32, .ref o33, .ref o35, .ref o37, .int v39, .ref o40, .ref o42, .ref o44, .int v46, .ref o47])), (o35, .inl (cI, 100, .inl f18367)), (o30, .inl (cI, 100, .inl fw31))]) H → va_D A ([(o1, .inr (12, [.int v2, .ref o3, .int v5, .ref o6, .int v8, .ref o9, .ref o11, .int v13, .ref o14, .int v16, .ref o17, .int v19, .int v20, .int v21, .ref o22, .ref o24, .ref o26, .ref o28, .ref o30, .int v32, .ref o33, .ref o35, .ref o37, .int v39, .ref o40, .ref o42, .ref o44, .int v46, .ref o47])), (o35, .inl (cI, 100, .inl f18367)), (o30, .inl (cI, 100, .inl fw31))]) → va_S A s.heap H locs → lv_has ls 9 [(7, .int x20947), (6, .int x20685), (5, .int x20948), (4, .int x20949), (3, .int x20950), (2, .int x18365), (1, .int x18366), (0, .ref o1)] → W p l e ({ frames := 1, cells := 0, slots := 0, locals := 22 }) s m ([.ref o1] : List Value).toArray below meth c H locs 0 0 Q (F0 m 62 ls []) := by
                      intro N
                      induction N with
                      | zero =>
                        intro x20947 x20948 x20949 x20950 H locs ls hM
                        exact absurd hM (Nat.not_lt_zero _)
                      | succ N ih82 =>
                        intro x20947 x20948 x20949 x20950 H locs ls hM82 x20947_h x20948_h x20949_h x20950_h iv82_0 hP hD hS hl
                        refine lv_iload hx hb dX12_setTree_62 (lv_at hl 0 rfl) ?_
                        refine lv_aload_n hx hb dX12_setTree_64 rfl (lv_at hl 7 rfl) ?_
                        refine va_get (D := (dC, dI)) (ci := 12) (v := .int v32) (C := RX12) (T := TX12) (N := 29) hx hb hts iw_X12_setTree_X12 hown hK hP 0 rfl rfl 19 (by decide) (hts (.fieldLink RX12 164 "HolelessHouseModel" "cliqueMany" "I") hm_X12_setTree_1) (fun _ h9 => h9) rfl dX12_setTree_65 ?_
                        refine lv_icmp_ge (tgt := 133) hx hb dX12_setTree_68 (by decide) (fun h20951 => ?_) (fun h20951 => ?_)
                        ·
                          have qh20951 := le_i h20951
                          have j20952 : Iv 2 12 x20947 := r_ler qh20951 j18370 x20947_h (by decide)
                          obtain ⟨x20953, x20953_e⟩ : ∃ z : Int32, z = x20685 + 1 := ⟨_, rfl⟩
                          have x20953_h : Iv 1 12 x20953 := iv_e x20953_e (iv_add j20696 ik_1 (by decide))
                          refine lv_iinc (v := x20953) (lv' := [(6, .int x20953), (7, .int x20947), (5, .int x20948), (4, .int x20949), (3, .int x20950), (2, .int x18365), (1, .int x18366), (0, .ref o1)]) hx hb dX12_setTree_133 hl (k := 1) rfl (incN (by decide +kernel) x20953_e) (by decide) rfl (fun ls hl => ?_)
                          refine lv_goto (tgt := 50) hx hb dX12_setTree_136 (by decide) ?_
                          exact ih81 x20953 x20948 x20949 x20950 _ _ _ (ms_up x20953_e j20696 (by decide) hM81) (iv_w x20953_h (by decide)) x20948_h x20949_h x20950_h (fun h8 => ⟨(iv82_0 h8).1, fun _ => TO_all (iv82_0 h8).2 (cl_le qh20951 (iv_w (c := 0) (d := 12) j18370 (by decide)))⟩) hP hD hS (lv_sub hl [0, 2, 3, 4, 5, 6, 7] rfl)
                        ·
                          have qh20951 := nle_i h20951
                          have j20954 : Iv 0 11 x20947 := r_ltl qh20951 x20947_h j18370 (by decide)
                          refine lv_aload_n hx hb dX12_setTree_71 rfl (lv_at hl 7 rfl) ?_
                          refine va_get (D := (dC, dI)) (ci := 12) (v := .ref o30) (C := RX12) (T := TX12) (N := 29) hx hb hts iw_X12_setTree_X12 hown hK hP 0 rfl rfl 18 (by decide) (hts (.fieldLink RX12 45 "HolelessHouseModel" "cliques" "[I") hm_X12_setTree_3) (fun _ h9 => h9) rfl dX12_setTree_72 ?_
                          refine lv_iload hx hb dX12_setTree_75 (lv_at hl 1 rfl) ?_
                          refine va_iald hx hb hK hP 2 0 rfl rfl (vin_iv j20696 (by decide)) dX12_setTree_77 (lv_topi (fun x20955 x20955_e => ?_))
                          have x20955_h : Iv 0 4095 x20955 := iv_e x20955_e (bd_at fw31_b (vin_iv j20696 (by decide)))
                          refine lv_aload_n hx hb dX12_setTree_78 rfl (lv_at hl 7 rfl) ?_
                          refine va_get (D := (dC, dI)) (ci := 12) (v := .ref o30) (C := RX12) (T := TX12) (N := 29) hx hb hts iw_X12_setTree_X12 hown hK hP 0 rfl rfl 18 (by decide) (hts (.fieldLink RX12 45 "HolelessHouseModel" "cliques" "[I") hm_X12_setTree_3) (fun _ h9 => h9) rfl dX12_setTree_79 ?_
                          refine lv_iload hx hb dX12_setTree_82 (lv_at hl 0 rfl) ?_
                          refine va_iald hx hb hK hP 2 0 rfl rfl (vin_iv j20954 (by decide)) dX12_setTree_84 (lv_topi (fun x20956 x20956_e => ?_))
                          have x20956_h : Iv 0 4095 x20956 := iv_e x20956_e (bd_at fw31_b (vin_iv j20954 (by decide)))
                          refine lv_iand hx hb dX12_setTree_85 (lv_topi (fun x20957 x20957_e => ?_))
                          have x20957_h : Iv 0 4095 x20957 := iv_e x20957_e (iv_andL _ x20955_h (by decide))
                          refine kc_i (D := (dC, dI)) (S := Unit) (wc := []) (wr := [(o1, .inr (12, [.int v2, .ref o3, .int v5, .ref o6, .int v8, .ref o9, .ref o11, .int v13, .ref o14, .int v16, .ref o17, .int v19, .int v20, .int v21, .ref o22, .ref o24, .ref o26, .ref o28, .ref o30, .int v32, .ref o33, .ref o35, .ref o37, .int v39, .ref o40, .ref o42, .ref o44, .int v46, .ref o47])), (o35, .inl (cI, 100, .inl f18367)), (o30, .inl (cI, 100, .inl fw31))]) (w1 := fun _ => []) (wn := fun _ => [(o1, .inr (12, [.int v2, .ref o3, .int v5, .ref o6, .int v8, .ref o9, .ref o11, .int v13, .ref o14, .int v16, .ref o17, .int v19, .int v20, .int v21, .ref o22, .ref o24, .ref o26, .ref o28, .ref o30, .int v32, .ref o33, .ref o35, .ref o37, .int v39, .ref o40, .ref o42, .ref o44, .int v46, .ref o47])), (o35, .inl (cI, 100, .inl f18367)), (o30, .inl (cI, 100, .inl fw31))]) (fun hPc hDc => va_runS (As := [.int x20957]) (rest := []) ⟨hx, hb, hml, hown, hts⟩ (kX12_bits_1 l dC dI cI c2 cZ x20957 H.size) (va_cwS 1 hts gX12_setTree_X12_bits rfl rfl rfl (by decide +kernel) ⟨Nat.le_of_ble_eq_true rfl, Nat.le_of_ble_eq_true rfl⟩) (pre_S hPc hK hDc hN) rfl rfl hl.1 rfl (lv_room (Nat.le_of_ble_eq_true rfl)) dX12_setTree_86 ⟨Nat.le_of_ble_eq_true rfl, Nat.le_of_ble_eq_true rfl⟩) hP hD hS hA [] [0, 1, 2] [0, 1, 2] rfl rfl (by decide +kernel) (by decide +kernel) (by decide +kernel) (by decide +kernel) (fun _ => rfl) (fun x20958 _ H locs hq hP hD hS => ?_)
                          obtain ⟨x20958_h, e20959⟩ := hq
                          have hP : va_P (dC, dI) vwCl ([(o1, .inr (12, [.int v2, .ref o3, .int v5, .ref o6, .int v8, .ref o9, .ref o11, .int v13, .ref o14, .int v16, .ref o17, .int v19, .int v20, .int v21, .ref o22, .ref o24, .ref o26, .ref o28, .ref o30, .int v32, .ref o33, .ref o35, .ref o37, .int v39, .ref o40, .ref o42, .ref o44, .int v46, .ref o47])), (o35, .inl (cI, 100, .inl f18367)), (o30, .inl (cI, 100, .inl fw31))]) H := hP
                          have hD : va_D A ([(o1, .inr (12, [.int v2, .ref o3, .int v5, .ref o6, .int v8, .ref o9, .ref o11, .int v13, .ref o14, .int v16, .ref o17, .int v19, .int v20, .int v21, .ref o22, .ref o24, .ref o26, .ref o28, .ref o30, .int v32, .ref o33, .ref o35, .ref o37, .int v39, .ref o40, .ref o42, .ref o44, .int v46, .ref o47])), (o35, .inl (cI, 100, .inl f18367)), (o30, .inl (cI, 100, .inl fw31))]) := hD
                          refine lv_istore (lv' := [(8, .int x20958), (7, .int x20947), (6, .int x20685), (5, .int x20948), (4, .int x20949), (3, .int x20950), (2, .int x18365), (1, .int x18366), (0, .ref o1)]) hx hb dX12_setTree_89 hl (by decide) rfl (fun ls hl => ?_)
                          refine lv_iload_n hx hb dX12_setTree_91 rfl (lv_at hl 7 rfl) ?_
                          refine lv_iload hx hb dX12_setTree_92 (lv_at hl 2 rfl) ?_
                          refine kc_i (D := (dC, dI)) (S := Unit) (wc := []) (wr := [(o1, .inr (12, [.int v2, .ref o3, .int v5, .ref o6, .int v8, .ref o9, .ref o11, .int v13, .ref o14, .int v16, .ref o17, .int v19, .int v20, .int v21, .ref o22, .ref o24, .ref o26, .ref o28, .ref o30, .int v32, .ref o33, .ref o35, .ref o37, .int v39, .ref o40, .ref o42, .ref o44, .int v46, .ref o47])), (o35, .inl (cI, 100, .inl f18367)), (o30, .inl (cI, 100, .inl fw31))]) (w1 := fun _ => []) (wn := fun _ => [(o1, .inr (12, [.int v2, .ref o3, .int v5, .ref o6, .int v8, .ref o9, .ref o11, .int v13, .ref o14, .int v16, .ref o17, .int v19, .int v20, .int v21, .ref o22, .ref o24, .ref o26, .ref o28, .ref o30, .int v32, .ref o33, .ref o35, .ref o37, .int v39, .ref o40, .ref o42, .ref o44, .int v46, .ref o47])), (o35, .inl (cI, 100, .inl f18367)), (o30, .inl (cI, 100, .inl fw31))]) (fun hPc hDc => va_runS (As := [.int x18366, .int x20685]) (rest := []) ⟨hx, hb, hml, hown, hts⟩ (kX12_has_1 l dC dI cI c2 cZ x18366 x20685 H.size (iv_w j20696 (by decide))) (va_cwS 2 hts gX12_setTree_X12_has rfl rfl rfl (by decide +kernel) ⟨Nat.le_of_ble_eq_true rfl, Nat.le_of_ble_eq_true rfl⟩) (pre_S hPc hK hDc hN) rfl rfl hl.1 rfl (lv_room (Nat.le_of_ble_eq_true rfl)) dX12_setTree_94 ⟨Nat.le_of_ble_eq_true rfl, Nat.le_of_ble_eq_true rfl⟩) hP hD hS hA [] [0, 1, 2] [0, 1, 2] rfl rfl (by decide +kernel) (by decide +kernel) (by decide +kernel) (by decide +kernel) (fun _ => rfl) (fun x20960 _ H locs hq hP hD hS => ?_)
                          obtain ⟨x20960_h, e20961⟩ := hq
                          have hP : va_P (dC, dI) vwCl ([(o1, .inr (12, [.int v2, .ref o3, .int v5, .ref o6, .int v8, .ref o9, .ref o11, .int v13, .ref o14, .int v16, .ref o17, .int v19, .int v20, .int v21, .ref o22, .ref o24, .ref o26, .ref o28, .ref o30, .int v32, .ref o33, .ref o35, .ref o37, .int v39, .ref o40, .ref o42, .ref o44, .int v46, .ref o47])), (o35, .inl (cI, 100, .inl f18367)), (o30, .inl (cI, 100, .inl fw31))]) H := hP
                          have hD : va_D A ([(o1, .inr (12, [.int v2, .ref o3, .int v5, .ref o6, .int v8, .ref o9, .ref o11, .int v13, .ref o14, .int v16, .ref o17, .int v19, .int v20, .int v21, .ref o22, .ref o24, .ref o26, .ref o28, .ref o30, .int v32, .ref o33, .ref o35, .ref o37, .int v39, .ref o40, .ref o42, .ref o44, .int v46, .ref o47])), (o35, .inl (cI, 100, .inl f18367)), (o30, .inl (cI, 100, .inl fw31))]) := hD
                          refine lv_if_eq (tgt := 127) hx hb dX12_setTree_97 (by decide) (fun h20962 => ?_) (fun h20962 => ?_)
                          ·
                            have j20963 : Iv 0 0 x20960 := r_eq h20962 ik_0
                            have b20964 : bt x18366 (Int32.toNatClampNeg x20685) = false := has_f e20961 h20962
                            obtain ⟨x20965, x20965_e⟩ : ∃ z : Int32, z = x20947 + 1 := ⟨_, rfl⟩
                            have x20965_h : Iv 1 12 x20965 := iv_e x20965_e (iv_add j20954 ik_1 (by decide))
                            refine lv_iinc (v := x20965) (lv' := [(7, .int x20965), (8, .int x20958), (6, .int x20685), (5, .int x20948), (4, .int x20949), (3, .int x20950), (2, .int x18365), (1, .int x18366), (0, .ref o1)]) hx hb dX12_setTree_127 hl (k := 1) rfl (incN (by decide +kernel) x20965_e) (by decide) rfl (fun ls hl => ?_)
                            refine lv_goto (tgt := 62) hx hb dX12_setTree_130 (by decide) ?_
                            exact ih82 x20965 x20948 x20949 x20950 _ _ _ (ms_up x20965_e j20954 (by decide) hM82) (iv_w x20965_h (by decide)) x20948_h x20949_h x20950_h (fun h8 => ⟨(iv82_0 h8).1, TO_1 (iv82_0 h8).2 b20964 iv72_0⟩) hP hD hS (lv_sub hl [0, 2, 3, 4, 5, 6, 7, 8] rfl)
                          ·
                            have j20966 : Iv 1 1 x20960 := r_nelo h20962 x20960_h ik_0 (by decide)
                            have b20967 : bt x18366 (Int32.toNatClampNeg x20685) = true := has_t e20961 h20962
                            refine lv_iload_n hx hb dX12_setTree_100 rfl (lv_at hl 7 rfl) ?_
                            refine lv_iload hx hb dX12_setTree_101 (lv_at hl 1 rfl) ?_
                            refine kc_i (D := (dC, dI)) (S := Unit) (wc := []) (wr := [(o1, .inr (12, [.int v2, .ref o3, .int v5, .ref o6, .int v8, .ref o9, .ref o11, .int v13, .ref o14, .int v16, .ref o17, .int v19, .int v20, .int v21, .ref o22, .ref o24, .ref o26, .ref o28, .ref o30, .int v32, .ref o33, .ref o35, .ref o37, .int v39, .ref o40, .ref o42, .ref o44, .int v46, .ref o47])), (o35, .inl (cI, 100, .inl f18367)), (o30, .inl (cI, 100, .inl fw31))]) (w1 := fun _ => []) (wn := fun _ => [(o1, .inr (12, [.int v2, .ref o3, .int v5, .ref o6, .int v8, .ref o9, .ref o11, .int v13, .ref o14, .int v16, .ref o17, .int v19, .int v20, .int v21, .ref o22, .ref o24, .ref o26, .ref o28, .ref o30, .int v32, .ref o33, .ref o35, .ref o37, .int v39, .ref o40, .ref o42, .ref o44, .int v46, .ref o47])), (o35, .inl (cI, 100, .inl f18367)), (o30, .inl (cI, 100, .inl fw31))]) (fun hPc hDc => va_runS (As := [.int x18366, .int x20947]) (rest := []) ⟨hx, hb, hml, hown, hts⟩ (kX12_has_1 l dC dI cI c2 cZ x18366 x20947 H.size (iv_w j20954 (by decide))) (va_cwS 2 hts gX12_setTree_X12_has rfl rfl rfl (by decide +kernel) ⟨Nat.le_of_ble_eq_true rfl, Nat.le_of_ble_eq_true rfl⟩) (pre_S hPc hK hDc hN) rfl rfl hl.1 rfl (lv_room (Nat.le_of_ble_eq_true rfl)) dX12_setTree_103 ⟨Nat.le_of_ble_eq_true rfl, Nat.le_of_ble_eq_true rfl⟩) hP hD hS hA [] [0, 1, 2] [0, 1, 2] rfl rfl (by decide +kernel) (by decide +kernel) (by decide +kernel) (by decide +kernel) (fun _ => rfl) (fun x20968 _ H locs hq hP hD hS => ?_)
                            obtain ⟨x20968_h, e20969⟩ := hq
                            have hP : va_P (dC, dI) vwCl ([(o1, .inr (12, [.int v2, .ref o3, .int v5, .ref o6, .int v8, .ref o9, .ref o11, .int v13, .ref o14, .int v16, .ref o17, .int v19, .int v20, .int v21, .ref o22, .ref o24, .ref o26, .ref o28, .ref o30, .int v32, .ref o33, .ref o35, .ref o37, .int v39, .ref o40, .ref o42, .ref o44, .int v46, .ref o47])), (o35, .inl (cI, 100, .inl f18367)), (o30, .inl (cI, 100, .inl fw31))]) H := hP
                            have hD : va_D A ([(o1, .inr (12, [.int v2, .ref o3, .int v5, .ref o6, .int v8, .ref o9, .ref o11, .int v13, .ref o14, .int v16, .ref o17, .int v19, .int v20, .int v21, .ref o22, .ref o24, .ref o26, .ref o28, .ref o30, .int v32, .ref o33, .ref o35, .ref o37, .int v39, .ref o40, .ref o42, .ref o44, .int v46, .ref o47])), (o35, .inl (cI, 100, .inl f18367)), (o30, .inl (cI, 100, .inl fw31))]) := hD
                            refine lv_if_ne (tgt := 127) hx hb dX12_setTree_106 (by decide) (fun h20970 => ?_) (fun h20970 => ?_)
                            ·
                              have j20971 : Iv 1 1 x20968 := r_nelo h20970 x20968_h ik_0 (by decide)
                              have b20972 : bt x18366 (Int32.toNatClampNeg x20947) = true := has_t e20969 h20970
                              obtain ⟨x20973, x20973_e⟩ : ∃ z : Int32, z = x20947 + 1 := ⟨_, rfl⟩
                              have x20973_h : Iv 1 12 x20973 := iv_e x20973_e (iv_add j20954 ik_1 (by decide))
                              refine lv_iinc (v := x20973) (lv' := [(7, .int x20973), (8, .int x20958), (6, .int x20685), (5, .int x20948), (4, .int x20949), (3, .int x20950), (2, .int x18365), (1, .int x18366), (0, .ref o1)]) hx hb dX12_setTree_127 hl (k := 1) rfl (incN (by decide +kernel) x20973_e) (by decide) rfl (fun ls hl => ?_)
                              refine lv_goto (tgt := 62) hx hb dX12_setTree_130 (by decide) ?_
                              exact ih82 x20973 x20948 x20949 x20950 _ _ _ (ms_up x20973_e j20954 (by decide) hM82) (iv_w x20973_h (by decide)) x20948_h x20949_h x20950_h (fun h8 => ⟨(iv82_0 h8).1, TO_2 (iv82_0 h8).2 (iv_w (c := 0) (d := 4095) j20954 (by decide)) x20973_e b20972⟩) hP hD hS (lv_sub hl [0, 2, 3, 4, 5, 6, 7, 8] rfl)
                            ·
                              have j20974 : Iv 0 0 x20968 := r_eq h20970 ik_0
                              have b20975 : bt x18366 (Int32.toNatClampNeg x20947) = false := has_f e20969 h20970
                              refine lv_iload hx hb dX12_setTree_109 (lv_at hl 0 rfl) ?_
                              refine lv_iload hx hb dX12_setTree_111 (lv_at hl 3 rfl) ?_
                              refine lv_icmp_le (tgt := 127) hx hb dX12_setTree_113 (by decide) (fun h20976 => ?_) (fun h20976 => ?_)
                              ·
                                have qh20976 := le_i h20976
                                have j20977 : Iv 0 13 x20948 := r_ler qh20976 x20958_h x20948_h (by decide)
                                obtain ⟨x20978, x20978_e⟩ : ∃ z : Int32, z = x20947 + 1 := ⟨_, rfl⟩
                                have x20978_h : Iv 1 12 x20978 := iv_e x20978_e (iv_add j20954 ik_1 (by decide))
                                refine lv_iinc (v := x20978) (lv' := [(7, .int x20978), (8, .int x20958), (6, .int x20685), (5, .int x20948), (4, .int x20949), (3, .int x20950), (2, .int x18365), (1, .int x18366), (0, .ref o1)]) hx hb dX12_setTree_127 hl (k := 1) rfl (incN (by decide +kernel) x20978_e) (by decide) rfl (fun ls hl => ?_)
                                refine lv_goto (tgt := 62) hx hb dX12_setTree_130 (by decide) ?_
                                exact ih82 x20978 x20948 x20949 x20950 _ _ _ (ms_up x20978_e j20954 (by decide) hM82) (iv_w x20978_h (by decide)) (iv_w j20977 (by decide)) x20949_h x20950_h (fun h8 => absurd (iv82_0 h8).1 (by have a0 := qh20976; have a1 := (show _ ≤ _ ∧ _ ≤ _ from x20958_h); omega)) hP hD hS (lv_sub hl [0, 2, 3, 4, 5, 6, 7, 8] rfl)
                              ·
                                have qh20976 := nle_i h20976
                                have j20979 : Iv (-9) 12 x20948 := r_ltl qh20976 x20948_h x20958_h (by decide)
                                refine lv_iload hx hb dX12_setTree_116 (lv_at hl 2 rfl) ?_
                                refine lv_istore_n (lv' := [(3, .int x20685), (8, .int x20958), (7, .int x20947), (6, .int x20685), (5, .int x20948), (4, .int x20949), (2, .int x18365), (1, .int x18366), (0, .ref o1)]) hx hb dX12_setTree_118 rfl hl (by decide) rfl (fun ls hl => ?_)
                                refine lv_iload hx hb dX12_setTree_119 (lv_at hl 2 rfl) ?_
                                refine lv_istore (lv' := [(4, .int x20947), (3, .int x20685), (8, .int x20958), (7, .int x20947), (6, .int x20685), (5, .int x20948), (2, .int x18365), (1, .int x18366), (0, .ref o1)]) hx hb dX12_setTree_121 hl (by decide) rfl (fun ls hl => ?_)
                                refine lv_iload hx hb dX12_setTree_123 (lv_at hl 2 rfl) ?_
                                refine lv_istore (lv' := [(5, .int x20958), (4, .int x20947), (3, .int x20685), (8, .int x20958), (7, .int x20947), (6, .int x20685), (2, .int x18365), (1, .int x18366), (0, .ref o1)]) hx hb dX12_setTree_125 hl (by decide) rfl (fun ls hl => ?_)
                                obtain ⟨x20980, x20980_e⟩ : ∃ z : Int32, z = x20947 + 1 := ⟨_, rfl⟩
                                have x20980_h : Iv 1 12 x20980 := iv_e x20980_e (iv_add j20954 ik_1 (by decide))
                                refine lv_iinc (v := x20980) (lv' := [(7, .int x20980), (5, .int x20958), (4, .int x20947), (3, .int x20685), (8, .int x20958), (6, .int x20685), (2, .int x18365), (1, .int x18366), (0, .ref o1)]) hx hb dX12_setTree_127 hl (k := 4) rfl (incN (by decide +kernel) x20980_e) (by decide) rfl (fun ls hl => ?_)
                                refine lv_goto (tgt := 62) hx hb dX12_setTree_130 (by decide) ?_
                                exact ih82 x20980 x20958 x20947 x20685 _ _ _ (ms_up x20980_e j20954 (by decide) hM82) (iv_w x20980_h (by decide)) (iv_w x20958_h (by decide)) (iv_w j20954 (by decide)) (iv_w j20696 (by decide)) (fun h8 => absurd h8 (Int.not_lt.mpr (show _ ≤ _ ∧ _ ≤ _ from j20954).1)) hP hD hS (lv_sub hl [0, 5, 1, 2, 3, 6, 7, 8] rfl)
                    exact L82 _ 0 x20686 x20687 x20688 _ _ _ (Nat.lt_succ_self _) (iv_w ik_0 (by decide)) x20686_h x20687_h x20688_h (fun h8 => ⟨(iv81_0 h8).1, TO_0 (iv81_0 h8).2⟩) hP hD hS hl
              exact L81 _ 0 (-9) (-9) (-9) _ _ _ (Nat.lt_succ_self _) (iv_w ik_0 (by decide)) (iv_w ikm_9 (by decide)) (iv_w ikm_9 (by decide)) (iv_w ikm_9 (by decide)) (fun _ => ⟨(show Int32.toInt (-9) = (-9) by decide +kernel), fun h => absurd h (by rw [tz0]; exact Nat.lt_irrefl 0)⟩) hP hD hS hl
        exact L72 _ 1 1 f55 _ _ _ (Nat.lt_succ_self _) (iv_w ik_1 (by decide)) (iv_w ik_1 (by decide)) f55_b (by decide +kernel) (ct_one _) hP hD hS hl
      ·
        have qh56 := nle_i h56
        have j20981 : Iv 0 11 x54 := r_ltl qh56 x54_h v32_h (by decide)
        have j20982 : Iv 1 12 v32 := r_ltr qh56 x54_h v32_h (by decide)
        refine lv_aload_n hx hb dX12_setTree_10 rfl (lv_at hl 1 rfl) ?_
        refine va_get (D := (dC, dI)) (ci := 12) (v := .ref o35) (C := RX12) (T := TX12) (N := 29) hx hb hts iw_X12_setTree_X12 hown hK hP 0 rfl rfl 21 (by decide) (hts (.fieldLink RX12 51 "HolelessHouseModel" "parents" "[I") hm_X12_setTree_2) (fun _ h9 => h9) rfl dX12_setTree_11 ?_
        refine lv_iload_n hx hb dX12_setTree_14 rfl (lv_at hl 0 rfl) ?_
        refine lv_bipush (v := (-9)) hx hb dX12_setTree_15 (by decide) ?_
        refine k_iast hx hb hK hP hD hS 1 0 rfl rfl (vin_iv j20981 (by decide)) dX12_setTree_17 (fun f20983 H locs f20983_e hP hD hS => ?_)
        have f20983_b : Bd 100 (-9) 99 f20983 := bd_upd f20983_e f55_b ikm_9 (by decide)
        have hP : va_P (dC, dI) vwCl ([(o1, .inr (12, [.int v2, .ref o3, .int v5, .ref o6, .int v8, .ref o9, .ref o11, .int v13, .ref o14, .int v16, .ref o17, .int v19, .int v20, .int v21, .ref o22, .ref o24, .ref o26, .ref o28, .ref o30, .int v32, .ref o33, .ref o35, .ref o37, .int v39, .ref o40, .ref o42, .ref o44, .int v46, .ref o47])), (o35, .inl (cI, 100, .inl f20983)), (o30, .inl (cI, 100, .inl fw31))]) H := hP
        have hD : va_D A ([(o1, .inr (12, [.int v2, .ref o3, .int v5, .ref o6, .int v8, .ref o9, .ref o11, .int v13, .ref o14, .int v16, .ref o17, .int v19, .int v20, .int v21, .ref o22, .ref o24, .ref o26, .ref o28, .ref o30, .int v32, .ref o33, .ref o35, .ref o37, .int v39, .ref o40, .ref o42, .ref o44, .int v46, .ref o47])), (o35, .inl (cI, 100, .inl f20983)), (o30, .inl (cI, 100, .inl fw31))]) := hD
        obtain ⟨x20984, x20984_e⟩ : ∃ z : Int32, z = x54 + 1 := ⟨_, rfl⟩
        have x20984_h : Iv 1 12 x20984 := iv_e x20984_e (iv_add j20981 ik_1 (by decide))
        refine lv_iinc (v := x20984) (lv' := [(1, .int x20984), (0, .ref o1)]) hx hb dX12_setTree_18 hl (k := 0) rfl (incN (by decide +kernel) x20984_e) (by decide) rfl (fun ls hl => ?_)
        refine lv_goto (tgt := 2) hx hb dX12_setTree_21 (by decide) ?_
        exact ih1 x20984 f20983 _ _ _ (ms_up x20984_e j20981 (by decide) hM1) (iv_w x20984_h (by decide)) f20983_b hP hD hS hl
  exact L1 _ 0 fw36 _ _ _ (Nat.lt_succ_self _) (iv_w ik_0 (by decide)) fw36_b hP hD hS hl
