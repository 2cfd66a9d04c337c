set_option maxHeartbeats 4000000 in
set_option maxRecDepth 100000 in
theorem kX12_isColoured_4 (l : Launch) (dC : Nat → ClassId) (dI : Nat → Nat → Nat) (cI c2 cZ : ClassId) (o1 : Nat) (o3 : Nat) (o6 : Nat) (o9 : Nat) (o11 : Nat) (o14 : Nat) (o17 : Nat) (o22 : Nat) (o24 : Nat) (o26 : Nat) (o28 : Nat) (o30 : Nat) (o33 : Nat) (o35 : Nat) (o37 : Nat) (o40 : Nat) (o42 : Nat) (o44 : Nat) (o47 : Nat) (v2 : Int32) (v5 : Int32) (fw7 : Nat → Int32) (v8 : Int32) (v13 : Int32) (v16 : Int32) (v19 : Int32) (v20 : Int32) (v21 : Int32) (v32 : Int32) (fw34 : Nat → Int32) (v39 : Int32) (v46 : Int32) (a2 : Int32) (sz : Nat) (v5_h : Iv 9 12 v5) (fw7_b : Bd 12 0 4095 fw7) (v8_h : Iv 0 8 v8) (v13_h : Iv 0 12 v13) (v16_h : Iv 0 12 v16) (v19_h : Iv (-9) 12 v19) (v32_h : Iv 0 99 v32) (fw34_b : Bd 12 0 11 fw34) (v39_h : Iv 0 12 v39) (v46_h : Iv 0 12 v46) (a2_h : Iv 0 12 a2) : Met l yX12_isColoured wsX12_isColoured ({ frames := 3, cells := 0, slots := 0, locals := 75 }) (va_Pc [.ref o1, .int 9, .int a2] (wPre (dC, dI) [(cI, .int), (c2, .array .int), (cZ, .boolean)] ([(o1, .inr (12, [.int v2, .ref o3, .int v5, .ref o6, .int v8, .ref o9, .ref o11, .int v13, .ref o14, .int v16, .ref o17, .int v19, .int v20, .int v21, .ref o22, .ref o24, .ref o26, .ref o28, .ref o30, .int v32, .ref o33, .ref o35, .ref o37, .int v39, .ref o40, .ref o42, .ref o44, .int v46, .ref o47])), (o6, .inl (cI, 12, .inl fw7)), (o33, .inl (cI, 12, .inl fw34))]) sz)) (va_Qi (fun (r : Int32) (u : (Nat → Int32)) => Iv 0 1 r ∧ Bd 12 0 11 u ∧ (∀ i8, i8 < 9 → u i8 = fw34 i8) ∧ (Int32.toInt v5 ≤ Int32.toInt a2 → ¬ r = 0)) (fun u t => wPost (dC, dI) [(cI, .int), (c2, .array .int), (cZ, .boolean)] (va_A ([(o1, .inr (12, [.int v2, .ref o3, .int v5, .ref o6, .int v8, .ref o9, .ref o11, .int v13, .ref o14, .int v16, .ref o17, .int v19, .int v20, .int v21, .ref o22, .ref o24, .ref o26, .ref o28, .ref o30, .int v32, .ref o33, .ref o35, .ref o37, .int v39, .ref o40, .ref o42, .ref o44, .int v46, .ref o47])), (o6, .inl (cI, 12, .inl fw7)), (o33, .inl (cI, 12, .inl fw34))]) sz) ([(o1, .inr (12, [.int v2, .ref o3, .int v5, .ref o6, .int v8, .ref o9, .ref o11, .int v13, .ref o14, .int v16, .ref o17, .int v19, .int v20, .int v21, .ref o22, .ref o24, .ref o26, .ref o28, .ref o30, .int v32, .ref o33, .ref o35, .ref o37, .int v39, .ref o40, .ref o42, .ref o44, .int v46, .ref o47])), (o6, .inl (cI, 12, .inl fw7)), (o33, .inl (cI, 12, .inl u))]) t) (va_A ([(o1, .inr (12, [.int v2, .ref o3, .int v5, .ref o6, .int v8, .ref o9, .ref o11, .int v13, .ref o14, .int v16, .ref o17, .int v19, .int v20, .int v21, .ref o22, .ref o24, .ref o26, .ref o28, .ref o30, .int v32, .ref o33, .ref o35, .ref o37, .int v39, .ref o40, .ref o42, .ref o44, .int v46, .ref o47])), (o6, .inl (cI, 12, .inl fw7)), (o33, .inl (cI, 12, .inl fw34))]) sz)) 0 0 (va_A ([(o1, .inr (12, [.int v2, .ref o3, .int v5, .ref o6, .int v8, .ref o9, .ref o11, .int v13, .ref o14, .int v16, .ref o17, .int v19, .int v20, .int v21, .ref o22, .ref o24, .ref o26, .ref o28, .ref o30, .int v32, .ref o33, .ref o35, .ref o37, .int v39, .ref o40, .ref o42, .ref o44, .int v46, .ref o47])), (o6, .inl (cI, 12, .inl fw7)), (o33, .inl (cI, 12, .inl fw34))]) sz) := by
  refine Met.ofW (cc := cX12_isColoured) (maxL := 6) (ret := (some .boolean)) (by decide) rfl ?_
  intro p e s m args below meth c s₁ B hml hv
  obtain ⟨rfl, hsz, hP, hK, hD0, hN⟩ := hv
  have hx := B.exec
  have hb := B.bytes
  have hr := B.returns
  have hts := atoms_spec (ws := wsX12_isColoured) B.pre
  have hown : s.vm.findClass RX12 = some m.cls := findClass_of_methodNamed B.named
  have hlocks := B.notSynchronized
  subst hsz
  have hD := hD0.self (sz := s.heap.size)
  generalize hAe : va_A ([(o1, .inr (12, [.int v2, .ref o3, .int v5, .ref o6, .int v8, .ref o9, .ref o11, .int v13, .ref o14, .int v16, .ref o17, .int v19, .int v20, .int v21, .ref o22, .ref o24, .ref o26, .ref o28, .ref o30, .int v32, .ref o33, .ref o35, .ref o37, .int v39, .ref o40, .ref o42, .ref o44, .int v46, .ref o47])), (o6, .inl (cI, 12, .inl fw7)), (o33, .inl (cI, 12, .inl fw34))]) s.heap.size = A at hD ⊢
  have hA : ∀ q : Nat, s.heap.size ≤ q → A q := fun q h => by rw [← hAe]; exact Or.inr h
  have hS : va_S A s.heap s.heap [] := va_S.rf
  have hP : va_P (dC, dI) vwCl ([(o1, .inr (12, [.int v2, .ref o3, .int v5, .ref o6, .int v8, .ref o9, .ref o11, .int v13, .ref o14, .int v16, .ref o17, .int v19, .int v20, .int v21, .ref o22, .ref o24, .ref o26, .ref o28, .ref o30, .int v32, .ref o33, .ref o35, .ref o37, .int v39, .ref o40, .ref o42, .ref o44, .int v46, .ref o47])), (o6, .inl (cI, 12, .inl fw7)), (o33, .inl (cI, 12, .inl fw34))]) s.heap := hP
  have hl := lv_entry ([.ref o1, .int 9, .int a2]) (n := 6) (Nat.le_of_ble_eq_true rfl)
  rw [lg_entry_eq]
  generalize (lg_sl ([.ref o1, .int 9, .int a2]) ++ List.replicate (6 - (lg_sl ([.ref o1, .int 9, .int a2])).length) Slot.unset).toArray = ls at hl ⊢
  have hl : lv_has ls 6 [(0, .ref o1), (1, .int 9), (2, .int a2)] := hl
  refine gen_Q (fun Q hQ => ?_)
  refine lv_iload_n hx hb dX12_isColoured_0 rfl (lv_at hl 1 rfl) ?_
  refine lv_aload_n hx hb dX12_isColoured_1 rfl (lv_at hl 0 rfl) ?_
  refine va_get (D := (dC, dI)) (ci := 12) (v := .int v5) (C := RX12) (T := TX12) (N := 29) hx hb hts iw_X12_isColoured_X12 hown hK hP 0 rfl rfl 2 (by decide) (hts (.fieldLink RX12 73 "HolelessHouseModel" "n" "I") hm_X12_isColoured_1) (fun _ h9 => h9) rfl dX12_isColoured_2 ?_
  refine lv_icmp_ne (tgt := 10) hx hb dX12_isColoured_5 (by decide) (fun h1 => ?_) (fun h1 => ?_)
  ·
    have j2 : Iv 10 12 v5 := r_nelo (fun q => h1 q.symm) v5_h ik_9 (by decide)
    refine lv_iconst (v := 0) hx hb dX12_isColoured_10 (by decide) ?_
    refine lv_istore_n (lv' := [(3, .int 0), (0, .ref o1), (1, .int 9), (2, .int a2)]) hx hb dX12_isColoured_11 rfl hl (by decide) rfl (fun ls hl => ?_)
    have L9 : ∀ (N : Nat) (x652 : Int32) (f653 : Nat → Int32) (H : Heap) (locs : List Loc) (ls : Array Slot), (12 - x652.toInt).toNat < N → Iv 0 12 x652 → Bd 12 0 11 f653 → (∀ i8, i8 < 9 → f653 i8 = fw34 i8) → (Int32.toInt v5 ≤ Int32.toInt a2 → CW fw34 9 (Int32.toNatClampNeg x652)) → va_P (dC, dI) vwCl ([(o1, .inr (12, [.int v2, .ref o3, .int v5, .ref o6, .int v8, .ref o9, .ref o11, .int v13, .ref o14, .int v16, .ref o17, .int v19, .int v20, .int v21, .ref o22, .ref o24, .ref o26, .ref o28, .ref o30, .int v32, .ref o33, .ref o35, .ref o37, .int v39, .ref o40, .ref o42, .ref o44, .int v46, .ref o47])), (o6, .inl (cI, 12, .inl fw7)), (o33, .inl (cI, 12, .inl f653))]) H → va_D A ([(o1, .inr (12, [.int v2, .ref o3, .int v5, .ref o6, .int v8, .ref o9, .ref o11, .int v13, .ref o14, .int v16, .ref o17, .int v19, .int v20, .int v21, .ref o22, .ref o24, .ref o26, .ref o28, .ref o30, .int v32, .ref o33, .ref o35, .ref o37, .int v39, .ref o40, .ref o42, .ref o44, .int v46, .ref o47])), (o6, .inl (cI, 12, .inl fw7)), (o33, .inl (cI, 12, .inl f653))]) → va_S A s.heap H locs → lv_has ls 6 [(3, .int x652), (0, .ref o1), (1, .int 9), (2, .int a2)] → W p l e ({ frames := 3, cells := 0, slots := 0, locals := 75 }) s m ([.ref o1, .int 9, .int a2] : List Value).toArray below meth c H locs 0 0 Q (F0 m 12 ls []) := by
      intro N
      induction N with
      | zero =>
        intro x652 f653 H locs ls hM
        exact absurd hM (Nat.not_lt_zero _)
      | succ N ih9 =>
        intro x652 f653 H locs ls hM9 x652_h f653_b iv9_0 iv9_1 hP hD hS hl
        refine lv_iload_n hx hb dX12_isColoured_12 rfl (lv_at hl 0 rfl) ?_
        refine lv_iload_n hx hb dX12_isColoured_13 rfl (lv_at hl 3 rfl) ?_
        refine lv_icmp_ge (tgt := 103) hx hb dX12_isColoured_14 (by decide) (fun h654 => ?_) (fun h654 => ?_)
        ·
          have qh654 := le_i h654
          refine lv_iconst (v := 0) hx hb dX12_isColoured_103 (by decide) ?_
          rw [hQ]
          exact W.zret (v := 0) (ty := .boolean) hx hb hr rfl (fun t ht hW => ⟨⟨0, f653, rfl, ⟨(iv_w ik_0 (by decide)), f653_b, iv9_0, (fun h8 => (co_no (iv9_1 h8) qh654 a2_h h8 (show (9 : Int) + 1 ≤ _ from (show _ ≤ _ ∧ _ ≤ _ from j2).1)).elim)⟩, by rw [ht]; exact hP, va_K.moved hW.alike hK, hD⟩, hS.F ht⟩) hS.2.2 dX12_isColoured_104
        ·
          have qh654 := nle_i h654
          have j655 : Iv 0 11 x652 := r_ltl qh654 x652_h a2_h (by decide)
          have j656 : Iv 1 12 a2 := r_ltr qh654 x652_h a2_h (by decide)
          refine lv_iconst (v := 1) hx hb dX12_isColoured_17 (by decide) ?_
          refine lv_istore (lv' := [(4, .int 1), (3, .int x652), (0, .ref o1), (1, .int 9), (2, .int a2)]) hx hb dX12_isColoured_18 hl (by decide) rfl (fun ls hl => ?_)
          refine lv_iconst (v := 0) hx hb dX12_isColoured_20 (by decide) ?_
          refine lv_istore (lv' := [(5, .int 0), (4, .int 1), (3, .int x652), (0, .ref o1), (1, .int 9), (2, .int a2)]) hx hb dX12_isColoured_21 hl (by decide) rfl (fun ls hl => ?_)
          have L10 : ∀ (N : Nat) (x696 : Int32) (x697 : Int32) (H : Heap) (locs : List Loc) (ls : Array Slot), (9 - x696.toInt).toNat < N → Iv 0 9 x696 → Iv 0 1 x697 → (x697 = 0 → ∃ q, q < (Int32.toNatClampNeg x696) ∧ f653 q = x652) → va_P (dC, dI) vwCl ([(o1, .inr (12, [.int v2, .ref o3, .int v5, .ref o6, .int v8, .ref o9, .ref o11, .int v13, .ref o14, .int v16, .ref o17, .int v19, .int v20, .int v21, .ref o22, .ref o24, .ref o26, .ref o28, .ref o30, .int v32, .ref o33, .ref o35, .ref o37, .int v39, .ref o40, .ref o42, .ref o44, .int v46, .ref o47])), (o6, .inl (cI, 12, .inl fw7)), (o33, .inl (cI, 12, .inl f653))]) H → va_D A ([(o1, .inr (12, [.int v2, .ref o3, .int v5, .ref o6, .int v8, .ref o9, .ref o11, .int v13, .ref o14, .int v16, .ref o17, .int v19, .int v20, .int v21, .ref o22, .ref o24, .ref o26, .ref o28, .ref o30, .int v32, .ref o33, .ref o35, .ref o37, .int v39, .ref o40, .ref o42, .ref o44, .int v46, .ref o47])), (o6, .inl (cI, 12, .inl fw7)), (o33, .inl (cI, 12, .inl f653))]) → va_S A s.heap H locs → lv_has ls 6 [(5, .int x696), (4, .int x697), (3, .int x652), (0, .ref o1), (1, .int 9), (2, .int a2)] → W p l e ({ frames := 3, cells := 0, slots := 0, locals := 75 }) s m ([.ref o1, .int 9, .int a2] : List Value).toArray below meth c H locs 0 0 Q (F0 m 23 ls []) := by
            intro N
            induction N with
            | zero =>
              intro x696 x697 H locs ls hM
              exact absurd hM (Nat.not_lt_zero _)
            | succ N ih10 =>
              intro x696 x697 H locs ls hM10 x696_h x697_h iv10_0 hP hD hS hl
              refine lv_iload hx hb dX12_isColoured_23 (lv_at hl 0 rfl) ?_
              refine lv_iload_n hx hb dX12_isColoured_25 rfl (lv_at hl 4 rfl) ?_
              refine lv_icmp_ge (tgt := 72) hx hb dX12_isColoured_26 (by decide) (fun h698 => ?_) (fun h698 => ?_)
              ·
                have qh698 := le_i h698
                have j699 : Iv 9 9 x696 := r_ler qh698 ik_9 x696_h (by decide)
                refine lv_aload_n hx hb dX12_isColoured_72 rfl (lv_at hl 3 rfl) ?_
                refine va_get (D := (dC, dI)) (ci := 12) (v := .ref o33) (C := RX12) (T := TX12) (N := 29) hx hb hts iw_X12_isColoured_X12 hown hK hP 0 rfl rfl 20 (by decide) (hts (.fieldLink RX12 48 "HolelessHouseModel" "colours" "[I") hm_X12_isColoured_3) (fun _ h9 => h9) rfl dX12_isColoured_73 ?_
                refine lv_iload_n hx hb dX12_isColoured_76 rfl (lv_at hl 4 rfl) ?_
                refine lv_iload_n hx hb dX12_isColoured_77 rfl (lv_at hl 2 rfl) ?_
                refine k_iast hx hb hK hP hD hS 2 0 rfl rfl (vin_iv ik_9 (by decide)) dX12_isColoured_78 (fun f700 H locs f700_e hP hD hS => ?_)
                have f700_b : Bd 12 0 11 f700 := bd_upd f700_e f653_b j655 (by decide)
                have hP : va_P (dC, dI) vwCl ([(o1, .inr (12, [.int v2, .ref o3, .int v5, .ref o6, .int v8, .ref o9, .ref o11, .int v13, .ref o14, .int v16, .ref o17, .int v19, .int v20, .int v21, .ref o22, .ref o24, .ref o26, .ref o28, .ref o30, .int v32, .ref o33, .ref o35, .ref o37, .int v39, .ref o40, .ref o42, .ref o44, .int v46, .ref o47])), (o6, .inl (cI, 12, .inl fw7)), (o33, .inl (cI, 12, .inl f700))]) H := hP
                have hD : va_D A ([(o1, .inr (12, [.int v2, .ref o3, .int v5, .ref o6, .int v8, .ref o9, .ref o11, .int v13, .ref o14, .int v16, .ref o17, .int v19, .int v20, .int v21, .ref o22, .ref o24, .ref o26, .ref o28, .ref o30, .int v32, .ref o33, .ref o35, .ref o37, .int v39, .ref o40, .ref o42, .ref o44, .int v46, .ref o47])), (o6, .inl (cI, 12, .inl fw7)), (o33, .inl (cI, 12, .inl f700))]) := hD
                refine lv_iload hx hb dX12_isColoured_79 (lv_at hl 1 rfl) ?_
                refine lv_if_eq (tgt := 97) hx hb dX12_isColoured_81 (by decide) (fun h701 => ?_) (fun h701 => ?_)
                ·
                  have j702 : Iv 0 0 x697 := r_eq h701 ik_0
                  obtain ⟨x703, x703_e⟩ : ∃ z : Int32, z = x652 + 1 := ⟨_, rfl⟩
                  have x703_h : Iv 1 12 x703 := iv_e x703_e (iv_add j655 ik_1 (by decide))
                  refine lv_iinc (v := x703) (lv' := [(3, .int x703), (5, .int x696), (4, .int x697), (0, .ref o1), (1, .int 9), (2, .int a2)]) hx hb dX12_isColoured_97 hl (k := 2) rfl (incN (by decide +kernel) x703_e) (by decide) rfl (fun ls hl => ?_)
                  refine lv_goto (tgt := 12) hx hb dX12_isColoured_100 (by decide) ?_
                  exact ih9 x703 f700 _ _ _ (ms_up x703_e j655 (by decide) hM9) (iv_w x703_h (by decide)) f700_b (co_k f700_e (by decide +kernel) iv9_0) (fun h8 => CW_s (iv9_1 h8) (iv_w (c := 0) (d := 4095) j655 (by decide)) x703_e (co_w3 (iv10_0 h701) (Nat.le_of_eq (by rw [d_eq j699 ik_9]; decide +kernel)) iv9_0)) hP hD hS (lv_sub hl [0, 3, 4, 5] rfl)
                ·
                  have j704 : Iv 1 1 x697 := r_nelo h701 x697_h ik_0 (by decide)
                  refine lv_aload_n hx hb dX12_isColoured_84 rfl (lv_at hl 3 rfl) ?_
                  refine lv_iload_n hx hb dX12_isColoured_85 rfl (lv_at hl 4 rfl) ?_
                  refine lv_iconst (v := 1) hx hb dX12_isColoured_86 (by decide) ?_
                  refine lv_iadd hx hb dX12_isColoured_87 (tk_i (v := 10) (by decide +kernel) ?_)
                  refine lv_iload_n hx hb dX12_isColoured_88 rfl (lv_at hl 5 rfl) ?_
                  refine kc_i (D := (dC, dI)) (S := (Nat → Int32)) (wc := [(o1, .inr (12, [.int v2, .ref o3, .int v5, .ref o6, .int v8, .ref o9, .ref o11, .int v13, .ref o14, .int v16, .ref o17, .int v19, .int v20, .int v21, .ref o22, .ref o24, .ref o26, .ref o28, .ref o30, .int v32, .ref o33, .ref o35, .ref o37, .int v39, .ref o40, .ref o42, .ref o44, .int v46, .ref o47])), (o6, .inl (cI, 12, .inl fw7)), (o33, .inl (cI, 12, .inl f700))]) (wr := []) (w1 := fun u => [(o1, .inr (12, [.int v2, .ref o3, .int v5, .ref o6, .int v8, .ref o9, .ref o11, .int v13, .ref o14, .int v16, .ref o17, .int v19, .int v20, .int v21, .ref o22, .ref o24, .ref o26, .ref o28, .ref o30, .int v32, .ref o33, .ref o35, .ref o37, .int v39, .ref o40, .ref o42, .ref o44, .int v46, .ref o47])), (o6, .inl (cI, 12, .inl fw7)), (o33, .inl (cI, 12, .inl u))]) (wn := fun u => [(o1, .inr (12, [.int v2, .ref o3, .int v5, .ref o6, .int v8, .ref o9, .ref o11, .int v13, .ref o14, .int v16, .ref o17, .int v19, .int v20, .int v21, .ref o22, .ref o24, .ref o26, .ref o28, .ref o30, .int v32, .ref o33, .ref o35, .ref o37, .int v39, .ref o40, .ref o42, .ref o44, .int v46, .ref o47])), (o6, .inl (cI, 12, .inl fw7)), (o33, .inl (cI, 12, .inl u))]) (fun hPc hDc => va_runV (As := [.int 10, .int a2]) (rest := []) ⟨hx, hb, hml, hown, hts⟩ (kX12_isColoured_3 l dC dI cI c2 cZ o1 o3 o6 o9 o11 o14 o17 o22 o24 o26 o28 o30 o33 o35 o37 o40 o42 o44 o47 v2 v5 fw7 v8 v13 v16 v19 v20 v21 v32 f700 v39 v46 a2 H.size j2 fw7_b v8_h v13_h v16_h v19_h v32_h f700_b v39_h v46_h (iv_w j656 (by decide))) (cwV 2 hts gX12_isColoured_X12_isColoured rfl rfl rfl (by decide +kernel) ⟨Nat.le_of_ble_eq_true rfl, Nat.le_of_ble_eq_true rfl⟩) (pre_V hPc hK hDc hN (ci := 12) (q0 := 0) rfl rfl) rfl rfl hl.1 rfl (lv_room (Nat.le_of_ble_eq_true rfl)) dX12_isColoured_89 ⟨Nat.le_of_ble_eq_true rfl, Nat.le_of_ble_eq_true rfl⟩) hP hD hS hA [0, 1, 2] [] [0, 1, 2] rfl rfl (by decide +kernel) (by decide +kernel) (by decide +kernel) (by decide +kernel) (fun _ => rfl) (fun x706 f705 H locs hq hP hD hS => ?_)
                  obtain ⟨x706_h, f705_b, e707, e708⟩ := hq
                  have hP : va_P (dC, dI) vwCl ([(o1, .inr (12, [.int v2, .ref o3, .int v5, .ref o6, .int v8, .ref o9, .ref o11, .int v13, .ref o14, .int v16, .ref o17, .int v19, .int v20, .int v21, .ref o22, .ref o24, .ref o26, .ref o28, .ref o30, .int v32, .ref o33, .ref o35, .ref o37, .int v39, .ref o40, .ref o42, .ref o44, .int v46, .ref o47])), (o6, .inl (cI, 12, .inl fw7)), (o33, .inl (cI, 12, .inl f705))]) H := hP
                  have hD : va_D A ([(o1, .inr (12, [.int v2, .ref o3, .int v5, .ref o6, .int v8, .ref o9, .ref o11, .int v13, .ref o14, .int v16, .ref o17, .int v19, .int v20, .int v21, .ref o22, .ref o24, .ref o26, .ref o28, .ref o30, .int v32, .ref o33, .ref o35, .ref o37, .int v39, .ref o40, .ref o42, .ref o44, .int v46, .ref o47])), (o6, .inl (cI, 12, .inl fw7)), (o33, .inl (cI, 12, .inl f705))]) := hD
                  refine lv_if_eq (tgt := 97) hx hb dX12_isColoured_92 (by decide) (fun h709 => ?_) (fun h709 => ?_)
                  ·
                    have j710 : Iv 0 0 x706 := r_eq h709 ik_0
                    obtain ⟨x711, x711_e⟩ : ∃ z : Int32, z = x652 + 1 := ⟨_, rfl⟩
                    have x711_h : Iv 1 12 x711 := iv_e x711_e (iv_add j655 ik_1 (by decide))
                    refine lv_iinc (v := x711) (lv' := [(3, .int x711), (5, .int x696), (4, .int x697), (0, .ref o1), (1, .int 9), (2, .int a2)]) hx hb dX12_isColoured_97 hl (k := 2) rfl (incN (by decide +kernel) x711_e) (by decide) rfl (fun ls hl => ?_)
                    refine lv_goto (tgt := 12) hx hb dX12_isColoured_100 (by decide) ?_
                    exact ih9 x711 f705 _ _ _ (ms_up x711_e j655 (by decide) hM9) (iv_w x711_h (by decide)) f705_b (co_t e707 (by decide) (co_k f700_e (by decide +kernel) iv9_0)) (fun h8 => absurd h709 (e708 h8)) hP hD hS (lv_sub hl [0, 3, 4, 5] rfl)
                  ·
                    have j712 : Iv 1 1 x706 := r_nelo h709 x706_h ik_0 (by decide)
                    refine lv_iconst (v := 1) hx hb dX12_isColoured_95 (by decide) ?_
                    rw [hQ]
                    exact W.zret (v := 1) (ty := .boolean) hx hb hr rfl (fun t ht hW => ⟨⟨1, f705, rfl, ⟨(iv_w ik_1 (by decide)), f705_b, (co_t e707 (by decide) (co_k f700_e (by decide +kernel) iv9_0)), (fun _ h8 => absurd h8 (by decide +kernel))⟩, by rw [ht]; exact hP, va_K.moved hW.alike hK, hD⟩, hS.F ht⟩) hS.2.2 dX12_isColoured_96
              ·
                have qh698 := nle_i h698
                have j713 : Iv 0 8 x696 := r_ltl qh698 x696_h ik_9 (by decide)
                refine lv_iload hx hb dX12_isColoured_29 (lv_at hl 1 rfl) ?_
                refine lv_if_eq (tgt := 63) hx hb dX12_isColoured_31 (by decide) (fun h714 => ?_) (fun h714 => ?_)
                ·
                  have j715 : Iv 0 0 x697 := r_eq h714 ik_0
                  refine lv_iconst (v := 0) hx hb dX12_isColoured_63 (by decide) ?_
                  refine lv_istore (lv' := [(4, .int 0), (5, .int x696), (3, .int x652), (0, .ref o1), (1, .int 9), (2, .int a2)]) hx hb dX12_isColoured_64 hl (by decide) rfl (fun ls hl => ?_)
                  obtain ⟨x716, x716_e⟩ : ∃ z : Int32, z = x696 + 1 := ⟨_, rfl⟩
                  have x716_h : Iv 1 9 x716 := iv_e x716_e (iv_add j713 ik_1 (by decide))
                  refine lv_iinc (v := x716) (lv' := [(5, .int x716), (4, .int 0), (3, .int x652), (0, .ref o1), (1, .int 9), (2, .int a2)]) hx hb dX12_isColoured_66 hl (k := 1) rfl (incN (by decide +kernel) x716_e) (by decide) rfl (fun ls hl => ?_)
                  refine lv_goto (tgt := 23) hx hb dX12_isColoured_69 (by decide) ?_
                  exact ih10 x716 0 _ _ _ (ms_up x716_e j713 (by decide) hM10) (iv_w x716_h (by decide)) (iv_w ik_0 (by decide)) (fun _ => co_w1 (iv10_0 h714) (iv_w (c := 0) (d := 4095) j713 (by decide)) x716_e) hP hD hS hl
                ·
                  have j717 : Iv 1 1 x697 := r_nelo h714 x697_h ik_0 (by decide)
                  refine lv_aload_n hx hb dX12_isColoured_34 rfl (lv_at hl 3 rfl) ?_
                  refine va_get (D := (dC, dI)) (ci := 12) (v := .ref o6) (C := RX12) (T := TX12) (N := 29) hx hb hts iw_X12_isColoured_X12 hown hK hP 0 rfl rfl 3 (by decide) (hts (.fieldLink RX12 13 "HolelessHouseModel" "near" "[I") hm_X12_isColoured_2) (fun _ h9 => h9) rfl dX12_isColoured_35 ?_
                  refine lv_iload_n hx hb dX12_isColoured_38 rfl (lv_at hl 4 rfl) ?_
                  refine va_iald hx hb hK hP 1 0 rfl rfl (vin_iv ik_9 (by decide)) dX12_isColoured_39 (lv_topi (fun x718 x718_e => ?_))
                  have x718_h : Iv 0 4095 x718 := iv_e x718_e (bd_at fw7_b (vin_iv ik_9 (by decide)))
                  refine lv_iload hx hb dX12_isColoured_40 (lv_at hl 0 rfl) ?_
                  refine kc_i (D := (dC, dI)) (S := Unit) (wc := []) (wr := [(o1, .inr (12, [.int v2, .ref o3, .int v5, .ref o6, .int v8, .ref o9, .ref o11, .int v13, .ref o14, .int v16, .ref o17, .int v19, .int v20, .int v21, .ref o22, .ref o24, .ref o26, .ref o28, .ref o30, .int v32, .ref o33, .ref o35, .ref o37, .int v39, .ref o40, .ref o42, .ref o44, .int v46, .ref o47])), (o6, .inl (cI, 12, .inl fw7)), (o33, .inl (cI, 12, .inl f653))]) (w1 := fun _ => []) (wn := fun _ => [(o1, .inr (12, [.int v2, .ref o3, .int v5, .ref o6, .int v8, .ref o9, .ref o11, .int v13, .ref o14, .int v16, .ref o17, .int v19, .int v20, .int v21, .ref o22, .ref o24, .ref o26, .ref o28, .ref o30, .int v32, .ref o33, .ref o35, .ref o37, .int v39, .ref o40, .ref o42, .ref o44, .int v46, .ref o47])), (o6, .inl (cI, 12, .inl fw7)), (o33, .inl (cI, 12, .inl f653))]) (fun hPc hDc => va_runS (As := [.int x718, .int x696]) (rest := []) ⟨hx, hb, hml, hown, hts⟩ (kX12_has_1 l dC dI cI c2 cZ x718 x696 H.size (iv_w j713 (by decide))) (va_cwS 2 hts gX12_isColoured_X12_has rfl rfl rfl (by decide +kernel) ⟨Nat.le_of_ble_eq_true rfl, Nat.le_of_ble_eq_true rfl⟩) (pre_S hPc hK hDc hN) rfl rfl hl.1 rfl (lv_room (Nat.le_of_ble_eq_true rfl)) dX12_isColoured_42 ⟨Nat.le_of_ble_eq_true rfl, Nat.le_of_ble_eq_true rfl⟩) hP hD hS hA [] [0, 1, 2] [0, 1, 2] rfl rfl (by decide +kernel) (by decide +kernel) (by decide +kernel) (by decide +kernel) (fun _ => rfl) (fun x719 _ H locs hq hP hD hS => ?_)
                  obtain ⟨x719_h, e720⟩ := hq
                  have hP : va_P (dC, dI) vwCl ([(o1, .inr (12, [.int v2, .ref o3, .int v5, .ref o6, .int v8, .ref o9, .ref o11, .int v13, .ref o14, .int v16, .ref o17, .int v19, .int v20, .int v21, .ref o22, .ref o24, .ref o26, .ref o28, .ref o30, .int v32, .ref o33, .ref o35, .ref o37, .int v39, .ref o40, .ref o42, .ref o44, .int v46, .ref o47])), (o6, .inl (cI, 12, .inl fw7)), (o33, .inl (cI, 12, .inl f653))]) H := hP
                  have hD : va_D A ([(o1, .inr (12, [.int v2, .ref o3, .int v5, .ref o6, .int v8, .ref o9, .ref o11, .int v13, .ref o14, .int v16, .ref o17, .int v19, .int v20, .int v21, .ref o22, .ref o24, .ref o26, .ref o28, .ref o30, .int v32, .ref o33, .ref o35, .ref o37, .int v39, .ref o40, .ref o42, .ref o44, .int v46, .ref o47])), (o6, .inl (cI, 12, .inl fw7)), (o33, .inl (cI, 12, .inl f653))]) := hD
                  refine lv_if_eq (tgt := 59) hx hb dX12_isColoured_45 (by decide) (fun h721 => ?_) (fun h721 => ?_)
                  ·
                    have j722 : Iv 0 0 x719 := r_eq h721 ik_0
                    have b723 : bt x718 (Int32.toNatClampNeg x696) = false := has_f e720 h721
                    refine lv_iconst (v := 1) hx hb dX12_isColoured_59 (by decide) ?_
                    refine lv_goto (tgt := 64) hx hb dX12_isColoured_60 (by decide) ?_
                    refine lv_istore (lv' := [(4, .int 1), (5, .int x696), (3, .int x652), (0, .ref o1), (1, .int 9), (2, .int a2)]) hx hb dX12_isColoured_64 hl (by decide) rfl (fun ls hl => ?_)
                    obtain ⟨x724, x724_e⟩ : ∃ z : Int32, z = x696 + 1 := ⟨_, rfl⟩
                    have x724_h : Iv 1 9 x724 := iv_e x724_e (iv_add j713 ik_1 (by decide))
                    refine lv_iinc (v := x724) (lv' := [(5, .int x724), (4, .int 1), (3, .int x652), (0, .ref o1), (1, .int 9), (2, .int a2)]) hx hb dX12_isColoured_66 hl (k := 1) rfl (incN (by decide +kernel) x724_e) (by decide) rfl (fun ls hl => ?_)
                    refine lv_goto (tgt := 23) hx hb dX12_isColoured_69 (by decide) ?_
                    exact ih10 x724 1 _ _ _ (ms_up x724_e j713 (by decide) hM10) (iv_w x724_h (by decide)) (iv_w ik_1 (by decide)) (fun h8 => absurd h8 (by decide +kernel)) hP hD hS hl
                  ·
                    have j725 : Iv 1 1 x719 := r_nelo h721 x719_h ik_0 (by decide)
                    have b726 : bt x718 (Int32.toNatClampNeg x696) = true := has_t e720 h721
                    refine lv_aload_n hx hb dX12_isColoured_48 rfl (lv_at hl 3 rfl) ?_
                    refine va_get (D := (dC, dI)) (ci := 12) (v := .ref o33) (C := RX12) (T := TX12) (N := 29) hx hb hts iw_X12_isColoured_X12 hown hK hP 0 rfl rfl 20 (by decide) (hts (.fieldLink RX12 48 "HolelessHouseModel" "colours" "[I") hm_X12_isColoured_3) (fun _ h9 => h9) rfl dX12_isColoured_49 ?_
                    refine lv_iload hx hb dX12_isColoured_52 (lv_at hl 0 rfl) ?_
                    refine va_iald hx hb hK hP 2 0 rfl rfl (vin_iv j713 (by decide)) dX12_isColoured_54 (lv_topi (fun x727 x727_e => ?_))
                    have x727_h : Iv 0 11 x727 := iv_e x727_e (bd_at f653_b (vin_iv j713 (by decide)))
                    refine lv_iload_n hx hb dX12_isColoured_55 rfl (lv_at hl 2 rfl) ?_
                    refine lv_icmp_eq (tgt := 63) hx hb dX12_isColoured_56 (by decide) (fun h728 => ?_) (fun h728 => ?_)
                    ·
                      refine lv_iconst (v := 0) hx hb dX12_isColoured_63 (by decide) ?_
                      refine lv_istore (lv' := [(4, .int 0), (5, .int x696), (3, .int x652), (0, .ref o1), (1, .int 9), (2, .int a2)]) hx hb dX12_isColoured_64 hl (by decide) rfl (fun ls hl => ?_)
                      obtain ⟨x729, x729_e⟩ : ∃ z : Int32, z = x696 + 1 := ⟨_, rfl⟩
                      have x729_h : Iv 1 9 x729 := iv_e x729_e (iv_add j713 ik_1 (by decide))
                      refine lv_iinc (v := x729) (lv' := [(5, .int x729), (4, .int 0), (3, .int x652), (0, .ref o1), (1, .int 9), (2, .int a2)]) hx hb dX12_isColoured_66 hl (k := 1) rfl (incN (by decide +kernel) x729_e) (by decide) rfl (fun ls hl => ?_)
                      refine lv_goto (tgt := 23) hx hb dX12_isColoured_69 (by decide) ?_
                      exact ih10 x729 0 _ _ _ (ms_up x729_e j713 (by decide) hM10) (iv_w x729_h (by decide)) (iv_w ik_0 (by decide)) (fun _ => co_w2 x727_e h728 (iv_w (c := 0) (d := 4095) j713 (by decide)) x729_e) hP hD hS hl
                    ·
                      refine lv_iconst (v := 1) hx hb dX12_isColoured_59 (by decide) ?_
                      refine lv_goto (tgt := 64) hx hb dX12_isColoured_60 (by decide) ?_
                      refine lv_istore (lv' := [(4, .int 1), (5, .int x696), (3, .int x652), (0, .ref o1), (1, .int 9), (2, .int a2)]) hx hb dX12_isColoured_64 hl (by decide) rfl (fun ls hl => ?_)
                      obtain ⟨x730, x730_e⟩ : ∃ z : Int32, z = x696 + 1 := ⟨_, rfl⟩
                      have x730_h : Iv 1 9 x730 := iv_e x730_e (iv_add j713 ik_1 (by decide))
                      refine lv_iinc (v := x730) (lv' := [(5, .int x730), (4, .int 1), (3, .int x652), (0, .ref o1), (1, .int 9), (2, .int a2)]) hx hb dX12_isColoured_66 hl (k := 1) rfl (incN (by decide +kernel) x730_e) (by decide) rfl (fun ls hl => ?_)
                      refine lv_goto (tgt := 23) hx hb dX12_isColoured_69 (by decide) ?_
                      exact ih10 x730 1 _ _ _ (ms_up x730_e j713 (by decide) hM10) (iv_w x730_h (by decide)) (iv_w ik_1 (by decide)) (fun h8 => absurd h8 (by decide +kernel)) hP hD hS hl
          exact L10 _ 0 1 _ _ _ (Nat.lt_succ_self _) (iv_w ik_0 (by decide)) (iv_w ik_1 (by decide)) co_w0 hP hD hS hl
    exact L9 _ 0 fw34 _ _ _ (Nat.lt_succ_self _) (iv_w ik_0 (by decide)) fw34_b (fun _ _ => rfl) (fun _ => CW_0) hP hD hS hl
  ·
    have j731 : Iv 9 9 v5 := r_eq h1.symm ik_9
    refine lv_iconst (v := 1) hx hb dX12_isColoured_8 (by decide) ?_
    rw [hQ]
    exact W.zret (v := 1) (ty := .boolean) hx hb hr rfl (fun t ht hW => ⟨⟨1, fw34, rfl, ⟨(iv_w ik_1 (by decide)), fw34_b, (fun _ _ => rfl), (fun _ h8 => absurd h8 (by decide +kernel))⟩, by rw [ht]; exact hP, va_K.moved hW.alike hK, hD⟩, hS.F ht⟩) hS.2.2 dX12_isColoured_9
set_option maxHeartbeats 4000000 in
set_option maxRecDepth 100000 in
theorem kX12_isColoured_5 (l : Launch) (dC : Nat → ClassId) (dI : Nat → Nat → Nat) (cI c2 cZ : ClassId) (o1 : Nat) (o3 : Nat) (o6 : Nat) (o9 : Nat) (o11 : Nat) (o14 : Nat) (o17 : Nat) (o22 : Nat) (o24 : Nat) (o26 : Nat) (o28 : Nat) (o30 : Nat) (o33 : Nat) (o35 : Nat) (o37 : Nat) (o40 : Nat) (o42 : Nat) (o44 : Nat) (o47 : Nat) (v2 : Int32) (v5 : Int32) (fw7 : Nat → Int32) (v8 : Int32) (v13 : Int32) (v16 : Int32) (v19 : Int32) (v20 : Int32) (v21 : Int32) (v32 : Int32) (fw34 : Nat → Int32) (v39 : Int32) (v46 : Int32) (a2 : Int32) (sz : Nat) (v5_h : Iv 8 12 v5) (fw7_b : Bd 12 0 4095 fw7) (v8_h : Iv 0 8 v8) (v13_h : Iv 0 12 v13) (v16_h : Iv 0 12 v16) (v19_h : Iv (-9) 12 v19) (v32_h : Iv 0 99 v32) (fw34_b : Bd 12 0 11 fw34) (v39_h : Iv 0 12 v39) (v46_h : Iv 0 12 v46) (a2_h : Iv 0 12 a2) : Met l yX12_isColoured wsX12_isColoured ({ frames := 4, cells := 0, slots := 0, locals := 100 }) (va_Pc [.ref o1, .int 8, .int a2] (wPre (dC, dI) [(cI, .int), (c2, .array .int), (cZ, .boolean)] ([(o1, .inr (12, [.int v2, .ref o3, .int v5, .ref o6, .int v8, .ref o9, .ref o11, .int v13, .ref o14, .int v16, .ref o17, .int v19, .int v20, .int v21, .ref o22, .ref o24, .ref o26, .ref o28, .ref o30, .int v32, .ref o33, .ref o35, .ref o37, .int v39, .ref o40, .ref o42, .ref o44, .int v46, .ref o47])), (o6, .inl (cI, 12, .inl fw7)), (o33, .inl (cI, 12, .inl fw34))]) sz)) (va_Qi (fun (r : Int32) (u : (Nat → Int32)) => Iv 0 1 r ∧ Bd 12 0 11 u ∧ (∀ i8, i8 < 8 → u i8 = fw34 i8) ∧ (Int32.toInt v5 ≤ Int32.toInt a2 → ¬ r = 0)) (fun u t => wPost (dC, dI) [(cI, .int), (c2, .array .int), (cZ, .boolean)] (va_A ([(o1, .inr (12, [.int v2, .ref o3, .int v5, .ref o6, .int v8, .ref o9, .ref o11, .int v13, .ref o14, .int v16, .ref o17, .int v19, .int v20, .int v21, .ref o22, .ref o24, .ref o26, .ref o28, .ref o30, .int v32, .ref o33, .ref o35, .ref o37, .int v39, .ref o40, .ref o42, .ref o44, .int v46, .ref o47])), (o6, .inl (cI, 12, .inl fw7)), (o33, .inl (cI, 12, .inl fw34))]) sz) ([(o1, .inr (12, [.int v2, .ref o3, .int v5, .ref o6, .int v8, .ref o9, .ref o11, .int v13, .ref o14, .int v16, .ref o17, .int v19, .int v20, .int v21, .ref o22, .ref o24, .ref o26, .ref o28, .ref o30, .int v32, .ref o33, .ref o35, .ref o37, .int v39, .ref o40, .ref o42, .ref o44, .int v46, .ref o47])), (o6, .inl (cI, 12, .inl fw7)), (o33, .inl (cI, 12, .inl u))]) t) (va_A ([(o1, .inr (12, [.int v2, .ref o3, .int v5, .ref o6, .int v8, .ref o9, .ref o11, .int v13, .ref o14, .int v16, .ref o17, .int v19, .int v20, .int v21, .ref o22, .ref o24, .ref o26, .ref o28, .ref o30, .int v32, .ref o33, .ref o35, .ref o37, .int v39, .ref o40, .ref o42, .ref o44, .int v46, .ref o47])), (o6, .inl (cI, 12, .inl fw7)), (o33, .inl (cI, 12, .inl fw34))]) sz)) 0 0 (va_A ([(o1, .inr (12, [.int v2, .ref o3, .int v5, .ref o6, .int v8, .ref o9, .ref o11, .int v13, .ref o14, .int v16, .ref o17, .int v19, .int v20, .int v21, .ref o22, .ref o24, .ref o26, .ref o28, .ref o30, .int v32, .ref o33, .ref o35, .ref o37, .int v39, .ref o40, .ref o42, .ref o44, .int v46, .ref o47])), (o6, .inl (cI, 12, .inl fw7)), (o33, .inl (cI, 12, .inl fw34))]) sz) := by
  refine Met.ofW (cc := cX12_isColoured) (maxL := 6) (ret := (some .boolean)) (by decide) rfl ?_
  intro p e s m args below meth c s₁ B hml hv
  obtain ⟨rfl, hsz, hP, hK, hD0, hN⟩ := hv
  have hx := B.exec
  have hb := B.bytes
  have hr := B.returns
  have hts := atoms_spec (ws := wsX12_isColoured) B.pre
  have hown : s.vm.findClass RX12 = some m.cls := findClass_of_methodNamed B.named
  have hlocks := B.notSynchronized
  subst hsz
  have hD := hD0.self (sz := s.heap.size)
  generalize hAe : va_A ([(o1, .inr (12, [.int v2, .ref o3, .int v5, .ref o6, .int v8, .ref o9, .ref o11, .int v13, .ref o14, .int v16, .ref o17, .int v19, .int v20, .int v21, .ref o22, .ref o24, .ref o26, .ref o28, .ref o30, .int v32, .ref o33, .ref o35, .ref o37, .int v39, .ref o40, .ref o42, .ref o44, .int v46, .ref o47])), (o6, .inl (cI, 12, .inl fw7)), (o33, .inl (cI, 12, .inl fw34))]) s.heap.size = A at hD ⊢
  have hA : ∀ q : Nat, s.heap.size ≤ q → A q := fun q h => by rw [← hAe]; exact Or.inr h
  have hS : va_S A s.heap s.heap [] := va_S.rf
  have hP : va_P (dC, dI) vwCl ([(o1, .inr (12, [.int v2, .ref o3, .int v5, .ref o6, .int v8, .ref o9, .ref o11, .int v13, .ref o14, .int v16, .ref o17, .int v19, .int v20, .int v21, .ref o22, .ref o24, .ref o26, .ref o28, .ref o30, .int v32, .ref o33, .ref o35, .ref o37, .int v39, .ref o40, .ref o42, .ref o44, .int v46, .ref o47])), (o6, .inl (cI, 12, .inl fw7)), (o33, .inl (cI, 12, .inl fw34))]) s.heap := hP
  have hl := lv_entry ([.ref o1, .int 8, .int a2]) (n := 6) (Nat.le_of_ble_eq_true rfl)
  rw [lg_entry_eq]
  generalize (lg_sl ([.ref o1, .int 8, .int a2]) ++ List.replicate (6 - (lg_sl ([.ref o1, .int 8, .int a2])).length) Slot.unset).toArray = ls at hl ⊢
  have hl : lv_has ls 6 [(0, .ref o1), (1, .int 8), (2, .int a2)] := hl
  refine gen_Q (fun Q hQ => ?_)
  refine lv_iload_n hx hb dX12_isColoured_0 rfl (lv_at hl 1 rfl) ?_
  refine lv_aload_n hx hb dX12_isColoured_1 rfl (lv_at hl 0 rfl) ?_
  refine va_get (D := (dC, dI)) (ci := 12) (v := .int v5) (C := RX12) (T := TX12) (N := 29) hx hb hts iw_X12_isColoured_X12 hown hK hP 0 rfl rfl 2 (by decide) (hts (.fieldLink RX12 73 "HolelessHouseModel" "n" "I") hm_X12_isColoured_1) (fun _ h9 => h9) rfl dX12_isColoured_2 ?_
  refine lv_icmp_ne (tgt := 10) hx hb dX12_isColoured_5 (by decide) (fun h1 => ?_) (fun h1 => ?_)
  ·
    have j2 : Iv 9 12 v5 := r_nelo (fun q => h1 q.symm) v5_h ik_8 (by decide)
    refine lv_iconst (v := 0) hx hb dX12_isColoured_10 (by decide) ?_
    refine lv_istore_n (lv' := [(3, .int 0), (0, .ref o1), (1, .int 8), (2, .int a2)]) hx hb dX12_isColoured_11 rfl hl (by decide) rfl (fun ls hl => ?_)
    have L9 : ∀ (N : Nat) (x652 : Int32) (f653 : Nat → Int32) (H : Heap) (locs : List Loc) (ls : Array Slot), (12 - x652.toInt).toNat < N → Iv 0 12 x652 → Bd 12 0 11 f653 → (∀ i8, i8 < 8 → f653 i8 = fw34 i8) → (Int32.toInt v5 ≤ Int32.toInt a2 → CW fw34 8 (Int32.toNatClampNeg x652)) → va_P (dC, dI) vwCl ([(o1, .inr (12, [.int v2, .ref o3, .int v5, .ref o6, .int v8, .ref o9, .ref o11, .int v13, .ref o14, .int v16, .ref o17, .int v19, .int v20, .int v21, .ref o22, .ref o24, .ref o26, .ref o28, .ref o30, .int v32, .ref o33, .ref o35, .ref o37, .int v39, .ref o40, .ref o42, .ref o44, .int v46, .ref o47])), (o6, .inl (cI, 12, .inl fw7)), (o33, .inl (cI, 12, .inl f653))]) H → va_D A ([(o1, .inr (12, [.int v2, .ref o3, .int v5, .ref o6, .int v8, .ref o9, .ref o11, .int v13, .ref o14, .int v16, .ref o17, .int v19, .int v20, .int v21, .ref o22, .ref o24, .ref o26, .ref o28, .ref o30, .int v32, .ref o33, .ref o35, .ref o37, .int v39, .ref o40, .ref o42, .ref o44, .int v46, .ref o47])), (o6, .inl (cI, 12, .inl fw7)), (o33, .inl (cI, 12, .inl f653))]) → va_S A s.heap H locs → lv_has ls 6 [(3, .int x652), (0, .ref o1), (1, .int 8), (2, .int a2)] → W p l e ({ frames := 4, cells := 0, slots := 0, locals := 100 }) s m ([.ref o1, .int 8, .int a2] : List Value).toArray below meth c H locs 0 0 Q (F0 m 12 ls []) := by
      intro N
      induction N with
      | zero =>
        intro x652 f653 H locs ls hM
        exact absurd hM (Nat.not_lt_zero _)
      | succ N ih9 =>
        intro x652 f653 H locs ls hM9 x652_h f653_b iv9_0 iv9_1 hP hD hS hl
        refine lv_iload_n hx hb dX12_isColoured_12 rfl (lv_at hl 0 rfl) ?_
        refine lv_iload_n hx hb dX12_isColoured_13 rfl (lv_at hl 3 rfl) ?_
        refine lv_icmp_ge (tgt := 103) hx hb dX12_isColoured_14 (by decide) (fun h654 => ?_) (fun h654 => ?_)
        ·
          have qh654 := le_i h654
          refine lv_iconst (v := 0) hx hb dX12_isColoured_103 (by decide) ?_
          rw [hQ]
          exact W.zret (v := 0) (ty := .boolean) hx hb hr rfl (fun t ht hW => ⟨⟨0, f653, rfl, ⟨(iv_w ik_0 (by decide)), f653_b, iv9_0, (fun h8 => (co_no (iv9_1 h8) qh654 a2_h h8 (show (8 : Int) + 1 ≤ _ from (show _ ≤ _ ∧ _ ≤ _ from j2).1)).elim)⟩, by rw [ht]; exact hP, va_K.moved hW.alike hK, hD⟩, hS.F ht⟩) hS.2.2 dX12_isColoured_104
        ·
          have qh654 := nle_i h654
          have j655 : Iv 0 11 x652 := r_ltl qh654 x652_h a2_h (by decide)
          have j656 : Iv 1 12 a2 := r_ltr qh654 x652_h a2_h (by decide)
          refine lv_iconst (v := 1) hx hb dX12_isColoured_17 (by decide) ?_
          refine lv_istore (lv' := [(4, .int 1), (3, .int x652), (0, .ref o1), (1, .int 8), (2, .int a2)]) hx hb dX12_isColoured_18 hl (by decide) rfl (fun ls hl => ?_)
          refine lv_iconst (v := 0) hx hb dX12_isColoured_20 (by decide) ?_
          refine lv_istore (lv' := [(5, .int 0), (4, .int 1), (3, .int x652), (0, .ref o1), (1, .int 8), (2, .int a2)]) hx hb dX12_isColoured_21 hl (by decide) rfl (fun ls hl => ?_)
          have L10 : ∀ (N : Nat) (x696 : Int32) (x697 : Int32) (H : Heap) (locs : List Loc) (ls : Array Slot), (8 - x696.toInt).toNat < N → Iv 0 8 x696 → Iv 0 1 x697 → (x697 = 0 → ∃ q, q < (Int32.toNatClampNeg x696) ∧ f653 q = x652) → va_P (dC, dI) vwCl ([(o1, .inr (12, [.int v2, .ref o3, .int v5, .ref o6, .int v8, .ref o9, .ref o11, .int v13, .ref o14, .int v16, .ref o17, .int v19, .int v20, .int v21, .ref o22, .ref o24, .ref o26, .ref o28, .ref o30, .int v32, .ref o33, .ref o35, .ref o37, .int v39, .ref o40, .ref o42, .ref o44, .int v46, .ref o47])), (o6, .inl (cI, 12, .inl fw7)), (o33, .inl (cI, 12, .inl f653))]) H → va_D A ([(o1, .inr (12, [.int v2, .ref o3, .int v5, .ref o6, .int v8, .ref o9, .ref o11, .int v13, .ref o14, .int v16, .ref o17, .int v19, .int v20, .int v21, .ref o22, .ref o24, .ref o26, .ref o28, .ref o30, .int v32, .ref o33, .ref o35, .ref o37, .int v39, .ref o40, .ref o42, .ref o44, .int v46, .ref o47])), (o6, .inl (cI, 12, .inl fw7)), (o33, .inl (cI, 12, .inl f653))]) → va_S A s.heap H locs → lv_has ls 6 [(5, .int x696), (4, .int x697), (3, .int x652), (0, .ref o1), (1, .int 8), (2, .int a2)] → W p l e ({ frames := 4, cells := 0, slots := 0, locals := 100 }) s m ([.ref o1, .int 8, .int a2] : List Value).toArray below meth c H locs 0 0 Q (F0 m 23 ls []) := by
            intro N
            induction N with
            | zero =>
              intro x696 x697 H locs ls hM
              exact absurd hM (Nat.not_lt_zero _)
            | succ N ih10 =>
              intro x696 x697 H locs ls hM10 x696_h x697_h iv10_0 hP hD hS hl
              refine lv_iload hx hb dX12_isColoured_23 (lv_at hl 0 rfl) ?_
              refine lv_iload_n hx hb dX12_isColoured_25 rfl (lv_at hl 4 rfl) ?_
              refine lv_icmp_ge (tgt := 72) hx hb dX12_isColoured_26 (by decide) (fun h698 => ?_) (fun h698 => ?_)
              ·
                have qh698 := le_i h698
                have j699 : Iv 8 8 x696 := r_ler qh698 ik_8 x696_h (by decide)
                refine lv_aload_n hx hb dX12_isColoured_72 rfl (lv_at hl 3 rfl) ?_
                refine va_get (D := (dC, dI)) (ci := 12) (v := .ref o33) (C := RX12) (T := TX12) (N := 29) hx hb hts iw_X12_isColoured_X12 hown hK hP 0 rfl rfl 20 (by decide) (hts (.fieldLink RX12 48 "HolelessHouseModel" "colours" "[I") hm_X12_isColoured_3) (fun _ h9 => h9) rfl dX12_isColoured_73 ?_
                refine lv_iload_n hx hb dX12_isColoured_76 rfl (lv_at hl 4 rfl) ?_
                refine lv_iload_n hx hb dX12_isColoured_77 rfl (lv_at hl 2 rfl) ?_
                refine k_iast hx hb hK hP hD hS 2 0 rfl rfl (vin_iv ik_8 (by decide)) dX12_isColoured_78 (fun f700 H locs f700_e hP hD hS => ?_)
                have f700_b : Bd 12 0 11 f700 := bd_upd f700_e f653_b j655 (by decide)
                have hP : va_P (dC, dI) vwCl ([(o1, .inr (12, [.int v2, .ref o3, .int v5, .ref o6, .int v8, .ref o9, .ref o11, .int v13, .ref o14, .int v16, .ref o17, .int v19, .int v20, .int v21, .ref o22, .ref o24, .ref o26, .ref o28, .ref o30, .int v32, .ref o33, .ref o35, .ref o37, .int v39, .ref o40, .ref o42, .ref o44, .int v46, .ref o47])), (o6, .inl (cI, 12, .inl fw7)), (o33, .inl (cI, 12, .inl f700))]) H := hP
                have hD : va_D A ([(o1, .inr (12, [.int v2, .ref o3, .int v5, .ref o6, .int v8, .ref o9, .ref o11, .int v13, .ref o14, .int v16, .ref o17, .int v19, .int v20, .int v21, .ref o22, .ref o24, .ref o26, .ref o28, .ref o30, .int v32, .ref o33, .ref o35, .ref o37, .int v39, .ref o40, .ref o42, .ref o44, .int v46, .ref o47])), (o6, .inl (cI, 12, .inl fw7)), (o33, .inl (cI, 12, .inl f700))]) := hD
                refine lv_iload hx hb dX12_isColoured_79 (lv_at hl 1 rfl) ?_
                refine lv_if_eq (tgt := 97) hx hb dX12_isColoured_81 (by decide) (fun h701 => ?_) (fun h701 => ?_)
                ·
                  have j702 : Iv 0 0 x697 := r_eq h701 ik_0
                  obtain ⟨x703, x703_e⟩ : ∃ z : Int32, z = x652 + 1 := ⟨_, rfl⟩
                  have x703_h : Iv 1 12 x703 := iv_e x703_e (iv_add j655 ik_1 (by decide))
                  refine lv_iinc (v := x703) (lv' := [(3, .int x703), (5, .int x696), (4, .int x697), (0, .ref o1), (1, .int 8), (2, .int a2)]) hx hb dX12_isColoured_97 hl (k := 2) rfl (incN (by decide +kernel) x703_e) (by decide) rfl (fun ls hl => ?_)
                  refine lv_goto (tgt := 12) hx hb dX12_isColoured_100 (by decide) ?_
                  exact ih9 x703 f700 _ _ _ (ms_up x703_e j655 (by decide) hM9) (iv_w x703_h (by decide)) f700_b (co_k f700_e (by decide +kernel) iv9_0) (fun h8 => CW_s (iv9_1 h8) (iv_w (c := 0) (d := 4095) j655 (by decide)) x703_e (co_w3 (iv10_0 h701) (Nat.le_of_eq (by rw [d_eq j699 ik_8]; decide +kernel)) iv9_0)) hP hD hS (lv_sub hl [0, 3, 4, 5] rfl)
                ·
                  have j704 : Iv 1 1 x697 := r_nelo h701 x697_h ik_0 (by decide)
                  refine lv_aload_n hx hb dX12_isColoured_84 rfl (lv_at hl 3 rfl) ?_
                  refine lv_iload_n hx hb dX12_isColoured_85 rfl (lv_at hl 4 rfl) ?_
                  refine lv_iconst (v := 1) hx hb dX12_isColoured_86 (by decide) ?_
                  refine lv_iadd hx hb dX12_isColoured_87 (tk_i (v := 9) (by decide +kernel) ?_)
                  refine lv_iload_n hx hb dX12_isColoured_88 rfl (lv_at hl 5 rfl) ?_
                  refine kc_i (D := (dC, dI)) (S := (Nat → Int32)) (wc := [(o1, .inr (12, [.int v2, .ref o3, .int v5, .ref o6, .int v8, .ref o9, .ref o11, .int v13, .ref o14, .int v16, .ref o17, .int v19, .int v20, .int v21, .ref o22, .ref o24, .ref o26, .ref o28, .ref o30, .int v32, .ref o33, .ref o35, .ref o37, .int v39, .ref o40, .ref o42, .ref o44, .int v46, .ref o47])), (o6, .inl (cI, 12, .inl fw7)), (o33, .inl (cI, 12, .inl f700))]) (wr := []) (w1 := fun u => [(o1, .inr (12, [.int v2, .ref o3, .int v5, .ref o6, .int v8, .ref o9, .ref o11, .int v13, .ref o14, .int v16, .ref o17, .int v19, .int v20, .int v21, .ref o22, .ref o24, .ref o26, .ref o28, .ref o30, .int v32, .ref o33, .ref o35, .ref o37, .int v39, .ref o40, .ref o42, .ref o44, .int v46, .ref o47])), (o6, .inl (cI, 12, .inl fw7)), (o33, .inl (cI, 12, .inl u))]) (wn := fun u => [(o1, .inr (12, [.int v2, .ref o3, .int v5, .ref o6, .int v8, .ref o9, .ref o11, .int v13, .ref o14, .int v16, .ref o17, .int v19, .int v20, .int v21, .ref o22, .ref o24, .ref o26, .ref o28, .ref o30, .int v32, .ref o33, .ref o35, .ref o37, .int v39, .ref o40, .ref o42, .ref o44, .int v46, .ref o47])), (o6, .inl (cI, 12, .inl fw7)), (o33, .inl (cI, 12, .inl u))]) (fun hPc hDc => va_runV (As := [.int 9, .int a2]) (rest := []) ⟨hx, hb, hml, hown, hts⟩ (kX12_isColoured_4 l dC dI cI c2 cZ o1 o3 o6 o9 o11 o14 o17 o22 o24 o26 o28 o30 o33 o35 o37 o40 o42 o44 o47 v2 v5 fw7 v8 v13 v16 v19 v20 v21 v32 f700 v39 v46 a2 H.size j2 fw7_b v8_h v13_h v16_h v19_h v32_h f700_b v39_h v46_h (iv_w j656 (by decide))) (cwV 2 hts gX12_isColoured_X12_isColoured rfl rfl rfl (by decide +kernel) ⟨Nat.le_of_ble_eq_true rfl, Nat.le_of_ble_eq_true rfl⟩) (pre_V hPc hK hDc hN (ci := 12) (q0 := 0) rfl rfl) rfl rfl hl.1 rfl (lv_room (Nat.le_of_ble_eq_true rfl)) dX12_isColoured_89 ⟨Nat.le_of_ble_eq_true rfl, Nat.le_of_ble_eq_true rfl⟩) hP hD hS hA [0, 1, 2] [] [0, 1, 2] rfl rfl (by decide +kernel) (by decide +kernel) (by decide +kernel) (by decide +kernel) (fun _ => rfl) (fun x706 f705 H locs hq hP hD hS => ?_)
                  obtain ⟨x706_h, f705_b, e707, e708⟩ := hq
                  have hP : va_P (dC, dI) vwCl ([(o1, .inr (12, [.int v2, .ref o3, .int v5, .ref o6, .int v8, .ref o9, .ref o11, .int v13, .ref o14, .int v16, .ref o17, .int v19, .int v20, .int v21, .ref o22, .ref o24, .ref o26, .ref o28, .ref o30, .int v32, .ref o33, .ref o35, .ref o37, .int v39, .ref o40, .ref o42, .ref o44, .int v46, .ref o47])), (o6, .inl (cI, 12, .inl fw7)), (o33, .inl (cI, 12, .inl f705))]) H := hP
                  have hD : va_D A ([(o1, .inr (12, [.int v2, .ref o3, .int v5, .ref o6, .int v8, .ref o9, .ref o11, .int v13, .ref o14, .int v16, .ref o17, .int v19, .int v20, .int v21, .ref o22, .ref o24, .ref o26, .ref o28, .ref o30, .int v32, .ref o33, .ref o35, .ref o37, .int v39, .ref o40, .ref o42, .ref o44, .int v46, .ref o47])), (o6, .inl (cI, 12, .inl fw7)), (o33, .inl (cI, 12, .inl f705))]) := hD
                  refine lv_if_eq (tgt := 97) hx hb dX12_isColoured_92 (by decide) (fun h709 => ?_) (fun h709 => ?_)
                  ·
                    have j710 : Iv 0 0 x706 := r_eq h709 ik_0
                    obtain ⟨x711, x711_e⟩ : ∃ z : Int32, z = x652 + 1 := ⟨_, rfl⟩
                    have x711_h : Iv 1 12 x711 := iv_e x711_e (iv_add j655 ik_1 (by decide))
                    refine lv_iinc (v := x711) (lv' := [(3, .int x711), (5, .int x696), (4, .int x697), (0, .ref o1), (1, .int 8), (2, .int a2)]) hx hb dX12_isColoured_97 hl (k := 2) rfl (incN (by decide +kernel) x711_e) (by decide) rfl (fun ls hl => ?_)
                    refine lv_goto (tgt := 12) hx hb dX12_isColoured_100 (by decide) ?_
                    exact ih9 x711 f705 _ _ _ (ms_up x711_e j655 (by decide) hM9) (iv_w x711_h (by decide)) f705_b (co_t e707 (by decide) (co_k f700_e (by decide +kernel) iv9_0)) (fun h8 => absurd h709 (e708 h8)) hP hD hS (lv_sub hl [0, 3, 4, 5] rfl)
                  ·
                    have j712 : Iv 1 1 x706 := r_nelo h709 x706_h ik_0 (by decide)
                    refine lv_iconst (v := 1) hx hb dX12_isColoured_95 (by decide) ?_
                    rw [hQ]
                    exact W.zret (v := 1) (ty := .boolean) hx hb hr rfl (fun t ht hW => ⟨⟨1, f705, rfl, ⟨(iv_w ik_1 (by decide)), f705_b, (co_t e707 (by decide) (co_k f700_e (by decide +kernel) iv9_0)), (fun _ h8 => absurd h8 (by decide +kernel))⟩, by rw [ht]; exact hP, va_K.moved hW.alike hK, hD⟩, hS.F ht⟩) hS.2.2 dX12_isColoured_96
              ·
                have qh698 := nle_i h698
                have j713 : Iv 0 7 x696 := r_ltl qh698 x696_h ik_8 (by decide)
                refine lv_iload hx hb dX12_isColoured_29 (lv_at hl 1 rfl) ?_
                refine lv_if_eq (tgt := 63) hx hb dX12_isColoured_31 (by decide) (fun h714 => ?_) (fun h714 => ?_)
                ·
                  have j715 : Iv 0 0 x697 := r_eq h714 ik_0
                  refine lv_iconst (v := 0) hx hb dX12_isColoured_63 (by decide) ?_
                  refine lv_istore (lv' := [(4, .int 0), (5, .int x696), (3, .int x652), (0, .ref o1), (1, .int 8), (2, .int a2)]) hx hb dX12_isColoured_64 hl (by decide) rfl (fun ls hl => ?_)
                  obtain ⟨x716, x716_e⟩ : ∃ z : Int32, z = x696 + 1 := ⟨_, rfl⟩
                  have x716_h : Iv 1 8 x716 := iv_e x716_e (iv_add j713 ik_1 (by decide))
                  refine lv_iinc (v := x716) (lv' := [(5, .int x716), (4, .int 0), (3, .int x652), (0, .ref o1), (1, .int 8), (2, .int a2)]) hx hb dX12_isColoured_66 hl (k := 1) rfl (incN (by decide +kernel) x716_e) (by decide) rfl (fun ls hl => ?_)
                  refine lv_goto (tgt := 23) hx hb dX12_isColoured_69 (by decide) ?_
                  exact ih10 x716 0 _ _ _ (ms_up x716_e j713 (by decide) hM10) (iv_w x716_h (by decide)) (iv_w ik_0 (by decide)) (fun _ => co_w1 (iv10_0 h714) (iv_w (c := 0) (d := 4095) j713 (by decide)) x716_e) hP hD hS hl
                ·
                  have j717 : Iv 1 1 x697 := r_nelo h714 x697_h ik_0 (by decide)
                  refine lv_aload_n hx hb dX12_isColoured_34 rfl (lv_at hl 3 rfl) ?_
                  refine va_get (D := (dC, dI)) (ci := 12) (v := .ref o6) (C := RX12) (T := TX12) (N := 29) hx hb hts iw_X12_isColoured_X12 hown hK hP 0 rfl rfl 3 (by decide) (hts (.fieldLink RX12 13 "HolelessHouseModel" "near" "[I") hm_X12_isColoured_2) (fun _ h9 => h9) rfl dX12_isColoured_35 ?_
                  refine lv_iload_n hx hb dX12_isColoured_38 rfl (lv_at hl 4 rfl) ?_
                  refine va_iald hx hb hK hP 1 0 rfl rfl (vin_iv ik_8 (by decide)) dX12_isColoured_39 (lv_topi (fun x718 x718_e => ?_))
                  have x718_h : Iv 0 4095 x718 := iv_e x718_e (bd_at fw7_b (vin_iv ik_8 (by decide)))
                  refine lv_iload hx hb dX12_isColoured_40 (lv_at hl 0 rfl) ?_
                  refine kc_i (D := (dC, dI)) (S := Unit) (wc := []) (wr := [(o1, .inr (12, [.int v2, .ref o3, .int v5, .ref o6, .int v8, .ref o9, .ref o11, .int v13, .ref o14, .int v16, .ref o17, .int v19, .int v20, .int v21, .ref o22, .ref o24, .ref o26, .ref o28, .ref o30, .int v32, .ref o33, .ref o35, .ref o37, .int v39, .ref o40, .ref o42, .ref o44, .int v46, .ref o47])), (o6, .inl (cI, 12, .inl fw7)), (o33, .inl (cI, 12, .inl f653))]) (w1 := fun _ => []) (wn := fun _ => [(o1, .inr (12, [.int v2, .ref o3, .int v5, .ref o6, .int v8, .ref o9, .ref o11, .int v13, .ref o14, .int v16, .ref o17, .int v19, .int v20, .int v21, .ref o22, .ref o24, .ref o26, .ref o28, .ref o30, .int v32, .ref o33, .ref o35, .ref o37, .int v39, .ref o40, .ref o42, .ref o44, .int v46, .ref o47])), (o6, .inl (cI, 12, .inl fw7)), (o33, .inl (cI, 12, .inl f653))]) (fun hPc hDc => va_runS (As := [.int x718, .int x696]) (rest := []) ⟨hx, hb, hml, hown, hts⟩ (kX12_has_1 l dC dI cI c2 cZ x718 x696 H.size (iv_w j713 (by decide))) (va_cwS 2 hts gX12_isColoured_X12_has rfl rfl rfl (by decide +kernel) ⟨Nat.le_of_ble_eq_true rfl, Nat.le_of_ble_eq_true rfl⟩) (pre_S hPc hK hDc hN) rfl rfl hl.1 rfl (lv_room (Nat.le_of_ble_eq_true rfl)) dX12_isColoured_42 ⟨Nat.le_of_ble_eq_true rfl, Nat.le_of_ble_eq_true rfl⟩) hP hD hS hA [] [0, 1, 2] [0, 1, 2] rfl rfl (by decide +kernel) (by decide +kernel) (by decide +kernel) (by decide +kernel) (fun _ => rfl) (fun x719 _ H locs hq hP hD hS => ?_)
                  obtain ⟨x719_h, e720⟩ := hq
                  have hP : va_P (dC, dI) vwCl ([(o1, .inr (12, [.int v2, .ref o3, .int v5, .ref o6, .int v8, .ref o9, .ref o11, .int v13, .ref o14, .int v16, .ref o17, .int v19, .int v20, .int v21, .ref o22, .ref o24, .ref o26, .ref o28, .ref o30, .int v32, .ref o33, .ref o35, .ref o37, .int v39, .ref o40, .ref o42, .ref o44, .int v46, .ref o47])), (o6, .inl (cI, 12, .inl fw7)), (o33, .inl (cI, 12, .inl f653))]) H := hP
                  have hD : va_D A ([(o1, .inr (12, [.int v2, .ref o3, .int v5, .ref o6, .int v8, .ref o9, .ref o11, .int v13, .ref o14, .int v16, .ref o17, .int v19, .int v20, .int v21, .ref o22, .ref o24, .ref o26, .ref o28, .ref o30, .int v32, .ref o33, .ref o35, .ref o37, .int v39, .ref o40, .ref o42, .ref o44, .int v46, .ref o47])), (o6, .inl (cI, 12, .inl fw7)), (o33, .inl (cI, 12, .inl f653))]) := hD
                  refine lv_if_eq (tgt := 59) hx hb dX12_isColoured_45 (by decide) (fun h721 => ?_) (fun h721 => ?_)
                  ·
                    have j722 : Iv 0 0 x719 := r_eq h721 ik_0
                    have b723 : bt x718 (Int32.toNatClampNeg x696) = false := has_f e720 h721
                    refine lv_iconst (v := 1) hx hb dX12_isColoured_59 (by decide) ?_
                    refine lv_goto (tgt := 64) hx hb dX12_isColoured_60 (by decide) ?_
                    refine lv_istore (lv' := [(4, .int 1), (5, .int x696), (3, .int x652), (0, .ref o1), (1, .int 8), (2, .int a2)]) hx hb dX12_isColoured_64 hl (by decide) rfl (fun ls hl => ?_)
                    obtain ⟨x724, x724_e⟩ : ∃ z : Int32, z = x696 + 1 := ⟨_, rfl⟩
                    have x724_h : Iv 1 8 x724 := iv_e x724_e (iv_add j713 ik_1 (by decide))
                    refine lv_iinc (v := x724) (lv' := [(5, .int x724), (4, .int 1), (3, .int x652), (0, .ref o1), (1, .int 8), (2, .int a2)]) hx hb dX12_isColoured_66 hl (k := 1) rfl (incN (by decide +kernel) x724_e) (by decide) rfl (fun ls hl => ?_)
                    refine lv_goto (tgt := 23) hx hb dX12_isColoured_69 (by decide) ?_
                    exact ih10 x724 1 _ _ _ (ms_up x724_e j713 (by decide) hM10) (iv_w x724_h (by decide)) (iv_w ik_1 (by decide)) (fun h8 => absurd h8 (by decide +kernel)) hP hD hS hl
                  ·
                    have j725 : Iv 1 1 x719 := r_nelo h721 x719_h ik_0 (by decide)
                    have b726 : bt x718 (Int32.toNatClampNeg x696) = true := has_t e720 h721
                    refine lv_aload_n hx hb dX12_isColoured_48 rfl (lv_at hl 3 rfl) ?_
                    refine va_get (D := (dC, dI)) (ci := 12) (v := .ref o33) (C := RX12) (T := TX12) (N := 29) hx hb hts iw_X12_isColoured_X12 hown hK hP 0 rfl rfl 20 (by decide) (hts (.fieldLink RX12 48 "HolelessHouseModel" "colours" "[I") hm_X12_isColoured_3) (fun _ h9 => h9) rfl dX12_isColoured_49 ?_
                    refine lv_iload hx hb dX12_isColoured_52 (lv_at hl 0 rfl) ?_
                    refine va_iald hx hb hK hP 2 0 rfl rfl (vin_iv j713 (by decide)) dX12_isColoured_54 (lv_topi (fun x727 x727_e => ?_))
                    have x727_h : Iv 0 11 x727 := iv_e x727_e (bd_at f653_b (vin_iv j713 (by decide)))
                    refine lv_iload_n hx hb dX12_isColoured_55 rfl (lv_at hl 2 rfl) ?_
                    refine lv_icmp_eq (tgt := 63) hx hb dX12_isColoured_56 (by decide) (fun h728 => ?_) (fun h728 => ?_)
                    ·
                      refine lv_iconst (v := 0) hx hb dX12_isColoured_63 (by decide) ?_
                      refine lv_istore (lv' := [(4, .int 0), (5, .int x696), (3, .int x652), (0, .ref o1), (1, .int 8), (2, .int a2)]) hx hb dX12_isColoured_64 hl (by decide) rfl (fun ls hl => ?_)
                      obtain ⟨x729, x729_e⟩ : ∃ z : Int32, z = x696 + 1 := ⟨_, rfl⟩
                      have x729_h : Iv 1 8 x729 := iv_e x729_e (iv_add j713 ik_1 (by decide))
                      refine lv_iinc (v := x729) (lv' := [(5, .int x729), (4, .int 0), (3, .int x652), (0, .ref o1), (1, .int 8), (2, .int a2)]) hx hb dX12_isColoured_66 hl (k := 1) rfl (incN (by decide +kernel) x729_e) (by decide) rfl (fun ls hl => ?_)
                      refine lv_goto (tgt := 23) hx hb dX12_isColoured_69 (by decide) ?_
                      exact ih10 x729 0 _ _ _ (ms_up x729_e j713 (by decide) hM10) (iv_w x729_h (by decide)) (iv_w ik_0 (by decide)) (fun _ => co_w2 x727_e h728 (iv_w (c := 0) (d := 4095) j713 (by decide)) x729_e) hP hD hS hl
                    ·
                      refine lv_iconst (v := 1) hx hb dX12_isColoured_59 (by decide) ?_
                      refine lv_goto (tgt := 64) hx hb dX12_isColoured_60 (by decide) ?_
                      refine lv_istore (lv' := [(4, .int 1), (5, .int x696), (3, .int x652), (0, .ref o1), (1, .int 8), (2, .int a2)]) hx hb dX12_isColoured_64 hl (by decide) rfl (fun ls hl => ?_)
                      obtain ⟨x730, x730_e⟩ : ∃ z : Int32, z = x696 + 1 := ⟨_, rfl⟩
                      have x730_h : Iv 1 8 x730 := iv_e x730_e (iv_add j713 ik_1 (by decide))
                      refine lv_iinc (v := x730) (lv' := [(5, .int x730), (4, .int 1), (3, .int x652), (0, .ref o1), (1, .int 8), (2, .int a2)]) hx hb dX12_isColoured_66 hl (k := 1) rfl (incN (by decide +kernel) x730_e) (by decide) rfl (fun ls hl => ?_)
                      refine lv_goto (tgt := 23) hx hb dX12_isColoured_69 (by decide) ?_
                      exact ih10 x730 1 _ _ _ (ms_up x730_e j713 (by decide) hM10) (iv_w x730_h (by decide)) (iv_w ik_1 (by decide)) (fun h8 => absurd h8 (by decide +kernel)) hP hD hS hl
          exact L10 _ 0 1 _ _ _ (Nat.lt_succ_self _) (iv_w ik_0 (by decide)) (iv_w ik_1 (by decide)) co_w0 hP hD hS hl
    exact L9 _ 0 fw34 _ _ _ (Nat.lt_succ_self _) (iv_w ik_0 (by decide)) fw34_b (fun _ _ => rfl) (fun _ => CW_0) hP hD hS hl
  ·
    have j731 : Iv 8 8 v5 := r_eq h1.symm ik_8
    refine lv_iconst (v := 1) hx hb dX12_isColoured_8 (by decide) ?_
    rw [hQ]
    exact W.zret (v := 1) (ty := .boolean) hx hb hr rfl (fun t ht hW => ⟨⟨1, fw34, rfl, ⟨(iv_w ik_1 (by decide)), fw34_b, (fun _ _ => rfl), (fun _ h8 => absurd h8 (by decide +kernel))⟩, by rw [ht]; exact hP, va_K.moved hW.alike hK, hD⟩, hS.F ht⟩) hS.2.2 dX12_isColoured_9
set_option maxHeartbeats 4000000 in
set_option maxRecDepth 100000 in
theorem kX12_isColoured_6 (l : Launch) (dC : Nat → ClassId) (dI : Nat → Nat → Nat) (cI c2 cZ : ClassId) (o1 : Nat) (o3 : Nat) (o6 : Nat) (o9 : Nat) (o11 : Nat) (o14 : Nat) (o17 : Nat) (o22 : Nat) (o24 : Nat) (o26 : Nat) (o28 : Nat) (o30 : Nat) (o33 : Nat) (o35 : Nat) (o37 : Nat) (o40 : Nat) (o42 : Nat) (o44 : Nat) (o47 : Nat) (v2 : Int32) (v5 : Int32) (fw7 : Nat → Int32) (v8 : Int32) (v13 : Int32) (v16 : Int32) (v19 : Int32) (v20 : Int32) (v21 : Int32) (v32 : Int32) (fw34 : Nat → Int32) (v39 : Int32) (v46 : Int32) (a2 : Int32) (sz : Nat) (v5_h : Iv 7 12 v5) (fw7_b : Bd 12 0 4095 fw7) (v8_h : Iv 0 8 v8) (v13_h : Iv 0 12 v13) (v16_h : Iv 0 12 v16) (v19_h : Iv (-9) 12 v19) (v32_h : Iv 0 99 v32) (fw34_b : Bd 12 0 11 fw34) (v39_h : Iv 0 12 v39) (v46_h : Iv 0 12 v46) (a2_h : Iv 0 12 a2) : Met l yX12_isColoured wsX12_isColoured ({ frames := 5, cells := 0, slots := 0, locals := 125 }) (va_Pc [.ref o1, .int 7, .int a2] (wPre (dC, dI) [(cI, .int), (c2, .array .int), (cZ, .boolean)] ([(o1, .inr (12, [.int v2, .ref o3, .int v5, .ref o6, .int v8, .ref o9, .ref o11, .int v13, .ref o14, .int v16, .ref o17, .int v19, .int v20, .int v21, .ref o22, .ref o24, .ref o26, .ref o28, .ref o30, .int v32, .ref o33, .ref o35, .ref o37, .int v39, .ref o40, .ref o42, .ref o44, .int v46, .ref o47])), (o6, .inl (cI, 12, .inl fw7)), (o33, .inl (cI, 12, .inl fw34))]) sz)) (va_Qi (fun (r : Int32) (u : (Nat → Int32)) => Iv 0 1 r ∧ Bd 12 0 11 u ∧ (∀ i8, i8 < 7 → u i8 = fw34 i8) ∧ (Int32.toInt v5 ≤ Int32.toInt a2 → ¬ r = 0)) (fun u t => wPost (dC, dI) [(cI, .int), (c2, .array .int), (cZ, .boolean)] (va_A ([(o1, .inr (12, [.int v2, .ref o3, .int v5, .ref o6, .int v8, .ref o9, .ref o11, .int v13, .ref o14, .int v16, .ref o17, .int v19, .int v20, .int v21, .ref o22, .ref o24, .ref o26, .ref o28, .ref o30, .int v32, .ref o33, .ref o35, .ref o37, .int v39, .ref o40, .ref o42, .ref o44, .int v46, .ref o47])), (o6, .inl (cI, 12, .inl fw7)), (o33, .inl (cI, 12, .inl fw34))]) sz) ([(o1, .inr (12, [.int v2, .ref o3, .int v5, .ref o6, .int v8, .ref o9, .ref o11, .int v13, .ref o14, .int v16, .ref o17, .int v19, .int v20, .int v21, .ref o22, .ref o24, .ref o26, .ref o28, .ref o30, .int v32, .ref o33, .ref o35, .ref o37, .int v39, .ref o40, .ref o42, .ref o44, .int v46, .ref o47])), (o6, .inl (cI, 12, .inl fw7)), (o33, .inl (cI, 12, .inl u))]) t) (va_A ([(o1, .inr (12, [.int v2, .ref o3, .int v5, .ref o6, .int v8, .ref o9, .ref o11, .int v13, .ref o14, .int v16, .ref o17, .int v19, .int v20, .int v21, .ref o22, .ref o24, .ref o26, .ref o28, .ref o30, .int v32, .ref o33, .ref o35, .ref o37, .int v39, .ref o40, .ref o42, .ref o44, .int v46, .ref o47])), (o6, .inl (cI, 12, .inl fw7)), (o33, .inl (cI, 12, .inl fw34))]) sz)) 0 0 (va_A ([(o1, .inr (12, [.int v2, .ref o3, .int v5, .ref o6, .int v8, .ref o9, .ref o11, .int v13, .ref o14, .int v16, .ref o17, .int v19, .int v20, .int v21, .ref o22, .ref o24, .ref o26, .ref o28, .ref o30, .int v32, .ref o33, .ref o35, .ref o37, .int v39, .ref o40, .ref o42, .ref o44, .int v46, .ref o47])), (o6, .inl (cI, 12, .inl fw7)), (o33, .inl (cI, 12, .inl fw34))]) sz) := by
  refine Met.ofW (cc := cX12_isColoured) (maxL := 6) (ret := (some .boolean)) (by decide) rfl ?_
  intro p e s m args below meth c s₁ B hml hv
  obtain ⟨rfl, hsz, hP, hK, hD0, hN⟩ := hv
  have hx := B.exec
  have hb := B.bytes
  have hr := B.returns
  have hts := atoms_spec (ws := wsX12_isColoured) B.pre
  have hown : s.vm.findClass RX12 = some m.cls := findClass_of_methodNamed B.named
  have hlocks := B.notSynchronized
  subst hsz
  have hD := hD0.self (sz := s.heap.size)
  generalize hAe : va_A ([(o1, .inr (12, [.int v2, .ref o3, .int v5, .ref o6, .int v8, .ref o9, .ref o11, .int v13, .ref o14, .int v16, .ref o17, .int v19, .int v20, .int v21, .ref o22, .ref o24, .ref o26, .ref o28, .ref o30, .int v32, .ref o33, .ref o35, .ref o37, .int v39, .ref o40, .ref o42, .ref o44, .int v46, .ref o47])), (o6, .inl (cI, 12, .inl fw7)), (o33, .inl (cI, 12, .inl fw34))]) s.heap.size = A at hD ⊢
  have hA : ∀ q : Nat, s.heap.size ≤ q → A q := fun q h => by rw [← hAe]; exact Or.inr h
  have hS : va_S A s.heap s.heap [] := va_S.rf
  have hP : va_P (dC, dI) vwCl ([(o1, .inr (12, [.int v2, .ref o3, .int v5, .ref o6, .int v8, .ref o9, .ref o11, .int v13, .ref o14, .int v16, .ref o17, .int v19, .int v20, .int v21, .ref o22, .ref o24, .ref o26, .ref o28, .ref o30, .int v32, .ref o33, .ref o35, .ref o37, .int v39, .ref o40, .ref o42, .ref o44, .int v46, .ref o47])), (o6, .inl (cI, 12, .inl fw7)), (o33, .inl (cI, 12, .inl fw34))]) s.heap := hP
  have hl := lv_entry ([.ref o1, .int 7, .int a2]) (n := 6) (Nat.le_of_ble_eq_true rfl)
  rw [lg_entry_eq]
  generalize (lg_sl ([.ref o1, .int 7, .int a2]) ++ List.replicate (6 - (lg_sl ([.ref o1, .int 7, .int a2])).length) Slot.unset).toArray = ls at hl ⊢
  have hl : lv_has ls 6 [(0, .ref o1), (1, .int 7), (2, .int a2)] := hl
  refine gen_Q (fun Q hQ => ?_)
  refine lv_iload_n hx hb dX12_isColoured_0 rfl (lv_at hl 1 rfl) ?_
  refine lv_aload_n hx hb dX12_isColoured_1 rfl (lv_at hl 0 rfl) ?_
  refine va_get (D := (dC, dI)) (ci := 12) (v := .int v5) (C := RX12) (T := TX12) (N := 29) hx hb hts iw_X12_isColoured_X12 hown hK hP 0 rfl rfl 2 (by decide) (hts (.fieldLink RX12 73 "HolelessHouseModel" "n" "I") hm_X12_isColoured_1) (fun _ h9 => h9) rfl dX12_isColoured_2 ?_
  refine lv_icmp_ne (tgt := 10) hx hb dX12_isColoured_5 (by decide) (fun h1 => ?_) (fun h1 => ?_)
  ·
    have j2 : Iv 8 12 v5 := r_nelo (fun q => h1 q.symm) v5_h ik_7 (by decide)
    refine lv_iconst (v := 0) hx hb dX12_isColoured_10 (by decide) ?_
    refine lv_istore_n (lv' := [(3, .int 0), (0, .ref o1), (1, .int 7), (2, .int a2)]) hx hb dX12_isColoured_11 rfl hl (by decide) rfl (fun ls hl => ?_)
    have L9 : ∀ (N : Nat) (x652 : Int32) (f653 : Nat → Int32) (H : Heap) (locs : List Loc) (ls : Array Slot), (12 - x652.toInt).toNat < N → Iv 0 12 x652 → Bd 12 0 11 f653 → (∀ i8, i8 < 7 → f653 i8 = fw34 i8) → (Int32.toInt v5 ≤ Int32.toInt a2 → CW fw34 7 (Int32.toNatClampNeg x652)) → va_P (dC, dI) vwCl ([(o1, .inr (12, [.int v2, .ref o3, .int v5, .ref o6, .int v8, .ref o9, .ref o11, .int v13, .ref o14, .int v16, .ref o17, .int v19, .int v20, .int v21, .ref o22, .ref o24, .ref o26, .ref o28, .ref o30, .int v32, .ref o33, .ref o35, .ref o37, .int v39, .ref o40, .ref o42, .ref o44, .int v46, .ref o47])), (o6, .inl (cI, 12, .inl fw7)), (o33, .inl (cI, 12, .inl f653))]) H → va_D A ([(o1, .inr (12, [.int v2, .ref o3, .int v5, .ref o6, .int v8, .ref o9, .ref o11, .int v13, .ref o14, .int v16, .ref o17, .int v19, .int v20, .int v21, .ref o22, .ref o24, .ref o26, .ref o28, .ref o30, .int v32, .ref o33, .ref o35, .ref o37, .int v39, .ref o40, .ref o42, .ref o44, .int v46, .ref o47])), (o6, .inl (cI, 12, .inl fw7)), (o33, .inl (cI, 12, .inl f653))]) → va_S A s.heap H locs → lv_has ls 6 [(3, .int x652), (0, .ref o1), (1, .int 7), (2, .int a2)] → W p l e ({ frames := 5, cells := 0, slots := 0, locals := 125 }) s m ([.ref o1, .int 7, .int a2] : List Value).toArray below meth c H locs 0 0 Q (F0 m 12 ls []) := by
      intro N
      induction N with
      | zero =>
        intro x652 f653 H locs ls hM
        exact absurd hM (Nat.not_lt_zero _)
      | succ N ih9 =>
        intro x652 f653 H locs ls hM9 x652_h f653_b iv9_0 iv9_1 hP hD hS hl
        refine lv_iload_n hx hb dX12_isColoured_12 rfl (lv_at hl 0 rfl) ?_
        refine lv_iload_n hx hb dX12_isColoured_13 rfl (lv_at hl 3 rfl) ?_
        refine lv_icmp_ge (tgt := 103) hx hb dX12_isColoured_14 (by decide) (fun h654 => ?_) (fun h654 => ?_)
        ·
          have qh654 := le_i h654
          refine lv_iconst (v := 0) hx hb dX12_isColoured_103 (by decide) ?_
          rw [hQ]
          exact W.zret (v := 0) (ty := .boolean) hx hb hr rfl (fun t ht hW => ⟨⟨0, f653, rfl, ⟨(iv_w ik_0 (by decide)), f653_b, iv9_0, (fun h8 => (co_no (iv9_1 h8) qh654 a2_h h8 (show (7 : Int) + 1 ≤ _ from (show _ ≤ _ ∧ _ ≤ _ from j2).1)).elim)⟩, by rw [ht]; exact hP, va_K.moved hW.alike hK, hD⟩, hS.F ht⟩) hS.2.2 dX12_isColoured_104
        ·
          have qh654 := nle_i h654
          have j655 : Iv 0 11 x652 := r_ltl qh654 x652_h a2_h (by decide)
          have j656 : Iv 1 12 a2 := r_ltr qh654 x652_h a2_h (by decide)
          refine lv_iconst (v := 1) hx hb dX12_isColoured_17 (by decide) ?_
          refine lv_istore (lv' := [(4, .int 1), (3, .int x652), (0, .ref o1), (1, .int 7), (2, .int a2)]) hx hb dX12_isColoured_18 hl (by decide) rfl (fun ls hl => ?_)
          refine lv_iconst (v := 0) hx hb dX12_isColoured_20 (by decide) ?_
          refine lv_istore (lv' := [(5, .int 0), (4, .int 1), (3, .int x652), (0, .ref o1), (1, .int 7), (2, .int a2)]) hx hb dX12_isColoured_21 hl (by decide) rfl (fun ls hl => ?_)
          have L10 : ∀ (N : Nat) (x696 : Int32) (x697 : Int32) (H : Heap) (locs : List Loc) (ls : Array Slot), (7 - x696.toInt).toNat < N → Iv 0 7 x696 → Iv 0 1 x697 → (x697 = 0 → ∃ q, q < (Int32.toNatClampNeg x696) ∧ f653 q = x652) → va_P (dC, dI) vwCl ([(o1, .inr (12, [.int v2, .ref o3, .int v5, .ref o6, .int v8, .ref o9, .ref o11, .int v13, .ref o14, .int v16, .ref o17, .int v19, .int v20, .int v21, .ref o22, .ref o24, .ref o26, .ref o28, .ref o30, .int v32, .ref o33, .ref o35, .ref o37, .int v39, .ref o40, .ref o42, .ref o44, .int v46, .ref o47])), (o6, .inl (cI, 12, .inl fw7)), (o33, .inl (cI, 12, .inl f653))]) H → va_D A ([(o1, .inr (12, [.int v2, .ref o3, .int v5, .ref o6, .int v8, .ref o9, .ref o11, .int v13, .ref o14, .int v16, .ref o17, .int v19, .int v20, .int v21, .ref o22, .ref o24, .ref o26, .ref o28, .ref o30, .int v32, .ref o33, .ref o35, .ref o37, .int v39, .ref o40, .ref o42, .ref o44, .int v46, .ref o47])), (o6, .inl (cI, 12, .inl fw7)), (o33, .inl (cI, 12, .inl f653))]) → va_S A s.heap H locs → lv_has ls 6 [(5, .int x696), (4, .int x697), (3, .int x652), (0, .ref o1), (1, .int 7), (2, .int a2)] → W p l e ({ frames := 5, cells := 0, slots := 0, locals := 125 }) s m ([.ref o1, .int 7, .int a2] : List Value).toArray below meth c H locs 0 0 Q (F0 m 23 ls []) := by
            intro N
            induction N with
            | zero =>
              intro x696 x697 H locs ls hM
              exact absurd hM (Nat.not_lt_zero _)
            | succ N ih10 =>
              intro x696 x697 H locs ls hM10 x696_h x697_h iv10_0 hP hD hS hl
              refine lv_iload hx hb dX12_isColoured_23 (lv_at hl 0 rfl) ?_
              refine lv_iload_n hx hb dX12_isColoured_25 rfl (lv_at hl 4 rfl) ?_
              refine lv_icmp_ge (tgt := 72) hx hb dX12_isColoured_26 (by decide) (fun h698 => ?_) (fun h698 => ?_)
              ·
                have qh698 := le_i h698
                have j699 : Iv 7 7 x696 := r_ler qh698 ik_7 x696_h (by decide)
                refine lv_aload_n hx hb dX12_isColoured_72 rfl (lv_at hl 3 rfl) ?_
                refine va_get (D := (dC, dI)) (ci := 12) (v := .ref o33) (C := RX12) (T := TX12) (N := 29) hx hb hts iw_X12_isColoured_X12 hown hK hP 0 rfl rfl 20 (by decide) (hts (.fieldLink RX12 48 "HolelessHouseModel" "colours" "[I") hm_X12_isColoured_3) (fun _ h9 => h9) rfl dX12_isColoured_73 ?_
                refine lv_iload_n hx hb dX12_isColoured_76 rfl (lv_at hl 4 rfl) ?_
                refine lv_iload_n hx hb dX12_isColoured_77 rfl (lv_at hl 2 rfl) ?_
                refine k_iast hx hb hK hP hD hS 2 0 rfl rfl (vin_iv ik_7 (by decide)) dX12_isColoured_78 (fun f700 H locs f700_e hP hD hS => ?_)
                have f700_b : Bd 12 0 11 f700 := bd_upd f700_e f653_b j655 (by decide)
                have hP : va_P (dC, dI) vwCl ([(o1, .inr (12, [.int v2, .ref o3, .int v5, .ref o6, .int v8, .ref o9, .ref o11, .int v13, .ref o14, .int v16, .ref o17, .int v19, .int v20, .int v21, .ref o22, .ref o24, .ref o26, .ref o28, .ref o30, .int v32, .ref o33, .ref o35, .ref o37, .int v39, .ref o40, .ref o42, .ref o44, .int v46, .ref o47])), (o6, .inl (cI, 12, .inl fw7)), (o33, .inl (cI, 12, .inl f700))]) H := hP
                have hD : va_D A ([(o1, .inr (12, [.int v2, .ref o3, .int v5, .ref o6, .int v8, .ref o9, .ref o11, .int v13, .ref o14, .int v16, .ref o17, .int v19, .int v20, .int v21, .ref o22, .ref o24, .ref o26, .ref o28, .ref o30, .int v32, .ref o33, .ref o35, .ref o37, .int v39, .ref o40, .ref o42, .ref o44, .int v46, .ref o47])), (o6, .inl (cI, 12, .inl fw7)), (o33, .inl (cI, 12, .inl f700))]) := hD
                refine lv_iload hx hb dX12_isColoured_79 (lv_at hl 1 rfl) ?_
                refine lv_if_eq (tgt := 97) hx hb dX12_isColoured_81 (by decide) (fun h701 => ?_) (fun h701 => ?_)
                ·
                  have j702 : Iv 0 0 x697 := r_eq h701 ik_0
                  obtain ⟨x703, x703_e⟩ : ∃ z : Int32, z = x652 + 1 := ⟨_, rfl⟩
                  have x703_h : Iv 1 12 x703 := iv_e x703_e (iv_add j655 ik_1 (by decide))
                  refine lv_iinc (v := x703) (lv' := [(3, .int x703), (5, .int x696), (4, .int x697), (0, .ref o1), (1, .int 7), (2, .int a2)]) hx hb dX12_isColoured_97 hl (k := 2) rfl (incN (by decide +kernel) x703_e) (by decide) rfl (fun ls hl => ?_)
                  refine lv_goto (tgt := 12) hx hb dX12_isColoured_100 (by decide) ?_
                  exact ih9 x703 f700 _ _ _ (ms_up x703_e j655 (by decide) hM9) (iv_w x703_h (by decide)) f700_b (co_k f700_e (by decide +kernel) iv9_0) (fun h8 => CW_s (iv9_1 h8) (iv_w (c := 0) (d := 4095) j655 (by decide)) x703_e (co_w3 (iv10_0 h701) (Nat.le_of_eq (by rw [d_eq j699 ik_7]; decide +kernel)) iv9_0)) hP hD hS (lv_sub hl [0, 3, 4, 5] rfl)
                ·
                  have j704 : Iv 1 1 x697 := r_nelo h701 x697_h ik_0 (by decide)
                  refine lv_aload_n hx hb dX12_isColoured_84 rfl (lv_at hl 3 rfl) ?_
                  refine lv_iload_n hx hb dX12_isColoured_85 rfl (lv_at hl 4 rfl) ?_
                  refine lv_iconst (v := 1) hx hb dX12_isColoured_86 (by decide) ?_
                  refine lv_iadd hx hb dX12_isColoured_87 (tk_i (v := 8) (by decide +kernel) ?_)
                  refine lv_iload_n hx hb dX12_isColoured_88 rfl (lv_at hl 5 rfl) ?_
                  refine kc_i (D := (dC, dI)) (S := (Nat → Int32)) (wc := [(o1, .inr (12, [.int v2, .ref o3, .int v5, .ref o6, .int v8, .ref o9, .ref o11, .int v13, .ref o14, .int v16, .ref o17, .int v19, .int v20, .int v21, .ref o22, .ref o24, .ref o26, .ref o28, .ref o30, .int v32, .ref o33, .ref o35, .ref o37, .int v39, .ref o40, .ref o42, .ref o44, .int v46, .ref o47])), (o6, .inl (cI, 12, .inl fw7)), (o33, .inl (cI, 12, .inl f700))]) (wr := []) (w1 := fun u => [(o1, .inr (12, [.int v2, .ref o3, .int v5, .ref o6, .int v8, .ref o9, .ref o11, .int v13, .ref o14, .int v16, .ref o17, .int v19, .int v20, .int v21, .ref o22, .ref o24, .ref o26, .ref o28, .ref o30, .int v32, .ref o33, .ref o35, .ref o37, .int v39, .ref o40, .ref o42, .ref o44, .int v46, .ref o47])), (o6, .inl (cI, 12, .inl fw7)), (o33, .inl (cI, 12, .inl u))]) (wn := fun u => [(o1, .inr (12, [.int v2, .ref o3, .int v5, .ref o6, .int v8, .ref o9, .ref o11, .int v13, .ref o14, .int v16, .ref o17, .int v19, .int v20, .int v21, .ref o22, .ref o24, .ref o26, .ref o28, .ref o30, .int v32, .ref o33, .ref o35, .ref o37, .int v39, .ref o40, .ref o42, .ref o44, .int v46, .ref o47])), (o6, .inl (cI, 12, .inl fw7)), (o33, .inl (cI, 12, .inl u))]) (fun hPc hDc => va_runV (As := [.int 8, .int a2]) (rest := []) ⟨hx, hb, hml, hown, hts⟩ (kX12_isColoured_5 l dC dI cI c2 cZ o1 o3 o6 o9 o11 o14 o17 o22 o24 o26 o28 o30 o33 o35 o37 o40 o42 o44 o47 v2 v5 fw7 v8 v13 v16 v19 v20 v21 v32 f700 v39 v46 a2 H.size j2 fw7_b v8_h v13_h v16_h v19_h v32_h f700_b v39_h v46_h (iv_w j656 (by decide))) (cwV 2 hts gX12_isColoured_X12_isColoured rfl rfl rfl (by decide +kernel) ⟨Nat.le_of_ble_eq_true rfl, Nat.le_of_ble_eq_true rfl⟩) (pre_V hPc hK hDc hN (ci := 12) (q0 := 0) rfl rfl) rfl rfl hl.1 rfl (lv_room (Nat.le_of_ble_eq_true rfl)) dX12_isColoured_89 ⟨Nat.le_of_ble_eq_true rfl, Nat.le_of_ble_eq_true rfl⟩) hP hD hS hA [0, 1, 2] [] [0, 1, 2] rfl rfl (by decide +kernel) (by decide +kernel) (by decide +kernel) (by decide +kernel) (fun _ => rfl) (fun x706 f705 H locs hq hP hD hS => ?_)
                  obtain ⟨x706_h, f705_b, e707, e708⟩ := hq
                  have hP : va_P (dC, dI) vwCl ([(o1, .inr (12, [.int v2, .ref o3, .int v5, .ref o6, .int v8, .ref o9, .ref o11, .int v13, .ref o14, .int v16, .ref o17, .int v19, .int v20, .int v21, .ref o22, .ref o24, .ref o26, .ref o28, .ref o30, .int v32, .ref o33, .ref o35, .ref o37, .int v39, .ref o40, .ref o42, .ref o44, .int v46, .ref o47])), (o6, .inl (cI, 12, .inl fw7)), (o33, .inl (cI, 12, .inl f705))]) H := hP
                  have hD : va_D A ([(o1, .inr (12, [.int v2, .ref o3, .int v5, .ref o6, .int v8, .ref o9, .ref o11, .int v13, .ref o14, .int v16, .ref o17, .int v19, .int v20, .int v21, .ref o22, .ref o24, .ref o26, .ref o28, .ref o30, .int v32, .ref o33, .ref o35, .ref o37, .int v39, .ref o40, .ref o42, .ref o44, .int v46, .ref o47])), (o6, .inl (cI, 12, .inl fw7)), (o33, .inl (cI, 12, .inl f705))]) := hD
                  refine lv_if_eq (tgt := 97) hx hb dX12_isColoured_92 (by decide) (fun h709 => ?_) (fun h709 => ?_)
                  ·
                    have j710 : Iv 0 0 x706 := r_eq h709 ik_0
                    obtain ⟨x711, x711_e⟩ : ∃ z : Int32, z = x652 + 1 := ⟨_, rfl⟩
                    have x711_h : Iv 1 12 x711 := iv_e x711_e (iv_add j655 ik_1 (by decide))
                    refine lv_iinc (v := x711) (lv' := [(3, .int x711), (5, .int x696), (4, .int x697), (0, .ref o1), (1, .int 7), (2, .int a2)]) hx hb dX12_isColoured_97 hl (k := 2) rfl (incN (by decide +kernel) x711_e) (by decide) rfl (fun ls hl => ?_)
                    refine lv_goto (tgt := 12) hx hb dX12_isColoured_100 (by decide) ?_
                    exact ih9 x711 f705 _ _ _ (ms_up x711_e j655 (by decide) hM9) (iv_w x711_h (by decide)) f705_b (co_t e707 (by decide) (co_k f700_e (by decide +kernel) iv9_0)) (fun h8 => absurd h709 (e708 h8)) hP hD hS (lv_sub hl [0, 3, 4, 5] rfl)
                  ·
                    have j712 : Iv 1 1 x706 := r_nelo h709 x706_h ik_0 (by decide)
                    refine lv_iconst (v := 1) hx hb dX12_isColoured_95 (by decide) ?_
                    rw [hQ]
                    exact W.zret (v := 1) (ty := .boolean) hx hb hr rfl (fun t ht hW => ⟨⟨1, f705, rfl, ⟨(iv_w ik_1 (by decide)), f705_b, (co_t e707 (by decide) (co_k f700_e (by decide +kernel) iv9_0)), (fun _ h8 => absurd h8 (by decide +kernel))⟩, by rw [ht]; exact hP, va_K.moved hW.alike hK, hD⟩, hS.F ht⟩) hS.2.2 dX12_isColoured_96
              ·
                have qh698 := nle_i h698
                have j713 : Iv 0 6 x696 := r_ltl qh698 x696_h ik_7 (by decide)
                refine lv_iload hx hb dX12_isColoured_29 (lv_at hl 1 rfl) ?_
                refine lv_if_eq (tgt := 63) hx hb dX12_isColoured_31 (by decide) (fun h714 => ?_) (fun h714 => ?_)
                ·
                  have j715 : Iv 0 0 x697 := r_eq h714 ik_0
                  refine lv_iconst (v := 0) hx hb dX12_isColoured_63 (by decide) ?_
                  refine lv_istore (lv' := [(4, .int 0), (5, .int x696), (3, .int x652), (0, .ref o1), (1, .int 7), (2, .int a2)]) hx hb dX12_isColoured_64 hl (by decide) rfl (fun ls hl => ?_)
                  obtain ⟨x716, x716_e⟩ : ∃ z : Int32, z = x696 + 1 := ⟨_, rfl⟩
                  have x716_h : Iv 1 7 x716 := iv_e x716_e (iv_add j713 ik_1 (by decide))
                  refine lv_iinc (v := x716) (lv' := [(5, .int x716), (4, .int 0), (3, .int x652), (0, .ref o1), (1, .int 7), (2, .int a2)]) hx hb dX12_isColoured_66 hl (k := 1) rfl (incN (by decide +kernel) x716_e) (by decide) rfl (fun ls hl => ?_)
                  refine lv_goto (tgt := 23) hx hb dX12_isColoured_69 (by decide) ?_
                  exact ih10 x716 0 _ _ _ (ms_up x716_e j713 (by decide) hM10) (iv_w x716_h (by decide)) (iv_w ik_0 (by decide)) (fun _ => co_w1 (iv10_0 h714) (iv_w (c := 0) (d := 4095) j713 (by decide)) x716_e) hP hD hS hl
                ·
                  have j717 : Iv 1 1 x697 := r_nelo h714 x697_h ik_0 (by decide)
                  refine lv_aload_n hx hb dX12_isColoured_34 rfl (lv_at hl 3 rfl) ?_
                  refine va_get (D := (dC, dI)) (ci := 12) (v := .ref o6) (C := RX12) (T := TX12) (N := 29) hx hb hts iw_X12_isColoured_X12 hown hK hP 0 rfl rfl 3 (by decide) (hts (.fieldLink RX12 13 "HolelessHouseModel" "near" "[I") hm_X12_isColoured_2) (fun _ h9 => h9) rfl dX12_isColoured_35 ?_
                  refine lv_iload_n hx hb dX12_isColoured_38 rfl (lv_at hl 4 rfl) ?_
                  refine va_iald hx hb hK hP 1 0 rfl rfl (vin_iv ik_7 (by decide)) dX12_isColoured_39 (lv_topi (fun x718 x718_e => ?_))
                  have x718_h : Iv 0 4095 x718 := iv_e x718_e (bd_at fw7_b (vin_iv ik_7 (by decide)))
                  refine lv_iload hx hb dX12_isColoured_40 (lv_at hl 0 rfl) ?_
                  refine kc_i (D := (dC, dI)) (S := Unit) (wc := []) (wr := [(o1, .inr (12, [.int v2, .ref o3, .int v5, .ref o6, .int v8, .ref o9, .ref o11, .int v13, .ref o14, .int v16, .ref o17, .int v19, .int v20, .int v21, .ref o22, .ref o24, .ref o26, .ref o28, .ref o30, .int v32, .ref o33, .ref o35, .ref o37, .int v39, .ref o40, .ref o42, .ref o44, .int v46, .ref o47])), (o6, .inl (cI, 12, .inl fw7)), (o33, .inl (cI, 12, .inl f653))]) (w1 := fun _ => []) (wn := fun _ => [(o1, .inr (12, [.int v2, .ref o3, .int v5, .ref o6, .int v8, .ref o9, .ref o11, .int v13, .ref o14, .int v16, .ref o17, .int v19, .int v20, .int v21, .ref o22, .ref o24, .ref o26, .ref o28, .ref o30, .int v32, .ref o33, .ref o35, .ref o37, .int v39, .ref o40, .ref o42, .ref o44, .int v46, .ref o47])), (o6, .inl (cI, 12, .inl fw7)), (o33, .inl (cI, 12, .inl f653))]) (fun hPc hDc => va_runS (As := [.int x718, .int x696]) (rest := []) ⟨hx, hb, hml, hown, hts⟩ (kX12_has_1 l dC dI cI c2 cZ x718 x696 H.size (iv_w j713 (by decide))) (va_cwS 2 hts gX12_isColoured_X12_has rfl rfl rfl (by decide +kernel) ⟨Nat.le_of_ble_eq_true rfl, Nat.le_of_ble_eq_true rfl⟩) (pre_S hPc hK hDc hN) rfl rfl hl.1 rfl (lv_room (Nat.le_of_ble_eq_true rfl)) dX12_isColoured_42 ⟨Nat.le_of_ble_eq_true rfl, Nat.le_of_ble_eq_true rfl⟩) hP hD hS hA [] [0, 1, 2] [0, 1, 2] rfl rfl (by decide +kernel) (by decide +kernel) (by decide +kernel) (by decide +kernel) (fun _ => rfl) (fun x719 _ H locs hq hP hD hS => ?_)
                  obtain ⟨x719_h, e720⟩ := hq
                  have hP : va_P (dC, dI) vwCl ([(o1, .inr (12, [.int v2, .ref o3, .int v5, .ref o6, .int v8, .ref o9, .ref o11, .int v13, .ref o14, .int v16, .ref o17, .int v19, .int v20, .int v21, .ref o22, .ref o24, .ref o26, .ref o28, .ref o30, .int v32, .ref o33, .ref o35, .ref o37, .int v39, .ref o40, .ref o42, .ref o44, .int v46, .ref o47])), (o6, .inl (cI, 12, .inl fw7)), (o33, .inl (cI, 12, .inl f653))]) H := hP
                  have hD : va_D A ([(o1, .inr (12, [.int v2, .ref o3, .int v5, .ref o6, .int v8, .ref o9, .ref o11, .int v13, .ref o14, .int v16, .ref o17, .int v19, .int v20, .int v21, .ref o22, .ref o24, .ref o26, .ref o28, .ref o30, .int v32, .ref o33, .ref o35, .ref o37, .int v39, .ref o40, .ref o42, .ref o44, .int v46, .ref o47])), (o6, .inl (cI, 12, .inl fw7)), (o33, .inl (cI, 12, .inl f653))]) := hD
                  refine lv_if_eq (tgt := 59) hx hb dX12_isColoured_45 (by decide) (fun h721 => ?_) (fun h721 => ?_)
                  ·
                    have j722 : Iv 0 0 x719 := r_eq h721 ik_0
                    have b723 : bt x718 (Int32.toNatClampNeg x696) = false := has_f e720 h721
                    refine lv_iconst (v := 1) hx hb dX12_isColoured_59 (by decide) ?_
                    refine lv_goto (tgt := 64) hx hb dX12_isColoured_60 (by decide) ?_
                    refine lv_istore (lv' := [(4, .int 1), (5, .int x696), (3, .int x652), (0, .ref o1), (1, .int 7), (2, .int a2)]) hx hb dX12_isColoured_64 hl (by decide) rfl (fun ls hl => ?_)
                    obtain ⟨x724, x724_e⟩ : ∃ z : Int32, z = x696 + 1 := ⟨_, rfl⟩
                    have x724_h : Iv 1 7 x724 := iv_e x724_e (iv_add j713 ik_1 (by decide))
                    refine lv_iinc (v := x724) (lv' := [(5, .int x724), (4, .int 1), (3, .int x652), (0, .ref o1), (1, .int 7), (2, .int a2)]) hx hb dX12_isColoured_66 hl (k := 1) rfl (incN (by decide +kernel) x724_e) (by decide) rfl (fun ls hl => ?_)
                    refine lv_goto (tgt := 23) hx hb dX12_isColoured_69 (by decide) ?_
                    exact ih10 x724 1 _ _ _ (ms_up x724_e j713 (by decide) hM10) (iv_w x724_h (by decide)) (iv_w ik_1 (by decide)) (fun h8 => absurd h8 (by decide +kernel)) hP hD hS hl
                  ·
                    have j725 : Iv 1 1 x719 := r_nelo h721 x719_h ik_0 (by decide)
                    have b726 : bt x718 (Int32.toNatClampNeg x696) = true := has_t e720 h721
                    refine lv_aload_n hx hb dX12_isColoured_48 rfl (lv_at hl 3 rfl) ?_
                    refine va_get (D := (dC, dI)) (ci := 12) (v := .ref o33) (C := RX12) (T := TX12) (N := 29) hx hb hts iw_X12_isColoured_X12 hown hK hP 0 rfl rfl 20 (by decide) (hts (.fieldLink RX12 48 "HolelessHouseModel" "colours" "[I") hm_X12_isColoured_3) (fun _ h9 => h9) rfl dX12_isColoured_49 ?_
                    refine lv_iload hx hb dX12_isColoured_52 (lv_at hl 0 rfl) ?_
                    refine va_iald hx hb hK hP 2 0 rfl rfl (vin_iv j713 (by decide)) dX12_isColoured_54 (lv_topi (fun x727 x727_e => ?_))
                    have x727_h : Iv 0 11 x727 := iv_e x727_e (bd_at f653_b (vin_iv j713 (by decide)))
                    refine lv_iload_n hx hb dX12_isColoured_55 rfl (lv_at hl 2 rfl) ?_
                    refine lv_icmp_eq (tgt := 63) hx hb dX12_isColoured_56 (by decide) (fun h728 => ?_) (fun h728 => ?_)
                    ·
                      refine lv_iconst (v := 0) hx hb dX12_isColoured_63 (by decide) ?_
                      refine lv_istore (lv' := [(4, .int 0), (5, .int x696), (3, .int x652), (0, .ref o1), (1, .int 7), (2, .int a2)]) hx hb dX12_isColoured_64 hl (by decide) rfl (fun ls hl => ?_)
                      obtain ⟨x729, x729_e⟩ : ∃ z : Int32, z = x696 + 1 := ⟨_, rfl⟩
                      have x729_h : Iv 1 7 x729 := iv_e x729_e (iv_add j713 ik_1 (by decide))
                      refine lv_iinc (v := x729) (lv' := [(5, .int x729), (4, .int 0), (3, .int x652), (0, .ref o1), (1, .int 7), (2, .int a2)]) hx hb dX12_isColoured_66 hl (k := 1) rfl (incN (by decide +kernel) x729_e) (by decide) rfl (fun ls hl => ?_)
                      refine lv_goto (tgt := 23) hx hb dX12_isColoured_69 (by decide) ?_
                      exact ih10 x729 0 _ _ _ (ms_up x729_e j713 (by decide) hM10) (iv_w x729_h (by decide)) (iv_w ik_0 (by decide)) (fun _ => co_w2 x727_e h728 (iv_w (c := 0) (d := 4095) j713 (by decide)) x729_e) hP hD hS hl
                    ·
                      refine lv_iconst (v := 1) hx hb dX12_isColoured_59 (by decide) ?_
                      refine lv_goto (tgt := 64) hx hb dX12_isColoured_60 (by decide) ?_
                      refine lv_istore (lv' := [(4, .int 1), (5, .int x696), (3, .int x652), (0, .ref o1), (1, .int 7), (2, .int a2)]) hx hb dX12_isColoured_64 hl (by decide) rfl (fun ls hl => ?_)
                      obtain ⟨x730, x730_e⟩ : ∃ z : Int32, z = x696 + 1 := ⟨_, rfl⟩
                      have x730_h : Iv 1 7 x730 := iv_e x730_e (iv_add j713 ik_1 (by decide))
                      refine lv_iinc (v := x730) (lv' := [(5, .int x730), (4, .int 1), (3, .int x652), (0, .ref o1), (1, .int 7), (2, .int a2)]) hx hb dX12_isColoured_66 hl (k := 1) rfl (incN (by decide +kernel) x730_e) (by decide) rfl (fun ls hl => ?_)
                      refine lv_goto (tgt := 23) hx hb dX12_isColoured_69 (by decide) ?_
                      exact ih10 x730 1 _ _ _ (ms_up x730_e j713 (by decide) hM10) (iv_w x730_h (by decide)) (iv_w ik_1 (by decide)) (fun h8 => absurd h8 (by decide +kernel)) hP hD hS hl
          exact L10 _ 0 1 _ _ _ (Nat.lt_succ_self _) (iv_w ik_0 (by decide)) (iv_w ik_1 (by decide)) co_w0 hP hD hS hl
    exact L9 _ 0 fw34 _ _ _ (Nat.lt_succ_self _) (iv_w ik_0 (by decide)) fw34_b (fun _ _ => rfl) (fun _ => CW_0) hP hD hS hl
  ·
    have j731 : Iv 7 7 v5 := r_eq h1.symm ik_7
    refine lv_iconst (v := 1) hx hb dX12_isColoured_8 (by decide) ?_
    rw [hQ]
    exact W.zret (v := 1) (ty := .boolean) hx hb hr rfl (fun t ht hW => ⟨⟨1, fw34, rfl, ⟨(iv_w ik_1 (by decide)), fw34_b, (fun _ _ => rfl), (fun _ h8 => absurd h8 (by decide +kernel))⟩, by rw [ht]; exact hP, va_K.moved hW.alike hK, hD⟩, hS.F ht⟩) hS.2.2 dX12_isColoured_9
set_option maxHeartbeats 4000000 in
set_option maxRecDepth 100000 in
theorem kX12_isColoured_7 (l : Launch) (dC : Nat → ClassId) (dI : Nat → Nat → Nat) (cI c2 cZ : ClassId) (o1 : Nat) (o3 : Nat) (o6 : Nat) (o9 : Nat) (o11 : Nat) (o14 : Nat) (o17 : Nat) (o22 : Nat) (o24 : Nat) (o26 : Nat) (o28 : Nat) (o30 : Nat) (o33 : Nat) (o35 : Nat) (o37 : Nat) (o40 : Nat) (o42 : Nat) (o44 : Nat) (o47 : Nat) (v2 : Int32) (v5 : Int32) (fw7 : Nat → Int32) (v8 : Int32) (v13 : Int32) (v16 : Int32) (v19 : Int32) (v20 : Int32) (v21 : Int32) (v32 : Int32) (fw34 : Nat → Int32) (v39 : Int32) (v46 : Int32) (a2 : Int32) (sz : Nat) (v5_h : Iv 6 12 v5) (fw7_b : Bd 12 0 4095 fw7) (v8_h : Iv 0 8 v8) (v13_h : Iv 0 12 v13) (v16_h : Iv 0 12 v16) (v19_h : Iv (-9) 12 v19) (v32_h : Iv 0 99 v32) (fw34_b : Bd 12 0 11 fw34) (v39_h : Iv 0 12 v39) (v46_h : Iv 0 12 v46) (a2_h : Iv 0 12 a2) : Met l yX12_isColoured wsX12_isColoured ({ frames := 6, cells := 0, slots := 0, locals := 150 }) (va_Pc [.ref o1, .int 6, .int a2] (wPre (dC, dI) [(cI, .int), (c2, .array .int), (cZ, .boolean)] ([(o1, .inr (12, [.int v2, .ref o3, .int v5, .ref o6, .int v8, .ref o9, .ref o11, .int v13, .ref o14, .int v16, .ref o17, .int v19, .int v20, .int v21, .ref o22, .ref o24, .ref o26, .ref o28, .ref o30, .int v32, .ref o33, .ref o35, .ref o37, .int v39, .ref o40, .ref o42, .ref o44, .int v46, .ref o47])), (o6, .inl (cI, 12, .inl fw7)), (o33, .inl (cI, 12, .inl fw34))]) sz)) (va_Qi (fun (r : Int32) (u : (Nat → Int32)) => Iv 0 1 r ∧ Bd 12 0 11 u ∧ (∀ i8, i8 < 6 → u i8 = fw34 i8) ∧ (Int32.toInt v5 ≤ Int32.toInt a2 → ¬ r = 0)) (fun u t => wPost (dC, dI) [(cI, .int), (c2, .array .int), (cZ, .boolean)] (va_A ([(o1, .inr (12, [.int v2, .ref o3, .int v5, .ref o6, .int v8, .ref o9, .ref o11, .int v13, .ref o14, .int v16, .ref o17, .int v19, .int v20, .int v21, .ref o22, .ref o24, .ref o26, .ref o28, .ref o30, .int v32, .ref o33, .ref o35, .ref o37, .int v39, .ref o40, .ref o42, .ref o44, .int v46, .ref o47])), (o6, .inl (cI, 12, .inl fw7)), (o33, .inl (cI, 12, .inl fw34))]) sz) ([(o1, .inr (12, [.int v2, .ref o3, .int v5, .ref o6, .int v8, .ref o9, .ref o11, .int v13, .ref o14, .int v16, .ref o17, .int v19, .int v20, .int v21, .ref o22, .ref o24, .ref o26, .ref o28, .ref o30, .int v32, .ref o33, .ref o35, .ref o37, .int v39, .ref o40, .ref o42, .ref o44, .int v46, .ref o47])), (o6, .inl (cI, 12, .inl fw7)), (o33, .inl (cI, 12, .inl u))]) t) (va_A ([(o1, .inr (12, [.int v2, .ref o3, .int v5, .ref o6, .int v8, .ref o9, .ref o11, .int v13, .ref o14, .int v16, .ref o17, .int v19, .int v20, .int v21, .ref o22, .ref o24, .ref o26, .ref o28, .ref o30, .int v32, .ref o33, .ref o35, .ref o37, .int v39, .ref o40, .ref o42, .ref o44, .int v46, .ref o47])), (o6, .inl (cI, 12, .inl fw7)), (o33, .inl (cI, 12, .inl fw34))]) sz)) 0 0 (va_A ([(o1, .inr (12, [.int v2, .ref o3, .int v5, .ref o6, .int v8, .ref o9, .ref o11, .int v13, .ref o14, .int v16, .ref o17, .int v19, .int v20, .int v21, .ref o22, .ref o24, .ref o26, .ref o28, .ref o30, .int v32, .ref o33, .ref o35, .ref o37, .int v39, .ref o40, .ref o42, .ref o44, .int v46, .ref o47])), (o6, .inl (cI, 12, .inl fw7)), (o33, .inl (cI, 12, .inl fw34))]) sz) := by
  refine Met.ofW (cc := cX12_isColoured) (maxL := 6) (ret := (some .boolean)) (by decide) rfl ?_
  intro p e s m args below meth c s₁ B hml hv
  obtain ⟨rfl, hsz, hP, hK, hD0, hN⟩ := hv
  have hx := B.exec
  have hb := B.bytes
  have hr := B.returns
  have hts := atoms_spec (ws := wsX12_isColoured) B.pre
  have hown : s.vm.findClass RX12 = some m.cls := findClass_of_methodNamed B.named
  have hlocks := B.notSynchronized
  subst hsz
  have hD := hD0.self (sz := s.heap.size)
  generalize hAe : va_A ([(o1, .inr (12, [.int v2, .ref o3, .int v5, .ref o6, .int v8, .ref o9, .ref o11, .int v13, .ref o14, .int v16, .ref o17, .int v19, .int v20, .int v21, .ref o22, .ref o24, .ref o26, .ref o28, .ref o30, .int v32, .ref o33, .ref o35, .ref o37, .int v39, .ref o40, .ref o42, .ref o44, .int v46, .ref o47])), (o6, .inl (cI, 12, .inl fw7)), (o33, .inl (cI, 12, .inl fw34))]) s.heap.size = A at hD ⊢
  have hA : ∀ q : Nat, s.heap.size ≤ q → A q := fun q h => by rw [← hAe]; exact Or.inr h
  have hS : va_S A s.heap s.heap [] := va_S.rf
  have hP : va_P (dC, dI) vwCl ([(o1, .inr (12, [.int v2, .ref o3, .int v5, .ref o6, .int v8, .ref o9, .ref o11, .int v13, .ref o14, .int v16, .ref o17, .int v19, .int v20, .int v21, .ref o22, .ref o24, .ref o26, .ref o28, .ref o30, .int v32, .ref o33, .ref o35, .ref o37, .int v39, .ref o40, .ref o42, .ref o44, .int v46, .ref o47])), (o6, .inl (cI, 12, .inl fw7)), (o33, .inl (cI, 12, .inl fw34))]) s.heap := hP
  have hl := lv_entry ([.ref o1, .int 6, .int a2]) (n := 6) (Nat.le_of_ble_eq_true rfl)
  rw [lg_entry_eq]
  generalize (lg_sl ([.ref o1, .int 6, .int a2]) ++ List.replicate (6 - (lg_sl ([.ref o1, .int 6, .int a2])).length) Slot.unset).toArray = ls at hl ⊢
  have hl : lv_has ls 6 [(0, .ref o1), (1, .int 6), (2, .int a2)] := hl
  refine gen_Q (fun Q hQ => ?_)
  refine lv_iload_n hx hb dX12_isColoured_0 rfl (lv_at hl 1 rfl) ?_
  refine lv_aload_n hx hb dX12_isColoured_1 rfl (lv_at hl 0 rfl) ?_
  refine va_get (D := (dC, dI)) (ci := 12) (v := .int v5) (C := RX12) (T := TX12) (N := 29) hx hb hts iw_X12_isColoured_X12 hown hK hP 0 rfl rfl 2 (by decide) (hts (.fieldLink RX12 73 "HolelessHouseModel" "n" "I") hm_X12_isColoured_1) (fun _ h9 => h9) rfl dX12_isColoured_2 ?_
  refine lv_icmp_ne (tgt := 10) hx hb dX12_isColoured_5 (by decide) (fun h1 => ?_) (fun h1 => ?_)
  ·
    have j2 : Iv 7 12 v5 := r_nelo (fun q => h1 q.symm) v5_h ik_6 (by decide)
    refine lv_iconst (v := 0) hx hb dX12_isColoured_10 (by decide) ?_
    refine lv_istore_n (lv' := [(3, .int 0), (0, .ref o1), (1, .int 6), (2, .int a2)]) hx hb dX12_isColoured_11 rfl hl (by decide) rfl (fun ls hl => ?_)
    have L9 : ∀ (N : Nat) (x652 : Int32) (f653 : Nat → Int32) (H : Heap) (locs : List Loc) (ls : Array Slot), (12 - x652.toInt).toNat < N → Iv 0 12 x652 → Bd 12 0 11 f653 → (∀ i8, i8 < 6 → f653 i8 = fw34 i8) → (Int32.toInt v5 ≤ Int32.toInt a2 → CW fw34 6 (Int32.toNatClampNeg x652)) → va_P (dC, dI) vwCl ([(o1, .inr (12, [.int v2, .ref o3, .int v5, .ref o6, .int v8, .ref o9, .ref o11, .int v13, .ref o14, .int v16, .ref o17, .int v19, .int v20, .int v21, .ref o22, .ref o24, .ref o26, .ref o28, .ref o30, .int v32, .ref o33, .ref o35, .ref o37, .int v39, .ref o40, .ref o42, .ref o44, .int v46, .ref o47])), (o6, .inl (cI, 12, .inl fw7)), (o33, .inl (cI, 12, .inl f653))]) H → va_D A ([(o1, .inr (12, [.int v2, .ref o3, .int v5, .ref o6, .int v8, .ref o9, .ref o11, .int v13, .ref o14, .int v16, .ref o17, .int v19, .int v20, .int v21, .ref o22, .ref o24, .ref o26, .ref o28, .ref o30, .int v32, .ref o33, .ref o35, .ref o37, .int v39, .ref o40, .ref o42, .ref o44, .int v46, .ref o47])), (o6, .inl (cI, 12, .inl fw7)), (o33, .inl (cI, 12, .inl f653))]) → va_S A s.heap H locs → lv_has ls 6 [(3, .int x652), (0, .ref o1), (1, .int 6), (2, .int a2)] → W p l e ({ frames := 6, cells := 0, slots := 0, locals := 150 }) s m ([.ref o1, .int 6, .int a2] : List Value).toArray below meth c H locs 0 0 Q (F0 m 12 ls []) := by
      intro N
      induction N with
      | zero =>
        intro x652 f653 H locs ls hM
        exact absurd hM (Nat.not_lt_zero _)
      | succ N ih9 =>
        intro x652 f653 H locs ls hM9 x652_h f653_b iv9_0 iv9_1 hP hD hS hl
        refine lv_iload_n hx hb dX12_isColoured_12 rfl (lv_at hl 0 rfl) ?_
        refine lv_iload_n hx hb dX12_isColoured_13 rfl (lv_at hl 3 rfl) ?_
        refine lv_icmp_ge (tgt := 103) hx hb dX12_isColoured_14 (by decide) (fun h654 => ?_) (fun h654 => ?_)
        ·
          have qh654 := le_i h654
          refine lv_iconst (v := 0) hx hb dX12_isColoured_103 (by decide) ?_
          rw [hQ]
          exact W.zret (v := 0) (ty := .boolean) hx hb hr rfl (fun t ht hW => ⟨⟨0, f653, rfl, ⟨(iv_w ik_0 (by decide)), f653_b, iv9_0, (fun h8 => (co_no (iv9_1 h8) qh654 a2_h h8 (show (6 : Int) + 1 ≤ _ from (show _ ≤ _ ∧ _ ≤ _ from j2).1)).elim)⟩, by rw [ht]; exact hP, va_K.moved hW.alike hK, hD⟩, hS.F ht⟩) hS.2.2 dX12_isColoured_104
        ·
          have qh654 := nle_i h654
          have j655 : Iv 0 11 x652 := r_ltl qh654 x652_h a2_h (by decide)
          have j656 : Iv 1 12 a2 := r_ltr qh654 x652_h a2_h (by decide)
          refine lv_iconst (v := 1) hx hb dX12_isColoured_17 (by decide) ?_
          refine lv_istore (lv' := [(4, .int 1), (3, .int x652), (0, .ref o1), (1, .int 6), (2, .int a2)]) hx hb dX12_isColoured_18 hl (by decide) rfl (fun ls hl => ?_)
          refine lv_iconst (v := 0) hx hb dX12_isColoured_20 (by decide) ?_
          refine lv_istore (lv' := [(5, .int 0), (4, .int 1), (3, .int x652), (0, .ref o1), (1, .int 6), (2, .int a2)]) hx hb dX12_isColoured_21 hl (by decide) rfl (fun ls hl => ?_)
          have L10 : ∀ (N : Nat) (x696 : Int32) (x697 : Int32) (H : Heap) (locs : List Loc) (ls : Array Slot), (6 - x696.toInt).toNat < N → Iv 0 6 x696 → Iv 0 1 x697 → (x697 = 0 → ∃ q, q < (Int32.toNatClampNeg x696) ∧ f653 q = x652) → va_P (dC, dI) vwCl ([(o1, .inr (12, [.int v2, .ref o3, .int v5, .ref o6, .int v8, .ref o9, .ref o11, .int v13, .ref o14, .int v16, .ref o17, .int v19, .int v20, .int v21, .ref o22, .ref o24, .ref o26, .ref o28, .ref o30, .int v32, .ref o33, .ref o35, .ref o37, .int v39, .ref o40, .ref o42, .ref o44, .int v46, .ref o47])), (o6, .inl (cI, 12, .inl fw7)), (o33, .inl (cI, 12, .inl f653))]) H → va_D A ([(o1, .inr (12, [.int v2, .ref o3, .int v5, .ref o6, .int v8, .ref o9, .ref o11, .int v13, .ref o14, .int v16, .ref o17, .int v19, .int v20, .int v21, .ref o22, .ref o24, .ref o26, .ref o28, .ref o30, .int v32, .ref o33, .ref o35, .ref o37, .int v39, .ref o40, .ref o42, .ref o44, .int v46, .ref o47])), (o6, .inl (cI, 12, .inl fw7)), (o33, .inl (cI, 12, .inl f653))]) → va_S A s.heap H locs → lv_has ls 6 [(5, .int x696), (4, .int x697), (3, .int x652), (0, .ref o1), (1, .int 6), (2, .int a2)] → W p l e ({ frames := 6, cells := 0, slots := 0, locals := 150 }) s m ([.ref o1, .int 6, .int a2] : List Value).toArray below meth c H locs 0 0 Q (F0 m 23 ls []) := by
            intro N
            induction N with
            | zero =>
              intro x696 x697 H locs ls hM
              exact absurd hM (Nat.not_lt_zero _)
            | succ N ih10 =>
              intro x696 x697 H locs ls hM10 x696_h x697_h iv10_0 hP hD hS hl
              refine lv_iload hx hb dX12_isColoured_23 (lv_at hl 0 rfl) ?_
              refine lv_iload_n hx hb dX12_isColoured_25 rfl (lv_at hl 4 rfl) ?_
              refine lv_icmp_ge (tgt := 72) hx hb dX12_isColoured_26 (by decide) (fun h698 => ?_) (fun h698 => ?_)
              ·
                have qh698 := le_i h698
                have j699 : Iv 6 6 x696 := r_ler qh698 ik_6 x696_h (by decide)
                refine lv_aload_n hx hb dX12_isColoured_72 rfl (lv_at hl 3 rfl) ?_
                refine va_get (D := (dC, dI)) (ci := 12) (v := .ref o33) (C := RX12) (T := TX12) (N := 29) hx hb hts iw_X12_isColoured_X12 hown hK hP 0 rfl rfl 20 (by decide) (hts (.fieldLink RX12 48 "HolelessHouseModel" "colours" "[I") hm_X12_isColoured_3) (fun _ h9 => h9) rfl dX12_isColoured_73 ?_
                refine lv_iload_n hx hb dX12_isColoured_76 rfl (lv_at hl 4 rfl) ?_
                refine lv_iload_n hx hb dX12_isColoured_77 rfl (lv_at hl 2 rfl) ?_
                refine k_iast hx hb hK hP hD hS 2 0 rfl rfl (vin_iv ik_6 (by decide)) dX12_isColoured_78 (fun f700 H locs f700_e hP hD hS => ?_)
                have f700_b : Bd 12 0 11 f700 := bd_upd f700_e f653_b j655 (by decide)
                have hP : va_P (dC, dI) vwCl ([(o1, .inr (12, [.int v2, .ref o3, .int v5, .ref o6, .int v8, .ref o9, .ref o11, .int v13, .ref o14, .int v16, .ref o17, .int v19, .int v20, .int v21, .ref o22, .ref o24, .ref o26, .ref o28, .ref o30, .int v32, .ref o33, .ref o35, .ref o37, .int v39, .ref o40, .ref o42, .ref o44, .int v46, .ref o47])), (o6, .inl (cI, 12, .inl fw7)), (o33, .inl (cI, 12, .inl f700))]) H := hP
                have hD : va_D A ([(o1, .inr (12, [.int v2, .ref o3, .int v5, .ref o6, .int v8, .ref o9, .ref o11, .int v13, .ref o14, .int v16, .ref o17, .int v19, .int v20, .int v21, .ref o22, .ref o24, .ref o26, .ref o28, .ref o30, .int v32, .ref o33, .ref o35, .ref o37, .int v39, .ref o40, .ref o42, .ref o44, .int v46, .ref o47])), (o6, .inl (cI, 12, .inl fw7)), (o33, .inl (cI, 12, .inl f700))]) := hD
                refine lv_iload hx hb dX12_isColoured_79 (lv_at hl 1 rfl) ?_
                refine lv_if_eq (tgt := 97) hx hb dX12_isColoured_81 (by decide) (fun h701 => ?_) (fun h701 => ?_)
                ·
                  have j702 : Iv 0 0 x697 := r_eq h701 ik_0
                  obtain ⟨x703, x703_e⟩ : ∃ z : Int32, z = x652 + 1 := ⟨_, rfl⟩
                  have x703_h : Iv 1 12 x703 := iv_e x703_e (iv_add j655 ik_1 (by decide))
                  refine lv_iinc (v := x703) (lv' := [(3, .int x703), (5, .int x696), (4, .int x697), (0, .ref o1), (1, .int 6), (2, .int a2)]) hx hb dX12_isColoured_97 hl (k := 2) rfl (incN (by decide +kernel) x703_e) (by decide) rfl (fun ls hl => ?_)
                  refine lv_goto (tgt := 12) hx hb dX12_isColoured_100 (by decide) ?_
                  exact ih9 x703 f700 _ _ _ (ms_up x703_e j655 (by decide) hM9) (iv_w x703_h (by decide)) f700_b (co_k f700_e (by decide +kernel) iv9_0) (fun h8 => CW_s (iv9_1 h8) (iv_w (c := 0) (d := 4095) j655 (by decide)) x703_e (co_w3 (iv10_0 h701) (Nat.le_of_eq (by rw [d_eq j699 ik_6]; decide +kernel)) iv9_0)) hP hD hS (lv_sub hl [0, 3, 4, 5] rfl)
                ·
                  have j704 : Iv 1 1 x697 := r_nelo h701 x697_h ik_0 (by decide)
                  refine lv_aload_n hx hb dX12_isColoured_84 rfl (lv_at hl 3 rfl) ?_
                  refine lv_iload_n hx hb dX12_isColoured_85 rfl (lv_at hl 4 rfl) ?_
                  refine lv_iconst (v := 1) hx hb dX12_isColoured_86 (by decide) ?_
                  refine lv_iadd hx hb dX12_isColoured_87 (tk_i (v := 7) (by decide +kernel) ?_)
                  refine lv_iload_n hx hb dX12_isColoured_88 rfl (lv_at hl 5 rfl) ?_
                  refine kc_i (D := (dC, dI)) (S := (Nat → Int32)) (wc := [(o1, .inr (12, [.int v2, .ref o3, .int v5, .ref o6, .int v8, .ref o9, .ref o11, .int v13, .ref o14, .int v16, .ref o17, .int v19, .int v20, .int v21, .ref o22, .ref o24, .ref o26, .ref o28, .ref o30, .int v32, .ref o33, .ref o35, .ref o37, .int v39, .ref o40, .ref o42, .ref o44, .int v46, .ref o47])), (o6, .inl (cI, 12, .inl fw7)), (o33, .inl (cI, 12, .inl f700))]) (wr := []) (w1 := fun u => [(o1, .inr (12, [.int v2, .ref o3, .int v5, .ref o6, .int v8, .ref o9, .ref o11, .int v13, .ref o14, .int v16, .ref o17, .int v19, .int v20, .int v21, .ref o22, .ref o24, .ref o26, .ref o28, .ref o30, .int v32, .ref o33, .ref o35, .ref o37, .int v39, .ref o40, .ref o42, .ref o44, .int v46, .ref o47])), (o6, .inl (cI, 12, .inl fw7)), (o33, .inl (cI, 12, .inl u))]) (wn := fun u => [(o1, .inr (12, [.int v2, .ref o3, .int v5, .ref o6, .int v8, .ref o9, .ref o11, .int v13, .ref o14, .int v16, .ref o17, .int v19, .int v20, .int v21, .ref o22, .ref o24, .ref o26, .ref o28, .ref o30, .int v32, .ref o33, .ref o35, .ref o37, .int v39, .ref o40, .ref o42, .ref o44, .int v46, .ref o47])), (o6, .inl (cI, 12, .inl fw7)), (o33, .inl (cI, 12, .inl u))]) (fun hPc hDc => va_runV (As := [.int 7, .int a2]) (rest := []) ⟨hx, hb, hml, hown, hts⟩ (kX12_isColoured_6 l dC dI cI c2 cZ o1 o3 o6 o9 o11 o14 o17 o22 o24 o26 o28 o30 o33 o35 o37 o40 o42 o44 o47 v2 v5 fw7 v8 v13 v16 v19 v20 v21 v32 f700 v39 v46 a2 H.size j2 fw7_b v8_h v13_h v16_h v19_h v32_h f700_b v39_h v46_h (iv_w j656 (by decide))) (cwV 2 hts gX12_isColoured_X12_isColoured rfl rfl rfl (by decide +kernel) ⟨Nat.le_of_ble_eq_true rfl, Nat.le_of_ble_eq_true rfl⟩) (pre_V hPc hK hDc hN (ci := 12) (q0 := 0) rfl rfl) rfl rfl hl.1 rfl (lv_room (Nat.le_of_ble_eq_true rfl)) dX12_isColoured_89 ⟨Nat.le_of_ble_eq_true rfl, Nat.le_of_ble_eq_true rfl⟩) hP hD hS hA [0, 1, 2] [] [0, 1, 2] rfl rfl (by decide +kernel) (by decide +kernel) (by decide +kernel) (by decide +kernel) (fun _ => rfl) (fun x706 f705 H locs hq hP hD hS => ?_)
                  obtain ⟨x706_h, f705_b, e707, e708⟩ := hq
                  have hP : va_P (dC, dI) vwCl ([(o1, .inr (12, [.int v2, .ref o3, .int v5, .ref o6, .int v8, .ref o9, .ref o11, .int v13, .ref o14, .int v16, .ref o17, .int v19, .int v20, .int v21, .ref o22, .ref o24, .ref o26, .ref o28, .ref o30, .int v32, .ref o33, .ref o35, .ref o37, .int v39, .ref o40, .ref o42, .ref o44, .int v46, .ref o47])), (o6, .inl (cI, 12, .inl fw7)), (o33, .inl (cI, 12, .inl f705))]) H := hP
                  have hD : va_D A ([(o1, .inr (12, [.int v2, .ref o3, .int v5, .ref o6, .int v8, .ref o9, .ref o11, .int v13, .ref o14, .int v16, .ref o17, .int v19, .int v20, .int v21, .ref o22, .ref o24, .ref o26, .ref o28, .ref o30, .int v32, .ref o33, .ref o35, .ref o37, .int v39, .ref o40, .ref o42, .ref o44, .int v46, .ref o47])), (o6, .inl (cI, 12, .inl fw7)), (o33, .inl (cI, 12, .inl f705))]) := hD
                  refine lv_if_eq (tgt := 97) hx hb dX12_isColoured_92 (by decide) (fun h709 => ?_) (fun h709 => ?_)
                  ·
                    have j710 : Iv 0 0 x706 := r_eq h709 ik_0
                    obtain ⟨x711, x711_e⟩ : ∃ z : Int32, z = x652 + 1 := ⟨_, rfl⟩
                    have x711_h : Iv 1 12 x711 := iv_e x711_e (iv_add j655 ik_1 (by decide))
                    refine lv_iinc (v := x711) (lv' := [(3, .int x711), (5, .int x696), (4, .int x697), (0, .ref o1), (1, .int 6), (2, .int a2)]) hx hb dX12_isColoured_97 hl (k := 2) rfl (incN (by decide +kernel) x711_e) (by decide) rfl (fun ls hl => ?_)
                    refine lv_goto (tgt := 12) hx hb dX12_isColoured_100 (by decide) ?_
                    exact ih9 x711 f705 _ _ _ (ms_up x711_e j655 (by decide) hM9) (iv_w x711_h (by decide)) f705_b (co_t e707 (by decide) (co_k f700_e (by decide +kernel) iv9_0)) (fun h8 => absurd h709 (e708 h8)) hP hD hS (lv_sub hl [0, 3, 4, 5] rfl)
                  ·
                    have j712 : Iv 1 1 x706 := r_nelo h709 x706_h ik_0 (by decide)
                    refine lv_iconst (v := 1) hx hb dX12_isColoured_95 (by decide) ?_
                    rw [hQ]
                    exact W.zret (v := 1) (ty := .boolean) hx hb hr rfl (fun t ht hW => ⟨⟨1, f705, rfl, ⟨(iv_w ik_1 (by decide)), f705_b, (co_t e707 (by decide) (co_k f700_e (by decide +kernel) iv9_0)), (fun _ h8 => absurd h8 (by decide +kernel))⟩, by rw [ht]; exact hP, va_K.moved hW.alike hK, hD⟩, hS.F ht⟩) hS.2.2 dX12_isColoured_96
              ·
                have qh698 := nle_i h698
                have j713 : Iv 0 5 x696 := r_ltl qh698 x696_h ik_6 (by decide)
                refine lv_iload hx hb dX12_isColoured_29 (lv_at hl 1 rfl) ?_
                refine lv_if_eq (tgt := 63) hx hb dX12_isColoured_31 (by decide) (fun h714 => ?_) (fun h714 => ?_)
                ·
                  have j715 : Iv 0 0 x697 := r_eq h714 ik_0
                  refine lv_iconst (v := 0) hx hb dX12_isColoured_63 (by decide) ?_
                  refine lv_istore (lv' := [(4, .int 0), (5, .int x696), (3, .int x652), (0, .ref o1), (1, .int 6), (2, .int a2)]) hx hb dX12_isColoured_64 hl (by decide) rfl (fun ls hl => ?_)
                  obtain ⟨x716, x716_e⟩ : ∃ z : Int32, z = x696 + 1 := ⟨_, rfl⟩
                  have x716_h : Iv 1 6 x716 := iv_e x716_e (iv_add j713 ik_1 (by decide))
                  refine lv_iinc (v := x716) (lv' := [(5, .int x716), (4, .int 0), (3, .int x652), (0, .ref o1), (1, .int 6), (2, .int a2)]) hx hb dX12_isColoured_66 hl (k := 1) rfl (incN (by decide +kernel) x716_e) (by decide) rfl (fun ls hl => ?_)
                  refine lv_goto (tgt := 23) hx hb dX12_isColoured_69 (by decide) ?_
                  exact ih10 x716 0 _ _ _ (ms_up x716_e j713 (by decide) hM10) (iv_w x716_h (by decide)) (iv_w ik_0 (by decide)) (fun _ => co_w1 (iv10_0 h714) (iv_w (c := 0) (d := 4095) j713 (by decide)) x716_e) hP hD hS hl
                ·
                  have j717 : Iv 1 1 x697 := r_nelo h714 x697_h ik_0 (by decide)
                  refine lv_aload_n hx hb dX12_isColoured_34 rfl (lv_at hl 3 rfl) ?_
                  refine va_get (D := (dC, dI)) (ci := 12) (v := .ref o6) (C := RX12) (T := TX12) (N := 29) hx hb hts iw_X12_isColoured_X12 hown hK hP 0 rfl rfl 3 (by decide) (hts (.fieldLink RX12 13 "HolelessHouseModel" "near" "[I") hm_X12_isColoured_2) (fun _ h9 => h9) rfl dX12_isColoured_35 ?_
                  refine lv_iload_n hx hb dX12_isColoured_38 rfl (lv_at hl 4 rfl) ?_
                  refine va_iald hx hb hK hP 1 0 rfl rfl (vin_iv ik_6 (by decide)) dX12_isColoured_39 (lv_topi (fun x718 x718_e => ?_))
                  have x718_h : Iv 0 4095 x718 := iv_e x718_e (bd_at fw7_b (vin_iv ik_6 (by decide)))
                  refine lv_iload hx hb dX12_isColoured_40 (lv_at hl 0 rfl) ?_
                  refine kc_i (D := (dC, dI)) (S := Unit) (wc := []) (wr := [(o1, .inr (12, [.int v2, .ref o3, .int v5, .ref o6, .int v8, .ref o9, .ref o11, .int v13, .ref o14, .int v16, .ref o17, .int v19, .int v20, .int v21, .ref o22, .ref o24, .ref o26, .ref o28, .ref o30, .int v32, .ref o33, .ref o35, .ref o37, .int v39, .ref o40, .ref o42, .ref o44, .int v46, .ref o47])), (o6, .inl (cI, 12, .inl fw7)), (o33, .inl (cI, 12, .inl f653))]) (w1 := fun _ => []) (wn := fun _ => [(o1, .inr (12, [.int v2, .ref o3, .int v5, .ref o6, .int v8, .ref o9, .ref o11, .int v13, .ref o14, .int v16, .ref o17, .int v19, .int v20, .int v21, .ref o22, .ref o24, .ref o26, .ref o28, .ref o30, .int v32, .ref o33, .ref o35, .ref o37, .int v39, .ref o40, .ref o42, .ref o44, .int v46, .ref o47])), (o6, .inl (cI, 12, .inl fw7)), (o33, .inl (cI, 12, .inl f653))]) (fun hPc hDc => va_runS (As := [.int x718, .int x696]) (rest := []) ⟨hx, hb, hml, hown, hts⟩ (kX12_has_1 l dC dI cI c2 cZ x718 x696 H.size (iv_w j713 (by decide))) (va_cwS 2 hts gX12_isColoured_X12_has rfl rfl rfl (by decide +kernel) ⟨Nat.le_of_ble_eq_true rfl, Nat.le_of_ble_eq_true rfl⟩) (pre_S hPc hK hDc hN) rfl rfl hl.1 rfl (lv_room (Nat.le_of_ble_eq_true rfl)) dX12_isColoured_42 ⟨Nat.le_of_ble_eq_true rfl, Nat.le_of_ble_eq_true rfl⟩) hP hD hS hA [] [0, 1, 2] [0, 1, 2] rfl rfl (by decide +kernel) (by decide +kernel) (by decide +kernel) (by decide +kernel) (fun _ => rfl) (fun x719 _ H locs hq hP hD hS => ?_)
                  obtain ⟨x719_h, e720⟩ := hq
                  have hP : va_P (dC, dI) vwCl ([(o1, .inr (12, [.int v2, .ref o3, .int v5, .ref o6, .int v8, .ref o9, .ref o11, .int v13, .ref o14, .int v16, .ref o17, .int v19, .int v20, .int v21, .ref o22, .ref o24, .ref o26, .ref o28, .ref o30, .int v32, .ref o33, .ref o35, .ref o37, .int v39, .ref o40, .ref o42, .ref o44, .int v46, .ref o47])), (o6, .inl (cI, 12, .inl fw7)), (o33, .inl (cI, 12, .inl f653))]) H := hP
                  have hD : va_D A ([(o1, .inr (12, [.int v2, .ref o3, .int v5, .ref o6, .int v8, .ref o9, .ref o11, .int v13, .ref o14, .int v16, .ref o17, .int v19, .int v20, .int v21, .ref o22, .ref o24, .ref o26, .ref o28, .ref o30, .int v32, .ref o33, .ref o35, .ref o37, .int v39, .ref o40, .ref o42, .ref o44, .int v46, .ref o47])), (o6, .inl (cI, 12, .inl fw7)), (o33, .inl (cI, 12, .inl f653))]) := hD
                  refine lv_if_eq (tgt := 59) hx hb dX12_isColoured_45 (by decide) (fun h721 => ?_) (fun h721 => ?_)
                  ·
                    have j722 : Iv 0 0 x719 := r_eq h721 ik_0
                    have b723 : bt x718 (Int32.toNatClampNeg x696) = false := has_f e720 h721
                    refine lv_iconst (v := 1) hx hb dX12_isColoured_59 (by decide) ?_
                    refine lv_goto (tgt := 64) hx hb dX12_isColoured_60 (by decide) ?_
                    refine lv_istore (lv' := [(4, .int 1), (5, .int x696), (3, .int x652), (0, .ref o1), (1, .int 6), (2, .int a2)]) hx hb dX12_isColoured_64 hl (by decide) rfl (fun ls hl => ?_)
                    obtain ⟨x724, x724_e⟩ : ∃ z : Int32, z = x696 + 1 := ⟨_, rfl⟩
                    have x724_h : Iv 1 6 x724 := iv_e x724_e (iv_add j713 ik_1 (by decide))
                    refine lv_iinc (v := x724) (lv' := [(5, .int x724), (4, .int 1), (3, .int x652), (0, .ref o1), (1, .int 6), (2, .int a2)]) hx hb dX12_isColoured_66 hl (k := 1) rfl (incN (by decide +kernel) x724_e) (by decide) rfl (fun ls hl => ?_)
                    refine lv_goto (tgt := 23) hx hb dX12_isColoured_69 (by decide) ?_
                    exact ih10 x724 1 _ _ _ (ms_up x724_e j713 (by decide) hM10) (iv_w x724_h (by decide)) (iv_w ik_1 (by decide)) (fun h8 => absurd h8 (by decide +kernel)) hP hD hS hl
                  ·
                    have j725 : Iv 1 1 x719 := r_nelo h721 x719_h ik_0 (by decide)
                    have b726 : bt x718 (Int32.toNatClampNeg x696) = true := has_t e720 h721
                    refine lv_aload_n hx hb dX12_isColoured_48 rfl (lv_at hl 3 rfl) ?_
                    refine va_get (D := (dC, dI)) (ci := 12) (v := .ref o33) (C := RX12) (T := TX12) (N := 29) hx hb hts iw_X12_isColoured_X12 hown hK hP 0 rfl rfl 20 (by decide) (hts (.fieldLink RX12 48 "HolelessHouseModel" "colours" "[I") hm_X12_isColoured_3) (fun _ h9 => h9) rfl dX12_isColoured_49 ?_
                    refine lv_iload hx hb dX12_isColoured_52 (lv_at hl 0 rfl) ?_
                    refine va_iald hx hb hK hP 2 0 rfl rfl (vin_iv j713 (by decide)) dX12_isColoured_54 (lv_topi (fun x727 x727_e => ?_))
                    have x727_h : Iv 0 11 x727 := iv_e x727_e (bd_at f653_b (vin_iv j713 (by decide)))
                    refine lv_iload_n hx hb dX12_isColoured_55 rfl (lv_at hl 2 rfl) ?_
                    refine lv_icmp_eq (tgt := 63) hx hb dX12_isColoured_56 (by decide) (fun h728 => ?_) (fun h728 => ?_)
                    ·
                      refine lv_iconst (v := 0) hx hb dX12_isColoured_63 (by decide) ?_
                      refine lv_istore (lv' := [(4, .int 0), (5, .int x696), (3, .int x652), (0, .ref o1), (1, .int 6), (2, .int a2)]) hx hb dX12_isColoured_64 hl (by decide) rfl (fun ls hl => ?_)
                      obtain ⟨x729, x729_e⟩ : ∃ z : Int32, z = x696 + 1 := ⟨_, rfl⟩
                      have x729_h : Iv 1 6 x729 := iv_e x729_e (iv_add j713 ik_1 (by decide))
                      refine lv_iinc (v := x729) (lv' := [(5, .int x729), (4, .int 0), (3, .int x652), (0, .ref o1), (1, .int 6), (2, .int a2)]) hx hb dX12_isColoured_66 hl (k := 1) rfl (incN (by decide +kernel) x729_e) (by decide) rfl (fun ls hl => ?_)
                      refine lv_goto (tgt := 23) hx hb dX12_isColoured_69 (by decide) ?_
                      exact ih10 x729 0 _ _ _ (ms_up x729_e j713 (by decide) hM10) (iv_w x729_h (by decide)) (iv_w ik_0 (by decide)) (fun _ => co_w2 x727_e h728 (iv_w (c := 0) (d := 4095) j713 (by decide)) x729_e) hP hD hS hl
                    ·
                      refine lv_iconst (v := 1) hx hb dX12_isColoured_59 (by decide) ?_
                      refine lv_goto (tgt := 64) hx hb dX12_isColoured_60 (by decide) ?_
                      refine lv_istore (lv' := [(4, .int 1), (5, .int x696), (3, .int x652), (0, .ref o1), (1, .int 6), (2, .int a2)]) hx hb dX12_isColoured_64 hl (by decide) rfl (fun ls hl => ?_)
                      obtain ⟨x730, x730_e⟩ : ∃ z : Int32, z = x696 + 1 := ⟨_, rfl⟩
                      have x730_h : Iv 1 6 x730 := iv_e x730_e (iv_add j713 ik_1 (by decide))
                      refine lv_iinc (v := x730) (lv' := [(5, .int x730), (4, .int 1), (3, .int x652), (0, .ref o1), (1, .int 6), (2, .int a2)]) hx hb dX12_isColoured_66 hl (k := 1) rfl (incN (by decide +kernel) x730_e) (by decide) rfl (fun ls hl => ?_)
                      refine lv_goto (tgt := 23) hx hb dX12_isColoured_69 (by decide) ?_
                      exact ih10 x730 1 _ _ _ (ms_up x730_e j713 (by decide) hM10) (iv_w x730_h (by decide)) (iv_w ik_1 (by decide)) (fun h8 => absurd h8 (by decide +kernel)) hP hD hS hl
          exact L10 _ 0 1 _ _ _ (Nat.lt_succ_self _) (iv_w ik_0 (by decide)) (iv_w ik_1 (by decide)) co_w0 hP hD hS hl
    exact L9 _ 0 fw34 _ _ _ (Nat.lt_succ_self _) (iv_w ik_0 (by decide)) fw34_b (fun _ _ => rfl) (fun _ => CW_0) hP hD hS hl
  ·
    have j731 : Iv 6 6 v5 := r_eq h1.symm ik_6
    refine lv_iconst (v := 1) hx hb dX12_isColoured_8 (by decide) ?_
    rw [hQ]
    exact W.zret (v := 1) (ty := .boolean) hx hb hr rfl (fun t ht hW => ⟨⟨1, fw34, rfl, ⟨(iv_w ik_1 (by decide)), fw34_b, (fun _ _ => rfl), (fun _ h8 => absurd h8 (by decide +kernel))⟩, by rw [ht]; exact hP, va_K.moved hW.alike hK, hD⟩, hS.F ht⟩) hS.2.2 dX12_isColoured_9
set_option maxHeartbeats 4000000 in
set_option maxRecDepth 100000 in
theorem kX12_isColoured_8 (l : Launch) (dC : Nat → ClassId) (dI : Nat → Nat → Nat) (cI c2 cZ : ClassId) (o1 : Nat) (o3 : Nat) (o6 : Nat) (o9 : Nat) (o11 : Nat) (o14 : Nat) (o17 : Nat) (o22 : Nat) (o24 : Nat) (o26 : Nat) (o28 : Nat) (o30 : Nat) (o33 : Nat) (o35 : Nat) (o37 : Nat) (o40 : Nat) (o42 : Nat) (o44 : Nat) (o47 : Nat) (v2 : Int32) (v5 : Int32) (fw7 : Nat → Int32) (v8 : Int32) (v13 : Int32) (v16 : Int32) (v19 : Int32) (v20 : Int32) (v21 : Int32) (v32 : Int32) (fw34 : Nat → Int32) (v39 : Int32) (v46 : Int32) (a2 : Int32) (sz : Nat) (v5_h : Iv 5 12 v5) (fw7_b : Bd 12 0 4095 fw7) (v8_h : Iv 0 8 v8) (v13_h : Iv 0 12 v13) (v16_h : Iv 0 12 v16) (v19_h : Iv (-9) 12 v19) (v32_h : Iv 0 99 v32) (fw34_b : Bd 12 0 11 fw34) (v39_h : Iv 0 12 v39) (v46_h : Iv 0 12 v46) (a2_h : Iv 0 12 a2) : Met l yX12_isColoured wsX12_isColoured ({ frames := 7, cells := 0, slots := 0, locals := 175 }) (va_Pc [.ref o1, .int 5, .int a2] (wPre (dC, dI) [(cI, .int), (c2, .array .int), (cZ, .boolean)] ([(o1, .inr (12, [.int v2, .ref o3, .int v5, .ref o6, .int v8, .ref o9, .ref o11, .int v13, .ref o14, .int v16, .ref o17, .int v19, .int v20, .int v21, .ref o22, .ref o24, .ref o26, .ref o28, .ref o30, .int v32, .ref o33, .ref o35, .ref o37, .int v39, .ref o40, .ref o42, .ref o44, .int v46, .ref o47])), (o6, .inl (cI, 12, .inl fw7)), (o33, .inl (cI, 12, .inl fw34))]) sz)) (va_Qi (fun (r : Int32) (u : (Nat → Int32)) => Iv 0 1 r ∧ Bd 12 0 11 u ∧ (∀ i8, i8 < 5 → u i8 = fw34 i8) ∧ (Int32.toInt v5 ≤ Int32.toInt a2 → ¬ r = 0)) (fun u t => wPost (dC, dI) [(cI, .int), (c2, .array .int), (cZ, .boolean)] (va_A ([(o1, .inr (12, [.int v2, .ref o3, .int v5, .ref o6, .int v8, .ref o9, .ref o11, .int v13, .ref o14, .int v16, .ref o17, .int v19, .int v20, .int v21, .ref o22, .ref o24, .ref o26, .ref o28, .ref o30, .int v32, .ref o33, .ref o35, .ref o37, .int v39, .ref o40, .ref o42, .ref o44, .int v46, .ref o47])), (o6, .inl (cI, 12, .inl fw7)), (o33, .inl (cI, 12, .inl fw34))]) sz) ([(o1, .inr (12, [.int v2, .ref o3, .int v5, .ref o6, .int v8, .ref o9, .ref o11, .int v13, .ref o14, .int v16, .ref o17, .int v19, .int v20, .int v21, .ref o22, .ref o24, .ref o26, .ref o28, .ref o30, .int v32, .ref o33, .ref o35, .ref o37, .int v39, .ref o40, .ref o42, .ref o44, .int v46, .ref o47])), (o6, .inl (cI, 12, .inl fw7)), (o33, .inl (cI, 12, .inl u))]) t) (va_A ([(o1, .inr (12, [.int v2, .ref o3, .int v5, .ref o6, .int v8, .ref o9, .ref o11, .int v13, .ref o14, .int v16, .ref o17, .int v19, .int v20, .int v21, .ref o22, .ref o24, .ref o26, .ref o28, .ref o30, .int v32, .ref o33, .ref o35, .ref o37, .int v39, .ref o40, .ref o42, .ref o44, .int v46, .ref o47])), (o6, .inl (cI, 12, .inl fw7)), (o33, .inl (cI, 12, .inl fw34))]) sz)) 0 0 (va_A ([(o1, .inr (12, [.int v2, .ref o3, .int v5, .ref o6, .int v8, .ref o9, .ref o11, .int v13, .ref o14, .int v16, .ref o17, .int v19, .int v20, .int v21, .ref o22, .ref o24, .ref o26, .ref o28, .ref o30, .int v32, .ref o33, .ref o35, .ref o37, .int v39, .ref o40, .ref o42, .ref o44, .int v46, .ref o47])), (o6, .inl (cI, 12, .inl fw7)), (o33, .inl (cI, 12, .inl fw34))]) sz) := by
  refine Met.ofW (cc := cX12_isColoured) (maxL := 6) (ret := (some .boolean)) (by decide) rfl ?_
  intro p e s m args below meth c s₁ B hml hv
  obtain ⟨rfl, hsz, hP, hK, hD0, hN⟩ := hv
  have hx := B.exec
  have hb := B.bytes
  have hr := B.returns
  have hts := atoms_spec (ws := wsX12_isColoured) B.pre
  have hown : s.vm.findClass RX12 = some m.cls := findClass_of_methodNamed B.named
  have hlocks := B.notSynchronized
  subst hsz
  have hD := hD0.self (sz := s.heap.size)
  generalize hAe : va_A ([(o1, .inr (12, [.int v2, .ref o3, .int v5, .ref o6, .int v8, .ref o9, .ref o11, .int v13, .ref o14, .int v16, .ref o17, .int v19, .int v20, .int v21, .ref o22, .ref o24, .ref o26, .ref o28, .ref o30, .int v32, .ref o33, .ref o35, .ref o37, .int v39, .ref o40, .ref o42, .ref o44, .int v46, .ref o47])), (o6, .inl (cI, 12, .inl fw7)), (o33, .inl (cI, 12, .inl fw34))]) s.heap.size = A at hD ⊢
  have hA : ∀ q : Nat, s.heap.size ≤ q → A q := fun q h => by rw [← hAe]; exact Or.inr h
  have hS : va_S A s.heap s.heap [] := va_S.rf
  have hP : va_P (dC, dI) vwCl ([(o1, .inr (12, [.int v2, .ref o3, .int v5, .ref o6, .int v8, .ref o9, .ref o11, .int v13, .ref o14, .int v16, .ref o17, .int v19, .int v20, .int v21, .ref o22, .ref o24, .ref o26, .ref o28, .ref o30, .int v32, .ref o33, .ref o35, .ref o37, .int v39, .ref o40, .ref o42, .ref o44, .int v46, .ref o47])), (o6, .inl (cI, 12, .inl fw7)), (o33, .inl (cI, 12, .inl fw34))]) s.heap := hP
  have hl := lv_entry ([.ref o1, .int 5, .int a2]) (n := 6) (Nat.le_of_ble_eq_true rfl)
  rw [lg_entry_eq]
  generalize (lg_sl ([.ref o1, .int 5, .int a2]) ++ List.replicate (6 - (lg_sl ([.ref o1, .int 5, .int a2])).length) Slot.unset).toArray = ls at hl ⊢
  have hl : lv_has ls 6 [(0, .ref o1), (1, .int 5), (2, .int a2)] := hl
  refine gen_Q (fun Q hQ => ?_)
  refine lv_iload_n hx hb dX12_isColoured_0 rfl (lv_at hl 1 rfl) ?_
  refine lv_aload_n hx hb dX12_isColoured_1 rfl (lv_at hl 0 rfl) ?_
  refine va_get (D := (dC, dI)) (ci := 12) (v := .int v5) (C := RX12) (T := TX12) (N := 29) hx hb hts iw_X12_isColoured_X12 hown hK hP 0 rfl rfl 2 (by decide) (hts (.fieldLink RX12 73 "HolelessHouseModel" "n" "I") hm_X12_isColoured_1) (fun _ h9 => h9) rfl dX12_isColoured_2 ?_
  refine lv_icmp_ne (tgt := 10) hx hb dX12_isColoured_5 (by decide) (fun h1 => ?_) (fun h1 => ?_)
  ·
    have j2 : Iv 6 12 v5 := r_nelo (fun q => h1 q.symm) v5_h ik_5 (by decide)
    refine lv_iconst (v := 0) hx hb dX12_isColoured_10 (by decide) ?_
    refine lv_istore_n (lv' := [(3, .int 0), (0, .ref o1), (1, .int 5), (2, .int a2)]) hx hb dX12_isColoured_11 rfl hl (by decide) rfl (fun ls hl => ?_)
    have L9 : ∀ (N : Nat) (x652 : Int32) (f653 : Nat → Int32) (H : Heap) (locs : List Loc) (ls : Array Slot), (12 - x652.toInt).toNat < N → Iv 0 12 x652 → Bd 12 0 11 f653 → (∀ i8, i8 < 5 → f653 i8 = fw34 i8) → (Int32.toInt v5 ≤ Int32.toInt a2 → CW fw34 5 (Int32.toNatClampNeg x652)) → va_P (dC, dI) vwCl ([(o1, .inr (12, [.int v2, .ref o3, .int v5, .ref o6, .int v8, .ref o9, .ref o11, .int v13, .ref o14, .int v16, .ref o17, .int v19, .int v20, .int v21, .ref o22, .ref o24, .ref o26, .ref o28, .ref o30, .int v32, .ref o33, .ref o35, .ref o37, .int v39, .ref o40, .ref o42, .ref o44, .int v46, .ref o47])), (o6, .inl (cI, 12, .inl fw7)), (o33, .inl (cI, 12, .inl f653))]) H → va_D A ([(o1, .inr (12, [.int v2, .ref o3, .int v5, .ref o6, .int v8, .ref o9, .ref o11, .int v13, .ref o14, .int v16, .ref o17, .int v19, .int v20, .int v21, .ref o22, .ref o24, .ref o26, .ref o28, .ref o30, .int v32, .ref o33, .ref o35, .ref o37, .int v39, .ref o40, .ref o42, .ref o44, .int v46, .ref o47])), (o6, .inl (cI, 12, .inl fw7)), (o33, .inl (cI, 12, .inl f653))]) → va_S A s.heap H locs → lv_has ls 6 [(3, .int x652), (0, .ref o1), (1, .int 5), (2, .int a2)] → W p l e ({ frames := 7, cells := 0, slots := 0, locals := 175 }) s m ([.ref o1, .int 5, .int a2] : List Value).toArray below meth c H locs 0 0 Q (F0 m 12 ls []) := by
      intro N
      induction N with
      | zero =>
        intro x652 f653 H locs ls hM
        exact absurd hM (Nat.not_lt_zero _)
      | succ N ih9 =>
        intro x652 f653 H locs ls hM9 x652_h f653_b iv9_0 iv9_1 hP hD hS hl
        refine lv_iload_n hx hb dX12_isColoured_12 rfl (lv_at hl 0 rfl) ?_
        refine lv_iload_n hx hb dX12_isColoured_13 rfl (lv_at hl 3 rfl) ?_
        refine lv_icmp_ge (tgt := 103) hx hb dX12_isColoured_14 (by decide) (fun h654 => ?_) (fun h654 => ?_)
        ·
          have qh654 := le_i h654
          refine lv_iconst (v := 0) hx hb dX12_isColoured_103 (by decide) ?_
          rw [hQ]
          exact W.zret (v := 0) (ty := .boolean) hx hb hr rfl (fun t ht hW => ⟨⟨0, f653, rfl, ⟨(iv_w ik_0 (by decide)), f653_b, iv9_0, (fun h8 => (co_no (iv9_1 h8) qh654 a2_h h8 (show (5 : Int) + 1 ≤ _ from (show _ ≤ _ ∧ _ ≤ _ from j2).1)).elim)⟩, by rw [ht]; exact hP, va_K.moved hW.alike hK, hD⟩, hS.F ht⟩) hS.2.2 dX12_isColoured_104
        ·
          have qh654 := nle_i h654
          have j655 : Iv 0 11 x652 := r_ltl qh654 x652_h a2_h (by decide)
          have j656 : Iv 1 12 a2 := r_ltr qh654 x652_h a2_h (by decide)
          refine lv_iconst (v := 1) hx hb dX12_isColoured_17 (by decide) ?_
          refine lv_istore (lv' := [(4, .int 1), (3, .int x652), (0, .ref o1), (1, .int 5), (2, .int a2)]) hx hb dX12_isColoured_18 hl (by decide) rfl (fun ls hl => ?_)
          refine lv_iconst (v := 0) hx hb dX12_isColoured_20 (by decide) ?_
          refine lv_istore (lv' := [(5, .int 0), (4, .int 1), (3, .int x652), (0, .ref o1), (1, .int 5), (2, .int a2)]) hx hb dX12_isColoured_21 hl (by decide) rfl (fun ls hl => ?_)
          have L10 : ∀ (N : Nat) (x696 : Int32) (x697 : Int32) (H : Heap) (locs : List Loc) (ls : Array Slot), (5 - x696.toInt).toNat < N → Iv 0 5 x696 → Iv 0 1 x697 → (x697 = 0 → ∃ q, q < (Int32.toNatClampNeg x696) ∧ f653 q = x652) → va_P (dC, dI) vwCl ([(o1, .inr (12, [.int v2, .ref o3, .int v5, .ref o6, .int v8, .ref o9, .ref o11, .int v13, .ref o14, .int v16, .ref o17, .int v19, .int v20, .int v21, .ref o22, .ref o24, .ref o26, .ref o28, .ref o30, .int v32, .ref o33, .ref o35, .ref o37, .int v39, .ref o40, .ref o42, .ref o44, .int v46, .ref o47])), (o6, .inl (cI, 12, .inl fw7)), (o33, .inl (cI, 12, .inl f653))]) H → va_D A ([(o1, .inr (12, [.int v2, .ref o3, .int v5, .ref o6, .int v8, .ref o9, .ref o11, .int v13, .ref o14, .int v16, .ref o17, .int v19, .int v20, .int v21, .ref o22, .ref o24, .ref o26, .ref o28, .ref o30, .int v32, .ref o33, .ref o35, .ref o37, .int v39, .ref o40, .ref o42, .ref o44, .int v46, .ref o47])), (o6, .inl (cI, 12, .inl fw7)), (o33, .inl (cI, 12, .inl f653))]) → va_S A s.heap H locs → lv_has ls 6 [(5, .int x696), (4, .int x697), (3, .int x652), (0, .ref o1), (1, .int 5), (2, .int a2)] → W p l e ({ frames := 7, cells := 0, slots := 0, locals := 175 }) s m ([.ref o1, .int 5, .int a2] : List Value).toArray below meth c H locs 0 0 Q (F0 m 23 ls []) := by
            intro N
            induction N with
            | zero =>
              intro x696 x697 H locs ls hM
              exact absurd hM (Nat.not_lt_zero _)
            | succ N ih10 =>
              intro x696 x697 H locs ls hM10 x696_h x697_h iv10_0 hP hD hS hl
              refine lv_iload hx hb dX12_isColoured_23 (lv_at hl 0 rfl) ?_
              refine lv_iload_n hx hb dX12_isColoured_25 rfl (lv_at hl 4 rfl) ?_
              refine lv_icmp_ge (tgt := 72) hx hb dX12_isColoured_26 (by decide) (fun h698 => ?_) (fun h698 => ?_)
              ·
                have qh698 := le_i h698
                have j699 : Iv 5 5 x696 := r_ler qh698 ik_5 x696_h (by decide)
                refine lv_aload_n hx hb dX12_isColoured_72 rfl (lv_at hl 3 rfl) ?_
                refine va_get (D := (dC, dI)) (ci := 12) (v := .ref o33) (C := RX12) (T := TX12) (N := 29) hx hb hts iw_X12_isColoured_X12 hown hK hP 0 rfl rfl 20 (by decide) (hts (.fieldLink RX12 48 "HolelessHouseModel" "colours" "[I") hm_X12_isColoured_3) (fun _ h9 => h9) rfl dX12_isColoured_73 ?_
                refine lv_iload_n hx hb dX12_isColoured_76 rfl (lv_at hl 4 rfl) ?_
                refine lv_iload_n hx hb dX12_isColoured_77 rfl (lv_at hl 2 rfl) ?_
                refine k_iast hx hb hK hP hD hS 2 0 rfl rfl (vin_iv ik_5 (by decide)) dX12_isColoured_78 (fun f700 H locs f700_e hP hD hS => ?_)
                have f700_b : Bd 12 0 11 f700 := bd_upd f700_e f653_b j655 (by decide)
                have hP : va_P (dC, dI) vwCl ([(o1, .inr (12, [.int v2, .ref o3, .int v5, .ref o6, .int v8, .ref o9, .ref o11, .int v13, .ref o14, .int v16, .ref o17, .int v19, .int v20, .int v21, .ref o22, .ref o24, .ref o26, .ref o28, .ref o30, .int v32, .ref o33, .ref o35, .ref o37, .int v39, .ref o40, .ref o42, .ref o44, .int v46, .ref o47])), (o6, .inl (cI, 12, .inl fw7)), (o33, .inl (cI, 12, .inl f700))]) H := hP
                have hD : va_D A ([(o1, .inr (12, [.int v2, .ref o3, .int v5, .ref o6, .int v8, .ref o9, .ref o11, .int v13, .ref o14, .int v16, .ref o17, .int v19, .int v20, .int v21, .ref o22, .ref o24, .ref o26, .ref o28, .ref o30, .int v32, .ref o33, .ref o35, .ref o37, .int v39, .ref o40, .ref o42, .ref o44, .int v46, .ref o47])), (o6, .inl (cI, 12, .inl fw7)), (o33, .inl (cI, 12, .inl f700))]) := hD
                refine lv_iload hx hb dX12_isColoured_79 (lv_at hl 1 rfl) ?_
                refine lv_if_eq (tgt := 97) hx hb dX12_isColoured_81 (by decide) (fun h701 => ?_) (fun h701 => ?_)
                ·
                  have j702 : Iv 0 0 x697 := r_eq h701 ik_0
                  obtain ⟨x703, x703_e⟩ : ∃ z : Int32, z = x652 + 1 := ⟨_, rfl⟩
                  have x703_h : Iv 1 12 x703 := iv_e x703_e (iv_add j655 ik_1 (by decide))
                  refine lv_iinc (v := x703) (lv' := [(3, .int x703), (5, .int x696), (4, .int x697), (0, .ref o1), (1, .int 5), (2, .int a2)]) hx hb dX12_isColoured_97 hl (k := 2) rfl (incN (by decide +kernel) x703_e) (by decide) rfl (fun ls hl => ?_)
                  refine lv_goto (tgt := 12) hx hb dX12_isColoured_100 (by decide) ?_
                  exact ih9 x703 f700 _ _ _ (ms_up x703_e j655 (by decide) hM9) (iv_w x703_h (by decide)) f700_b (co_k f700_e (by decide +kernel) iv9_0) (fun h8 => CW_s (iv9_1 h8) (iv_w (c := 0) (d := 4095) j655 (by decide)) x703_e (co_w3 (iv10_0 h701) (Nat.le_of_eq (by rw [d_eq j699 ik_5]; decide +kernel)) iv9_0)) hP hD hS (lv_sub hl [0, 3, 4, 5] rfl)
                ·
                  have j704 : Iv 1 1 x697 := r_nelo h701 x697_h ik_0 (by decide)
                  refine lv_aload_n hx hb dX12_isColoured_84 rfl (lv_at hl 3 rfl) ?_
                  refine lv_iload_n hx hb dX12_isColoured_85 rfl (lv_at hl 4 rfl) ?_
                  refine lv_iconst (v := 1) hx hb dX12_isColoured_86 (by decide) ?_
                  refine lv_iadd hx hb dX12_isColoured_87 (tk_i (v := 6) (by decide +kernel) ?_)
                  refine lv_iload_n hx hb dX12_isColoured_88 rfl (lv_at hl 5 rfl) ?_
                  refine kc_i (D := (dC, dI)) (S := (Nat → Int32)) (wc := [(o1, .inr (12, [.int v2, .ref o3, .int v5, .ref o6, .int v8, .ref o9, .ref o11, .int v13, .ref o14, .int v16, .ref o17, .int v19, .int v20, .int v21, .ref o22, .ref o24, .ref o26, .ref o28, .ref o30, .int v32, .ref o33, .ref o35, .ref o37, .int v39, .ref o40, .ref o42, .ref o44, .int v46, .ref o47])), (o6, .inl (cI, 12, .inl fw7)), (o33, .inl (cI, 12, .inl f700))]) (wr := []) (w1 := fun u => [(o1, .inr (12, [.int v2, .ref o3, .int v5, .ref o6, .int v8, .ref o9, .ref o11, .int v13, .ref o14, .int v16, .ref o17, .int v19, .int v20, .int v21, .ref o22, .ref o24, .ref o26, .ref o28, .ref o30, .int v32, .ref o33, .ref o35, .ref o37, .int v39, .ref o40, .ref o42, .ref o44, .int v46, .ref o47])), (o6, .inl (cI, 12, .inl fw7)), (o33, .inl (cI, 12, .inl u))]) (wn := fun u => [(o1, .inr (12, [.int v2, .ref o3, .int v5, .ref o6, .int v8, .ref o9, .ref o11, .int v13, .ref o14, .int v16, .ref o17, .int v19, .int v20, .int v21, .ref o22, .ref o24, .ref o26, .ref o28, .ref o30, .int v32, .ref o33, .ref o35, .ref o37, .int v39, .ref o40, .ref o42, .ref o44, .int v46, .ref o47])), (o6, .inl (cI, 12, .inl fw7)), (o33, .inl (cI, 12, .inl u))]) (fun hPc hDc => va_runV (As := [.int 6, .int a2]) (rest := []) ⟨hx, hb, hml, hown, hts⟩ (kX12_isColoured_7 l dC dI cI c2 cZ o1 o3 o6 o9 o11 o14 o17 o22 o24 o26 o28 o30 o33 o35 o37 o40 o42 o44 o47 v2 v5 fw7 v8 v13 v16 v19 v20 v21 v32 f700 v39 v46 a2 H.size j2 fw7_b v8_h v13_h v16_h v19_h v32_h f700_b v39_h v46_h (iv_w j656 (by decide))) (cwV 2 hts gX12_isColoured_X12_isColoured rfl rfl rfl (by decide +kernel) ⟨Nat.le_of_ble_eq_true rfl, Nat.le_of_ble_eq_true rfl⟩) (pre_V hPc hK hDc hN (ci := 12) (q0 := 0) rfl rfl) rfl rfl hl.1 rfl (lv_room (Nat.le_of_ble_eq_true rfl)) dX12_isColoured_89 ⟨Nat.le_of_ble_eq_true rfl, Nat.le_of_ble_eq_true rfl⟩) hP hD hS hA [0, 1, 2] [] [0, 1, 2] rfl rfl (by decide +kernel) (by decide +kernel) (by decide +kernel) (by decide +kernel) (fun _ => rfl) (fun x706 f705 H locs hq hP hD hS => ?_)
                  obtain ⟨x706_h, f705_b, e707, e708⟩ := hq
                  have hP : va_P (dC, dI) vwCl ([(o1, .inr (12, [.int v2, .ref o3, .int v5, .ref o6, .int v8, .ref o9, .ref o11, .int v13, .ref o14, .int v16, .ref o17, .int v19, .int v20, .int v21, .ref o22, .ref o24, .ref o26, .ref o28, .ref o30, .int v32, .ref o33, .ref o35, .ref o37, .int v39, .ref o40, .ref o42, .ref o44, .int v46, .ref o47])), (o6, .inl (cI, 12, .inl fw7)), (o33, .inl (cI, 12, .inl f705))]) H := hP
                  have hD : va_D A ([(o1, .inr (12, [.int v2, .ref o3, .int v5, .ref o6, .int v8, .ref o9, .ref o11, .int v13, .ref o14, .int v16, .ref o17, .int v19, .int v20, .int v21, .ref o22, .ref o24, .ref o26, .ref o28, .ref o30, .int v32, .ref o33, .ref o35, .ref o37, .int v39, .ref o40, .ref o42, .ref o44, .int v46, .ref o47])), (o6, .inl (cI, 12, .inl fw7)), (o33, .inl (cI, 12, .inl f705))]) := hD
                  refine lv_if_eq (tgt := 97) hx hb dX12_isColoured_92 (by decide) (fun h709 => ?_) (fun h709 => ?_)
                  ·
                    have j710 : Iv 0 0 x706 := r_eq h709 ik_0
                    obtain ⟨x711, x711_e⟩ : ∃ z : Int32, z = x652 + 1 := ⟨_, rfl⟩
                    have x711_h : Iv 1 12 x711 := iv_e x711_e (iv_add j655 ik_1 (by decide))
                    refine lv_iinc (v := x711) (lv' := [(3, .int x711), (5, .int x696), (4, .int x697), (0, .ref o1), (1, .int 5), (2, .int a2)]) hx hb dX12_isColoured_97 hl (k := 2) rfl (incN (by decide +kernel) x711_e) (by decide) rfl (fun ls hl => ?_)
                    refine lv_goto (tgt := 12) hx hb dX12_isColoured_100 (by decide) ?_
                    exact ih9 x711 f705 _ _ _ (ms_up x711_e j655 (by decide) hM9) (iv_w x711_h (by decide)) f705_b (co_t e707 (by decide) (co_k f700_e (by decide +kernel) iv9_0)) (fun h8 => absurd h709 (e708 h8)) hP hD hS (lv_sub hl [0, 3, 4, 5] rfl)
                  ·
                    have j712 : Iv 1 1 x706 := r_nelo h709 x706_h ik_0 (by decide)
                    refine lv_iconst (v := 1) hx hb dX12_isColoured_95 (by decide) ?_
                    rw [hQ]
                    exact W.zret (v := 1) (ty := .boolean) hx hb hr rfl (fun t ht hW => ⟨⟨1, f705, rfl, ⟨(iv_w ik_1 (by decide)), f705_b, (co_t e707 (by decide) (co_k f700_e (by decide +kernel) iv9_0)), (fun _ h8 => absurd h8 (by decide +kernel))⟩, by rw [ht]; exact hP, va_K.moved hW.alike hK, hD⟩, hS.F ht⟩) hS.2.2 dX12_isColoured_96
              ·
                have qh698 := nle_i h698
                have j713 : Iv 0 4 x696 := r_ltl qh698 x696_h ik_5 (by decide)
                refine lv_iload hx hb dX12_isColoured_29 (lv_at hl 1 rfl) ?_
                refine lv_if_eq (tgt := 63) hx hb dX12_isColoured_31 (by decide) (fun h714 => ?_) (fun h714 => ?_)
                ·
                  have j715 : Iv 0 0 x697 := r_eq h714 ik_0
                  refine lv_iconst (v := 0) hx hb dX12_isColoured_63 (by decide) ?_
                  refine lv_istore (lv' := [(4, .int 0), (5, .int x696), (3, .int x652), (0, .ref o1), (1, .int 5), (2, .int a2)]) hx hb dX12_isColoured_64 hl (by decide) rfl (fun ls hl => ?_)
                  obtain ⟨x716, x716_e⟩ : ∃ z : Int32, z = x696 + 1 := ⟨_, rfl⟩
                  have x716_h : Iv 1 5 x716 := iv_e x716_e (iv_add j713 ik_1 (by decide))
                  refine lv_iinc (v := x716) (lv' := [(5, .int x716), (4, .int 0), (3, .int x652), (0, .ref o1), (1, .int 5), (2, .int a2)]) hx hb dX12_isColoured_66 hl (k := 1) rfl (incN (by decide +kernel) x716_e) (by decide) rfl (fun ls hl => ?_)
                  refine lv_goto (tgt := 23) hx hb dX12_isColoured_69 (by decide) ?_
                  exact ih10 x716 0 _ _ _ (ms_up x716_e j713 (by decide) hM10) (iv_w x716_h (by decide)) (iv_w ik_0 (by decide)) (fun _ => co_w1 (iv10_0 h714) (iv_w (c := 0) (d := 4095) j713 (by decide)) x716_e) hP hD hS hl
                ·
                  have j717 : Iv 1 1 x697 := r_nelo h714 x697_h ik_0 (by decide)
                  refine lv_aload_n hx hb dX12_isColoured_34 rfl (lv_at hl 3 rfl) ?_
                  refine va_get (D := (dC, dI)) (ci := 12) (v := .ref o6) (C := RX12) (T := TX12) (N := 29) hx hb hts iw_X12_isColoured_X12 hown hK hP 0 rfl rfl 3 (by decide) (hts (.fieldLink RX12 13 "HolelessHouseModel" "near" "[I") hm_X12_isColoured_2) (fun _ h9 => h9) rfl dX12_isColoured_35 ?_
                  refine lv_iload_n hx hb dX12_isColoured_38 rfl (lv_at hl 4 rfl) ?_
                  refine va_iald hx hb hK hP 1 0 rfl rfl (vin_iv ik_5 (by decide)) dX12_isColoured_39 (lv_topi (fun x718 x718_e => ?_))
                  have x718_h : Iv 0 4095 x718 := iv_e x718_e (bd_at fw7_b (vin_iv ik_5 (by decide)))
                  refine lv_iload hx hb dX12_isColoured_40 (lv_at hl 0 rfl) ?_
                  refine kc_i (D := (dC, dI)) (S := Unit) (wc := []) (wr := [(o1, .inr (12, [.int v2, .ref o3, .int v5, .ref o6, .int v8, .ref o9, .ref o11, .int v13, .ref o14, .int v16, .ref o17, .int v19, .int v20, .int v21, .ref o22, .ref o24, .ref o26, .ref o28, .ref o30, .int v32, .ref o33, .ref o35, .ref o37, .int v39, .ref o40, .ref o42, .ref o44, .int v46, .ref o47])), (o6, .inl (cI, 12, .inl fw7)), (o33, .inl (cI, 12, .inl f653))]) (w1 := fun _ => []) (wn := fun _ => [(o1, .inr (12, [.int v2, .ref o3, .int v5, .ref o6, .int v8, .ref o9, .ref o11, .int v13, .ref o14, .int v16, .ref o17, .int v19, .int v20, .int v21, .ref o22, .ref o24, .ref o26, .ref o28, .ref o30, .int v32, .ref o33, .ref o35, .ref o37, .int v39, .ref o40, .ref o42, .ref o44, .int v46, .ref o47])), (o6, .inl (cI, 12, .inl fw7)), (o33, .inl (cI, 12, .inl f653))]) (fun hPc hDc => va_runS (As := [.int x718, .int x696]) (rest := []) ⟨hx, hb, hml, hown, hts⟩ (kX12_has_1 l dC dI cI c2 cZ x718 x696 H.size (iv_w j713 (by decide))) (va_cwS 2 hts gX12_isColoured_X12_has rfl rfl rfl (by decide +kernel) ⟨Nat.le_of_ble_eq_true rfl, Nat.le_of_ble_eq_true rfl⟩) (pre_S hPc hK hDc hN) rfl rfl hl.1 rfl (lv_room (Nat.le_of_ble_eq_true rfl)) dX12_isColoured_42 ⟨Nat.le_of_ble_eq_true rfl, Nat.le_of_ble_eq_true rfl⟩) hP hD hS hA [] [0, 1, 2] [0, 1, 2] rfl rfl (by decide +kernel) (by decide +kernel) (by decide +kernel) (by decide +kernel) (fun _ => rfl) (fun x719 _ H locs hq hP hD hS => ?_)
                  obtain ⟨x719_h, e720⟩ := hq
                  have hP : va_P (dC, dI) vwCl ([(o1, .inr (12, [.int v2, .ref o3, .int v5, .ref o6, .int v8, .ref o9, .ref o11, .int v13, .ref o14, .int v16, .ref o17, .int v19, .int v20, .int v21, .ref o22, .ref o24, .ref o26, .ref o28, .ref o30, .int v32, .ref o33, .ref o35, .ref o37, .int v39, .ref o40, .ref o42, .ref o44, .int v46, .ref o47])), (o6, .inl (cI, 12, .inl fw7)), (o33, .inl (cI, 12, .inl f653))]) H := hP
                  have hD : va_D A ([(o1, .inr (12, [.int v2, .ref o3, .int v5, .ref o6, .int v8, .ref o9, .ref o11, .int v13, .ref o14, .int v16, .ref o17, .int v19, .int v20, .int v21, .ref o22, .ref o24, .ref o26, .ref o28, .ref o30, .int v32, .ref o33, .ref o35, .ref o37, .int v39, .ref o40, .ref o42, .ref o44, .int v46, .ref o47])), (o6, .inl (cI, 12, .inl fw7)), (o33, .inl (cI, 12, .inl f653))]) := hD
                  refine lv_if_eq (tgt := 59) hx hb dX12_isColoured_45 (by decide) (fun h721 => ?_) (fun h721 => ?_)
                  ·
                    have j722 : Iv 0 0 x719 := r_eq h721 ik_0
                    have b723 : bt x718 (Int32.toNatClampNeg x696) = false := has_f e720 h721
                    refine lv_iconst (v := 1) hx hb dX12_isColoured_59 (by decide) ?_
                    refine lv_goto (tgt := 64) hx hb dX12_isColoured_60 (by decide) ?_
                    refine lv_istore (lv' := [(4, .int 1), (5, .int x696), (3, .int x652), (0, .ref o1), (1, .int 5), (2, .int a2)]) hx hb dX12_isColoured_64 hl (by decide) rfl (fun ls hl => ?_)
                    obtain ⟨x724, x724_e⟩ : ∃ z : Int32, z = x696 + 1 := ⟨_, rfl⟩
                    have x724_h : Iv 1 5 x724 := iv_e x724_e (iv_add j713 ik_1 (by decide))
                    refine lv_iinc (v := x724) (lv' := [(5, .int x724), (4, .int 1), (3, .int x652), (0, .ref o1), (1, .int 5), (2, .int a2)]) hx hb dX12_isColoured_66 hl (k := 1) rfl (incN (by decide +kernel) x724_e) (by decide) rfl (fun ls hl => ?_)
                    refine lv_goto (tgt := 23) hx hb dX12_isColoured_69 (by decide) ?_
                    exact ih10 x724 1 _ _ _ (ms_up x724_e j713 (by decide) hM10) (iv_w x724_h (by decide)) (iv_w ik_1 (by decide)) (fun h8 => absurd h8 (by decide +kernel)) hP hD hS hl
                  ·
                    have j725 : Iv 1 1 x719 := r_nelo h721 x719_h ik_0 (by decide)
                    have b726 : bt x718 (Int32.toNatClampNeg x696) = true := has_t e720 h721
                    refine lv_aload_n hx hb dX12_isColoured_48 rfl (lv_at hl 3 rfl) ?_
                    refine va_get (D := (dC, dI)) (ci := 12) (v := .ref o33) (C := RX12) (T := TX12) (N := 29) hx hb hts iw_X12_isColoured_X12 hown hK hP 0 rfl rfl 20 (by decide) (hts (.fieldLink RX12 48 "HolelessHouseModel" "colours" "[I") hm_X12_isColoured_3) (fun _ h9 => h9) rfl dX12_isColoured_49 ?_
                    refine lv_iload hx hb dX12_isColoured_52 (lv_at hl 0 rfl) ?_
                    refine va_iald hx hb hK hP 2 0 rfl rfl (vin_iv j713 (by decide)) dX12_isColoured_54 (lv_topi (fun x727 x727_e => ?_))
                    have x727_h : Iv 0 11 x727 := iv_e x727_e (bd_at f653_b (vin_iv j713 (by decide)))
                    refine lv_iload_n hx hb dX12_isColoured_55 rfl (lv_at hl 2 rfl) ?_
                    refine lv_icmp_eq (tgt := 63) hx hb dX12_isColoured_56 (by decide) (fun h728 => ?_) (fun h728 => ?_)
                    ·
                      refine lv_iconst (v := 0) hx hb dX12_isColoured_63 (by decide) ?_
                      refine lv_istore (lv' := [(4, .int 0), (5, .int x696), (3, .int x652), (0, .ref o1), (1, .int 5), (2, .int a2)]) hx hb dX12_isColoured_64 hl (by decide) rfl (fun ls hl => ?_)
                      obtain ⟨x729, x729_e⟩ : ∃ z : Int32, z = x696 + 1 := ⟨_, rfl⟩
                      have x729_h : Iv 1 5 x729 := iv_e x729_e (iv_add j713 ik_1 (by decide))
                      refine lv_iinc (v := x729) (lv' := [(5, .int x729), (4, .int 0), (3, .int x652), (0, .ref o1), (1, .int 5), (2, .int a2)]) hx hb dX12_isColoured_66 hl (k := 1) rfl (incN (by decide +kernel) x729_e) (by decide) rfl (fun ls hl => ?_)
                      refine lv_goto (tgt := 23) hx hb dX12_isColoured_69 (by decide) ?_
                      exact ih10 x729 0 _ _ _ (ms_up x729_e j713 (by decide) hM10) (iv_w x729_h (by decide)) (iv_w ik_0 (by decide)) (fun _ => co_w2 x727_e h728 (iv_w (c := 0) (d := 4095) j713 (by decide)) x729_e) hP hD hS hl
                    ·
                      refine lv_iconst (v := 1) hx hb dX12_isColoured_59 (by decide) ?_
                      refine lv_goto (tgt := 64) hx hb dX12_isColoured_60 (by decide) ?_
                      refine lv_istore (lv' := [(4, .int 1), (5, .int x696), (3, .int x652), (0, .ref o1), (1, .int 5), (2, .int a2)]) hx hb dX12_isColoured_64 hl (by decide) rfl (fun ls hl => ?_)
                      obtain ⟨x730, x730_e⟩ : ∃ z : Int32, z = x696 + 1 := ⟨_, rfl⟩
                      have x730_h : Iv 1 5 x730 := iv_e x730_e (iv_add j713 ik_1 (by decide))
                      refine lv_iinc (v := x730) (lv' := [(5, .int x730), (4, .int 1), (3, .int x652), (0, .ref o1), (1, .int 5), (2, .int a2)]) hx hb dX12_isColoured_66 hl (k := 1) rfl (incN (by decide +kernel) x730_e) (by decide) rfl (fun ls hl => ?_)
                      refine lv_goto (tgt := 23) hx hb dX12_isColoured_69 (by decide) ?_
                      exact ih10 x730 1 _ _ _ (ms_up x730_e j713 (by decide) hM10) (iv_w x730_h (by decide)) (iv_w ik_1 (by decide)) (fun h8 => absurd h8 (by decide +kernel)) hP hD hS hl
          exact L10 _ 0 1 _ _ _ (Nat.lt_succ_self _) (iv_w ik_0 (by decide)) (iv_w ik_1 (by decide)) co_w0 hP hD hS hl
    exact L9 _ 0 fw34 _ _ _ (Nat.lt_succ_self _) (iv_w ik_0 (by decide)) fw34_b (fun _ _ => rfl) (fun _ => CW_0) hP hD hS hl
  ·
    have j731 : Iv 5 5 v5 := r_eq h1.symm ik_5
    refine lv_iconst (v := 1) hx hb dX12_isColoured_8 (by decide) ?_
    rw [hQ]
    exact W.zret (v := 1) (ty := .boolean) hx hb hr rfl (fun t ht hW => ⟨⟨1, fw34, rfl, ⟨(iv_w ik_1 (by decide)), fw34_b, (fun _ _ => rfl), (fun _ h8 => absurd h8 (by decide +kernel))⟩, by rw [ht]; exact hP, va_K.moved hW.alike hK, hD⟩, hS.F ht⟩) hS.2.2 dX12_isColoured_9
set_option maxHeartbeats 4000000 in
set_option maxRecDepth 100000 in
theorem kX12_isColoured_9 (l : Launch) (dC : Nat → ClassId) (dI : Nat → Nat → Nat) (cI c2 cZ : ClassId) (o1 : Nat) (o3 : Nat) (o6 : Nat) (o9 : Nat) (o11 : Nat) (o14 : Nat) (o17 : Nat) (o22 : Nat) (o24 : Nat) (o26 : Nat) (o28 : Nat) (o30 : Nat) (o33 : Nat) (o35 : Nat) (o37 : Nat) (o40 : Nat) (o42 : Nat) (o44 : Nat) (o47 : Nat) (v2 : Int32) (v5 : Int32) (fw7 : Nat → Int32) (v8 : Int32) (v13 : Int32) (v16 : Int32) (v19 : Int32) (v20 : Int32) (v21 : Int32) (v32 : Int32) (fw34 : Nat → Int32) (v39 : Int32) (v46 : Int32) (a2 : Int32) (sz : Nat) (v5_h : Iv 4 12 v5) (fw7_b : Bd 12 0 4095 fw7) (v8_h : Iv 0 8 v8) (v13_h : Iv 0 12 v13) (v16_h : Iv 0 12 v16) (v19_h : Iv (-9) 12 v19) (v32_h : Iv 0 99 v32) (fw34_b : Bd 12 0 11 fw34) (v39_h : Iv 0 12 v39) (v46_h : Iv 0 12 v46) (a2_h : Iv 0 12 a2) : Met l yX12_isColoured wsX12_isColoured ({ frames := 8, cells := 0, slots := 0, locals := 200 }) (va_Pc [.ref o1, .int 4, .int a2] (wPre (dC, dI) [(cI, .int), (c2, .array .int), (cZ, .boolean)] ([(o1, .inr (12, [.int v2, .ref o3, .int v5, .ref o6, .int v8, .ref o9, .ref o11, .int v13, .ref o14, .int v16, .ref o17, .int v19, .int v20, .int v21, .ref o22, .ref o24, .ref o26, .ref o28, .ref o30, .int v32, .ref o33, .ref o35, .ref o37, .int v39, .ref o40, .ref o42, .ref o44, .int v46, .ref o47])), (o6, .inl (cI, 12, .inl fw7)), (o33, .inl (cI, 12, .inl fw34))]) sz)) (va_Qi (fun (r : Int32) (u : (Nat → Int32)) => Iv 0 1 r ∧ Bd 12 0 11 u ∧ (∀ i8, i8 < 4 → u i8 = fw34 i8) ∧ (Int32.toInt v5 ≤ Int32.toInt a2 → ¬ r = 0)) (fun u t => wPost (dC, dI) [(cI, .int), (c2, .array .int), (cZ, .boolean)] (va_A ([(o1, .inr (12, [.int v2, .ref o3, .int v5, .ref o6, .int v8, .ref o9, .ref o11, .int v13, .ref o14, .int v16, .ref o17, .int v19, .int v20, .int v21, .ref o22, .ref o24, .ref o26, .ref o28, .ref o30, .int v32, .ref o33, .ref o35, .ref o37, .int v39, .ref o40, .ref o42, .ref o44, .int v46, .ref o47])), (o6, .inl (cI, 12, .inl fw7)), (o33, .inl (cI, 12, .inl fw34))]) sz) ([(o1, .inr (12, [.int v2, .ref o3, .int v5, .ref o6, .int v8, .ref o9, .ref o11, .int v13, .ref o14, .int v16, .ref o17, .int v19, .int v20, .int v21, .ref o22, .ref o24, .ref o26, .ref o28, .ref o30, .int v32, .ref o33, .ref o35, .ref o37, .int v39, .ref o40, .ref o42, .ref o44, .int v46, .ref o47])), (o6, .inl (cI, 12, .inl fw7)), (o33, .inl (cI, 12, .inl u))]) t) (va_A ([(o1, .inr (12, [.int v2, .ref o3, .int v5, .ref o6, .int v8, .ref o9, .ref o11, .int v13, .ref o14, .int v16, .ref o17, .int v19, .int v20, .int v21, .ref o22, .ref o24, .ref o26, .ref o28, .ref o30, .int v32, .ref o33, .ref o35, .ref o37, .int v39, .ref o40, .ref o42, .ref o44, .int v46, .ref o47])), (o6, .inl (cI, 12, .inl fw7)), (o33, .inl (cI, 12, .inl fw34))]) sz)) 0 0 (va_A ([(o1, .inr (12, [.int v2, .ref o3, .int v5, .ref o6, .int v8, .ref o9, .ref o11, .int v13, .ref o14, .int v16, .ref o17, .int v19, .int v20, .int v21, .ref o22, .ref o24, .ref o26, .ref o28, .ref o30, .int v32, .ref o33, .ref o35, .ref o37, .int v39, .ref o40, .ref o42, .ref o44, .int v46, .ref o47])), (o6, .inl (cI, 12, .inl fw7)), (o33, .inl (cI, 12, .inl fw34))]) sz) := by
  refine Met.ofW (cc := cX12_isColoured) (maxL := 6) (ret := (some .boolean)) (by decide) rfl ?_
  intro p e s m args below meth c s₁ B hml hv
  obtain ⟨rfl, hsz, hP, hK, hD0, hN⟩ := hv
  have hx := B.exec
  have hb := B.bytes
  have hr := B.returns
  have hts := atoms_spec (ws := wsX12_isColoured) B.pre
  have hown : s.vm.findClass RX12 = some m.cls := findClass_of_methodNamed B.named
  have hlocks := B.notSynchronized
  subst hsz
  have hD := hD0.self (sz := s.heap.size)
  generalize hAe : va_A ([(o1, .inr (12, [.int v2, .ref o3, .int v5, .ref o6, .int v8, .ref o9, .ref o11, .int v13, .ref o14, .int v16, .ref o17, .int v19, .int v20, .int v21, .ref o22, .ref o24, .ref o26, .ref o28, .ref o30, .int v32, .ref o33, .ref o35, .ref o37, .int v39, .ref o40, .ref o42, .ref o44, .int v46, .ref o47])), (o6, .inl (cI, 12, .inl fw7)), (o33, .inl (cI, 12, .inl fw34))]) s.heap.size = A at hD ⊢
  have hA : ∀ q : Nat, s.heap.size ≤ q → A q := fun q h => by rw [← hAe]; exact Or.inr h
  have hS : va_S A s.heap s.heap [] := va_S.rf
  have hP : va_P (dC, dI) vwCl ([(o1, .inr (12, [.int v2, .ref o3, .int v5, .ref o6, .int v8, .ref o9, .ref o11, .int v13, .ref o14, .int v16, .ref o17, .int v19, .int v20, .int v21, .ref o22, .ref o24, .ref o26, .ref o28, .ref o30, .int v32, .ref o33, .ref o35, .ref o37, .int v39, .ref o40, .ref o42, .ref o44, .int v46, .ref o47])), (o6, .inl (cI, 12, .inl fw7)), (o33, .inl (cI, 12, .inl fw34))]) s.heap := hP
  have hl := lv_entry ([.ref o1, .int 4, .int a2]) (n := 6) (Nat.le_of_ble_eq_true rfl)
  rw [lg_entry_eq]
  generalize (lg_sl ([.ref o1, .int 4, .int a2]) ++ List.replicate (6 - (lg_sl ([.ref o1, .int 4, .int a2])).length) Slot.unset).toArray = ls at hl ⊢
  have hl : lv_has ls 6 [(0, .ref o1), (1, .int 4), (2, .int a2)] := hl
  refine gen_Q (fun Q hQ => ?_)
  refine lv_iload_n hx hb dX12_isColoured_0 rfl (lv_at hl 1 rfl) ?_
  refine lv_aload_n hx hb dX12_isColoured_1 rfl (lv_at hl 0 rfl) ?_
  refine va_get (D := (dC, dI)) (ci := 12) (v := .int v5) (C := RX12) (T := TX12) (N := 29) hx hb hts iw_X12_isColoured_X12 hown hK hP 0 rfl rfl 2 (by decide) (hts (.fieldLink RX12 73 "HolelessHouseModel" "n" "I") hm_X12_isColoured_1) (fun _ h9 => h9) rfl dX12_isColoured_2 ?_
  refine lv_icmp_ne (tgt := 10) hx hb dX12_isColoured_5 (by decide) (fun h1 => ?_) (fun h1 => ?_)
  ·
    have j2 : Iv 5 12 v5 := r_nelo (fun q => h1 q.symm) v5_h ik_4 (by decide)
    refine lv_iconst (v := 0) hx hb dX12_isColoured_10 (by decide) ?_
    refine lv_istore_n (lv' := [(3, .int 0), (0, .ref o1), (1, .int 4), (2, .int a2)]) hx hb dX12_isColoured_11 rfl hl (by decide) rfl (fun ls hl => ?_)
    have L9 : ∀ (N : Nat) (x652 : Int32) (f653 : Nat → Int32) (H : Heap) (locs : List Loc) (ls : Array Slot), (12 - x652.toInt).toNat < N → Iv 0 12 x652 → Bd 12 0 11 f653 → (∀ i8, i8 < 4 → f653 i8 = fw34 i8) → (Int32.toInt v5 ≤ Int32.toInt a2 → CW fw34 4 (Int32.toNatClampNeg x652)) → va_P (dC, dI) vwCl ([(o1, .inr (12, [.int v2, .ref o3, .int v5, .ref o6, .int v8, .ref o9, .ref o11, .int v13, .ref o14, .int v16, .ref o17, .int v19, .int v20, .int v21, .ref o22, .ref o24, .ref o26, .ref o28, .ref o30, .int v32, .ref o33, .ref o35, .ref o37, .int v39, .ref o40, .ref o42, .ref o44, .int v46, .ref o47])), (o6, .inl (cI, 12, .inl fw7)), (o33, .inl (cI, 12, .inl f653))]) H → va_D A ([(o1, .inr (12, [.int v2, .ref o3, .int v5, .ref o6, .int v8, .ref o9, .ref o11, .int v13, .ref o14, .int v16, .ref o17, .int v19, .int v20, .int v21, .ref o22, .ref o24, .ref o26, .ref o28, .ref o30, .int v32, .ref o33, .ref o35, .ref o37, .int v39, .ref o40, .ref o42, .ref o44, .int v46, .ref o47])), (o6, .inl (cI, 12, .inl fw7)), (o33, .inl (cI, 12, .inl f653))]) → va_S A s.heap H locs → lv_has ls 6 [(3, .int x652), (0, .ref o1), (1, .int 4), (2, .int a2)] → W p l e ({ frames := 8, cells := 0, slots := 0, locals := 200 }) s m ([.ref o1, .int 4, .int a2] : List Value).toArray below meth c H locs 0 0 Q (F0 m 12 ls []) := by
      intro N
      induction N with
      | zero =>
        intro x652 f653 H locs ls hM
        exact absurd hM (Nat.not_lt_zero _)
      | succ N ih9 =>
        intro x652 f653 H locs ls hM9 x652_h f653_b iv9_0 iv9_1 hP hD hS hl
        refine lv_iload_n hx hb dX12_isColoured_12 rfl (lv_at hl 0 rfl) ?_
        refine lv_iload_n hx hb dX12_isColoured_13 rfl (lv_at hl 3 rfl) ?_
        refine lv_icmp_ge (tgt := 103) hx hb dX12_isColoured_14 (by decide) (fun h654 => ?_) (fun h654 => ?_)
        ·
          have qh654 := le_i h654
          refine lv_iconst (v := 0) hx hb dX12_isColoured_103 (by decide) ?_
          rw [hQ]
          exact W.zret (v := 0) (ty := .boolean) hx hb hr rfl (fun t ht hW => ⟨⟨0, f653, rfl, ⟨(iv_w ik_0 (by decide)), f653_b, iv9_0, (fun h8 => (co_no (iv9_1 h8) qh654 a2_h h8 (show (4 : Int) + 1 ≤ _ from (show _ ≤ _ ∧ _ ≤ _ from j2).1)).elim)⟩, by rw [ht]; exact hP, va_K.moved hW.alike hK, hD⟩, hS.F ht⟩) hS.2.2 dX12_isColoured_104
        ·
          have qh654 := nle_i h654
          have j655 : Iv 0 11 x652 := r_ltl qh654 x652_h a2_h (by decide)
          have j656 : Iv 1 12 a2 := r_ltr qh654 x652_h a2_h (by decide)
          refine lv_iconst (v := 1) hx hb dX12_isColoured_17 (by decide) ?_
          refine lv_istore (lv' := [(4, .int 1), (3, .int x652), (0, .ref o1), (1, .int 4), (2, .int a2)]) hx hb dX12_isColoured_18 hl (by decide) rfl (fun ls hl => ?_)
          refine lv_iconst (v := 0) hx hb dX12_isColoured_20 (by decide) ?_
          refine lv_istore (lv' := [(5, .int 0), (4, .int 1), (3, .int x652), (0, .ref o1), (1, .int 4), (2, .int a2)]) hx hb dX12_isColoured_21 hl (by decide) rfl (fun ls hl => ?_)
          have L10 : ∀ (N : Nat) (x696 : Int32) (x697 : Int32) (H : Heap) (locs : List Loc) (ls : Array Slot), (4 - x696.toInt).toNat < N → Iv 0 4 x696 → Iv 0 1 x697 → (x697 = 0 → ∃ q, q < (Int32.toNatClampNeg x696) ∧ f653 q = x652) → va_P (dC, dI) vwCl ([(o1, .inr (12, [.int v2, .ref o3, .int v5, .ref o6, .int v8, .ref o9, .ref o11, .int v13, .ref o14, .int v16, .ref o17, .int v19, .int v20, .int v21, .ref o22, .ref o24, .ref o26, .ref o28, .ref o30, .int v32, .ref o33, .ref o35, .ref o37, .int v39, .ref o40, .ref o42, .ref o44, .int v46, .ref o47])), (o6, .inl (cI, 12, .inl fw7)), (o33, .inl (cI, 12, .inl f653))]) H → va_D A ([(o1, .inr (12, [.int v2, .ref o3, .int v5, .ref o6, .int v8, .ref o9, .ref o11, .int v13, .ref o14, .int v16, .ref o17, .int v19, .int v20, .int v21, .ref o22, .ref o24, .ref o26, .ref o28, .ref o30, .int v32, .ref o33, .ref o35, .ref o37, .int v39, .ref o40, .ref o42, .ref o44, .int v46, .ref o47])), (o6, .inl (cI, 12, .inl fw7)), (o33, .inl (cI, 12, .inl f653))]) → va_S A s.heap H locs → lv_has ls 6 [(5, .int x696), (4, .int x697), (3, .int x652), (0, .ref o1), (1, .int 4), (2, .int a2)] → W p l e ({ frames := 8, cells := 0, slots := 0, locals := 200 }) s m ([.ref o1, .int 4, .int a2] : List Value).toArray below meth c H locs 0 0 Q (F0 m 23 ls []) := by
            intro N
            induction N with
            | zero =>
              intro x696 x697 H locs ls hM
              exact absurd hM (Nat.not_lt_zero _)
            | succ N ih10 =>
              intro x696 x697 H locs ls hM10 x696_h x697_h iv10_0 hP hD hS hl
              refine lv_iload hx hb dX12_isColoured_23 (lv_at hl 0 rfl) ?_
              refine lv_iload_n hx hb dX12_isColoured_25 rfl (lv_at hl 4 rfl) ?_
              refine lv_icmp_ge (tgt := 72) hx hb dX12_isColoured_26 (by decide) (fun h698 => ?_) (fun h698 => ?_)
              ·
                have qh698 := le_i h698
                have j699 : Iv 4 4 x696 := r_ler qh698 ik_4 x696_h (by decide)
                refine lv_aload_n hx hb dX12_isColoured_72 rfl (lv_at hl 3 rfl) ?_
                refine va_get (D := (dC, dI)) (ci := 12) (v := .ref o33) (C := RX12) (T := TX12) (N := 29) hx hb hts iw_X12_isColoured_X12 hown hK hP 0 rfl rfl 20 (by decide) (hts (.fieldLink RX12 48 "HolelessHouseModel" "colours" "[I") hm_X12_isColoured_3) (fun _ h9 => h9) rfl dX12_isColoured_73 ?_
                refine lv_iload_n hx hb dX12_isColoured_76 rfl (lv_at hl 4 rfl) ?_
                refine lv_iload_n hx hb dX12_isColoured_77 rfl (lv_at hl 2 rfl) ?_
                refine k_iast hx hb hK hP hD hS 2 0 rfl rfl (vin_iv ik_4 (by decide)) dX12_isColoured_78 (fun f700 H locs f700_e hP hD hS => ?_)
                have f700_b : Bd 12 0 11 f700 := bd_upd f700_e f653_b j655 (by decide)
                have hP : va_P (dC, dI) vwCl ([(o1, .inr (12, [.int v2, .ref o3, .int v5, .ref o6, .int v8, .ref o9, .ref o11, .int v13, .ref o14, .int v16, .ref o17, .int v19, .int v20, .int v21, .ref o22, .ref o24, .ref o26, .ref o28, .ref o30, .int v32, .ref o33, .ref o35, .ref o37, .int v39, .ref o40, .ref o42, .ref o44, .int v46, .ref o47])), (o6, .inl (cI, 12, .inl fw7)), (o33, .inl (cI, 12, .inl f700))]) H := hP
                have hD : va_D A ([(o1, .inr (12, [.int v2, .ref o3, .int v5, .ref o6, .int v8, .ref o9, .ref o11, .int v13, .ref o14, .int v16, .ref o17, .int v19, .int v20, .int v21, .ref o22, .ref o24, .ref o26, .ref o28, .ref o30, .int v32, .ref o33, .ref o35, .ref o37, .int v39, .ref o40, .ref o42, .ref o44, .int v46, .ref o47])), (o6, .inl (cI, 12, .inl fw7)), (o33, .inl (cI, 12, .inl f700))]) := hD
                refine lv_iload hx hb dX12_isColoured_79 (lv_at hl 1 rfl) ?_
                refine lv_if_eq (tgt := 97) hx hb dX12_isColoured_81 (by decide) (fun h701 => ?_) (fun h701 => ?_)
                ·
                  have j702 : Iv 0 0 x697 := r_eq h701 ik_0
                  obtain ⟨x703, x703_e⟩ : ∃ z : Int32, z = x652 + 1 := ⟨_, rfl⟩
                  have x703_h : Iv 1 12 x703 := iv_e x703_e (iv_add j655 ik_1 (by decide))
                  refine lv_iinc (v := x703) (lv' := [(3, .int x703), (5, .int x696), (4, .int x697), (0, .ref o1), (1, .int 4), (2, .int a2)]) hx hb dX12_isColoured_97 hl (k := 2) rfl (incN (by decide +kernel) x703_e) (by decide) rfl (fun ls hl => ?_)
                  refine lv_goto (tgt := 12) hx hb dX12_isColoured_100 (by decide) ?_
                  exact ih9 x703 f700 _ _ _ (ms_up x703_e j655 (by decide) hM9) (iv_w x703_h (by decide)) f700_b (co_k f700_e (by decide +kernel) iv9_0) (fun h8 => CW_s (iv9_1 h8) (iv_w (c := 0) (d := 4095) j655 (by decide)) x703_e (co_w3 (iv10_0 h701) (Nat.le_of_eq (by rw [d_eq j699 ik_4]; decide +kernel)) iv9_0)) hP hD hS (lv_sub hl [0, 3, 4, 5] rfl)
                ·
                  have j704 : Iv 1 1 x697 := r_nelo h701 x697_h ik_0 (by decide)
                  refine lv_aload_n hx hb dX12_isColoured_84 rfl (lv_at hl 3 rfl) ?_
                  refine lv_iload_n hx hb dX12_isColoured_85 rfl (lv_at hl 4 rfl) ?_
                  refine lv_iconst (v := 1) hx hb dX12_isColoured_86 (by decide) ?_
                  refine lv_iadd hx hb dX12_isColoured_87 (tk_i (v := 5) (by decide +kernel) ?_)
                  refine lv_iload_n hx hb dX12_isColoured_88 rfl (lv_at hl 5 rfl) ?_
                  refine kc_i (D := (dC, dI)) (S := (Nat → Int32)) (wc := [(o1, .inr (12, [.int v2, .ref o3, .int v5, .ref o6, .int v8, .ref o9, .ref o11, .int v13, .ref o14, .int v16, .ref o17, .int v19, .int v20, .int v21, .ref o22, .ref o24, .ref o26, .ref o28, .ref o30, .int v32, .ref o33, .ref o35, .ref o37, .int v39, .ref o40, .ref o42, .ref o44, .int v46, .ref o47])), (o6, .inl (cI, 12, .inl fw7)), (o33, .inl (cI, 12, .inl f700))]) (wr := []) (w1 := fun u => [(o1, .inr (12, [.int v2, .ref o3, .int v5, .ref o6, .int v8, .ref o9, .ref o11, .int v13, .ref o14, .int v16, .ref o17, .int v19, .int v20, .int v21, .ref o22, .ref o24, .ref o26, .ref o28, .ref o30, .int v32, .ref o33, .ref o35, .ref o37, .int v39, .ref o40, .ref o42, .ref o44, .int v46, .ref o47])), (o6, .inl (cI, 12, .inl fw7)), (o33, .inl (cI, 12, .inl u))]) (wn := fun u => [(o1, .inr (12, [.int v2, .ref o3, .int v5, .ref o6, .int v8, .ref o9, .ref o11, .int v13, .ref o14, .int v16, .ref o17, .int v19, .int v20, .int v21, .ref o22, .ref o24, .ref o26, .ref o28, .ref o30, .int v32, .ref o33, .ref o35, .ref o37, .int v39, .ref o40, .ref o42, .ref o44, .int v46, .ref o47])), (o6, .inl (cI, 12, .inl fw7)), (o33, .inl (cI, 12, .inl u))]) (fun hPc hDc => va_runV (As := [.int 5, .int a2]) (rest := []) ⟨hx, hb, hml, hown, hts⟩ (kX12_isColoured_8 l dC dI cI c2 cZ o1 o3 o6 o9 o11 o14 o17 o22 o24 o26 o28 o30 o33 o35 o37 o40 o42 o44 o47 v2 v5 fw7 v8 v13 v16 v19 v20 v21 v32 f700 v39 v46 a2 H.size j2 fw7_b v8_h v13_h v16_h v19_h v32_h f700_b v39_h v46_h (iv_w j656 (by decide))) (cwV 2 hts gX12_isColoured_X12_isColoured rfl rfl rfl (by decide +kernel) ⟨Nat.le_of_ble_eq_true rfl, Nat.le_of_ble_eq_true rfl⟩) (pre_V hPc hK hDc hN (ci := 12) (q0 := 0) rfl rfl) rfl rfl hl.1 rfl (lv_room (Nat.le_of_ble_eq_true rfl)) dX12_isColoured_89 ⟨Nat.le_of_ble_eq_true rfl, Nat.le_of_ble_eq_true rfl⟩) hP hD hS hA [0, 1, 2] [] [0, 1, 2] rfl rfl (by decide +kernel) (by decide +kernel) (by decide +kernel) (by decide +kernel) (fun _ => rfl) (fun x706 f705 H locs hq hP hD hS => ?_)
                  obtain ⟨x706_h, f705_b, e707, e708⟩ := hq
                  have hP : va_P (dC, dI) vwCl ([(o1, .inr (12, [.int v2, .ref o3, .int v5, .ref o6, .int v8, .ref o9, .ref o11, .int v13, .ref o14, .int v16, .ref o17, .int v19, .int v20, .int v21, .ref o22, .ref o24, .ref o26, .ref o28, .ref o30, .int v32, .ref o33, .ref o35, .ref o37, .int v39, .ref o40, .ref o42, .ref o44, .int v46, .ref o47])), (o6, .inl (cI, 12, .inl fw7)), (o33, .inl (cI, 12, .inl f705))]) H := hP
                  have hD : va_D A ([(o1, .inr (12, [.int v2, .ref o3, .int v5, .ref o6, .int v8, .ref o9, .ref o11, .int v13, .ref o14, .int v16, .ref o17, .int v19, .int v20, .int v21, .ref o22, .ref o24, .ref o26, .ref o28, .ref o30, .int v32, .ref o33, .ref o35, .ref o37, .int v39, .ref o40, .ref o42, .ref o44, .int v46, .ref o47])), (o6, .inl (cI, 12, .inl fw7)), (o33, .inl (cI, 12, .inl f705))]) := hD
                  refine lv_if_eq (tgt := 97) hx hb dX12_isColoured_92 (by decide) (fun h709 => ?_) (fun h709 => ?_)
                  ·
                    have j710 : Iv 0 0 x706 := r_eq h709 ik_0
                    obtain ⟨x711, x711_e⟩ : ∃ z : Int32, z = x652 + 1 := ⟨_, rfl⟩
                    have x711_h : Iv 1 12 x711 := iv_e x711_e (iv_add j655 ik_1 (by decide))
                    refine lv_iinc (v := x711) (lv' := [(3, .int x711), (5, .int x696), (4, .int x697), (0, .ref o1), (1, .int 4), (2, .int a2)]) hx hb dX12_isColoured_97 hl (k := 2) rfl (incN (by decide +kernel) x711_e) (by decide) rfl (fun ls hl => ?_)
                    refine lv_goto (tgt := 12) hx hb dX12_isColoured_100 (by decide) ?_
                    exact ih9 x711 f705 _ _ _ (ms_up x711_e j655 (by decide) hM9) (iv_w x711_h (by decide)) f705_b (co_t e707 (by decide) (co_k f700_e (by decide +kernel) iv9_0)) (fun h8 => absurd h709 (e708 h8)) hP hD hS (lv_sub hl [0, 3, 4, 5] rfl)
                  ·
                    have j712 : Iv 1 1 x706 := r_nelo h709 x706_h ik_0 (by decide)
                    refine lv_iconst (v := 1) hx hb dX12_isColoured_95 (by decide) ?_
                    rw [hQ]
                    exact W.zret (v := 1) (ty := .boolean) hx hb hr rfl (fun t ht hW => ⟨⟨1, f705, rfl, ⟨(iv_w ik_1 (by decide)), f705_b, (co_t e707 (by decide) (co_k f700_e (by decide +kernel) iv9_0)), (fun _ h8 => absurd h8 (by decide +kernel))⟩, by rw [ht]; exact hP, va_K.moved hW.alike hK, hD⟩, hS.F ht⟩) hS.2.2 dX12_isColoured_96
              ·
                have qh698 := nle_i h698
                have j713 : Iv 0 3 x696 := r_ltl qh698 x696_h ik_4 (by decide)
                refine lv_iload hx hb dX12_isColoured_29 (lv_at hl 1 rfl) ?_
                refine lv_if_eq (tgt := 63) hx hb dX12_isColoured_31 (by decide) (fun h714 => ?_) (fun h714 => ?_)
                ·
                  have j715 : Iv 0 0 x697 := r_eq h714 ik_0
                  refine lv_iconst (v := 0) hx hb dX12_isColoured_63 (by decide) ?_
                  refine lv_istore (lv' := [(4, .int 0), (5, .int x696), (3, .int x652), (0, .ref o1), (1, .int 4), (2, .int a2)]) hx hb dX12_isColoured_64 hl (by decide) rfl (fun ls hl => ?_)
                  obtain ⟨x716, x716_e⟩ : ∃ z : Int32, z = x696 + 1 := ⟨_, rfl⟩
                  have x716_h : Iv 1 4 x716 := iv_e x716_e (iv_add j713 ik_1 (by decide))
                  refine lv_iinc (v := x716) (lv' := [(5, .int x716), (4, .int 0), (3, .int x652), (0, .ref o1), (1, .int 4), (2, .int a2)]) hx hb dX12_isColoured_66 hl (k := 1) rfl (incN (by decide +kernel) x716_e) (by decide) rfl (fun ls hl => ?_)
                  refine lv_goto (tgt := 23) hx hb dX12_isColoured_69 (by decide) ?_
                  exact ih10 x716 0 _ _ _ (ms_up x716_e j713 (by decide) hM10) (iv_w x716_h (by decide)) (iv_w ik_0 (by decide)) (fun _ => co_w1 (iv10_0 h714) (iv_w (c := 0) (d := 4095) j713 (by decide)) x716_e) hP hD hS hl
                ·
                  have j717 : Iv 1 1 x697 := r_nelo h714 x697_h ik_0 (by decide)
                  refine lv_aload_n hx hb dX12_isColoured_34 rfl (lv_at hl 3 rfl) ?_
                  refine va_get (D := (dC, dI)) (ci := 12) (v := .ref o6) (C := RX12) (T := TX12) (N := 29) hx hb hts iw_X12_isColoured_X12 hown hK hP 0 rfl rfl 3 (by decide) (hts (.fieldLink RX12 13 "HolelessHouseModel" "near" "[I") hm_X12_isColoured_2) (fun _ h9 => h9) rfl dX12_isColoured_35 ?_
                  refine lv_iload_n hx hb dX12_isColoured_38 rfl (lv_at hl 4 rfl) ?_
                  refine va_iald hx hb hK hP 1 0 rfl rfl (vin_iv ik_4 (by decide)) dX12_isColoured_39 (lv_topi (fun x718 x718_e => ?_))
                  have x718_h : Iv 0 4095 x718 := iv_e x718_e (bd_at fw7_b (vin_iv ik_4 (by decide)))
                  refine lv_iload hx hb dX12_isColoured_40 (lv_at hl 0 rfl) ?_
                  refine kc_i (D := (dC, dI)) (S := Unit) (wc := []) (wr := [(o1, .inr (12, [.int v2, .ref o3, .int v5, .ref o6, .int v8, .ref o9, .ref o11, .int v13, .ref o14, .int v16, .ref o17, .int v19, .int v20, .int v21, .ref o22, .ref o24, .ref o26, .ref o28, .ref o30, .int v32, .ref o33, .ref o35, .ref o37, .int v39, .ref o40, .ref o42, .ref o44, .int v46, .ref o47])), (o6, .inl (cI, 12, .inl fw7)), (o33, .inl (cI, 12, .inl f653))]) (w1 := fun _ => []) (wn := fun _ => [(o1, .inr (12, [.int v2, .ref o3, .int v5, .ref o6, .int v8, .ref o9, .ref o11, .int v13, .ref o14, .int v16, .ref o17, .int v19, .int v20, .int v21, .ref o22, .ref o24, .ref o26, .ref o28, .ref o30, .int v32, .ref o33, .ref o35, .ref o37, .int v39, .ref o40, .ref o42, .ref o44, .int v46, .ref o47])), (o6, .inl (cI, 12, .inl fw7)), (o33, .inl (cI, 12, .inl f653))]) (fun hPc hDc => va_runS (As := [.int x718, .int x696]) (rest := []) ⟨hx, hb, hml, hown, hts⟩ (kX12_has_1 l dC dI cI c2 cZ x718 x696 H.size (iv_w j713 (by decide))) (va_cwS 2 hts gX12_isColoured_X12_has rfl rfl rfl (by decide +kernel) ⟨Nat.le_of_ble_eq_true rfl, Nat.le_of_ble_eq_true rfl⟩) (pre_S hPc hK hDc hN) rfl rfl hl.1 rfl (lv_room (Nat.le_of_ble_eq_true rfl)) dX12_isColoured_42 ⟨Nat.le_of_ble_eq_true rfl, Nat.le_of_ble_eq_true rfl⟩) hP hD hS hA [] [0, 1, 2] [0, 1, 2] rfl rfl (by decide +kernel) (by decide +kernel) (by decide +kernel) (by decide +kernel) (fun _ => rfl) (fun x719 _ H locs hq hP hD hS => ?_)
                  obtain ⟨x719_h, e720⟩ := hq
                  have hP : va_P (dC, dI) vwCl ([(o1, .inr (12, [.int v2, .ref o3, .int v5, .ref o6, .int v8, .ref o9, .ref o11, .int v13, .ref o14, .int v16, .ref o17, .int v19, .int v20, .int v21, .ref o22, .ref o24, .ref o26, .ref o28, .ref o30, .int v32, .ref o33, .ref o35, .ref o37, .int v39, .ref o40, .ref o42, .ref o44, .int v46, .ref o47])), (o6, .inl (cI, 12, .inl fw7)), (o33, .inl (cI, 12, .inl f653))]) H := hP
                  have hD : va_D A ([(o1, .inr (12, [.int v2, .ref o3, .int v5, .ref o6, .int v8, .ref o9, .ref o11, .int v13, .ref o14, .int v16, .ref o17, .int v19, .int v20, .int v21, .ref o22, .ref o24, .ref o26, .ref o28, .ref o30, .int v32, .ref o33, .ref o35, .ref o37, .int v39, .ref o40, .ref o42, .ref o44, .int v46, .ref o47])), (o6, .inl (cI, 12, .inl fw7)), (o33, .inl (cI, 12, .inl f653))]) := hD
                  refine lv_if_eq (tgt := 59) hx hb dX12_isColoured_45 (by decide) (fun h721 => ?_) (fun h721 => ?_)
                  ·
                    have j722 : Iv 0 0 x719 := r_eq h721 ik_0
                    have b723 : bt x718 (Int32.toNatClampNeg x696) = false := has_f e720 h721
                    refine lv_iconst (v := 1) hx hb dX12_isColoured_59 (by decide) ?_
                    refine lv_goto (tgt := 64) hx hb dX12_isColoured_60 (by decide) ?_
                    refine lv_istore (lv' := [(4, .int 1), (5, .int x696), (3, .int x652), (0, .ref o1), (1, .int 4), (2, .int a2)]) hx hb dX12_isColoured_64 hl (by decide) rfl (fun ls hl => ?_)
                    obtain ⟨x724, x724_e⟩ : ∃ z : Int32, z = x696 + 1 := ⟨_, rfl⟩
                    have x724_h : Iv 1 4 x724 := iv_e x724_e (iv_add j713 ik_1 (by decide))
                    refine lv_iinc (v := x724) (lv' := [(5, .int x724), (4, .int 1), (3, .int x652), (0, .ref o1), (1, .int 4), (2, .int a2)]) hx hb dX12_isColoured_66 hl (k := 1) rfl (incN (by decide +kernel) x724_e) (by decide) rfl (fun ls hl => ?_)
                    refine lv_goto (tgt := 23) hx hb dX12_isColoured_69 (by decide) ?_
                    exact ih10 x724 1 _ _ _ (ms_up x724_e j713 (by decide) hM10) (iv_w x724_h (by decide)) (iv_w ik_1 (by decide)) (fun h8 => absurd h8 (by decide +kernel)) hP hD hS hl
                  ·
                    have j725 : Iv 1 1 x719 := r_nelo h721 x719_h ik_0 (by decide)
                    have b726 : bt x718 (Int32.toNatClampNeg x696) = true := has_t e720 h721
                    refine lv_aload_n hx hb dX12_isColoured_48 rfl (lv_at hl 3 rfl) ?_
                    refine va_get (D := (dC, dI)) (ci := 12) (v := .ref o33) (C := RX12) (T := TX12) (N := 29) hx hb hts iw_X12_isColoured_X12 hown hK hP 0 rfl rfl 20 (by decide) (hts (.fieldLink RX12 48 "HolelessHouseModel" "colours" "[I") hm_X12_isColoured_3) (fun _ h9 => h9) rfl dX12_isColoured_49 ?_
                    refine lv_iload hx hb dX12_isColoured_52 (lv_at hl 0 rfl) ?_
                    refine va_iald hx hb hK hP 2 0 rfl rfl (vin_iv j713 (by decide)) dX12_isColoured_54 (lv_topi (fun x727 x727_e => ?_))
                    have x727_h : Iv 0 11 x727 := iv_e x727_e (bd_at f653_b (vin_iv j713 (by decide)))
                    refine lv_iload_n hx hb dX12_isColoured_55 rfl (lv_at hl 2 rfl) ?_
                    refine lv_icmp_eq (tgt := 63) hx hb dX12_isColoured_56 (by decide) (fun h728 => ?_) (fun h728 => ?_)
                    ·
                      refine lv_iconst (v := 0) hx hb dX12_isColoured_63 (by decide) ?_
                      refine lv_istore (lv' := [(4, .int 0), (5, .int x696), (3, .int x652), (0, .ref o1), (1, .int 4), (2, .int a2)]) hx hb dX12_isColoured_64 hl (by decide) rfl (fun ls hl => ?_)
                      obtain ⟨x729, x729_e⟩ : ∃ z : Int32, z = x696 + 1 := ⟨_, rfl⟩
                      have x729_h : Iv 1 4 x729 := iv_e x729_e (iv_add j713 ik_1 (by decide))
                      refine lv_iinc (v := x729) (lv' := [(5, .int x729), (4, .int 0), (3, .int x652), (0, .ref o1), (1, .int 4), (2, .int a2)]) hx hb dX12_isColoured_66 hl (k := 1) rfl (incN (by decide +kernel) x729_e) (by decide) rfl (fun ls hl => ?_)
                      refine lv_goto (tgt := 23) hx hb dX12_isColoured_69 (by decide) ?_
                      exact ih10 x729 0 _ _ _ (ms_up x729_e j713 (by decide) hM10) (iv_w x729_h (by decide)) (iv_w ik_0 (by decide)) (fun _ => co_w2 x727_e h728 (iv_w (c := 0) (d := 4095) j713 (by decide)) x729_e) hP hD hS hl
                    ·
                      refine lv_iconst (v := 1) hx hb dX12_isColoured_59 (by decide) ?_
                      refine lv_goto (tgt := 64) hx hb dX12_isColoured_60 (by decide) ?_
                      refine lv_istore (lv' := [(4, .int 1), (5, .int x696), (3, .int x652), (0, .ref o1), (1, .int 4), (2, .int a2)]) hx hb dX12_isColoured_64 hl (by decide) rfl (fun ls hl => ?_)
                      obtain ⟨x730, x730_e⟩ : ∃ z : Int32, z = x696 + 1 := ⟨_, rfl⟩
                      have x730_h : Iv 1 4 x730 := iv_e x730_e (iv_add j713 ik_1 (by decide))
                      refine lv_iinc (v := x730) (lv' := [(5, .int x730), (4, .int 1), (3, .int x652), (0, .ref o1), (1, .int 4), (2, .int a2)]) hx hb dX12_isColoured_66 hl (k := 1) rfl (incN (by decide +kernel) x730_e) (by decide) rfl (fun ls hl => ?_)
                      refine lv_goto (tgt := 23) hx hb dX12_isColoured_69 (by decide) ?_
                      exact ih10 x730 1 _ _ _ (ms_up x730_e j713 (by decide) hM10) (iv_w x730_h (by decide)) (iv_w ik_1 (by decide)) (fun h8 => absurd h8 (by decide +kernel)) hP hD hS hl
          exact L10 _ 0 1 _ _ _ (Nat.lt_succ_self _) (iv_w ik_0 (by decide)) (iv_w ik_1 (by decide)) co_w0 hP hD hS hl
    exact L9 _ 0 fw34 _ _ _ (Nat.lt_succ_self _) (iv_w ik_0 (by decide)) fw34_b (fun _ _ => rfl) (fun _ => CW_0) hP hD hS hl
  ·
    have j731 : Iv 4 4 v5 := r_eq h1.symm ik_4
    refine lv_iconst (v := 1) hx hb dX12_isColoured_8 (by decide) ?_
    rw [hQ]
    exact W.zret (v := 1) (ty := .boolean) hx hb hr rfl (fun t ht hW => ⟨⟨1, fw34, rfl, ⟨(iv_w ik_1 (by decide)), fw34_b, (fun _ _ => rfl), (fun _ h8 => absurd h8 (by decide +kernel))⟩, by rw [ht]; exact hP, va_K.moved hW.alike hK, hD⟩, hS.F ht⟩) hS.2.2 dX12_isColoured_9
