set_option maxHeartbeats 8000000 in
set_option maxRecDepth 100000 in
theorem lc_13 {p : Program} {e : Env} {s : State} {m : MethodId} {below : List Frame} {meth : Method} {c : Code} (l : Launch) {b : Nat} {xs : Nat → Int32} (C0 : lw_At p s m meth c b 4 xs) (dC : Nat → ClassId) (dI : Nat → Nat → Nat) (cI c2 : ClassId) (q1 : Nat) (q2 : Nat) (q3 : Nat) (q4 : Nat) (q5 : Nat) (q6 : Nat) (q7 : Nat) (q8 : Nat) (r9 : Nat → Nat) (q10 : Nat) (q11 : Nat) (q12 : Nat) (r13 : Nat → Nat) (q14 : Nat) (q15 : Nat) (q16 : Nat) (q17 : Nat) (q18 : Nat) (q19 : Nat) (q20 : Nat) (r21 : Nat → Nat) (q22 : Nat) (q23 : Nat) (q24 : Nat) (q25 : Nat) (q26 : Nat) (q27 : Nat) (q28 : Nat) (q29 : Nat) (q30 : Nat) (q31 : Nat) (q32 : Nat) (q33 : Nat) (q34 : Nat) (q35 : Nat) (q36 : Nat) (q37 : Nat) (q38 : Nat) (q39 : Nat) (q40 : Nat) (q41 : Nat) (q42 : Nat) (q43 : Nat) (q44 : Nat) (q45 : Nat) (q46 : Nat) (q47 : Nat) (q48 : Nat) (q49 : Nat) (q50 : Nat) (q51 : Nat) (q52 : Nat) (q53 : Nat) (q54 : Nat) (q55 : Nat) (q56 : Nat) (q57 : Nat) (q58 : Nat) (q59 : Nat) (q60 : Nat) (q61 : Nat) (q62 : Nat) (q63 : Nat) (q64 : Nat) (q65 : Nat) (q66 : Nat) (q67 : Nat) (a1 a2 a3 : Int32) (ha1 : xs (Int32.toNatClampNeg 1) = a1) (ha2 : xs (Int32.toNatClampNeg 2) = a2) (ha3 : xs (Int32.toNatClampNeg 3) = a3) (hK : va_K (dC, dI) vwCl [(cI, .int), (c2, .array .int)] s) (hN : nsAll s) (H : Heap) (locs : List Loc) (hP : va_P (dC, dI) vwCl [(q1, .inr (11, [.ref q2, .ref q4, .ref q6, .ref q18, .ref q23, .ref q28, .ref q33, .ref q36, .ref q37, .ref q40, .ref q44, .ref q48, .int 0])), (q2, .inr (4, [.ref q3, .int 0, .int 0])), (q3, .inl (cI, 12, .inl (fun _ => 0))), (q4, .inr (10, [.ref q5, .int 0, .int 0])), (q5, .inl (cI, 12, .inl (fun _ => (-1)))), (q6, .inr (6, [.ref q7, .ref q10, .ref q16, .ref q17, .int 0, .int 0, .int 0, .int 0, .int 0])), (q7, .inr (3, [.ref q8, .int 0])), (q8, .inl (c2, 13, .inr (.inr (.inr (.inr (fun i => if i < 13 then some (r9 i) else none)))))), (r9 0, .inl (cI, 12, .inl (fun _ => 0))), (q10, .inr (5, [.ref q11, .ref q14, .ref q15, .int 0, .int 0, .int 0])), (q11, .inr (3, [.ref q12, .int 0])), (q12, .inl (c2, 13, .inr (.inr (.inr (.inr (fun i => if i < 13 then some (r13 i) else none)))))), (r13 0, .inl (cI, 12, .inl (fun _ => 0))), (q14, .inl (cI, 4096, .inl (fun _ => 0))), (q18, .inr (9, [.ref q19, .ref q22, .int 0, .int (-1)])), (q19, .inr (3, [.ref q20, .int 0])), (q20, .inl (c2, 13, .inr (.inr (.inr (.inr (fun i => if i < 13 then some (r21 i) else none)))))), (r21 0, .inl (cI, 12, .inl (fun _ => 0))), (q23, .inr (1, [.int 0, .ref q24, .ref q25, .ref q26, .ref q27, .int 0, .int (-1), .int (-1)])), (q28, .inr (1, [.int 1, .ref q29, .ref q30, .ref q31, .ref q32, .int 0, .int (-1), .int (-1)])), (q33, .inr (7, [.ref q34, .ref q35, .int 0, .int (-1)])), (q35, .inl (cI, 12, .inl (fun _ => 0))), (q37, .inr (2, [.ref q38, .ref q39, .int 0, .int (-1)])), (q40, .inr (0, [.ref q42, .ref q41, .ref q43, .int 0, .int 0, .int 0, .int 0, .int (-1)])), (q42, .inl (cI, 4096, .inl (fun _ => 0))), (q44, .inr (0, [.ref q46, .ref q45, .ref q47, .int 0, .int 0, .int 0, .int 0, .int (-1)])), (q46, .inl (cI, 256, .inl (fun _ => 0))), (q48, .inl (cI, 5, .inl (fun _ => 0))), (q49, .inr (12, [.int 0, .ref q50, .int 0, .ref q51, .int 0, .ref q52, .ref q53, .int 0, .ref q54, .int 0, .ref q55, .int (-9), .int 0, .int 0, .ref q56, .ref q57, .ref q58, .ref q59, .ref q60, .int 0, .ref q61, .ref q62, .ref q63, .int 0, .ref q64, .ref q65, .ref q66, .int 0, .ref q67])), (q50, .inl (cI, 5, .inl (fun _ => 0))), (q51, .inl (cI, 12, .inl (fun _ => 0))), (q52, .inl (cI, 12, .inl (fun _ => (-9)))), (q56, .inl (cI, 12, .inl (fun _ => 0))), (q57, .inl (cI, 12, .inl (fun _ => 0))), (q58, .inl (cI, 49152, .inl (fun _ => 0))), (q59, .inl (cI, 4096, .inl (fun _ => 0))), (q67, .inl (cI, 12, .inl (fun _ => 0)))] H) (hD : va_D (fun q : Nat => s.heap.size ≤ q) [(q1, .inr (11, [.ref q2, .ref q4, .ref q6, .ref q18, .ref q23, .ref q28, .ref q33, .ref q36, .ref q37, .ref q40, .ref q44, .ref q48, .int 0])), (q2, .inr (4, [.ref q3, .int 0, .int 0])), (q3, .inl (cI, 12, .inl (fun _ => 0))), (q4, .inr (10, [.ref q5, .int 0, .int 0])), (q5, .inl (cI, 12, .inl (fun _ => (-1)))), (q6, .inr (6, [.ref q7, .ref q10, .ref q16, .ref q17, .int 0, .int 0, .int 0, .int 0, .int 0])), (q7, .inr (3, [.ref q8, .int 0])), (q8, .inl (c2, 13, .inr (.inr (.inr (.inr (fun i => if i < 13 then some (r9 i) else none)))))), (r9 0, .inl (cI, 12, .inl (fun _ => 0))), (q10, .inr (5, [.ref q11, .ref q14, .ref q15, .int 0, .int 0, .int 0])), (q11, .inr (3, [.ref q12, .int 0])), (q12, .inl (c2, 13, .inr (.inr (.inr (.inr (fun i => if i < 13 then some (r13 i) else none)))))), (r13 0, .inl (cI, 12, .inl (fun _ => 0))), (q14, .inl (cI, 4096, .inl (fun _ => 0))), (q18, .inr (9, [.ref q19, .ref q22, .int 0, .int (-1)])), (q19, .inr (3, [.ref q20, .int 0])), (q20, .inl (c2, 13, .inr (.inr (.inr (.inr (fun i => if i < 13 then some (r21 i) else none)))))), (r21 0, .inl (cI, 12, .inl (fun _ => 0))), (q23, .inr (1, [.int 0, .ref q24, .ref q25, .ref q26, .ref q27, .int 0, .int (-1), .int (-1)])), (q28, .inr (1, [.int 1, .ref q29, .ref q30, .ref q31, .ref q32, .int 0, .int (-1), .int (-1)])), (q33, .inr (7, [.ref q34, .ref q35, .int 0, .int (-1)])), (q35, .inl (cI, 12, .inl (fun _ => 0))), (q37, .inr (2, [.ref q38, .ref q39, .int 0, .int (-1)])), (q40, .inr (0, [.ref q42, .ref q41, .ref q43, .int 0, .int 0, .int 0, .int 0, .int (-1)])), (q42, .inl (cI, 4096, .inl (fun _ => 0))), (q44, .inr (0, [.ref q46, .ref q45, .ref q47, .int 0, .int 0, .int 0, .int 0, .int (-1)])), (q46, .inl (cI, 256, .inl (fun _ => 0))), (q48, .inl (cI, 5, .inl (fun _ => 0))), (q49, .inr (12, [.int 0, .ref q50, .int 0, .ref q51, .int 0, .ref q52, .ref q53, .int 0, .ref q54, .int 0, .ref q55, .int (-9), .int 0, .int 0, .ref q56, .ref q57, .ref q58, .ref q59, .ref q60, .int 0, .ref q61, .ref q62, .ref q63, .int 0, .ref q64, .ref q65, .ref q66, .int 0, .ref q67])), (q50, .inl (cI, 5, .inl (fun _ => 0))), (q51, .inl (cI, 12, .inl (fun _ => 0))), (q52, .inl (cI, 12, .inl (fun _ => (-9)))), (q56, .inl (cI, 12, .inl (fun _ => 0))), (q57, .inl (cI, 12, .inl (fun _ => 0))), (q58, .inl (cI, 49152, .inl (fun _ => 0))), (q59, .inl (cI, 4096, .inl (fun _ => 0))), (q67, .inl (cI, 12, .inl (fun _ => 0)))]) (hS : va_S (fun q : Nat => s.heap.size ≤ q) s.heap H locs) (ls : Array Slot) (hl : lv_has ls 4 [(3, .int 0), (2, .ref q49), (1, .ref q1), (0, .ref b)]) : W p l e room_1 s m #[Value.ref b] below meth c H locs 128 161896 (lw_Z below #[Value.ref b] s) (F0 m 501 ls []) := by
  obtain ⟨hx, hb, hr, hml, hown0, hts0, hX, hbl, hlocks, hgv⟩ := id C0
  have hown : s.vm.findClass RL = some m.cls := hown0
  have hts : ∀ w ∈ wsL_law, w.before #[Value.ref b] s = true := fun w h => hts0 w (wsL_law_in w h)
  have hA : ∀ q : Nat, s.heap.size ≤ q → (fun q : Nat => s.heap.size ≤ q) q := fun _ h => h
  have hbA : ¬ (fun q : Nat => s.heap.size ≤ q) b := Nat.not_le.mpr hbl
  generalize hAe : (fun q : Nat => s.heap.size ≤ q) = A at hD hS hA hbA
  have a1_rg := i_rng a1
  have a2_rg := i_rng a2
  have a3_rg := i_rng a3
  obtain ⟨a1_l, a1_h⟩ := a1_rg
  obtain ⟨a2_l, a2_h⟩ := a2_rg
  obtain ⟨a3_l, a3_h⟩ := a3_rg
  rcases (show a1.toInt ≤ (-1) ∨ 0 ≤ a1.toInt by omega) with g_a1_0 | g_a1_0
  ·
    refine lv_aload_n hx hb dL_law_501 rfl (lv_at hl 2 rfl) ?_
    refine lv_aload_n hx hb dL_law_502 rfl (lv_at hl 3 rfl) ?_
    refine lv_iload_n hx hb dL_law_503 rfl (lv_at hl 0 rfl) ?_
    refine lv_iconst (v := 1) hx hb dL_law_504 (by decide) ?_
    refine lv_iadd hx hb dL_law_505 (tk_i (v := 1) (by decide +kernel) ?_)
    refine va_sld hx hb hX hbl hbA hS (vin (by decide +kernel)) dL_law_506 (tk_i (v := a1) ha1 ?_)
    refine kcall_i (D := (dC, dI)) (S := Unit) (v := (-9)) (wc := [(q1, .inr (11, [.ref q2, .ref q4, .ref q6, .ref q18, .ref q23, .ref q28, .ref q33, .ref q36, .ref q37, .ref q40, .ref q44, .ref q48, .int 0]))]) (wr := [(q49, .inr (12, [.int 0, .ref q50, .int 0, .ref q51, .int 0, .ref q52, .ref q53, .int 0, .ref q54, .int 0, .ref q55, .int (-9), .int 0, .int 0, .ref q56, .ref q57, .ref q58, .ref q59, .ref q60, .int 0, .ref q61, .ref q62, .ref q63, .int 0, .ref q64, .ref q65, .ref q66, .int 0, .ref q67]))]) (w1 := fun _ => []) (fun hPc hDc => va_runV (As := [.int a1]) (rest := []) ⟨hx, hb, hml, hown, hts⟩ (kX11_order_1 l dC dI cI c2 q1 q2 q4 q6 q18 q23 q28 q33 q36 q37 q40 q44 q48 H.size a1 (by omega) (by omega)) (cwV 1 hts gL_law_X11_order rfl rfl rfl (by decide +kernel) ⟨Nat.le_of_ble_eq_true rfl, Nat.le_of_ble_eq_true rfl⟩) (pre_V hPc hK hDc hN (ci := 11) (q0 := 0) rfl rfl) rfl rfl hl.1 rfl (lv_room (Nat.le_of_ble_eq_true rfl)) dL_law_507 ⟨Nat.le_of_ble_eq_true rfl, Nat.le_of_ble_eq_true rfl⟩) hP hD hS hA [0] [28] rfl rfl (by decide) (by decide) (by decide) (fun u H locs hP hD hS => ?_)
    have hP : va_P (dC, dI) vwCl [(q49, .inr (12, [.int 0, .ref q50, .int 0, .ref q51, .int 0, .ref q52, .ref q53, .int 0, .ref q54, .int 0, .ref q55, .int (-9), .int 0, .int 0, .ref q56, .ref q57, .ref q58, .ref q59, .ref q60, .int 0, .ref q61, .ref q62, .ref q63, .int 0, .ref q64, .ref q65, .ref q66, .int 0, .ref q67]))] H := hP
    have hD : va_D A [(q49, .inr (12, [.int 0, .ref q50, .int 0, .ref q51, .int 0, .ref q52, .ref q53, .int 0, .ref q54, .int 0, .ref q55, .int (-9), .int 0, .int 0, .ref q56, .ref q57, .ref q58, .ref q59, .ref q60, .int 0, .ref q61, .ref q62, .ref q63, .int 0, .ref q64, .ref q65, .ref q66, .int 0, .ref q67]))] := hD
    refine lv_aload_n hx hb dL_law_510 rfl (lv_at hl 1 rfl) ?_
    refine lv_aload_n hx hb dL_law_511 rfl (lv_at hl 3 rfl) ?_
    refine lv_iload_n hx hb dL_law_512 rfl (lv_at hl 0 rfl) ?_
    refine lv_iconst (v := 1) hx hb dL_law_513 (by decide) ?_
    refine lv_iadd hx hb dL_law_514 (tk_i (v := 1) (by decide +kernel) ?_)
    refine va_sld hx hb hX hbl hbA hS (vin (by decide +kernel)) dL_law_515 (tk_i (v := a1) ha1 ?_)
    refine kcall_i (D := (dC, dI)) (S := Unit) (v := (-9)) (wc := [(q49, .inr (12, [.int 0, .ref q50, .int 0, .ref q51, .int 0, .ref q52, .ref q53, .int 0, .ref q54, .int 0, .ref q55, .int (-9), .int 0, .int 0, .ref q56, .ref q57, .ref q58, .ref q59, .ref q60, .int 0, .ref q61, .ref q62, .ref q63, .int 0, .ref q64, .ref q65, .ref q66, .int 0, .ref q67]))]) (wr := []) (w1 := fun _ => []) (fun hPc hDc => va_runV (As := [.int a1]) (rest := [.int (-9)]) ⟨hx, hb, hml, hown, hts⟩ (kX12_order_1 l dC dI cI c2 q49 q50 q51 q52 q53 q54 q55 q56 q57 q58 q59 q60 q61 q62 q63 q64 q65 q66 q67 H.size a1 (by omega) (by omega)) (cwV 1 hts gL_law_X12_order rfl rfl rfl (by decide +kernel) ⟨Nat.le_of_ble_eq_true rfl, Nat.le_of_ble_eq_true rfl⟩) (pre_V hPc hK hDc hN (ci := 12) (q0 := 0) rfl rfl) rfl rfl hl.1 rfl (lv_room (Nat.le_of_ble_eq_true rfl)) dL_law_516 ⟨Nat.le_of_ble_eq_true rfl, Nat.le_of_ble_eq_true rfl⟩) hP hD hS hA [0] [] rfl rfl (by decide) (by decide) (by decide) (fun u H locs hP hD hS => ?_)
    have hP : va_P (dC, dI) vwCl [] H := hP
    have hD : va_D A [] := hD
    refine lv_icmp_eq (tgt := 1080) hx hb dL_law_519 (by decide) (fun _ => ?_) (fun h9 => absurd (by decide +kernel) h9)
    refine lv_iinc (v := 4) (lv' := [(3, .int 4), (2, .ref q49), (1, .ref q1), (0, .ref b)]) hx hb dL_law_1080 hl (k := 0) rfl (by decide +kernel) (by decide) rfl (fun ls hl => ?_)
    refine lv_goto (tgt := 18) hx hb dL_law_1083 (by decide) ?_
    refine lv_iload_n hx hb dL_law_18 rfl (lv_at hl 0 rfl) ?_
    refine lv_aload_n hx hb dL_law_19 rfl (lv_at hl 3 rfl) ?_
    refine va_slen hx hb hX hbl hbA hS dL_law_20 (tk_i (v := 4) (by decide +kernel) ?_)
    refine lv_iconst (v := 4) hx hb dL_law_21 (by decide) ?_
    refine lv_isub hx hb dL_law_22 (tk_i (v := 0) (by decide +kernel) ?_)
    refine lv_icmp_gt (tgt := 1086) hx hb dL_law_23 (by decide) (fun _ => ?_) (fun h9 => absurd (by decide +kernel) h9)
    refine lv_iconst (v := 1) hx hb dL_law_1086 (by decide) ?_
    refine va_forget (fun q hq => by have h9 := hS.2.2 q hq; rw [← hAe] at h9; exact h9) ?_
    refine W.widen (k := 600000) (n := 7302250) (by decide) (by decide) ?_
    exact lw_ret hx hb hr hlocks dL_law_1087
  ·
    refine lv_aload_n hx hb dL_law_501 rfl (lv_at hl 2 rfl) ?_
    refine lv_aload_n hx hb dL_law_502 rfl (lv_at hl 3 rfl) ?_
    refine lv_iload_n hx hb dL_law_503 rfl (lv_at hl 0 rfl) ?_
    refine lv_iconst (v := 1) hx hb dL_law_504 (by decide) ?_
    refine lv_iadd hx hb dL_law_505 (tk_i (v := 1) (by decide +kernel) ?_)
    refine va_sld hx hb hX hbl hbA hS (vin (by decide +kernel)) dL_law_506 (tk_i (v := a1) ha1 ?_)
    refine kcall_i (D := (dC, dI)) (S := Unit) (v := (-9)) (wc := [(q1, .inr (11, [.ref q2, .ref q4, .ref q6, .ref q18, .ref q23, .ref q28, .ref q33, .ref q36, .ref q37, .ref q40, .ref q44, .ref q48, .int 0])), (q6, .inr (6, [.ref q7, .ref q10, .ref q16, .ref q17, .int 0, .int 0, .int 0, .int 0, .int 0]))]) (wr := [(q49, .inr (12, [.int 0, .ref q50, .int 0, .ref q51, .int 0, .ref q52, .ref q53, .int 0, .ref q54, .int 0, .ref q55, .int (-9), .int 0, .int 0, .ref q56, .ref q57, .ref q58, .ref q59, .ref q60, .int 0, .ref q61, .ref q62, .ref q63, .int 0, .ref q64, .ref q65, .ref q66, .int 0, .ref q67]))]) (w1 := fun _ => []) (fun hPc hDc => va_runV (As := [.int a1]) (rest := []) ⟨hx, hb, hml, hown, hts⟩ (kX11_order_2 l dC dI cI c2 q1 q6 q2 q4 q18 q23 q28 q33 q36 q37 q40 q44 q48 q7 q10 q16 q17 H.size a1 (by omega) (by omega)) (cwV 1 hts gL_law_X11_order rfl rfl rfl (by decide +kernel) ⟨Nat.le_of_ble_eq_true rfl, Nat.le_of_ble_eq_true rfl⟩) (pre_V hPc hK hDc hN (ci := 11) (q0 := 0) rfl rfl) rfl rfl hl.1 rfl (lv_room (Nat.le_of_ble_eq_true rfl)) dL_law_507 ⟨Nat.le_of_ble_eq_true rfl, Nat.le_of_ble_eq_true rfl⟩) hP hD hS hA [0, 5] [28] rfl rfl (by decide) (by decide) (by decide) (fun u H locs hP hD hS => ?_)
    have hP : va_P (dC, dI) vwCl [(q49, .inr (12, [.int 0, .ref q50, .int 0, .ref q51, .int 0, .ref q52, .ref q53, .int 0, .ref q54, .int 0, .ref q55, .int (-9), .int 0, .int 0, .ref q56, .ref q57, .ref q58, .ref q59, .ref q60, .int 0, .ref q61, .ref q62, .ref q63, .int 0, .ref q64, .ref q65, .ref q66, .int 0, .ref q67]))] H := hP
    have hD : va_D A [(q49, .inr (12, [.int 0, .ref q50, .int 0, .ref q51, .int 0, .ref q52, .ref q53, .int 0, .ref q54, .int 0, .ref q55, .int (-9), .int 0, .int 0, .ref q56, .ref q57, .ref q58, .ref q59, .ref q60, .int 0, .ref q61, .ref q62, .ref q63, .int 0, .ref q64, .ref q65, .ref q66, .int 0, .ref q67]))] := hD
    refine lv_aload_n hx hb dL_law_510 rfl (lv_at hl 1 rfl) ?_
    refine lv_aload_n hx hb dL_law_511 rfl (lv_at hl 3 rfl) ?_
    refine lv_iload_n hx hb dL_law_512 rfl (lv_at hl 0 rfl) ?_
    refine lv_iconst (v := 1) hx hb dL_law_513 (by decide) ?_
    refine lv_iadd hx hb dL_law_514 (tk_i (v := 1) (by decide +kernel) ?_)
    refine va_sld hx hb hX hbl hbA hS (vin (by decide +kernel)) dL_law_515 (tk_i (v := a1) ha1 ?_)
    refine kcall_i (D := (dC, dI)) (S := Unit) (v := (-9)) (wc := [(q49, .inr (12, [.int 0, .ref q50, .int 0, .ref q51, .int 0, .ref q52, .ref q53, .int 0, .ref q54, .int 0, .ref q55, .int (-9), .int 0, .int 0, .ref q56, .ref q57, .ref q58, .ref q59, .ref q60, .int 0, .ref q61, .ref q62, .ref q63, .int 0, .ref q64, .ref q65, .ref q66, .int 0, .ref q67]))]) (wr := []) (w1 := fun _ => []) (fun hPc hDc => va_runV (As := [.int a1]) (rest := [.int (-9)]) ⟨hx, hb, hml, hown, hts⟩ (kX12_order_2 l dC dI cI c2 q49 q50 q51 q52 q53 q54 q55 q56 q57 q58 q59 q60 q61 q62 q63 q64 q65 q66 q67 H.size a1 (by omega) (by omega)) (cwV 1 hts gL_law_X12_order rfl rfl rfl (by decide +kernel) ⟨Nat.le_of_ble_eq_true rfl, Nat.le_of_ble_eq_true rfl⟩) (pre_V hPc hK hDc hN (ci := 12) (q0 := 0) rfl rfl) rfl rfl hl.1 rfl (lv_room (Nat.le_of_ble_eq_true rfl)) dL_law_516 ⟨Nat.le_of_ble_eq_true rfl, Nat.le_of_ble_eq_true rfl⟩) hP hD hS hA [0] [] rfl rfl (by decide) (by decide) (by decide) (fun u H locs hP hD hS => ?_)
    have hP : va_P (dC, dI) vwCl [] H := hP
    have hD : va_D A [] := hD
    refine lv_icmp_eq (tgt := 1080) hx hb dL_law_519 (by decide) (fun _ => ?_) (fun h9 => absurd (by decide +kernel) h9)
    refine lv_iinc (v := 4) (lv' := [(3, .int 4), (2, .ref q49), (1, .ref q1), (0, .ref b)]) hx hb dL_law_1080 hl (k := 0) rfl (by decide +kernel) (by decide) rfl (fun ls hl => ?_)
    refine lv_goto (tgt := 18) hx hb dL_law_1083 (by decide) ?_
    refine lv_iload_n hx hb dL_law_18 rfl (lv_at hl 0 rfl) ?_
    refine lv_aload_n hx hb dL_law_19 rfl (lv_at hl 3 rfl) ?_
    refine va_slen hx hb hX hbl hbA hS dL_law_20 (tk_i (v := 4) (by decide +kernel) ?_)
    refine lv_iconst (v := 4) hx hb dL_law_21 (by decide) ?_
    refine lv_isub hx hb dL_law_22 (tk_i (v := 0) (by decide +kernel) ?_)
    refine lv_icmp_gt (tgt := 1086) hx hb dL_law_23 (by decide) (fun _ => ?_) (fun h9 => absurd (by decide +kernel) h9)
    refine lv_iconst (v := 1) hx hb dL_law_1086 (by decide) ?_
    refine va_forget (fun q hq => by have h9 := hS.2.2 q hq; rw [← hAe] at h9; exact h9) ?_
    refine W.widen (k := 600000) (n := 7302250) (by decide) (by decide) ?_
    exact lw_ret hx hb hr hlocks dL_law_1087
set_option maxHeartbeats 8000000 in
set_option maxRecDepth 100000 in
theorem lc_14 {p : Program} {e : Env} {s : State} {m : MethodId} {below : List Frame} {meth : Method} {c : Code} (l : Launch) {b : Nat} {xs : Nat → Int32} (C0 : lw_At p s m meth c b 4 xs) (dC : Nat → ClassId) (dI : Nat → Nat → Nat) (cI c2 : ClassId) (q1 : Nat) (q2 : Nat) (q3 : Nat) (q4 : Nat) (q5 : Nat) (q6 : Nat) (q7 : Nat) (q8 : Nat) (r9 : Nat → Nat) (q10 : Nat) (q11 : Nat) (q12 : Nat) (r13 : Nat → Nat) (q14 : Nat) (q15 : Nat) (q16 : Nat) (q17 : Nat) (q18 : Nat) (q19 : Nat) (q20 : Nat) (r21 : Nat → Nat) (q22 : Nat) (q23 : Nat) (q24 : Nat) (q25 : Nat) (q26 : Nat) (q27 : Nat) (q28 : Nat) (q29 : Nat) (q30 : Nat) (q31 : Nat) (q32 : Nat) (q33 : Nat) (q34 : Nat) (q35 : Nat) (q36 : Nat) (q37 : Nat) (q38 : Nat) (q39 : Nat) (q40 : Nat) (q41 : Nat) (q42 : Nat) (q43 : Nat) (q44 : Nat) (q45 : Nat) (q46 : Nat) (q47 : Nat) (q48 : Nat) (q49 : Nat) (q50 : Nat) (q51 : Nat) (q52 : Nat) (q53 : Nat) (q54 : Nat) (q55 : Nat) (q56 : Nat) (q57 : Nat) (q58 : Nat) (q59 : Nat) (q60 : Nat) (q61 : Nat) (q62 : Nat) (q63 : Nat) (q64 : Nat) (q65 : Nat) (q66 : Nat) (q67 : Nat) (a1 a2 a3 : Int32) (ha1 : xs (Int32.toNatClampNeg 1) = a1) (ha2 : xs (Int32.toNatClampNeg 2) = a2) (ha3 : xs (Int32.toNatClampNeg 3) = a3) (hK : va_K (dC, dI) vwCl [(cI, .int), (c2, .array .int)] s) (hN : nsAll s) (H : Heap) (locs : List Loc) (hP : va_P (dC, dI) vwCl [(q1, .inr (11, [.ref q2, .ref q4, .ref q6, .ref q18, .ref q23, .ref q28, .ref q33, .ref q36, .ref q37, .ref q40, .ref q44, .ref q48, .int 0])), (q2, .inr (4, [.ref q3, .int 0, .int 0])), (q3, .inl (cI, 12, .inl (fun _ => 0))), (q4, .inr (10, [.ref q5, .int 0, .int 0])), (q5, .inl (cI, 12, .inl (fun _ => (-1)))), (q6, .inr (6, [.ref q7, .ref q10, .ref q16, .ref q17, .int 0, .int 0, .int 0, .int 0, .int 0])), (q7, .inr (3, [.ref q8, .int 0])), (q8, .inl (c2, 13, .inr (.inr (.inr (.inr (fun i => if i < 13 then some (r9 i) else none)))))), (r9 0, .inl (cI, 12, .inl (fun _ => 0))), (q10, .inr (5, [.ref q11, .ref q14, .ref q15, .int 0, .int 0, .int 0])), (q11, .inr (3, [.ref q12, .int 0])), (q12, .inl (c2, 13, .inr (.inr (.inr (.inr (fun i => if i < 13 then some (r13 i) else none)))))), (r13 0, .inl (cI, 12, .inl (fun _ => 0))), (q14, .inl (cI, 4096, .inl (fun _ => 0))), (q18, .inr (9, [.ref q19, .ref q22, .int 0, .int (-1)])), (q19, .inr (3, [.ref q20, .int 0])), (q20, .inl (c2, 13, .inr (.inr (.inr (.inr (fun i => if i < 13 then some (r21 i) else none)))))), (r21 0, .inl (cI, 12, .inl (fun _ => 0))), (q23, .inr (1, [.int 0, .ref q24, .ref q25, .ref q26, .ref q27, .int 0, .int (-1), .int (-1)])), (q28, .inr (1, [.int 1, .ref q29, .ref q30, .ref q31, .ref q32, .int 0, .int (-1), .int (-1)])), (q33, .inr (7, [.ref q34, .ref q35, .int 0, .int (-1)])), (q35, .inl (cI, 12, .inl (fun _ => 0))), (q37, .inr (2, [.ref q38, .ref q39, .int 0, .int (-1)])), (q40, .inr (0, [.ref q42, .ref q41, .ref q43, .int 0, .int 0, .int 0, .int 0, .int (-1)])), (q42, .inl (cI, 4096, .inl (fun _ => 0))), (q44, .inr (0, [.ref q46, .ref q45, .ref q47, .int 0, .int 0, .int 0, .int 0, .int (-1)])), (q46, .inl (cI, 256, .inl (fun _ => 0))), (q48, .inl (cI, 5, .inl (fun _ => 0))), (q49, .inr (12, [.int 0, .ref q50, .int 0, .ref q51, .int 0, .ref q52, .ref q53, .int 0, .ref q54, .int 0, .ref q55, .int (-9), .int 0, .int 0, .ref q56, .ref q57, .ref q58, .ref q59, .ref q60, .int 0, .ref q61, .ref q62, .ref q63, .int 0, .ref q64, .ref q65, .ref q66, .int 0, .ref q67])), (q50, .inl (cI, 5, .inl (fun _ => 0))), (q51, .inl (cI, 12, .inl (fun _ => 0))), (q52, .inl (cI, 12, .inl (fun _ => (-9)))), (q56, .inl (cI, 12, .inl (fun _ => 0))), (q57, .inl (cI, 12, .inl (fun _ => 0))), (q58, .inl (cI, 49152, .inl (fun _ => 0))), (q59, .inl (cI, 4096, .inl (fun _ => 0))), (q67, .inl (cI, 12, .inl (fun _ => 0)))] H) (hD : va_D (fun q : Nat => s.heap.size ≤ q) [(q1, .inr (11, [.ref q2, .ref q4, .ref q6, .ref q18, .ref q23, .ref q28, .ref q33, .ref q36, .ref q37, .ref q40, .ref q44, .ref q48, .int 0])), (q2, .inr (4, [.ref q3, .int 0, .int 0])), (q3, .inl (cI, 12, .inl (fun _ => 0))), (q4, .inr (10, [.ref q5, .int 0, .int 0])), (q5, .inl (cI, 12, .inl (fun _ => (-1)))), (q6, .inr (6, [.ref q7, .ref q10, .ref q16, .ref q17, .int 0, .int 0, .int 0, .int 0, .int 0])), (q7, .inr (3, [.ref q8, .int 0])), (q8, .inl (c2, 13, .inr (.inr (.inr (.inr (fun i => if i < 13 then some (r9 i) else none)))))), (r9 0, .inl (cI, 12, .inl (fun _ => 0))), (q10, .inr (5, [.ref q11, .ref q14, .ref q15, .int 0, .int 0, .int 0])), (q11, .inr (3, [.ref q12, .int 0])), (q12, .inl (c2, 13, .inr (.inr (.inr (.inr (fun i => if i < 13 then some (r13 i) else none)))))), (r13 0, .inl (cI, 12, .inl (fun _ => 0))), (q14, .inl (cI, 4096, .inl (fun _ => 0))), (q18, .inr (9, [.ref q19, .ref q22, .int 0, .int (-1)])), (q19, .inr (3, [.ref q20, .int 0])), (q20, .inl (c2, 13, .inr (.inr (.inr (.inr (fun i => if i < 13 then some (r21 i) else none)))))), (r21 0, .inl (cI, 12, .inl (fun _ => 0))), (q23, .inr (1, [.int 0, .ref q24, .ref q25, .ref q26, .ref q27, .int 0, .int (-1), .int (-1)])), (q28, .inr (1, [.int 1, .ref q29, .ref q30, .ref q31, .ref q32, .int 0, .int (-1), .int (-1)])), (q33, .inr (7, [.ref q34, .ref q35, .int 0, .int (-1)])), (q35, .inl (cI, 12, .inl (fun _ => 0))), (q37, .inr (2, [.ref q38, .ref q39, .int 0, .int (-1)])), (q40, .inr (0, [.ref q42, .ref q41, .ref q43, .int 0, .int 0, .int 0, .int 0, .int (-1)])), (q42, .inl (cI, 4096, .inl (fun _ => 0))), (q44, .inr (0, [.ref q46, .ref q45, .ref q47, .int 0, .int 0, .int 0, .int 0, .int (-1)])), (q46, .inl (cI, 256, .inl (fun _ => 0))), (q48, .inl (cI, 5, .inl (fun _ => 0))), (q49, .inr (12, [.int 0, .ref q50, .int 0, .ref q51, .int 0, .ref q52, .ref q53, .int 0, .ref q54, .int 0, .ref q55, .int (-9), .int 0, .int 0, .ref q56, .ref q57, .ref q58, .ref q59, .ref q60, .int 0, .ref q61, .ref q62, .ref q63, .int 0, .ref q64, .ref q65, .ref q66, .int 0, .ref q67])), (q50, .inl (cI, 5, .inl (fun _ => 0))), (q51, .inl (cI, 12, .inl (fun _ => 0))), (q52, .inl (cI, 12, .inl (fun _ => (-9)))), (q56, .inl (cI, 12, .inl (fun _ => 0))), (q57, .inl (cI, 12, .inl (fun _ => 0))), (q58, .inl (cI, 49152, .inl (fun _ => 0))), (q59, .inl (cI, 4096, .inl (fun _ => 0))), (q67, .inl (cI, 12, .inl (fun _ => 0)))]) (hS : va_S (fun q : Nat => s.heap.size ≤ q) s.heap H locs) (ls : Array Slot) (hl : lv_has ls 4 [(3, .int 0), (2, .ref q49), (1, .ref q1), (0, .ref b)]) : W p l e room_1 s m #[Value.ref b] below meth c H locs 128 161896 (lw_Z below #[Value.ref b] s) (F0 m 524 ls []) := by
  obtain ⟨hx, hb, hr, hml, hown0, hts0, hX, hbl, hlocks, hgv⟩ := id C0
  have hown : s.vm.findClass RL = some m.cls := hown0
  have hts : ∀ w ∈ wsL_law, w.before #[Value.ref b] s = true := fun w h => hts0 w (wsL_law_in w h)
  have hA : ∀ q : Nat, s.heap.size ≤ q → (fun q : Nat => s.heap.size ≤ q) q := fun _ h => h
  have hbA : ¬ (fun q : Nat => s.heap.size ≤ q) b := Nat.not_le.mpr hbl
  generalize hAe : (fun q : Nat => s.heap.size ≤ q) = A at hD hS hA hbA
  have a1_rg := i_rng a1
  have a2_rg := i_rng a2
  have a3_rg := i_rng a3
  obtain ⟨a1_l, a1_h⟩ := a1_rg
  obtain ⟨a2_l, a2_h⟩ := a2_rg
  obtain ⟨a3_l, a3_h⟩ := a3_rg
  rcases (show a1.toInt ≤ (-1) ∨ 0 ≤ a1.toInt by omega) with g_a1_0 | g_a1_0
  ·
    refine lv_aload_n hx hb dL_law_524 rfl (lv_at hl 2 rfl) ?_
    refine lv_aload_n hx hb dL_law_525 rfl (lv_at hl 3 rfl) ?_
    refine lv_iload_n hx hb dL_law_526 rfl (lv_at hl 0 rfl) ?_
    refine lv_iconst (v := 1) hx hb dL_law_527 (by decide) ?_
    refine lv_iadd hx hb dL_law_528 (tk_i (v := 1) (by decide +kernel) ?_)
    refine va_sld hx hb hX hbl hbA hS (vin (by decide +kernel)) dL_law_529 (tk_i (v := a1) ha1 ?_)
    refine kcall_i (D := (dC, dI)) (S := Unit) (v := (-1)) (wc := [(q1, .inr (11, [.ref q2, .ref q4, .ref q6, .ref q18, .ref q23, .ref q28, .ref q33, .ref q36, .ref q37, .ref q40, .ref q44, .ref q48, .int 0]))]) (wr := [(q49, .inr (12, [.int 0, .ref q50, .int 0, .ref q51, .int 0, .ref q52, .ref q53, .int 0, .ref q54, .int 0, .ref q55, .int (-9), .int 0, .int 0, .ref q56, .ref q57, .ref q58, .ref q59, .ref q60, .int 0, .ref q61, .ref q62, .ref q63, .int 0, .ref q64, .ref q65, .ref q66, .int 0, .ref q67]))]) (w1 := fun _ => []) (fun hPc hDc => va_runV (As := [.int a1]) (rest := []) ⟨hx, hb, hml, hown, hts⟩ (kX11_about_1 l dC dI cI c2 q1 q2 q4 q6 q18 q23 q28 q33 q36 q37 q40 q44 q48 H.size a1 (by omega) (by omega)) (cwV 1 hts gL_law_X11_about rfl rfl rfl (by decide +kernel) ⟨Nat.le_of_ble_eq_true rfl, Nat.le_of_ble_eq_true rfl⟩) (pre_V hPc hK hDc hN (ci := 11) (q0 := 0) rfl rfl) rfl rfl hl.1 rfl (lv_room (Nat.le_of_ble_eq_true rfl)) dL_law_530 ⟨Nat.le_of_ble_eq_true rfl, Nat.le_of_ble_eq_true rfl⟩) hP hD hS hA [0] [28] rfl rfl (by decide) (by decide) (by decide) (fun u H locs hP hD hS => ?_)
    have hP : va_P (dC, dI) vwCl [(q49, .inr (12, [.int 0, .ref q50, .int 0, .ref q51, .int 0, .ref q52, .ref q53, .int 0, .ref q54, .int 0, .ref q55, .int (-9), .int 0, .int 0, .ref q56, .ref q57, .ref q58, .ref q59, .ref q60, .int 0, .ref q61, .ref q62, .ref q63, .int 0, .ref q64, .ref q65, .ref q66, .int 0, .ref q67]))] H := hP
    have hD : va_D A [(q49, .inr (12, [.int 0, .ref q50, .int 0, .ref q51, .int 0, .ref q52, .ref q53, .int 0, .ref q54, .int 0, .ref q55, .int (-9), .int 0, .int 0, .ref q56, .ref q57, .ref q58, .ref q59, .ref q60, .int 0, .ref q61, .ref q62, .ref q63, .int 0, .ref q64, .ref q65, .ref q66, .int 0, .ref q67]))] := hD
    refine lv_aload_n hx hb dL_law_533 rfl (lv_at hl 1 rfl) ?_
    refine lv_aload_n hx hb dL_law_534 rfl (lv_at hl 3 rfl) ?_
    refine lv_iload_n hx hb dL_law_535 rfl (lv_at hl 0 rfl) ?_
    refine lv_iconst (v := 1) hx hb dL_law_536 (by decide) ?_
    refine lv_iadd hx hb dL_law_537 (tk_i (v := 1) (by decide +kernel) ?_)
    refine va_sld hx hb hX hbl hbA hS (vin (by decide +kernel)) dL_law_538 (tk_i (v := a1) ha1 ?_)
    refine kcall_i (D := (dC, dI)) (S := Unit) (v := (-1)) (wc := [(q49, .inr (12, [.int 0, .ref q50, .int 0, .ref q51, .int 0, .ref q52, .ref q53, .int 0, .ref q54, .int 0, .ref q55, .int (-9), .int 0, .int 0, .ref q56, .ref q57, .ref q58, .ref q59, .ref q60, .int 0, .ref q61, .ref q62, .ref q63, .int 0, .ref q64, .ref q65, .ref q66, .int 0, .ref q67]))]) (wr := []) (w1 := fun _ => []) (fun hPc hDc => va_runV (As := [.int a1]) (rest := [.int (-1)]) ⟨hx, hb, hml, hown, hts⟩ (kX12_about_1 l dC dI cI c2 q49 q50 q51 q52 q53 q54 q55 q56 q57 q58 q59 q60 q61 q62 q63 q64 q65 q66 q67 H.size a1 (by omega) (by omega)) (cwV 1 hts gL_law_X12_about rfl rfl rfl (by decide +kernel) ⟨Nat.le_of_ble_eq_true rfl, Nat.le_of_ble_eq_true rfl⟩) (pre_V hPc hK hDc hN (ci := 12) (q0 := 0) rfl rfl) rfl rfl hl.1 rfl (lv_room (Nat.le_of_ble_eq_true rfl)) dL_law_539 ⟨Nat.le_of_ble_eq_true rfl, Nat.le_of_ble_eq_true rfl⟩) hP hD hS hA [0] [] rfl rfl (by decide) (by decide) (by decide) (fun u H locs hP hD hS => ?_)
    have hP : va_P (dC, dI) vwCl [] H := hP
    have hD : va_D A [] := hD
    refine lv_icmp_eq (tgt := 1080) hx hb dL_law_542 (by decide) (fun _ => ?_) (fun h9 => absurd (by decide +kernel) h9)
    refine lv_iinc (v := 4) (lv' := [(3, .int 4), (2, .ref q49), (1, .ref q1), (0, .ref b)]) hx hb dL_law_1080 hl (k := 0) rfl (by decide +kernel) (by decide) rfl (fun ls hl => ?_)
    refine lv_goto (tgt := 18) hx hb dL_law_1083 (by decide) ?_
    refine lv_iload_n hx hb dL_law_18 rfl (lv_at hl 0 rfl) ?_
    refine lv_aload_n hx hb dL_law_19 rfl (lv_at hl 3 rfl) ?_
    refine va_slen hx hb hX hbl hbA hS dL_law_20 (tk_i (v := 4) (by decide +kernel) ?_)
    refine lv_iconst (v := 4) hx hb dL_law_21 (by decide) ?_
    refine lv_isub hx hb dL_law_22 (tk_i (v := 0) (by decide +kernel) ?_)
    refine lv_icmp_gt (tgt := 1086) hx hb dL_law_23 (by decide) (fun _ => ?_) (fun h9 => absurd (by decide +kernel) h9)
    refine lv_iconst (v := 1) hx hb dL_law_1086 (by decide) ?_
    refine va_forget (fun q hq => by have h9 := hS.2.2 q hq; rw [← hAe] at h9; exact h9) ?_
    refine W.widen (k := 600000) (n := 7302250) (by decide) (by decide) ?_
    exact lw_ret hx hb hr hlocks dL_law_1087
  ·
    rcases (show a1.toInt ≤ 2 ∨ 3 ≤ a1.toInt by omega) with g_a1_3 | g_a1_3
    ·
      refine lv_aload_n hx hb dL_law_524 rfl (lv_at hl 2 rfl) ?_
      refine lv_aload_n hx hb dL_law_525 rfl (lv_at hl 3 rfl) ?_
      refine lv_iload_n hx hb dL_law_526 rfl (lv_at hl 0 rfl) ?_
      refine lv_iconst (v := 1) hx hb dL_law_527 (by decide) ?_
      refine lv_iadd hx hb dL_law_528 (tk_i (v := 1) (by decide +kernel) ?_)
      refine va_sld hx hb hX hbl hbA hS (vin (by decide +kernel)) dL_law_529 (tk_i (v := a1) ha1 ?_)
      refine kcall_i (D := (dC, dI)) (S := Unit) (v := (-9)) (wc := [(q1, .inr (11, [.ref q2, .ref q4, .ref q6, .ref q18, .ref q23, .ref q28, .ref q33, .ref q36, .ref q37, .ref q40, .ref q44, .ref q48, .int 0])), (q6, .inr (6, [.ref q7, .ref q10, .ref q16, .ref q17, .int 0, .int 0, .int 0, .int 0, .int 0]))]) (wr := [(q49, .inr (12, [.int 0, .ref q50, .int 0, .ref q51, .int 0, .ref q52, .ref q53, .int 0, .ref q54, .int 0, .ref q55, .int (-9), .int 0, .int 0, .ref q56, .ref q57, .ref q58, .ref q59, .ref q60, .int 0, .ref q61, .ref q62, .ref q63, .int 0, .ref q64, .ref q65, .ref q66, .int 0, .ref q67]))]) (w1 := fun _ => []) (fun hPc hDc => va_runV (As := [.int a1]) (rest := []) ⟨hx, hb, hml, hown, hts⟩ (kX11_about_2 l dC dI cI c2 q1 q6 q2 q4 q18 q23 q28 q33 q36 q37 q40 q44 q48 q7 q10 q16 q17 H.size a1 (by omega) (by omega)) (cwV 1 hts gL_law_X11_about rfl rfl rfl (by decide +kernel) ⟨Nat.le_of_ble_eq_true rfl, Nat.le_of_ble_eq_true rfl⟩) (pre_V hPc hK hDc hN (ci := 11) (q0 := 0) rfl rfl) rfl rfl hl.1 rfl (lv_room (Nat.le_of_ble_eq_true rfl)) dL_law_530 ⟨Nat.le_of_ble_eq_true rfl, Nat.le_of_ble_eq_true rfl⟩) hP hD hS hA [0, 5] [28] rfl rfl (by decide) (by decide) (by decide) (fun u H locs hP hD hS => ?_)
      have hP : va_P (dC, dI) vwCl [(q49, .inr (12, [.int 0, .ref q50, .int 0, .ref q51, .int 0, .ref q52, .ref q53, .int 0, .ref q54, .int 0, .ref q55, .int (-9), .int 0, .int 0, .ref q56, .ref q57, .ref q58, .ref q59, .ref q60, .int 0, .ref q61, .ref q62, .ref q63, .int 0, .ref q64, .ref q65, .ref q66, .int 0, .ref q67]))] H := hP
      have hD : va_D A [(q49, .inr (12, [.int 0, .ref q50, .int 0, .ref q51, .int 0, .ref q52, .ref q53, .int 0, .ref q54, .int 0, .ref q55, .int (-9), .int 0, .int 0, .ref q56, .ref q57, .ref q58, .ref q59, .ref q60, .int 0, .ref q61, .ref q62, .ref q63, .int 0, .ref q64, .ref q65, .ref q66, .int 0, .ref q67]))] := hD
      refine lv_aload_n hx hb dL_law_533 rfl (lv_at hl 1 rfl) ?_
      refine lv_aload_n hx hb dL_law_534 rfl (lv_at hl 3 rfl) ?_
      refine lv_iload_n hx hb dL_law_535 rfl (lv_at hl 0 rfl) ?_
      refine lv_iconst (v := 1) hx hb dL_law_536 (by decide) ?_
      refine lv_iadd hx hb dL_law_537 (tk_i (v := 1) (by decide +kernel) ?_)
      refine va_sld hx hb hX hbl hbA hS (vin (by decide +kernel)) dL_law_538 (tk_i (v := a1) ha1 ?_)
      refine kcall_i (D := (dC, dI)) (S := Unit) (v := (-9)) (wc := [(q49, .inr (12, [.int 0, .ref q50, .int 0, .ref q51, .int 0, .ref q52, .ref q53, .int 0, .ref q54, .int 0, .ref q55, .int (-9), .int 0, .int 0, .ref q56, .ref q57, .ref q58, .ref q59, .ref q60, .int 0, .ref q61, .ref q62, .ref q63, .int 0, .ref q64, .ref q65, .ref q66, .int 0, .ref q67]))]) (wr := []) (w1 := fun _ => []) (fun hPc hDc => va_runV (As := [.int a1]) (rest := [.int (-9)]) ⟨hx, hb, hml, hown, hts⟩ (kX12_about_2 l dC dI cI c2 q49 q50 q51 q52 q53 q54 q55 q56 q57 q58 q59 q60 q61 q62 q63 q64 q65 q66 q67 H.size a1 (by omega) (by omega)) (cwV 1 hts gL_law_X12_about rfl rfl rfl (by decide +kernel) ⟨Nat.le_of_ble_eq_true rfl, Nat.le_of_ble_eq_true rfl⟩) (pre_V hPc hK hDc hN (ci := 12) (q0 := 0) rfl rfl) rfl rfl hl.1 rfl (lv_room (Nat.le_of_ble_eq_true rfl)) dL_law_539 ⟨Nat.le_of_ble_eq_true rfl, Nat.le_of_ble_eq_true rfl⟩) hP hD hS hA [0] [] rfl rfl (by decide) (by decide) (by decide) (fun u H locs hP hD hS => ?_)
      have hP : va_P (dC, dI) vwCl [] H := hP
      have hD : va_D A [] := hD
      refine lv_icmp_eq (tgt := 1080) hx hb dL_law_542 (by decide) (fun _ => ?_) (fun h9 => absurd (by decide +kernel) h9)
      refine lv_iinc (v := 4) (lv' := [(3, .int 4), (2, .ref q49), (1, .ref q1), (0, .ref b)]) hx hb dL_law_1080 hl (k := 0) rfl (by decide +kernel) (by decide) rfl (fun ls hl => ?_)
      refine lv_goto (tgt := 18) hx hb dL_law_1083 (by decide) ?_
      refine lv_iload_n hx hb dL_law_18 rfl (lv_at hl 0 rfl) ?_
      refine lv_aload_n hx hb dL_law_19 rfl (lv_at hl 3 rfl) ?_
      refine va_slen hx hb hX hbl hbA hS dL_law_20 (tk_i (v := 4) (by decide +kernel) ?_)
      refine lv_iconst (v := 4) hx hb dL_law_21 (by decide) ?_
      refine lv_isub hx hb dL_law_22 (tk_i (v := 0) (by decide +kernel) ?_)
      refine lv_icmp_gt (tgt := 1086) hx hb dL_law_23 (by decide) (fun _ => ?_) (fun h9 => absurd (by decide +kernel) h9)
      refine lv_iconst (v := 1) hx hb dL_law_1086 (by decide) ?_
      refine va_forget (fun q hq => by have h9 := hS.2.2 q hq; rw [← hAe] at h9; exact h9) ?_
      refine W.widen (k := 600000) (n := 7302250) (by decide) (by decide) ?_
      exact lw_ret hx hb hr hlocks dL_law_1087
    ·
      refine lv_aload_n hx hb dL_law_524 rfl (lv_at hl 2 rfl) ?_
      refine lv_aload_n hx hb dL_law_525 rfl (lv_at hl 3 rfl) ?_
      refine lv_iload_n hx hb dL_law_526 rfl (lv_at hl 0 rfl) ?_
      refine lv_iconst (v := 1) hx hb dL_law_527 (by decide) ?_
      refine lv_iadd hx hb dL_law_528 (tk_i (v := 1) (by decide +kernel) ?_)
      refine va_sld hx hb hX hbl hbA hS (vin (by decide +kernel)) dL_law_529 (tk_i (v := a1) ha1 ?_)
      refine kcall_i (D := (dC, dI)) (S := Unit) (v := (-1)) (wc := [(q1, .inr (11, [.ref q2, .ref q4, .ref q6, .ref q18, .ref q23, .ref q28, .ref q33, .ref q36, .ref q37, .ref q40, .ref q44, .ref q48, .int 0]))]) (wr := [(q49, .inr (12, [.int 0, .ref q50, .int 0, .ref q51, .int 0, .ref q52, .ref q53, .int 0, .ref q54, .int 0, .ref q55, .int (-9), .int 0, .int 0, .ref q56, .ref q57, .ref q58, .ref q59, .ref q60, .int 0, .ref q61, .ref q62, .ref q63, .int 0, .ref q64, .ref q65, .ref q66, .int 0, .ref q67]))]) (w1 := fun _ => []) (fun hPc hDc => va_runV (As := [.int a1]) (rest := []) ⟨hx, hb, hml, hown, hts⟩ (kX11_about_3 l dC dI cI c2 q1 q2 q4 q6 q18 q23 q28 q33 q36 q37 q40 q44 q48 H.size a1 (by omega) (by omega)) (cwV 1 hts gL_law_X11_about rfl rfl rfl (by decide +kernel) ⟨Nat.le_of_ble_eq_true rfl, Nat.le_of_ble_eq_true rfl⟩) (pre_V hPc hK hDc hN (ci := 11) (q0 := 0) rfl rfl) rfl rfl hl.1 rfl (lv_room (Nat.le_of_ble_eq_true rfl)) dL_law_530 ⟨Nat.le_of_ble_eq_true rfl, Nat.le_of_ble_eq_true rfl⟩) hP hD hS hA [0] [28] rfl rfl (by decide) (by decide) (by decide) (fun u H locs hP hD hS => ?_)
      have hP : va_P (dC, dI) vwCl [(q49, .inr (12, [.int 0, .ref q50, .int 0, .ref q51, .int 0, .ref q52, .ref q53, .int 0, .ref q54, .int 0, .ref q55, .int (-9), .int 0, .int 0, .ref q56, .ref q57, .ref q58, .ref q59, .ref q60, .int 0, .ref q61, .ref q62, .ref q63, .int 0, .ref q64, .ref q65, .ref q66, .int 0, .ref q67]))] H := hP
      have hD : va_D A [(q49, .inr (12, [.int 0, .ref q50, .int 0, .ref q51, .int 0, .ref q52, .ref q53, .int 0, .ref q54, .int 0, .ref q55, .int (-9), .int 0, .int 0, .ref q56, .ref q57, .ref q58, .ref q59, .ref q60, .int 0, .ref q61, .ref q62, .ref q63, .int 0, .ref q64, .ref q65, .ref q66, .int 0, .ref q67]))] := hD
      refine lv_aload_n hx hb dL_law_533 rfl (lv_at hl 1 rfl) ?_
      refine lv_aload_n hx hb dL_law_534 rfl (lv_at hl 3 rfl) ?_
      refine lv_iload_n hx hb dL_law_535 rfl (lv_at hl 0 rfl) ?_
      refine lv_iconst (v := 1) hx hb dL_law_536 (by decide) ?_
      refine lv_iadd hx hb dL_law_537 (tk_i (v := 1) (by decide +kernel) ?_)
      refine va_sld hx hb hX hbl hbA hS (vin (by decide +kernel)) dL_law_538 (tk_i (v := a1) ha1 ?_)
      refine kcall_i (D := (dC, dI)) (S := Unit) (v := (-1)) (wc := [(q49, .inr (12, [.int 0, .ref q50, .int 0, .ref q51, .int 0, .ref q52, .ref q53, .int 0, .ref q54, .int 0, .ref q55, .int (-9), .int 0, .int 0, .ref q56, .ref q57, .ref q58, .ref q59, .ref q60, .int 0, .ref q61, .ref q62, .ref q63, .int 0, .ref q64, .ref q65, .ref q66, .int 0, .ref q67]))]) (wr := []) (w1 := fun _ => []) (fun hPc hDc => va_runV (As := [.int a1]) (rest := [.int (-1)]) ⟨hx, hb, hml, hown, hts⟩ (kX12_about_3 l dC dI cI c2 q49 q50 q51 q52 q53 q54 q55 q56 q57 q58 q59 q60 q61 q62 q63 q64 q65 q66 q67 H.size a1 (by omega) (by omega)) (cwV 1 hts gL_law_X12_about rfl rfl rfl (by decide +kernel) ⟨Nat.le_of_ble_eq_true rfl, Nat.le_of_ble_eq_true rfl⟩) (pre_V hPc hK hDc hN (ci := 12) (q0 := 0) rfl rfl) rfl rfl hl.1 rfl (lv_room (Nat.le_of_ble_eq_true rfl)) dL_law_539 ⟨Nat.le_of_ble_eq_true rfl, Nat.le_of_ble_eq_true rfl⟩) hP hD hS hA [0] [] rfl rfl (by decide) (by decide) (by decide) (fun u H locs hP hD hS => ?_)
      have hP : va_P (dC, dI) vwCl [] H := hP
      have hD : va_D A [] := hD
      refine lv_icmp_eq (tgt := 1080) hx hb dL_law_542 (by decide) (fun _ => ?_) (fun h9 => absurd (by decide +kernel) h9)
      refine lv_iinc (v := 4) (lv' := [(3, .int 4), (2, .ref q49), (1, .ref q1), (0, .ref b)]) hx hb dL_law_1080 hl (k := 0) rfl (by decide +kernel) (by decide) rfl (fun ls hl => ?_)
      refine lv_goto (tgt := 18) hx hb dL_law_1083 (by decide) ?_
      refine lv_iload_n hx hb dL_law_18 rfl (lv_at hl 0 rfl) ?_
      refine lv_aload_n hx hb dL_law_19 rfl (lv_at hl 3 rfl) ?_
      refine va_slen hx hb hX hbl hbA hS dL_law_20 (tk_i (v := 4) (by decide +kernel) ?_)
      refine lv_iconst (v := 4) hx hb dL_law_21 (by decide) ?_
      refine lv_isub hx hb dL_law_22 (tk_i (v := 0) (by decide +kernel) ?_)
      refine lv_icmp_gt (tgt := 1086) hx hb dL_law_23 (by decide) (fun _ => ?_) (fun h9 => absurd (by decide +kernel) h9)
      refine lv_iconst (v := 1) hx hb dL_law_1086 (by decide) ?_
      refine va_forget (fun q hq => by have h9 := hS.2.2 q hq; rw [← hAe] at h9; exact h9) ?_
      refine W.widen (k := 600000) (n := 7302250) (by decide) (by decide) ?_
      exact lw_ret hx hb hr hlocks dL_law_1087
set_option maxHeartbeats 8000000 in
set_option maxRecDepth 100000 in
theorem lc_15 {p : Program} {e : Env} {s : State} {m : MethodId} {below : List Frame} {meth : Method} {c : Code} (l : Launch) {b : Nat} {xs : Nat → Int32} (C0 : lw_At p s m meth c b 4 xs) (dC : Nat → ClassId) (dI : Nat → Nat → Nat) (cI c2 : ClassId) (q1 : Nat) (q2 : Nat) (q3 : Nat) (q4 : Nat) (q5 : Nat) (q6 : Nat) (q7 : Nat) (q8 : Nat) (r9 : Nat → Nat) (q10 : Nat) (q11 : Nat) (q12 : Nat) (r13 : Nat → Nat) (q14 : Nat) (q15 : Nat) (q16 : Nat) (q17 : Nat) (q18 : Nat) (q19 : Nat) (q20 : Nat) (r21 : Nat → Nat) (q22 : Nat) (q23 : Nat) (q24 : Nat) (q25 : Nat) (q26 : Nat) (q27 : Nat) (q28 : Nat) (q29 : Nat) (q30 : Nat) (q31 : Nat) (q32 : Nat) (q33 : Nat) (q34 : Nat) (q35 : Nat) (q36 : Nat) (q37 : Nat) (q38 : Nat) (q39 : Nat) (q40 : Nat) (q41 : Nat) (q42 : Nat) (q43 : Nat) (q44 : Nat) (q45 : Nat) (q46 : Nat) (q47 : Nat) (q48 : Nat) (q49 : Nat) (q50 : Nat) (q51 : Nat) (q52 : Nat) (q53 : Nat) (q54 : Nat) (q55 : Nat) (q56 : Nat) (q57 : Nat) (q58 : Nat) (q59 : Nat) (q60 : Nat) (q61 : Nat) (q62 : Nat) (q63 : Nat) (q64 : Nat) (q65 : Nat) (q66 : Nat) (q67 : Nat) (a1 a2 a3 : Int32) (ha1 : xs (Int32.toNatClampNeg 1) = a1) (ha2 : xs (Int32.toNatClampNeg 2) = a2) (ha3 : xs (Int32.toNatClampNeg 3) = a3) (hK : va_K (dC, dI) vwCl [(cI, .int), (c2, .array .int)] s) (hN : nsAll s) (H : Heap) (locs : List Loc) (hP : va_P (dC, dI) vwCl [(q1, .inr (11, [.ref q2, .ref q4, .ref q6, .ref q18, .ref q23, .ref q28, .ref q33, .ref q36, .ref q37, .ref q40, .ref q44, .ref q48, .int 0])), (q2, .inr (4, [.ref q3, .int 0, .int 0])), (q3, .inl (cI, 12, .inl (fun _ => 0))), (q4, .inr (10, [.ref q5, .int 0, .int 0])), (q5, .inl (cI, 12, .inl (fun _ => (-1)))), (q6, .inr (6, [.ref q7, .ref q10, .ref q16, .ref q17, .int 0, .int 0, .int 0, .int 0, .int 0])), (q7, .inr (3, [.ref q8, .int 0])), (q8, .inl (c2, 13, .inr (.inr (.inr (.inr (fun i => if i < 13 then some (r9 i) else none)))))), (r9 0, .inl (cI, 12, .inl (fun _ => 0))), (q10, .inr (5, [.ref q11, .ref q14, .ref q15, .int 0, .int 0, .int 0])), (q11, .inr (3, [.ref q12, .int 0])), (q12, .inl (c2, 13, .inr (.inr (.inr (.inr (fun i => if i < 13 then some (r13 i) else none)))))), (r13 0, .inl (cI, 12, .inl (fun _ => 0))), (q14, .inl (cI, 4096, .inl (fun _ => 0))), (q18, .inr (9, [.ref q19, .ref q22, .int 0, .int (-1)])), (q19, .inr (3, [.ref q20, .int 0])), (q20, .inl (c2, 13, .inr (.inr (.inr (.inr (fun i => if i < 13 then some (r21 i) else none)))))), (r21 0, .inl (cI, 12, .inl (fun _ => 0))), (q23, .inr (1, [.int 0, .ref q24, .ref q25, .ref q26, .ref q27, .int 0, .int (-1), .int (-1)])), (q28, .inr (1, [.int 1, .ref q29, .ref q30, .ref q31, .ref q32, .int 0, .int (-1), .int (-1)])), (q33, .inr (7, [.ref q34, .ref q35, .int 0, .int (-1)])), (q35, .inl (cI, 12, .inl (fun _ => 0))), (q37, .inr (2, [.ref q38, .ref q39, .int 0, .int (-1)])), (q40, .inr (0, [.ref q42, .ref q41, .ref q43, .int 0, .int 0, .int 0, .int 0, .int (-1)])), (q42, .inl (cI, 4096, .inl (fun _ => 0))), (q44, .inr (0, [.ref q46, .ref q45, .ref q47, .int 0, .int 0, .int 0, .int 0, .int (-1)])), (q46, .inl (cI, 256, .inl (fun _ => 0))), (q48, .inl (cI, 5, .inl (fun _ => 0))), (q49, .inr (12, [.int 0, .ref q50, .int 0, .ref q51, .int 0, .ref q52, .ref q53, .int 0, .ref q54, .int 0, .ref q55, .int (-9), .int 0, .int 0, .ref q56, .ref q57, .ref q58, .ref q59, .ref q60, .int 0, .ref q61, .ref q62, .ref q63, .int 0, .ref q64, .ref q65, .ref q66, .int 0, .ref q67])), (q50, .inl (cI, 5, .inl (fun _ => 0))), (q51, .inl (cI, 12, .inl (fun _ => 0))), (q52, .inl (cI, 12, .inl (fun _ => (-9)))), (q56, .inl (cI, 12, .inl (fun _ => 0))), (q57, .inl (cI, 12, .inl (fun _ => 0))), (q58, .inl (cI, 49152, .inl (fun _ => 0))), (q59, .inl (cI, 4096, .inl (fun _ => 0))), (q67, .inl (cI, 12, .inl (fun _ => 0)))] H) (hD : va_D (fun q : Nat => s.heap.size ≤ q) [(q1, .inr (11, [.ref q2, .ref q4, .ref q6, .ref q18, .ref q23, .ref q28, .ref q33, .ref q36, .ref q37, .ref q40, .ref q44, .ref q48, .int 0])), (q2, .inr (4, [.ref q3, .int 0, .int 0])), (q3, .inl (cI, 12, .inl (fun _ => 0))), (q4, .inr (10, [.ref q5, .int 0, .int 0])), (q5, .inl (cI, 12, .inl (fun _ => (-1)))), (q6, .inr (6, [.ref q7, .ref q10, .ref q16, .ref q17, .int 0, .int 0, .int 0, .int 0, .int 0])), (q7, .inr (3, [.ref q8, .int 0])), (q8, .inl (c2, 13, .inr (.inr (.inr (.inr (fun i => if i < 13 then some (r9 i) else none)))))), (r9 0, .inl (cI, 12, .inl (fun _ => 0))), (q10, .inr (5, [.ref q11, .ref q14, .ref q15, .int 0, .int 0, .int 0])), (q11, .inr (3, [.ref q12, .int 0])), (q12, .inl (c2, 13, .inr (.inr (.inr (.inr (fun i => if i < 13 then some (r13 i) else none)))))), (r13 0, .inl (cI, 12, .inl (fun _ => 0))), (q14, .inl (cI, 4096, .inl (fun _ => 0))), (q18, .inr (9, [.ref q19, .ref q22, .int 0, .int (-1)])), (q19, .inr (3, [.ref q20, .int 0])), (q20, .inl (c2, 13, .inr (.inr (.inr (.inr (fun i => if i < 13 then some (r21 i) else none)))))), (r21 0, .inl (cI, 12, .inl (fun _ => 0))), (q23, .inr (1, [.int 0, .ref q24, .ref q25, .ref q26, .ref q27, .int 0, .int (-1), .int (-1)])), (q28, .inr (1, [.int 1, .ref q29, .ref q30, .ref q31, .ref q32, .int 0, .int (-1), .int (-1)])), (q33, .inr (7, [.ref q34, .ref q35, .int 0, .int (-1)])), (q35, .inl (cI, 12, .inl (fun _ => 0))), (q37, .inr (2, [.ref q38, .ref q39, .int 0, .int (-1)])), (q40, .inr (0, [.ref q42, .ref q41, .ref q43, .int 0, .int 0, .int 0, .int 0, .int (-1)])), (q42, .inl (cI, 4096, .inl (fun _ => 0))), (q44, .inr (0, [.ref q46, .ref q45, .ref q47, .int 0, .int 0, .int 0, .int 0, .int (-1)])), (q46, .inl (cI, 256, .inl (fun _ => 0))), (q48, .inl (cI, 5, .inl (fun _ => 0))), (q49, .inr (12, [.int 0, .ref q50, .int 0, .ref q51, .int 0, .ref q52, .ref q53, .int 0, .ref q54, .int 0, .ref q55, .int (-9), .int 0, .int 0, .ref q56, .ref q57, .ref q58, .ref q59, .ref q60, .int 0, .ref q61, .ref q62, .ref q63, .int 0, .ref q64, .ref q65, .ref q66, .int 0, .ref q67])), (q50, .inl (cI, 5, .inl (fun _ => 0))), (q51, .inl (cI, 12, .inl (fun _ => 0))), (q52, .inl (cI, 12, .inl (fun _ => (-9)))), (q56, .inl (cI, 12, .inl (fun _ => 0))), (q57, .inl (cI, 12, .inl (fun _ => 0))), (q58, .inl (cI, 49152, .inl (fun _ => 0))), (q59, .inl (cI, 4096, .inl (fun _ => 0))), (q67, .inl (cI, 12, .inl (fun _ => 0)))]) (hS : va_S (fun q : Nat => s.heap.size ≤ q) s.heap H locs) (ls : Array Slot) (hl : lv_has ls 4 [(3, .int 0), (2, .ref q49), (1, .ref q1), (0, .ref b)]) : W p l e room_1 s m #[Value.ref b] below meth c H locs 128 161896 (lw_Z below #[Value.ref b] s) (F0 m 547 ls []) := by
  obtain ⟨hx, hb, hr, hml, hown0, hts0, hX, hbl, hlocks, hgv⟩ := id C0
  have hown : s.vm.findClass RL = some m.cls := hown0
  have hts : ∀ w ∈ wsL_law, w.before #[Value.ref b] s = true := fun w h => hts0 w (wsL_law_in w h)
  have hA : ∀ q : Nat, s.heap.size ≤ q → (fun q : Nat => s.heap.size ≤ q) q := fun _ h => h
  have hbA : ¬ (fun q : Nat => s.heap.size ≤ q) b := Nat.not_le.mpr hbl
  generalize hAe : (fun q : Nat => s.heap.size ≤ q) = A at hD hS hA hbA
  have a1_rg := i_rng a1
  have a2_rg := i_rng a2
  have a3_rg := i_rng a3
  obtain ⟨a1_l, a1_h⟩ := a1_rg
  obtain ⟨a2_l, a2_h⟩ := a2_rg
  obtain ⟨a3_l, a3_h⟩ := a3_rg
  refine lv_aload_n hx hb dL_law_547 rfl (lv_at hl 2 rfl) ?_
  refine kcall_i (D := (dC, dI)) (S := Unit) (v := (-9)) (wc := [(q1, .inr (11, [.ref q2, .ref q4, .ref q6, .ref q18, .ref q23, .ref q28, .ref q33, .ref q36, .ref q37, .ref q40, .ref q44, .ref q48, .int 0])), (q6, .inr (6, [.ref q7, .ref q10, .ref q16, .ref q17, .int 0, .int 0, .int 0, .int 0, .int 0]))]) (wr := [(q49, .inr (12, [.int 0, .ref q50, .int 0, .ref q51, .int 0, .ref q52, .ref q53, .int 0, .ref q54, .int 0, .ref q55, .int (-9), .int 0, .int 0, .ref q56, .ref q57, .ref q58, .ref q59, .ref q60, .int 0, .ref q61, .ref q62, .ref q63, .int 0, .ref q64, .ref q65, .ref q66, .int 0, .ref q67]))]) (w1 := fun _ => []) (fun hPc hDc => va_runV (As := []) (rest := []) ⟨hx, hb, hml, hown, hts⟩ (kX11_fill_1 l dC dI cI c2 q1 q6 q2 q4 q18 q23 q28 q33 q36 q37 q40 q44 q48 q7 q10 q16 q17 H.size) (cwV 0 hts gL_law_X11_fill rfl rfl rfl (by decide +kernel) ⟨Nat.le_of_ble_eq_true rfl, Nat.le_of_ble_eq_true rfl⟩) (pre_V hPc hK hDc hN (ci := 11) (q0 := 0) rfl rfl) rfl rfl hl.1 rfl (lv_room (Nat.le_of_ble_eq_true rfl)) dL_law_548 ⟨Nat.le_of_ble_eq_true rfl, Nat.le_of_ble_eq_true rfl⟩) hP hD hS hA [0, 5] [28] rfl rfl (by decide) (by decide) (by decide) (fun u H locs hP hD hS => ?_)
  have hP : va_P (dC, dI) vwCl [(q49, .inr (12, [.int 0, .ref q50, .int 0, .ref q51, .int 0, .ref q52, .ref q53, .int 0, .ref q54, .int 0, .ref q55, .int (-9), .int 0, .int 0, .ref q56, .ref q57, .ref q58, .ref q59, .ref q60, .int 0, .ref q61, .ref q62, .ref q63, .int 0, .ref q64, .ref q65, .ref q66, .int 0, .ref q67]))] H := hP
  have hD : va_D A [(q49, .inr (12, [.int 0, .ref q50, .int 0, .ref q51, .int 0, .ref q52, .ref q53, .int 0, .ref q54, .int 0, .ref q55, .int (-9), .int 0, .int 0, .ref q56, .ref q57, .ref q58, .ref q59, .ref q60, .int 0, .ref q61, .ref q62, .ref q63, .int 0, .ref q64, .ref q65, .ref q66, .int 0, .ref q67]))] := hD
  refine lv_aload_n hx hb dL_law_551 rfl (lv_at hl 1 rfl) ?_
  refine kcall_i (D := (dC, dI)) (S := Unit) (v := (-9)) (wc := [(q49, .inr (12, [.int 0, .ref q50, .int 0, .ref q51, .int 0, .ref q52, .ref q53, .int 0, .ref q54, .int 0, .ref q55, .int (-9), .int 0, .int 0, .ref q56, .ref q57, .ref q58, .ref q59, .ref q60, .int 0, .ref q61, .ref q62, .ref q63, .int 0, .ref q64, .ref q65, .ref q66, .int 0, .ref q67]))]) (wr := []) (w1 := fun _ => []) (fun hPc hDc => va_runV (As := []) (rest := [.int (-9)]) ⟨hx, hb, hml, hown, hts⟩ (kX12_fill_1 l dC dI cI c2 q49 q50 q51 q52 q53 q54 q55 q56 q57 q58 q59 q60 q61 q62 q63 q64 q65 q66 q67 H.size) (cwV 0 hts gL_law_X12_fill rfl rfl rfl (by decide +kernel) ⟨Nat.le_of_ble_eq_true rfl, Nat.le_of_ble_eq_true rfl⟩) (pre_V hPc hK hDc hN (ci := 12) (q0 := 0) rfl rfl) rfl rfl hl.1 rfl (lv_room (Nat.le_of_ble_eq_true rfl)) dL_law_552 ⟨Nat.le_of_ble_eq_true rfl, Nat.le_of_ble_eq_true rfl⟩) hP hD hS hA [0] [] rfl rfl (by decide) (by decide) (by decide) (fun u H locs hP hD hS => ?_)
  have hP : va_P (dC, dI) vwCl [] H := hP
  have hD : va_D A [] := hD
  refine lv_icmp_eq (tgt := 1080) hx hb dL_law_555 (by decide) (fun _ => ?_) (fun h9 => absurd (by decide +kernel) h9)
  refine lv_iinc (v := 4) (lv' := [(3, .int 4), (2, .ref q49), (1, .ref q1), (0, .ref b)]) hx hb dL_law_1080 hl (k := 0) rfl (by decide +kernel) (by decide) rfl (fun ls hl => ?_)
  refine lv_goto (tgt := 18) hx hb dL_law_1083 (by decide) ?_
  refine lv_iload_n hx hb dL_law_18 rfl (lv_at hl 0 rfl) ?_
  refine lv_aload_n hx hb dL_law_19 rfl (lv_at hl 3 rfl) ?_
  refine va_slen hx hb hX hbl hbA hS dL_law_20 (tk_i (v := 4) (by decide +kernel) ?_)
  refine lv_iconst (v := 4) hx hb dL_law_21 (by decide) ?_
  refine lv_isub hx hb dL_law_22 (tk_i (v := 0) (by decide +kernel) ?_)
  refine lv_icmp_gt (tgt := 1086) hx hb dL_law_23 (by decide) (fun _ => ?_) (fun h9 => absurd (by decide +kernel) h9)
  refine lv_iconst (v := 1) hx hb dL_law_1086 (by decide) ?_
  refine va_forget (fun q hq => by have h9 := hS.2.2 q hq; rw [← hAe] at h9; exact h9) ?_
  refine W.widen (k := 600000) (n := 7302250) (by decide) (by decide) ?_
  exact lw_ret hx hb hr hlocks dL_law_1087
set_option maxHeartbeats 8000000 in
set_option maxRecDepth 100000 in
theorem lc_16 {p : Program} {e : Env} {s : State} {m : MethodId} {below : List Frame} {meth : Method} {c : Code} (l : Launch) {b : Nat} {xs : Nat → Int32} (C0 : lw_At p s m meth c b 4 xs) (dC : Nat → ClassId) (dI : Nat → Nat → Nat) (cI c2 : ClassId) (q1 : Nat) (q2 : Nat) (q3 : Nat) (q4 : Nat) (q5 : Nat) (q6 : Nat) (q7 : Nat) (q8 : Nat) (r9 : Nat → Nat) (q10 : Nat) (q11 : Nat) (q12 : Nat) (r13 : Nat → Nat) (q14 : Nat) (q15 : Nat) (q16 : Nat) (q17 : Nat) (q18 : Nat) (q19 : Nat) (q20 : Nat) (r21 : Nat → Nat) (q22 : Nat) (q23 : Nat) (q24 : Nat) (q25 : Nat) (q26 : Nat) (q27 : Nat) (q28 : Nat) (q29 : Nat) (q30 : Nat) (q31 : Nat) (q32 : Nat) (q33 : Nat) (q34 : Nat) (q35 : Nat) (q36 : Nat) (q37 : Nat) (q38 : Nat) (q39 : Nat) (q40 : Nat) (q41 : Nat) (q42 : Nat) (q43 : Nat) (q44 : Nat) (q45 : Nat) (q46 : Nat) (q47 : Nat) (q48 : Nat) (q49 : Nat) (q50 : Nat) (q51 : Nat) (q52 : Nat) (q53 : Nat) (q54 : Nat) (q55 : Nat) (q56 : Nat) (q57 : Nat) (q58 : Nat) (q59 : Nat) (q60 : Nat) (q61 : Nat) (q62 : Nat) (q63 : Nat) (q64 : Nat) (q65 : Nat) (q66 : Nat) (q67 : Nat) (a1 a2 a3 : Int32) (ha1 : xs (Int32.toNatClampNeg 1) = a1) (ha2 : xs (Int32.toNatClampNeg 2) = a2) (ha3 : xs (Int32.toNatClampNeg 3) = a3) (hK : va_K (dC, dI) vwCl [(cI, .int), (c2, .array .int)] s) (hN : nsAll s) (H : Heap) (locs : List Loc) (hP : va_P (dC, dI) vwCl [(q1, .inr (11, [.ref q2, .ref q4, .ref q6, .ref q18, .ref q23, .ref q28, .ref q33, .ref q36, .ref q37, .ref q40, .ref q44, .ref q48, .int 0])), (q2, .inr (4, [.ref q3, .int 0, .int 0])), (q3, .inl (cI, 12, .inl (fun _ => 0))), (q4, .inr (10, [.ref q5, .int 0, .int 0])), (q5, .inl (cI, 12, .inl (fun _ => (-1)))), (q6, .inr (6, [.ref q7, .ref q10, .ref q16, .ref q17, .int 0, .int 0, .int 0, .int 0, .int 0])), (q7, .inr (3, [.ref q8, .int 0])), (q8, .inl (c2, 13, .inr (.inr (.inr (.inr (fun i => if i < 13 then some (r9 i) else none)))))), (r9 0, .inl (cI, 12, .inl (fun _ => 0))), (q10, .inr (5, [.ref q11, .ref q14, .ref q15, .int 0, .int 0, .int 0])), (q11, .inr (3, [.ref q12, .int 0])), (q12, .inl (c2, 13, .inr (.inr (.inr (.inr (fun i => if i < 13 then some (r13 i) else none)))))), (r13 0, .inl (cI, 12, .inl (fun _ => 0))), (q14, .inl (cI, 4096, .inl (fun _ => 0))), (q18, .inr (9, [.ref q19, .ref q22, .int 0, .int (-1)])), (q19, .inr (3, [.ref q20, .int 0])), (q20, .inl (c2, 13, .inr (.inr (.inr (.inr (fun i => if i < 13 then some (r21 i) else none)))))), (r21 0, .inl (cI, 12, .inl (fun _ => 0))), (q23, .inr (1, [.int 0, .ref q24, .ref q25, .ref q26, .ref q27, .int 0, .int (-1), .int (-1)])), (q28, .inr (1, [.int 1, .ref q29, .ref q30, .ref q31, .ref q32, .int 0, .int (-1), .int (-1)])), (q33, .inr (7, [.ref q34, .ref q35, .int 0, .int (-1)])), (q35, .inl (cI, 12, .inl (fun _ => 0))), (q37, .inr (2, [.ref q38, .ref q39, .int 0, .int (-1)])), (q40, .inr (0, [.ref q42, .ref q41, .ref q43, .int 0, .int 0, .int 0, .int 0, .int (-1)])), (q42, .inl (cI, 4096, .inl (fun _ => 0))), (q44, .inr (0, [.ref q46, .ref q45, .ref q47, .int 0, .int 0, .int 0, .int 0, .int (-1)])), (q46, .inl (cI, 256, .inl (fun _ => 0))), (q48, .inl (cI, 5, .inl (fun _ => 0))), (q49, .inr (12, [.int 0, .ref q50, .int 0, .ref q51, .int 0, .ref q52, .ref q53, .int 0, .ref q54, .int 0, .ref q55, .int (-9), .int 0, .int 0, .ref q56, .ref q57, .ref q58, .ref q59, .ref q60, .int 0, .ref q61, .ref q62, .ref q63, .int 0, .ref q64, .ref q65, .ref q66, .int 0, .ref q67])), (q50, .inl (cI, 5, .inl (fun _ => 0))), (q51, .inl (cI, 12, .inl (fun _ => 0))), (q52, .inl (cI, 12, .inl (fun _ => (-9)))), (q56, .inl (cI, 12, .inl (fun _ => 0))), (q57, .inl (cI, 12, .inl (fun _ => 0))), (q58, .inl (cI, 49152, .inl (fun _ => 0))), (q59, .inl (cI, 4096, .inl (fun _ => 0))), (q67, .inl (cI, 12, .inl (fun _ => 0)))] H) (hD : va_D (fun q : Nat => s.heap.size ≤ q) [(q1, .inr (11, [.ref q2, .ref q4, .ref q6, .ref q18, .ref q23, .ref q28, .ref q33, .ref q36, .ref q37, .ref q40, .ref q44, .ref q48, .int 0])), (q2, .inr (4, [.ref q3, .int 0, .int 0])), (q3, .inl (cI, 12, .inl (fun _ => 0))), (q4, .inr (10, [.ref q5, .int 0, .int 0])), (q5, .inl (cI, 12, .inl (fun _ => (-1)))), (q6, .inr (6, [.ref q7, .ref q10, .ref q16, .ref q17, .int 0, .int 0, .int 0, .int 0, .int 0])), (q7, .inr (3, [.ref q8, .int 0])), (q8, .inl (c2, 13, .inr (.inr (.inr (.inr (fun i => if i < 13 then some (r9 i) else none)))))), (r9 0, .inl (cI, 12, .inl (fun _ => 0))), (q10, .inr (5, [.ref q11, .ref q14, .ref q15, .int 0, .int 0, .int 0])), (q11, .inr (3, [.ref q12, .int 0])), (q12, .inl (c2, 13, .inr (.inr (.inr (.inr (fun i => if i < 13 then some (r13 i) else none)))))), (r13 0, .inl (cI, 12, .inl (fun _ => 0))), (q14, .inl (cI, 4096, .inl (fun _ => 0))), (q18, .inr (9, [.ref q19, .ref q22, .int 0, .int (-1)])), (q19, .inr (3, [.ref q20, .int 0])), (q20, .inl (c2, 13, .inr (.inr (.inr (.inr (fun i => if i < 13 then some (r21 i) else none)))))), (r21 0, .inl (cI, 12, .inl (fun _ => 0))), (q23, .inr (1, [.int 0, .ref q24, .ref q25, .ref q26, .ref q27, .int 0, .int (-1), .int (-1)])), (q28, .inr (1, [.int 1, .ref q29, .ref q30, .ref q31, .ref q32, .int 0, .int (-1), .int (-1)])), (q33, .inr (7, [.ref q34, .ref q35, .int 0, .int (-1)])), (q35, .inl (cI, 12, .inl (fun _ => 0))), (q37, .inr (2, [.ref q38, .ref q39, .int 0, .int (-1)])), (q40, .inr (0, [.ref q42, .ref q41, .ref q43, .int 0, .int 0, .int 0, .int 0, .int (-1)])), (q42, .inl (cI, 4096, .inl (fun _ => 0))), (q44, .inr (0, [.ref q46, .ref q45, .ref q47, .int 0, .int 0, .int 0, .int 0, .int (-1)])), (q46, .inl (cI, 256, .inl (fun _ => 0))), (q48, .inl (cI, 5, .inl (fun _ => 0))), (q49, .inr (12, [.int 0, .ref q50, .int 0, .ref q51, .int 0, .ref q52, .ref q53, .int 0, .ref q54, .int 0, .ref q55, .int (-9), .int 0, .int 0, .ref q56, .ref q57, .ref q58, .ref q59, .ref q60, .int 0, .ref q61, .ref q62, .ref q63, .int 0, .ref q64, .ref q65, .ref q66, .int 0, .ref q67])), (q50, .inl (cI, 5, .inl (fun _ => 0))), (q51, .inl (cI, 12, .inl (fun _ => 0))), (q52, .inl (cI, 12, .inl (fun _ => (-9)))), (q56, .inl (cI, 12, .inl (fun _ => 0))), (q57, .inl (cI, 12, .inl (fun _ => 0))), (q58, .inl (cI, 49152, .inl (fun _ => 0))), (q59, .inl (cI, 4096, .inl (fun _ => 0))), (q67, .inl (cI, 12, .inl (fun _ => 0)))]) (hS : va_S (fun q : Nat => s.heap.size ≤ q) s.heap H locs) (ls : Array Slot) (hl : lv_has ls 4 [(3, .int 0), (2, .ref q49), (1, .ref q1), (0, .ref b)]) : W p l e room_1 s m #[Value.ref b] below meth c H locs 128 161896 (lw_Z below #[Value.ref b] s) (F0 m 560 ls []) := by
  obtain ⟨hx, hb, hr, hml, hown0, hts0, hX, hbl, hlocks, hgv⟩ := id C0
  have hown : s.vm.findClass RL = some m.cls := hown0
  have hts : ∀ w ∈ wsL_law, w.before #[Value.ref b] s = true := fun w h => hts0 w (wsL_law_in w h)
  have hA : ∀ q : Nat, s.heap.size ≤ q → (fun q : Nat => s.heap.size ≤ q) q := fun _ h => h
  have hbA : ¬ (fun q : Nat => s.heap.size ≤ q) b := Nat.not_le.mpr hbl
  generalize hAe : (fun q : Nat => s.heap.size ≤ q) = A at hD hS hA hbA
  have a1_rg := i_rng a1
  have a2_rg := i_rng a2
  have a3_rg := i_rng a3
  obtain ⟨a1_l, a1_h⟩ := a1_rg
  obtain ⟨a2_l, a2_h⟩ := a2_rg
  obtain ⟨a3_l, a3_h⟩ := a3_rg
  rcases (show a1.toInt ≤ (-2) ∨ (-1) ≤ a1.toInt by omega) with g_a1_1 | g_a1_1
  ·
    refine lv_aload_n hx hb dL_law_560 rfl (lv_at hl 2 rfl) ?_
    refine lv_aload_n hx hb dL_law_561 rfl (lv_at hl 3 rfl) ?_
    refine lv_iload_n hx hb dL_law_562 rfl (lv_at hl 0 rfl) ?_
    refine lv_iconst (v := 1) hx hb dL_law_563 (by decide) ?_
    refine lv_iadd hx hb dL_law_564 (tk_i (v := 1) (by decide +kernel) ?_)
    refine va_sld hx hb hX hbl hbA hS (vin (by decide +kernel)) dL_law_565 (tk_i (v := a1) ha1 ?_)
    refine kcall_i (D := (dC, dI)) (S := Unit) (v := (-9)) (wc := [(q1, .inr (11, [.ref q2, .ref q4, .ref q6, .ref q18, .ref q23, .ref q28, .ref q33, .ref q36, .ref q37, .ref q40, .ref q44, .ref q48, .int 0])), (q23, .inr (1, [.int 0, .ref q24, .ref q25, .ref q26, .ref q27, .int 0, .int (-1), .int (-1)])), (q2, .inr (4, [.ref q3, .int 0, .int 0]))]) (wr := [(q49, .inr (12, [.int 0, .ref q50, .int 0, .ref q51, .int 0, .ref q52, .ref q53, .int 0, .ref q54, .int 0, .ref q55, .int (-9), .int 0, .int 0, .ref q56, .ref q57, .ref q58, .ref q59, .ref q60, .int 0, .ref q61, .ref q62, .ref q63, .int 0, .ref q64, .ref q65, .ref q66, .int 0, .ref q67]))]) (w1 := fun _ => []) (fun hPc hDc => va_runV (As := [.int a1]) (rest := []) ⟨hx, hb, hml, hown, hts⟩ (kX11_clique_1 l dC dI cI c2 q1 q23 q2 q4 q6 q18 q28 q33 q36 q37 q40 q44 q48 q24 q25 q26 q27 q3 H.size a1 (by omega) (by omega)) (cwV 1 hts gL_law_X11_clique rfl rfl rfl (by decide +kernel) ⟨Nat.le_of_ble_eq_true rfl, Nat.le_of_ble_eq_true rfl⟩) (pre_V hPc hK hDc hN (ci := 11) (q0 := 0) rfl rfl) rfl rfl hl.1 rfl (lv_room (Nat.le_of_ble_eq_true rfl)) dL_law_566 ⟨Nat.le_of_ble_eq_true rfl, Nat.le_of_ble_eq_true rfl⟩) hP hD hS hA [0, 18, 1] [28] rfl rfl (by decide) (by decide) (by decide) (fun u H locs hP hD hS => ?_)
    have hP : va_P (dC, dI) vwCl [(q49, .inr (12, [.int 0, .ref q50, .int 0, .ref q51, .int 0, .ref q52, .ref q53, .int 0, .ref q54, .int 0, .ref q55, .int (-9), .int 0, .int 0, .ref q56, .ref q57, .ref q58, .ref q59, .ref q60, .int 0, .ref q61, .ref q62, .ref q63, .int 0, .ref q64, .ref q65, .ref q66, .int 0, .ref q67]))] H := hP
    have hD : va_D A [(q49, .inr (12, [.int 0, .ref q50, .int 0, .ref q51, .int 0, .ref q52, .ref q53, .int 0, .ref q54, .int 0, .ref q55, .int (-9), .int 0, .int 0, .ref q56, .ref q57, .ref q58, .ref q59, .ref q60, .int 0, .ref q61, .ref q62, .ref q63, .int 0, .ref q64, .ref q65, .ref q66, .int 0, .ref q67]))] := hD
    refine lv_aload_n hx hb dL_law_569 rfl (lv_at hl 1 rfl) ?_
    refine lv_aload_n hx hb dL_law_570 rfl (lv_at hl 3 rfl) ?_
    refine lv_iload_n hx hb dL_law_571 rfl (lv_at hl 0 rfl) ?_
    refine lv_iconst (v := 1) hx hb dL_law_572 (by decide) ?_
    refine lv_iadd hx hb dL_law_573 (tk_i (v := 1) (by decide +kernel) ?_)
    refine va_sld hx hb hX hbl hbA hS (vin (by decide +kernel)) dL_law_574 (tk_i (v := a1) ha1 ?_)
    refine kcall_i (D := (dC, dI)) (S := Unit) (v := (-9)) (wc := [(q49, .inr (12, [.int 0, .ref q50, .int 0, .ref q51, .int 0, .ref q52, .ref q53, .int 0, .ref q54, .int 0, .ref q55, .int (-9), .int 0, .int 0, .ref q56, .ref q57, .ref q58, .ref q59, .ref q60, .int 0, .ref q61, .ref q62, .ref q63, .int 0, .ref q64, .ref q65, .ref q66, .int 0, .ref q67]))]) (wr := []) (w1 := fun _ => []) (fun hPc hDc => va_runV (As := [.int a1]) (rest := [.int (-9)]) ⟨hx, hb, hml, hown, hts⟩ (kX12_clique_1 l dC dI cI c2 q49 q50 q51 q52 q53 q54 q55 q56 q57 q58 q59 q60 q61 q62 q63 q64 q65 q66 q67 H.size a1 (by omega) (by omega)) (cwV 1 hts gL_law_X12_clique rfl rfl rfl (by decide +kernel) ⟨Nat.le_of_ble_eq_true rfl, Nat.le_of_ble_eq_true rfl⟩) (pre_V hPc hK hDc hN (ci := 12) (q0 := 0) rfl rfl) rfl rfl hl.1 rfl (lv_room (Nat.le_of_ble_eq_true rfl)) dL_law_575 ⟨Nat.le_of_ble_eq_true rfl, Nat.le_of_ble_eq_true rfl⟩) hP hD hS hA [0] [] rfl rfl (by decide) (by decide) (by decide) (fun u H locs hP hD hS => ?_)
    have hP : va_P (dC, dI) vwCl [] H := hP
    have hD : va_D A [] := hD
    refine lv_icmp_eq (tgt := 1080) hx hb dL_law_578 (by decide) (fun _ => ?_) (fun h9 => absurd (by decide +kernel) h9)
    refine lv_iinc (v := 4) (lv' := [(3, .int 4), (2, .ref q49), (1, .ref q1), (0, .ref b)]) hx hb dL_law_1080 hl (k := 0) rfl (by decide +kernel) (by decide) rfl (fun ls hl => ?_)
    refine lv_goto (tgt := 18) hx hb dL_law_1083 (by decide) ?_
    refine lv_iload_n hx hb dL_law_18 rfl (lv_at hl 0 rfl) ?_
    refine lv_aload_n hx hb dL_law_19 rfl (lv_at hl 3 rfl) ?_
    refine va_slen hx hb hX hbl hbA hS dL_law_20 (tk_i (v := 4) (by decide +kernel) ?_)
    refine lv_iconst (v := 4) hx hb dL_law_21 (by decide) ?_
    refine lv_isub hx hb dL_law_22 (tk_i (v := 0) (by decide +kernel) ?_)
    refine lv_icmp_gt (tgt := 1086) hx hb dL_law_23 (by decide) (fun _ => ?_) (fun h9 => absurd (by decide +kernel) h9)
    refine lv_iconst (v := 1) hx hb dL_law_1086 (by decide) ?_
    refine va_forget (fun q hq => by have h9 := hS.2.2 q hq; rw [← hAe] at h9; exact h9) ?_
    refine W.widen (k := 600000) (n := 7302250) (by decide) (by decide) ?_
    exact lw_ret hx hb hr hlocks dL_law_1087
  ·
    rcases (show a1.toInt ≤ (-1) ∨ 0 ≤ a1.toInt by omega) with g_a1_0 | g_a1_0
    ·
      have e_a1 : a1 = (-1) := ib_eq (X := (-1)) (by omega) (by decide +kernel)
      subst e_a1
      refine lv_aload_n hx hb dL_law_560 rfl (lv_at hl 2 rfl) ?_
      refine lv_aload_n hx hb dL_law_561 rfl (lv_at hl 3 rfl) ?_
      refine lv_iload_n hx hb dL_law_562 rfl (lv_at hl 0 rfl) ?_
      refine lv_iconst (v := 1) hx hb dL_law_563 (by decide) ?_
      refine lv_iadd hx hb dL_law_564 (tk_i (v := 1) (by decide +kernel) ?_)
      refine va_sld hx hb hX hbl hbA hS (vin (by decide +kernel)) dL_law_565 (tk_i (v := (-1)) ha1 ?_)
      refine kcall_i (D := (dC, dI)) (S := Unit) (v := 0) (wc := [(q1, .inr (11, [.ref q2, .ref q4, .ref q6, .ref q18, .ref q23, .ref q28, .ref q33, .ref q36, .ref q37, .ref q40, .ref q44, .ref q48, .int 0])), (q23, .inr (1, [.int 0, .ref q24, .ref q25, .ref q26, .ref q27, .int 0, .int (-1), .int (-1)])), (q2, .inr (4, [.ref q3, .int 0, .int 0]))]) (wr := [(q49, .inr (12, [.int 0, .ref q50, .int 0, .ref q51, .int 0, .ref q52, .ref q53, .int 0, .ref q54, .int 0, .ref q55, .int (-9), .int 0, .int 0, .ref q56, .ref q57, .ref q58, .ref q59, .ref q60, .int 0, .ref q61, .ref q62, .ref q63, .int 0, .ref q64, .ref q65, .ref q66, .int 0, .ref q67]))]) (w1 := fun _ => []) (fun hPc hDc => va_runV (As := [.int (-1)]) (rest := []) ⟨hx, hb, hml, hown, hts⟩ (kX11_clique_2 l dC dI cI c2 q1 q23 q2 q4 q6 q18 q28 q33 q36 q37 q40 q44 q48 q24 q25 q26 q27 q3 H.size) (cwV 1 hts gL_law_X11_clique rfl rfl rfl (by decide +kernel) ⟨Nat.le_of_ble_eq_true rfl, Nat.le_of_ble_eq_true rfl⟩) (pre_V hPc hK hDc hN (ci := 11) (q0 := 0) rfl rfl) rfl rfl hl.1 rfl (lv_room (Nat.le_of_ble_eq_true rfl)) dL_law_566 ⟨Nat.le_of_ble_eq_true rfl, Nat.le_of_ble_eq_true rfl⟩) hP hD hS hA [0, 18, 1] [28] rfl rfl (by decide) (by decide) (by decide) (fun u H locs hP hD hS => ?_)
      have hP : va_P (dC, dI) vwCl [(q49, .inr (12, [.int 0, .ref q50, .int 0, .ref q51, .int 0, .ref q52, .ref q53, .int 0, .ref q54, .int 0, .ref q55, .int (-9), .int 0, .int 0, .ref q56, .ref q57, .ref q58, .ref q59, .ref q60, .int 0, .ref q61, .ref q62, .ref q63, .int 0, .ref q64, .ref q65, .ref q66, .int 0, .ref q67]))] H := hP
      have hD : va_D A [(q49, .inr (12, [.int 0, .ref q50, .int 0, .ref q51, .int 0, .ref q52, .ref q53, .int 0, .ref q54, .int 0, .ref q55, .int (-9), .int 0, .int 0, .ref q56, .ref q57, .ref q58, .ref q59, .ref q60, .int 0, .ref q61, .ref q62, .ref q63, .int 0, .ref q64, .ref q65, .ref q66, .int 0, .ref q67]))] := hD
      refine lv_aload_n hx hb dL_law_569 rfl (lv_at hl 1 rfl) ?_
      refine lv_aload_n hx hb dL_law_570 rfl (lv_at hl 3 rfl) ?_
      refine lv_iload_n hx hb dL_law_571 rfl (lv_at hl 0 rfl) ?_
      refine lv_iconst (v := 1) hx hb dL_law_572 (by decide) ?_
      refine lv_iadd hx hb dL_law_573 (tk_i (v := 1) (by decide +kernel) ?_)
      refine va_sld hx hb hX hbl hbA hS (vin (by decide +kernel)) dL_law_574 (tk_i (v := (-1)) ha1 ?_)
      refine kcall_i (D := (dC, dI)) (S := Unit) (v := 0) (wc := [(q49, .inr (12, [.int 0, .ref q50, .int 0, .ref q51, .int 0, .ref q52, .ref q53, .int 0, .ref q54, .int 0, .ref q55, .int (-9), .int 0, .int 0, .ref q56, .ref q57, .ref q58, .ref q59, .ref q60, .int 0, .ref q61, .ref q62, .ref q63, .int 0, .ref q64, .ref q65, .ref q66, .int 0, .ref q67]))]) (wr := []) (w1 := fun _ => []) (fun hPc hDc => va_runV (As := [.int (-1)]) (rest := [.int 0]) ⟨hx, hb, hml, hown, hts⟩ (kX12_clique_2 l dC dI cI c2 q49 q50 q51 q52 q53 q54 q55 q56 q57 q58 q59 q60 q61 q62 q63 q64 q65 q66 q67 H.size) (cwV 1 hts gL_law_X12_clique rfl rfl rfl (by decide +kernel) ⟨Nat.le_of_ble_eq_true rfl, Nat.le_of_ble_eq_true rfl⟩) (pre_V hPc hK hDc hN (ci := 12) (q0 := 0) rfl rfl) rfl rfl hl.1 rfl (lv_room (Nat.le_of_ble_eq_true rfl)) dL_law_575 ⟨Nat.le_of_ble_eq_true rfl, Nat.le_of_ble_eq_true rfl⟩) hP hD hS hA [0] [] rfl rfl (by decide) (by decide) (by decide) (fun u H locs hP hD hS => ?_)
      have hP : va_P (dC, dI) vwCl [] H := hP
      have hD : va_D A [] := hD
      refine lv_icmp_eq (tgt := 1080) hx hb dL_law_578 (by decide) (fun _ => ?_) (fun h9 => absurd (by decide +kernel) h9)
      refine lv_iinc (v := 4) (lv' := [(3, .int 4), (2, .ref q49), (1, .ref q1), (0, .ref b)]) hx hb dL_law_1080 hl (k := 0) rfl (by decide +kernel) (by decide) rfl (fun ls hl => ?_)
      refine lv_goto (tgt := 18) hx hb dL_law_1083 (by decide) ?_
      refine lv_iload_n hx hb dL_law_18 rfl (lv_at hl 0 rfl) ?_
      refine lv_aload_n hx hb dL_law_19 rfl (lv_at hl 3 rfl) ?_
      refine va_slen hx hb hX hbl hbA hS dL_law_20 (tk_i (v := 4) (by decide +kernel) ?_)
      refine lv_iconst (v := 4) hx hb dL_law_21 (by decide) ?_
      refine lv_isub hx hb dL_law_22 (tk_i (v := 0) (by decide +kernel) ?_)
      refine lv_icmp_gt (tgt := 1086) hx hb dL_law_23 (by decide) (fun _ => ?_) (fun h9 => absurd (by decide +kernel) h9)
      refine lv_iconst (v := 1) hx hb dL_law_1086 (by decide) ?_
      refine va_forget (fun q hq => by have h9 := hS.2.2 q hq; rw [← hAe] at h9; exact h9) ?_
      refine W.widen (k := 600000) (n := 7302250) (by decide) (by decide) ?_
      exact lw_ret hx hb hr hlocks dL_law_1087
    ·
      refine lv_aload_n hx hb dL_law_560 rfl (lv_at hl 2 rfl) ?_
      refine lv_aload_n hx hb dL_law_561 rfl (lv_at hl 3 rfl) ?_
      refine lv_iload_n hx hb dL_law_562 rfl (lv_at hl 0 rfl) ?_
      refine lv_iconst (v := 1) hx hb dL_law_563 (by decide) ?_
      refine lv_iadd hx hb dL_law_564 (tk_i (v := 1) (by decide +kernel) ?_)
      refine va_sld hx hb hX hbl hbA hS (vin (by decide +kernel)) dL_law_565 (tk_i (v := a1) ha1 ?_)
      refine kcall_i (D := (dC, dI)) (S := Unit) (v := (-9)) (wc := [(q1, .inr (11, [.ref q2, .ref q4, .ref q6, .ref q18, .ref q23, .ref q28, .ref q33, .ref q36, .ref q37, .ref q40, .ref q44, .ref q48, .int 0])), (q23, .inr (1, [.int 0, .ref q24, .ref q25, .ref q26, .ref q27, .int 0, .int (-1), .int (-1)])), (q2, .inr (4, [.ref q3, .int 0, .int 0]))]) (wr := [(q49, .inr (12, [.int 0, .ref q50, .int 0, .ref q51, .int 0, .ref q52, .ref q53, .int 0, .ref q54, .int 0, .ref q55, .int (-9), .int 0, .int 0, .ref q56, .ref q57, .ref q58, .ref q59, .ref q60, .int 0, .ref q61, .ref q62, .ref q63, .int 0, .ref q64, .ref q65, .ref q66, .int 0, .ref q67]))]) (w1 := fun _ => []) (fun hPc hDc => va_runV (As := [.int a1]) (rest := []) ⟨hx, hb, hml, hown, hts⟩ (kX11_clique_3 l dC dI cI c2 q1 q23 q2 q4 q6 q18 q28 q33 q36 q37 q40 q44 q48 q24 q25 q26 q27 q3 H.size a1 (by omega) (by omega)) (cwV 1 hts gL_law_X11_clique rfl rfl rfl (by decide +kernel) ⟨Nat.le_of_ble_eq_true rfl, Nat.le_of_ble_eq_true rfl⟩) (pre_V hPc hK hDc hN (ci := 11) (q0 := 0) rfl rfl) rfl rfl hl.1 rfl (lv_room (Nat.le_of_ble_eq_true rfl)) dL_law_566 ⟨Nat.le_of_ble_eq_true rfl, Nat.le_of_ble_eq_true rfl⟩) hP hD hS hA [0, 18, 1] [28] rfl rfl (by decide) (by decide) (by decide) (fun u H locs hP hD hS => ?_)
      have hP : va_P (dC, dI) vwCl [(q49, .inr (12, [.int 0, .ref q50, .int 0, .ref q51, .int 0, .ref q52, .ref q53, .int 0, .ref q54, .int 0, .ref q55, .int (-9), .int 0, .int 0, .ref q56, .ref q57, .ref q58, .ref q59, .ref q60, .int 0, .ref q61, .ref q62, .ref q63, .int 0, .ref q64, .ref q65, .ref q66, .int 0, .ref q67]))] H := hP
      have hD : va_D A [(q49, .inr (12, [.int 0, .ref q50, .int 0, .ref q51, .int 0, .ref q52, .ref q53, .int 0, .ref q54, .int 0, .ref q55, .int (-9), .int 0, .int 0, .ref q56, .ref q57, .ref q58, .ref q59, .ref q60, .int 0, .ref q61, .ref q62, .ref q63, .int 0, .ref q64, .ref q65, .ref q66, .int 0, .ref q67]))] := hD
      refine lv_aload_n hx hb dL_law_569 rfl (lv_at hl 1 rfl) ?_
      refine lv_aload_n hx hb dL_law_570 rfl (lv_at hl 3 rfl) ?_
      refine lv_iload_n hx hb dL_law_571 rfl (lv_at hl 0 rfl) ?_
      refine lv_iconst (v := 1) hx hb dL_law_572 (by decide) ?_
      refine lv_iadd hx hb dL_law_573 (tk_i (v := 1) (by decide +kernel) ?_)
      refine va_sld hx hb hX hbl hbA hS (vin (by decide +kernel)) dL_law_574 (tk_i (v := a1) ha1 ?_)
      refine kcall_i (D := (dC, dI)) (S := Unit) (v := (-9)) (wc := [(q49, .inr (12, [.int 0, .ref q50, .int 0, .ref q51, .int 0, .ref q52, .ref q53, .int 0, .ref q54, .int 0, .ref q55, .int (-9), .int 0, .int 0, .ref q56, .ref q57, .ref q58, .ref q59, .ref q60, .int 0, .ref q61, .ref q62, .ref q63, .int 0, .ref q64, .ref q65, .ref q66, .int 0, .ref q67]))]) (wr := []) (w1 := fun _ => []) (fun hPc hDc => va_runV (As := [.int a1]) (rest := [.int (-9)]) ⟨hx, hb, hml, hown, hts⟩ (kX12_clique_3 l dC dI cI c2 q49 q50 q51 q52 q53 q54 q55 q56 q57 q58 q59 q60 q61 q62 q63 q64 q65 q66 q67 H.size a1 (by omega) (by omega)) (cwV 1 hts gL_law_X12_clique rfl rfl rfl (by decide +kernel) ⟨Nat.le_of_ble_eq_true rfl, Nat.le_of_ble_eq_true rfl⟩) (pre_V hPc hK hDc hN (ci := 12) (q0 := 0) rfl rfl) rfl rfl hl.1 rfl (lv_room (Nat.le_of_ble_eq_true rfl)) dL_law_575 ⟨Nat.le_of_ble_eq_true rfl, Nat.le_of_ble_eq_true rfl⟩) hP hD hS hA [0] [] rfl rfl (by decide) (by decide) (by decide) (fun u H locs hP hD hS => ?_)
      have hP : va_P (dC, dI) vwCl [] H := hP
      have hD : va_D A [] := hD
      refine lv_icmp_eq (tgt := 1080) hx hb dL_law_578 (by decide) (fun _ => ?_) (fun h9 => absurd (by decide +kernel) h9)
      refine lv_iinc (v := 4) (lv' := [(3, .int 4), (2, .ref q49), (1, .ref q1), (0, .ref b)]) hx hb dL_law_1080 hl (k := 0) rfl (by decide +kernel) (by decide) rfl (fun ls hl => ?_)
      refine lv_goto (tgt := 18) hx hb dL_law_1083 (by decide) ?_
      refine lv_iload_n hx hb dL_law_18 rfl (lv_at hl 0 rfl) ?_
      refine lv_aload_n hx hb dL_law_19 rfl (lv_at hl 3 rfl) ?_
      refine va_slen hx hb hX hbl hbA hS dL_law_20 (tk_i (v := 4) (by decide +kernel) ?_)
      refine lv_iconst (v := 4) hx hb dL_law_21 (by decide) ?_
      refine lv_isub hx hb dL_law_22 (tk_i (v := 0) (by decide +kernel) ?_)
      refine lv_icmp_gt (tgt := 1086) hx hb dL_law_23 (by decide) (fun _ => ?_) (fun h9 => absurd (by decide +kernel) h9)
      refine lv_iconst (v := 1) hx hb dL_law_1086 (by decide) ?_
      refine va_forget (fun q hq => by have h9 := hS.2.2 q hq; rw [← hAe] at h9; exact h9) ?_
      refine W.widen (k := 600000) (n := 7302250) (by decide) (by decide) ?_
      exact lw_ret hx hb hr hlocks dL_law_1087
set_option maxHeartbeats 8000000 in
set_option maxRecDepth 100000 in
theorem lc_17 {p : Program} {e : Env} {s : State} {m : MethodId} {below : List Frame} {meth : Method} {c : Code} (l : Launch) {b : Nat} {xs : Nat → Int32} (C0 : lw_At p s m meth c b 4 xs) (dC : Nat → ClassId) (dI : Nat → Nat → Nat) (cI c2 : ClassId) (q1 : Nat) (q2 : Nat) (q3 : Nat) (q4 : Nat) (q5 : Nat) (q6 : Nat) (q7 : Nat) (q8 : Nat) (r9 : Nat → Nat) (q10 : Nat) (q11 : Nat) (q12 : Nat) (r13 : Nat → Nat) (q14 : Nat) (q15 : Nat) (q16 : Nat) (q17 : Nat) (q18 : Nat) (q19 : Nat) (q20 : Nat) (r21 : Nat → Nat) (q22 : Nat) (q23 : Nat) (q24 : Nat) (q25 : Nat) (q26 : Nat) (q27 : Nat) (q28 : Nat) (q29 : Nat) (q30 : Nat) (q31 : Nat) (q32 : Nat) (q33 : Nat) (q34 : Nat) (q35 : Nat) (q36 : Nat) (q37 : Nat) (q38 : Nat) (q39 : Nat) (q40 : Nat) (q41 : Nat) (q42 : Nat) (q43 : Nat) (q44 : Nat) (q45 : Nat) (q46 : Nat) (q47 : Nat) (q48 : Nat) (q49 : Nat) (q50 : Nat) (q51 : Nat) (q52 : Nat) (q53 : Nat) (q54 : Nat) (q55 : Nat) (q56 : Nat) (q57 : Nat) (q58 : Nat) (q59 : Nat) (q60 : Nat) (q61 : Nat) (q62 : Nat) (q63 : Nat) (q64 : Nat) (q65 : Nat) (q66 : Nat) (q67 : Nat) (a1 a2 a3 : Int32) (ha1 : xs (Int32.toNatClampNeg 1) = a1) (ha2 : xs (Int32.toNatClampNeg 2) = a2) (ha3 : xs (Int32.toNatClampNeg 3) = a3) (hK : va_K (dC, dI) vwCl [(cI, .int), (c2, .array .int)] s) (hN : nsAll s) (H : Heap) (locs : List Loc) (hP : va_P (dC, dI) vwCl [(q1, .inr (11, [.ref q2, .ref q4, .ref q6, .ref q18, .ref q23, .ref q28, .ref q33, .ref q36, .ref q37, .ref q40, .ref q44, .ref q48, .int 0])), (q2, .inr (4, [.ref q3, .int 0, .int 0])), (q3, .inl (cI, 12, .inl (fun _ => 0))), (q4, .inr (10, [.ref q5, .int 0, .int 0])), (q5, .inl (cI, 12, .inl (fun _ => (-1)))), (q6, .inr (6, [.ref q7, .ref q10, .ref q16, .ref q17, .int 0, .int 0, .int 0, .int 0, .int 0])), (q7, .inr (3, [.ref q8, .int 0])), (q8, .inl (c2, 13, .inr (.inr (.inr (.inr (fun i => if i < 13 then some (r9 i) else none)))))), (r9 0, .inl (cI, 12, .inl (fun _ => 0))), (q10, .inr (5, [.ref q11, .ref q14, .ref q15, .int 0, .int 0, .int 0])), (q11, .inr (3, [.ref q12, .int 0])), (q12, .inl (c2, 13, .inr (.inr (.inr (.inr (fun i => if i < 13 then some (r13 i) else none)))))), (r13 0, .inl (cI, 12, .inl (fun _ => 0))), (q14, .inl (cI, 4096, .inl (fun _ => 0))), (q18, .inr (9, [.ref q19, .ref q22, .int 0, .int (-1)])), (q19, .inr (3, [.ref q20, .int 0])), (q20, .inl (c2, 13, .inr (.inr (.inr (.inr (fun i => if i < 13 then some (r21 i) else none)))))), (r21 0, .inl (cI, 12, .inl (fun _ => 0))), (q23, .inr (1, [.int 0, .ref q24, .ref q25, .ref q26, .ref q27, .int 0, .int (-1), .int (-1)])), (q28, .inr (1, [.int 1, .ref q29, .ref q30, .ref q31, .ref q32, .int 0, .int (-1), .int (-1)])), (q33, .inr (7, [.ref q34, .ref q35, .int 0, .int (-1)])), (q35, .inl (cI, 12, .inl (fun _ => 0))), (q37, .inr (2, [.ref q38, .ref q39, .int 0, .int (-1)])), (q40, .inr (0, [.ref q42, .ref q41, .ref q43, .int 0, .int 0, .int 0, .int 0, .int (-1)])), (q42, .inl (cI, 4096, .inl (fun _ => 0))), (q44, .inr (0, [.ref q46, .ref q45, .ref q47, .int 0, .int 0, .int 0, .int 0, .int (-1)])), (q46, .inl (cI, 256, .inl (fun _ => 0))), (q48, .inl (cI, 5, .inl (fun _ => 0))), (q49, .inr (12, [.int 0, .ref q50, .int 0, .ref q51, .int 0, .ref q52, .ref q53, .int 0, .ref q54, .int 0, .ref q55, .int (-9), .int 0, .int 0, .ref q56, .ref q57, .ref q58, .ref q59, .ref q60, .int 0, .ref q61, .ref q62, .ref q63, .int 0, .ref q64, .ref q65, .ref q66, .int 0, .ref q67])), (q50, .inl (cI, 5, .inl (fun _ => 0))), (q51, .inl (cI, 12, .inl (fun _ => 0))), (q52, .inl (cI, 12, .inl (fun _ => (-9)))), (q56, .inl (cI, 12, .inl (fun _ => 0))), (q57, .inl (cI, 12, .inl (fun _ => 0))), (q58, .inl (cI, 49152, .inl (fun _ => 0))), (q59, .inl (cI, 4096, .inl (fun _ => 0))), (q67, .inl (cI, 12, .inl (fun _ => 0)))] H) (hD : va_D (fun q : Nat => s.heap.size ≤ q) [(q1, .inr (11, [.ref q2, .ref q4, .ref q6, .ref q18, .ref q23, .ref q28, .ref q33, .ref q36, .ref q37, .ref q40, .ref q44, .ref q48, .int 0])), (q2, .inr (4, [.ref q3, .int 0, .int 0])), (q3, .inl (cI, 12, .inl (fun _ => 0))), (q4, .inr (10, [.ref q5, .int 0, .int 0])), (q5, .inl (cI, 12, .inl (fun _ => (-1)))), (q6, .inr (6, [.ref q7, .ref q10, .ref q16, .ref q17, .int 0, .int 0, .int 0, .int 0, .int 0])), (q7, .inr (3, [.ref q8, .int 0])), (q8, .inl (c2, 13, .inr (.inr (.inr (.inr (fun i => if i < 13 then some (r9 i) else none)))))), (r9 0, .inl (cI, 12, .inl (fun _ => 0))), (q10, .inr (5, [.ref q11, .ref q14, .ref q15, .int 0, .int 0, .int 0])), (q11, .inr (3, [.ref q12, .int 0])), (q12, .inl (c2, 13, .inr (.inr (.inr (.inr (fun i => if i < 13 then some (r13 i) else none)))))), (r13 0, .inl (cI, 12, .inl (fun _ => 0))), (q14, .inl (cI, 4096, .inl (fun _ => 0))), (q18, .inr (9, [.ref q19, .ref q22, .int 0, .int (-1)])), (q19, .inr (3, [.ref q20, .int 0])), (q20, .inl (c2, 13, .inr (.inr (.inr (.inr (fun i => if i < 13 then some (r21 i) else none)))))), (r21 0, .inl (cI, 12, .inl (fun _ => 0))), (q23, .inr (1, [.int 0, .ref q24, .ref q25, .ref q26, .ref q27, .int 0, .int (-1), .int (-1)])), (q28, .inr (1, [.int 1, .ref q29, .ref q30, .ref q31, .ref q32, .int 0, .int (-1), .int (-1)])), (q33, .inr (7, [.ref q34, .ref q35, .int 0, .int (-1)])), (q35, .inl (cI, 12, .inl (fun _ => 0))), (q37, .inr (2, [.ref q38, .ref q39, .int 0, .int (-1)])), (q40, .inr (0, [.ref q42, .ref q41, .ref q43, .int 0, .int 0, .int 0, .int 0, .int (-1)])), (q42, .inl (cI, 4096, .inl (fun _ => 0))), (q44, .inr (0, [.ref q46, .ref q45, .ref q47, .int 0, .int 0, .int 0, .int 0, .int (-1)])), (q46, .inl (cI, 256, .inl (fun _ => 0))), (q48, .inl (cI, 5, .inl (fun _ => 0))), (q49, .inr (12, [.int 0, .ref q50, .int 0, .ref q51, .int 0, .ref q52, .ref q53, .int 0, .ref q54, .int 0, .ref q55, .int (-9), .int 0, .int 0, .ref q56, .ref q57, .ref q58, .ref q59, .ref q60, .int 0, .ref q61, .ref q62, .ref q63, .int 0, .ref q64, .ref q65, .ref q66, .int 0, .ref q67])), (q50, .inl (cI, 5, .inl (fun _ => 0))), (q51, .inl (cI, 12, .inl (fun _ => 0))), (q52, .inl (cI, 12, .inl (fun _ => (-9)))), (q56, .inl (cI, 12, .inl (fun _ => 0))), (q57, .inl (cI, 12, .inl (fun _ => 0))), (q58, .inl (cI, 49152, .inl (fun _ => 0))), (q59, .inl (cI, 4096, .inl (fun _ => 0))), (q67, .inl (cI, 12, .inl (fun _ => 0)))]) (hS : va_S (fun q : Nat => s.heap.size ≤ q) s.heap H locs) (ls : Array Slot) (hl : lv_has ls 4 [(3, .int 0), (2, .ref q49), (1, .ref q1), (0, .ref b)]) : W p l e room_1 s m #[Value.ref b] below meth c H locs 128 161896 (lw_Z below #[Value.ref b] s) (F0 m 583 ls []) := by
  obtain ⟨hx, hb, hr, hml, hown0, hts0, hX, hbl, hlocks, hgv⟩ := id C0
  have hown : s.vm.findClass RL = some m.cls := hown0
  have hts : ∀ w ∈ wsL_law, w.before #[Value.ref b] s = true := fun w h => hts0 w (wsL_law_in w h)
  have hA : ∀ q : Nat, s.heap.size ≤ q → (fun q : Nat => s.heap.size ≤ q) q := fun _ h => h
  have hbA : ¬ (fun q : Nat => s.heap.size ≤ q) b := Nat.not_le.mpr hbl
  generalize hAe : (fun q : Nat => s.heap.size ≤ q) = A at hD hS hA hbA
  have a1_rg := i_rng a1
  have a2_rg := i_rng a2
  have a3_rg := i_rng a3
  obtain ⟨a1_l, a1_h⟩ := a1_rg
  obtain ⟨a2_l, a2_h⟩ := a2_rg
  obtain ⟨a3_l, a3_h⟩ := a3_rg
  refine lv_aload_n hx hb dL_law_583 rfl (lv_at hl 2 rfl) ?_
  refine kcall_i (D := (dC, dI)) (S := Unit) (v := 0) (wc := [(q1, .inr (11, [.ref q2, .ref q4, .ref q6, .ref q18, .ref q23, .ref q28, .ref q33, .ref q36, .ref q37, .ref q40, .ref q44, .ref q48, .int 0])), (q23, .inr (1, [.int 0, .ref q24, .ref q25, .ref q26, .ref q27, .int 0, .int (-1), .int (-1)])), (q2, .inr (4, [.ref q3, .int 0, .int 0]))]) (wr := [(q49, .inr (12, [.int 0, .ref q50, .int 0, .ref q51, .int 0, .ref q52, .ref q53, .int 0, .ref q54, .int 0, .ref q55, .int (-9), .int 0, .int 0, .ref q56, .ref q57, .ref q58, .ref q59, .ref q60, .int 0, .ref q61, .ref q62, .ref q63, .int 0, .ref q64, .ref q65, .ref q66, .int 0, .ref q67]))]) (w1 := fun _ => []) (fun hPc hDc => va_runV (As := []) (rest := []) ⟨hx, hb, hml, hown, hts⟩ (kX11_greatest_1 l dC dI cI c2 q1 q23 q2 q4 q6 q18 q28 q33 q36 q37 q40 q44 q48 q24 q25 q26 q27 q3 H.size) (cwV 0 hts gL_law_X11_greatest rfl rfl rfl (by decide +kernel) ⟨Nat.le_of_ble_eq_true rfl, Nat.le_of_ble_eq_true rfl⟩) (pre_V hPc hK hDc hN (ci := 11) (q0 := 0) rfl rfl) rfl rfl hl.1 rfl (lv_room (Nat.le_of_ble_eq_true rfl)) dL_law_584 ⟨Nat.le_of_ble_eq_true rfl, Nat.le_of_ble_eq_true rfl⟩) hP hD hS hA [0, 18, 1] [28] rfl rfl (by decide) (by decide) (by decide) (fun u H locs hP hD hS => ?_)
  have hP : va_P (dC, dI) vwCl [(q49, .inr (12, [.int 0, .ref q50, .int 0, .ref q51, .int 0, .ref q52, .ref q53, .int 0, .ref q54, .int 0, .ref q55, .int (-9), .int 0, .int 0, .ref q56, .ref q57, .ref q58, .ref q59, .ref q60, .int 0, .ref q61, .ref q62, .ref q63, .int 0, .ref q64, .ref q65, .ref q66, .int 0, .ref q67]))] H := hP
  have hD : va_D A [(q49, .inr (12, [.int 0, .ref q50, .int 0, .ref q51, .int 0, .ref q52, .ref q53, .int 0, .ref q54, .int 0, .ref q55, .int (-9), .int 0, .int 0, .ref q56, .ref q57, .ref q58, .ref q59, .ref q60, .int 0, .ref q61, .ref q62, .ref q63, .int 0, .ref q64, .ref q65, .ref q66, .int 0, .ref q67]))] := hD
  refine lv_aload_n hx hb dL_law_587 rfl (lv_at hl 1 rfl) ?_
  refine kcall_i (D := (dC, dI)) (S := Unit) (v := 0) (wc := [(q49, .inr (12, [.int 0, .ref q50, .int 0, .ref q51, .int 0, .ref q52, .ref q53, .int 0, .ref q54, .int 0, .ref q55, .int (-9), .int 0, .int 0, .ref q56, .ref q57, .ref q58, .ref q59, .ref q60, .int 0, .ref q61, .ref q62, .ref q63, .int 0, .ref q64, .ref q65, .ref q66, .int 0, .ref q67]))]) (wr := []) (w1 := fun _ => []) (fun hPc hDc => va_runV (As := []) (rest := [.int 0]) ⟨hx, hb, hml, hown, hts⟩ (kX12_greatest_1 l dC dI cI c2 q49 q50 q51 q52 q53 q54 q55 q56 q57 q58 q59 q60 q61 q62 q63 q64 q65 q66 q67 H.size) (cwV 0 hts gL_law_X12_greatest rfl rfl rfl (by decide +kernel) ⟨Nat.le_of_ble_eq_true rfl, Nat.le_of_ble_eq_true rfl⟩) (pre_V hPc hK hDc hN (ci := 12) (q0 := 0) rfl rfl) rfl rfl hl.1 rfl (lv_room (Nat.le_of_ble_eq_true rfl)) dL_law_588 ⟨Nat.le_of_ble_eq_true rfl, Nat.le_of_ble_eq_true rfl⟩) hP hD hS hA [0] [] rfl rfl (by decide) (by decide) (by decide) (fun u H locs hP hD hS => ?_)
  have hP : va_P (dC, dI) vwCl [] H := hP
  have hD : va_D A [] := hD
  refine lv_icmp_eq (tgt := 1080) hx hb dL_law_591 (by decide) (fun _ => ?_) (fun h9 => absurd (by decide +kernel) h9)
  refine lv_iinc (v := 4) (lv' := [(3, .int 4), (2, .ref q49), (1, .ref q1), (0, .ref b)]) hx hb dL_law_1080 hl (k := 0) rfl (by decide +kernel) (by decide) rfl (fun ls hl => ?_)
  refine lv_goto (tgt := 18) hx hb dL_law_1083 (by decide) ?_
  refine lv_iload_n hx hb dL_law_18 rfl (lv_at hl 0 rfl) ?_
  refine lv_aload_n hx hb dL_law_19 rfl (lv_at hl 3 rfl) ?_
  refine va_slen hx hb hX hbl hbA hS dL_law_20 (tk_i (v := 4) (by decide +kernel) ?_)
  refine lv_iconst (v := 4) hx hb dL_law_21 (by decide) ?_
  refine lv_isub hx hb dL_law_22 (tk_i (v := 0) (by decide +kernel) ?_)
  refine lv_icmp_gt (tgt := 1086) hx hb dL_law_23 (by decide) (fun _ => ?_) (fun h9 => absurd (by decide +kernel) h9)
  refine lv_iconst (v := 1) hx hb dL_law_1086 (by decide) ?_
  refine va_forget (fun q hq => by have h9 := hS.2.2 q hq; rw [← hAe] at h9; exact h9) ?_
  refine W.widen (k := 600000) (n := 7302250) (by decide) (by decide) ?_
  exact lw_ret hx hb hr hlocks dL_law_1087
set_option maxHeartbeats 8000000 in
set_option maxRecDepth 100000 in
theorem lc_18 {p : Program} {e : Env} {s : State} {m : MethodId} {below : List Frame} {meth : Method} {c : Code} (l : Launch) {b : Nat} {xs : Nat → Int32} (C0 : lw_At p s m meth c b 4 xs) (dC : Nat → ClassId) (dI : Nat → Nat → Nat) (cI c2 : ClassId) (q1 : Nat) (q2 : Nat) (q3 : Nat) (q4 : Nat) (q5 : Nat) (q6 : Nat) (q7 : Nat) (q8 : Nat) (r9 : Nat → Nat) (q10 : Nat) (q11 : Nat) (q12 : Nat) (r13 : Nat → Nat) (q14 : Nat) (q15 : Nat) (q16 : Nat) (q17 : Nat) (q18 : Nat) (q19 : Nat) (q20 : Nat) (r21 : Nat → Nat) (q22 : Nat) (q23 : Nat) (q24 : Nat) (q25 : Nat) (q26 : Nat) (q27 : Nat) (q28 : Nat) (q29 : Nat) (q30 : Nat) (q31 : Nat) (q32 : Nat) (q33 : Nat) (q34 : Nat) (q35 : Nat) (q36 : Nat) (q37 : Nat) (q38 : Nat) (q39 : Nat) (q40 : Nat) (q41 : Nat) (q42 : Nat) (q43 : Nat) (q44 : Nat) (q45 : Nat) (q46 : Nat) (q47 : Nat) (q48 : Nat) (q49 : Nat) (q50 : Nat) (q51 : Nat) (q52 : Nat) (q53 : Nat) (q54 : Nat) (q55 : Nat) (q56 : Nat) (q57 : Nat) (q58 : Nat) (q59 : Nat) (q60 : Nat) (q61 : Nat) (q62 : Nat) (q63 : Nat) (q64 : Nat) (q65 : Nat) (q66 : Nat) (q67 : Nat) (a1 a2 a3 : Int32) (ha1 : xs (Int32.toNatClampNeg 1) = a1) (ha2 : xs (Int32.toNatClampNeg 2) = a2) (ha3 : xs (Int32.toNatClampNeg 3) = a3) (hK : va_K (dC, dI) vwCl [(cI, .int), (c2, .array .int)] s) (hN : nsAll s) (H : Heap) (locs : List Loc) (hP : va_P (dC, dI) vwCl [(q1, .inr (11, [.ref q2, .ref q4, .ref q6, .ref q18, .ref q23, .ref q28, .ref q33, .ref q36, .ref q37, .ref q40, .ref q44, .ref q48, .int 0])), (q2, .inr (4, [.ref q3, .int 0, .int 0])), (q3, .inl (cI, 12, .inl (fun _ => 0))), (q4, .inr (10, [.ref q5, .int 0, .int 0])), (q5, .inl (cI, 12, .inl (fun _ => (-1)))), (q6, .inr (6, [.ref q7, .ref q10, .ref q16, .ref q17, .int 0, .int 0, .int 0, .int 0, .int 0])), (q7, .inr (3, [.ref q8, .int 0])), (q8, .inl (c2, 13, .inr (.inr (.inr (.inr (fun i => if i < 13 then some (r9 i) else none)))))), (r9 0, .inl (cI, 12, .inl (fun _ => 0))), (q10, .inr (5, [.ref q11, .ref q14, .ref q15, .int 0, .int 0, .int 0])), (q11, .inr (3, [.ref q12, .int 0])), (q12, .inl (c2, 13, .inr (.inr (.inr (.inr (fun i => if i < 13 then some (r13 i) else none)))))), (r13 0, .inl (cI, 12, .inl (fun _ => 0))), (q14, .inl (cI, 4096, .inl (fun _ => 0))), (q18, .inr (9, [.ref q19, .ref q22, .int 0, .int (-1)])), (q19, .inr (3, [.ref q20, .int 0])), (q20, .inl (c2, 13, .inr (.inr (.inr (.inr (fun i => if i < 13 then some (r21 i) else none)))))), (r21 0, .inl (cI, 12, .inl (fun _ => 0))), (q23, .inr (1, [.int 0, .ref q24, .ref q25, .ref q26, .ref q27, .int 0, .int (-1), .int (-1)])), (q28, .inr (1, [.int 1, .ref q29, .ref q30, .ref q31, .ref q32, .int 0, .int (-1), .int (-1)])), (q33, .inr (7, [.ref q34, .ref q35, .int 0, .int (-1)])), (q35, .inl (cI, 12, .inl (fun _ => 0))), (q37, .inr (2, [.ref q38, .ref q39, .int 0, .int (-1)])), (q40, .inr (0, [.ref q42, .ref q41, .ref q43, .int 0, .int 0, .int 0, .int 0, .int (-1)])), (q42, .inl (cI, 4096, .inl (fun _ => 0))), (q44, .inr (0, [.ref q46, .ref q45, .ref q47, .int 0, .int 0, .int 0, .int 0, .int (-1)])), (q46, .inl (cI, 256, .inl (fun _ => 0))), (q48, .inl (cI, 5, .inl (fun _ => 0))), (q49, .inr (12, [.int 0, .ref q50, .int 0, .ref q51, .int 0, .ref q52, .ref q53, .int 0, .ref q54, .int 0, .ref q55, .int (-9), .int 0, .int 0, .ref q56, .ref q57, .ref q58, .ref q59, .ref q60, .int 0, .ref q61, .ref q62, .ref q63, .int 0, .ref q64, .ref q65, .ref q66, .int 0, .ref q67])), (q50, .inl (cI, 5, .inl (fun _ => 0))), (q51, .inl (cI, 12, .inl (fun _ => 0))), (q52, .inl (cI, 12, .inl (fun _ => (-9)))), (q56, .inl (cI, 12, .inl (fun _ => 0))), (q57, .inl (cI, 12, .inl (fun _ => 0))), (q58, .inl (cI, 49152, .inl (fun _ => 0))), (q59, .inl (cI, 4096, .inl (fun _ => 0))), (q67, .inl (cI, 12, .inl (fun _ => 0)))] H) (hD : va_D (fun q : Nat => s.heap.size ≤ q) [(q1, .inr (11, [.ref q2, .ref q4, .ref q6, .ref q18, .ref q23, .ref q28, .ref q33, .ref q36, .ref q37, .ref q40, .ref q44, .ref q48, .int 0])), (q2, .inr (4, [.ref q3, .int 0, .int 0])), (q3, .inl (cI, 12, .inl (fun _ => 0))), (q4, .inr (10, [.ref q5, .int 0, .int 0])), (q5, .inl (cI, 12, .inl (fun _ => (-1)))), (q6, .inr (6, [.ref q7, .ref q10, .ref q16, .ref q17, .int 0, .int 0, .int 0, .int 0, .int 0])), (q7, .inr (3, [.ref q8, .int 0])), (q8, .inl (c2, 13, .inr (.inr (.inr (.inr (fun i => if i < 13 then some (r9 i) else none)))))), (r9 0, .inl (cI, 12, .inl (fun _ => 0))), (q10, .inr (5, [.ref q11, .ref q14, .ref q15, .int 0, .int 0, .int 0])), (q11, .inr (3, [.ref q12, .int 0])), (q12, .inl (c2, 13, .inr (.inr (.inr (.inr (fun i => if i < 13 then some (r13 i) else none)))))), (r13 0, .inl (cI, 12, .inl (fun _ => 0))), (q14, .inl (cI, 4096, .inl (fun _ => 0))), (q18, .inr (9, [.ref q19, .ref q22, .int 0, .int (-1)])), (q19, .inr (3, [.ref q20, .int 0])), (q20, .inl (c2, 13, .inr (.inr (.inr (.inr (fun i => if i < 13 then some (r21 i) else none)))))), (r21 0, .inl (cI, 12, .inl (fun _ => 0))), (q23, .inr (1, [.int 0, .ref q24, .ref q25, .ref q26, .ref q27, .int 0, .int (-1), .int (-1)])), (q28, .inr (1, [.int 1, .ref q29, .ref q30, .ref q31, .ref q32, .int 0, .int (-1), .int (-1)])), (q33, .inr (7, [.ref q34, .ref q35, .int 0, .int (-1)])), (q35, .inl (cI, 12, .inl (fun _ => 0))), (q37, .inr (2, [.ref q38, .ref q39, .int 0, .int (-1)])), (q40, .inr (0, [.ref q42, .ref q41, .ref q43, .int 0, .int 0, .int 0, .int 0, .int (-1)])), (q42, .inl (cI, 4096, .inl (fun _ => 0))), (q44, .inr (0, [.ref q46, .ref q45, .ref q47, .int 0, .int 0, .int 0, .int 0, .int (-1)])), (q46, .inl (cI, 256, .inl (fun _ => 0))), (q48, .inl (cI, 5, .inl (fun _ => 0))), (q49, .inr (12, [.int 0, .ref q50, .int 0, .ref q51, .int 0, .ref q52, .ref q53, .int 0, .ref q54, .int 0, .ref q55, .int (-9), .int 0, .int 0, .ref q56, .ref q57, .ref q58, .ref q59, .ref q60, .int 0, .ref q61, .ref q62, .ref q63, .int 0, .ref q64, .ref q65, .ref q66, .int 0, .ref q67])), (q50, .inl (cI, 5, .inl (fun _ => 0))), (q51, .inl (cI, 12, .inl (fun _ => 0))), (q52, .inl (cI, 12, .inl (fun _ => (-9)))), (q56, .inl (cI, 12, .inl (fun _ => 0))), (q57, .inl (cI, 12, .inl (fun _ => 0))), (q58, .inl (cI, 49152, .inl (fun _ => 0))), (q59, .inl (cI, 4096, .inl (fun _ => 0))), (q67, .inl (cI, 12, .inl (fun _ => 0)))]) (hS : va_S (fun q : Nat => s.heap.size ≤ q) s.heap H locs) (ls : Array Slot) (hl : lv_has ls 4 [(3, .int 0), (2, .ref q49), (1, .ref q1), (0, .ref b)]) : W p l e room_1 s m #[Value.ref b] below meth c H locs 128 161896 (lw_Z below #[Value.ref b] s) (F0 m 596 ls []) := by
  obtain ⟨hx, hb, hr, hml, hown0, hts0, hX, hbl, hlocks, hgv⟩ := id C0
  have hown : s.vm.findClass RL = some m.cls := hown0
  have hts : ∀ w ∈ wsL_law, w.before #[Value.ref b] s = true := fun w h => hts0 w (wsL_law_in w h)
  have hA : ∀ q : Nat, s.heap.size ≤ q → (fun q : Nat => s.heap.size ≤ q) q := fun _ h => h
  have hbA : ¬ (fun q : Nat => s.heap.size ≤ q) b := Nat.not_le.mpr hbl
  generalize hAe : (fun q : Nat => s.heap.size ≤ q) = A at hD hS hA hbA
  have a1_rg := i_rng a1
  have a2_rg := i_rng a2
  have a3_rg := i_rng a3
  obtain ⟨a1_l, a1_h⟩ := a1_rg
  obtain ⟨a2_l, a2_h⟩ := a2_rg
  obtain ⟨a3_l, a3_h⟩ := a3_rg
  rcases (show a1.toInt ≤ 0 ∨ 1 ≤ a1.toInt by omega) with g_a1_1 | g_a1_1
  ·
    refine lv_aload_n hx hb dL_law_596 rfl (lv_at hl 2 rfl) ?_
    refine lv_aload_n hx hb dL_law_597 rfl (lv_at hl 3 rfl) ?_
    refine lv_iload_n hx hb dL_law_598 rfl (lv_at hl 0 rfl) ?_
    refine lv_iconst (v := 1) hx hb dL_law_599 (by decide) ?_
    refine lv_iadd hx hb dL_law_600 (tk_i (v := 1) (by decide +kernel) ?_)
    refine va_sld hx hb hX hbl hbA hS (vin (by decide +kernel)) dL_law_601 (tk_i (v := a1) ha1 ?_)
    refine kcall_i (D := (dC, dI)) (S := Unit) (v := (-1)) (wc := [(q1, .inr (11, [.ref q2, .ref q4, .ref q6, .ref q18, .ref q23, .ref q28, .ref q33, .ref q36, .ref q37, .ref q40, .ref q44, .ref q48, .int 0]))]) (wr := [(q49, .inr (12, [.int 0, .ref q50, .int 0, .ref q51, .int 0, .ref q52, .ref q53, .int 0, .ref q54, .int 0, .ref q55, .int (-9), .int 0, .int 0, .ref q56, .ref q57, .ref q58, .ref q59, .ref q60, .int 0, .ref q61, .ref q62, .ref q63, .int 0, .ref q64, .ref q65, .ref q66, .int 0, .ref q67]))]) (w1 := fun _ => []) (fun hPc hDc => va_runV (As := [.int a1]) (rest := []) ⟨hx, hb, hml, hown, hts⟩ (kX11_sort_1 l dC dI cI c2 q1 q2 q4 q6 q18 q23 q28 q33 q36 q37 q40 q44 q48 H.size a1 (by omega) (by omega)) (cwV 1 hts gL_law_X11_sort rfl rfl rfl (by decide +kernel) ⟨Nat.le_of_ble_eq_true rfl, Nat.le_of_ble_eq_true rfl⟩) (pre_V hPc hK hDc hN (ci := 11) (q0 := 0) rfl rfl) rfl rfl hl.1 rfl (lv_room (Nat.le_of_ble_eq_true rfl)) dL_law_602 ⟨Nat.le_of_ble_eq_true rfl, Nat.le_of_ble_eq_true rfl⟩) hP hD hS hA [0] [28] rfl rfl (by decide) (by decide) (by decide) (fun u H locs hP hD hS => ?_)
    have hP : va_P (dC, dI) vwCl [(q49, .inr (12, [.int 0, .ref q50, .int 0, .ref q51, .int 0, .ref q52, .ref q53, .int 0, .ref q54, .int 0, .ref q55, .int (-9), .int 0, .int 0, .ref q56, .ref q57, .ref q58, .ref q59, .ref q60, .int 0, .ref q61, .ref q62, .ref q63, .int 0, .ref q64, .ref q65, .ref q66, .int 0, .ref q67]))] H := hP
    have hD : va_D A [(q49, .inr (12, [.int 0, .ref q50, .int 0, .ref q51, .int 0, .ref q52, .ref q53, .int 0, .ref q54, .int 0, .ref q55, .int (-9), .int 0, .int 0, .ref q56, .ref q57, .ref q58, .ref q59, .ref q60, .int 0, .ref q61, .ref q62, .ref q63, .int 0, .ref q64, .ref q65, .ref q66, .int 0, .ref q67]))] := hD
    refine lv_aload_n hx hb dL_law_605 rfl (lv_at hl 1 rfl) ?_
    refine lv_aload_n hx hb dL_law_606 rfl (lv_at hl 3 rfl) ?_
    refine lv_iload_n hx hb dL_law_607 rfl (lv_at hl 0 rfl) ?_
    refine lv_iconst (v := 1) hx hb dL_law_608 (by decide) ?_
    refine lv_iadd hx hb dL_law_609 (tk_i (v := 1) (by decide +kernel) ?_)
    refine va_sld hx hb hX hbl hbA hS (vin (by decide +kernel)) dL_law_610 (tk_i (v := a1) ha1 ?_)
    refine kcall_i (D := (dC, dI)) (S := Unit) (v := (-1)) (wc := [(q49, .inr (12, [.int 0, .ref q50, .int 0, .ref q51, .int 0, .ref q52, .ref q53, .int 0, .ref q54, .int 0, .ref q55, .int (-9), .int 0, .int 0, .ref q56, .ref q57, .ref q58, .ref q59, .ref q60, .int 0, .ref q61, .ref q62, .ref q63, .int 0, .ref q64, .ref q65, .ref q66, .int 0, .ref q67]))]) (wr := []) (w1 := fun _ => []) (fun hPc hDc => va_runV (As := [.int a1]) (rest := [.int (-1)]) ⟨hx, hb, hml, hown, hts⟩ (kX12_sort_1 l dC dI cI c2 q49 q50 q51 q52 q53 q54 q55 q56 q57 q58 q59 q60 q61 q62 q63 q64 q65 q66 q67 H.size a1 (by omega) (by omega)) (cwV 1 hts gL_law_X12_sort rfl rfl rfl (by decide +kernel) ⟨Nat.le_of_ble_eq_true rfl, Nat.le_of_ble_eq_true rfl⟩) (pre_V hPc hK hDc hN (ci := 12) (q0 := 0) rfl rfl) rfl rfl hl.1 rfl (lv_room (Nat.le_of_ble_eq_true rfl)) dL_law_611 ⟨Nat.le_of_ble_eq_true rfl, Nat.le_of_ble_eq_true rfl⟩) hP hD hS hA [0] [] rfl rfl (by decide) (by decide) (by decide) (fun u H locs hP hD hS => ?_)
    have hP : va_P (dC, dI) vwCl [] H := hP
    have hD : va_D A [] := hD
    refine lv_icmp_eq (tgt := 1080) hx hb dL_law_614 (by decide) (fun _ => ?_) (fun h9 => absurd (by decide +kernel) h9)
    refine lv_iinc (v := 4) (lv' := [(3, .int 4), (2, .ref q49), (1, .ref q1), (0, .ref b)]) hx hb dL_law_1080 hl (k := 0) rfl (by decide +kernel) (by decide) rfl (fun ls hl => ?_)
    refine lv_goto (tgt := 18) hx hb dL_law_1083 (by decide) ?_
    refine lv_iload_n hx hb dL_law_18 rfl (lv_at hl 0 rfl) ?_
    refine lv_aload_n hx hb dL_law_19 rfl (lv_at hl 3 rfl) ?_
    refine va_slen hx hb hX hbl hbA hS dL_law_20 (tk_i (v := 4) (by decide +kernel) ?_)
    refine lv_iconst (v := 4) hx hb dL_law_21 (by decide) ?_
    refine lv_isub hx hb dL_law_22 (tk_i (v := 0) (by decide +kernel) ?_)
    refine lv_icmp_gt (tgt := 1086) hx hb dL_law_23 (by decide) (fun _ => ?_) (fun h9 => absurd (by decide +kernel) h9)
    refine lv_iconst (v := 1) hx hb dL_law_1086 (by decide) ?_
    refine va_forget (fun q hq => by have h9 := hS.2.2 q hq; rw [← hAe] at h9; exact h9) ?_
    refine W.widen (k := 600000) (n := 7302250) (by decide) (by decide) ?_
    exact lw_ret hx hb hr hlocks dL_law_1087
  ·
    refine lv_aload_n hx hb dL_law_596 rfl (lv_at hl 2 rfl) ?_
    refine lv_aload_n hx hb dL_law_597 rfl (lv_at hl 3 rfl) ?_
    refine lv_iload_n hx hb dL_law_598 rfl (lv_at hl 0 rfl) ?_
    refine lv_iconst (v := 1) hx hb dL_law_599 (by decide) ?_
    refine lv_iadd hx hb dL_law_600 (tk_i (v := 1) (by decide +kernel) ?_)
    refine va_sld hx hb hX hbl hbA hS (vin (by decide +kernel)) dL_law_601 (tk_i (v := a1) ha1 ?_)
    refine kcall_i (D := (dC, dI)) (S := Unit) (v := (-1)) (wc := [(q1, .inr (11, [.ref q2, .ref q4, .ref q6, .ref q18, .ref q23, .ref q28, .ref q33, .ref q36, .ref q37, .ref q40, .ref q44, .ref q48, .int 0])), (q2, .inr (4, [.ref q3, .int 0, .int 0]))]) (wr := [(q49, .inr (12, [.int 0, .ref q50, .int 0, .ref q51, .int 0, .ref q52, .ref q53, .int 0, .ref q54, .int 0, .ref q55, .int (-9), .int 0, .int 0, .ref q56, .ref q57, .ref q58, .ref q59, .ref q60, .int 0, .ref q61, .ref q62, .ref q63, .int 0, .ref q64, .ref q65, .ref q66, .int 0, .ref q67]))]) (w1 := fun _ => []) (fun hPc hDc => va_runV (As := [.int a1]) (rest := []) ⟨hx, hb, hml, hown, hts⟩ (kX11_sort_2 l dC dI cI c2 q1 q2 q4 q6 q18 q23 q28 q33 q36 q37 q40 q44 q48 q3 H.size a1 (by omega) (by omega)) (cwV 1 hts gL_law_X11_sort rfl rfl rfl (by decide +kernel) ⟨Nat.le_of_ble_eq_true rfl, Nat.le_of_ble_eq_true rfl⟩) (pre_V hPc hK hDc hN (ci := 11) (q0 := 0) rfl rfl) rfl rfl hl.1 rfl (lv_room (Nat.le_of_ble_eq_true rfl)) dL_law_602 ⟨Nat.le_of_ble_eq_true rfl, Nat.le_of_ble_eq_true rfl⟩) hP hD hS hA [0, 1] [28] rfl rfl (by decide) (by decide) (by decide) (fun u H locs hP hD hS => ?_)
    have hP : va_P (dC, dI) vwCl [(q49, .inr (12, [.int 0, .ref q50, .int 0, .ref q51, .int 0, .ref q52, .ref q53, .int 0, .ref q54, .int 0, .ref q55, .int (-9), .int 0, .int 0, .ref q56, .ref q57, .ref q58, .ref q59, .ref q60, .int 0, .ref q61, .ref q62, .ref q63, .int 0, .ref q64, .ref q65, .ref q66, .int 0, .ref q67]))] H := hP
    have hD : va_D A [(q49, .inr (12, [.int 0, .ref q50, .int 0, .ref q51, .int 0, .ref q52, .ref q53, .int 0, .ref q54, .int 0, .ref q55, .int (-9), .int 0, .int 0, .ref q56, .ref q57, .ref q58, .ref q59, .ref q60, .int 0, .ref q61, .ref q62, .ref q63, .int 0, .ref q64, .ref q65, .ref q66, .int 0, .ref q67]))] := hD
    refine lv_aload_n hx hb dL_law_605 rfl (lv_at hl 1 rfl) ?_
    refine lv_aload_n hx hb dL_law_606 rfl (lv_at hl 3 rfl) ?_
    refine lv_iload_n hx hb dL_law_607 rfl (lv_at hl 0 rfl) ?_
    refine lv_iconst (v := 1) hx hb dL_law_608 (by decide) ?_
    refine lv_iadd hx hb dL_law_609 (tk_i (v := 1) (by decide +kernel) ?_)
    refine va_sld hx hb hX hbl hbA hS (vin (by decide +kernel)) dL_law_610 (tk_i (v := a1) ha1 ?_)
    refine kcall_i (D := (dC, dI)) (S := Unit) (v := (-1)) (wc := [(q49, .inr (12, [.int 0, .ref q50, .int 0, .ref q51, .int 0, .ref q52, .ref q53, .int 0, .ref q54, .int 0, .ref q55, .int (-9), .int 0, .int 0, .ref q56, .ref q57, .ref q58, .ref q59, .ref q60, .int 0, .ref q61, .ref q62, .ref q63, .int 0, .ref q64, .ref q65, .ref q66, .int 0, .ref q67]))]) (wr := []) (w1 := fun _ => []) (fun hPc hDc => va_runV (As := [.int a1]) (rest := [.int (-1)]) ⟨hx, hb, hml, hown, hts⟩ (kX12_sort_2 l dC dI cI c2 q49 q50 q51 q52 q53 q54 q55 q56 q57 q58 q59 q60 q61 q62 q63 q64 q65 q66 q67 H.size a1 (by omega) (by omega)) (cwV 1 hts gL_law_X12_sort rfl rfl rfl (by decide +kernel) ⟨Nat.le_of_ble_eq_true rfl, Nat.le_of_ble_eq_true rfl⟩) (pre_V hPc hK hDc hN (ci := 12) (q0 := 0) rfl rfl) rfl rfl hl.1 rfl (lv_room (Nat.le_of_ble_eq_true rfl)) dL_law_611 ⟨Nat.le_of_ble_eq_true rfl, Nat.le_of_ble_eq_true rfl⟩) hP hD hS hA [0] [] rfl rfl (by decide) (by decide) (by decide) (fun u H locs hP hD hS => ?_)
    have hP : va_P (dC, dI) vwCl [] H := hP
    have hD : va_D A [] := hD
    refine lv_icmp_eq (tgt := 1080) hx hb dL_law_614 (by decide) (fun _ => ?_) (fun h9 => absurd (by decide +kernel) h9)
    refine lv_iinc (v := 4) (lv' := [(3, .int 4), (2, .ref q49), (1, .ref q1), (0, .ref b)]) hx hb dL_law_1080 hl (k := 0) rfl (by decide +kernel) (by decide) rfl (fun ls hl => ?_)
    refine lv_goto (tgt := 18) hx hb dL_law_1083 (by decide) ?_
    refine lv_iload_n hx hb dL_law_18 rfl (lv_at hl 0 rfl) ?_
    refine lv_aload_n hx hb dL_law_19 rfl (lv_at hl 3 rfl) ?_
    refine va_slen hx hb hX hbl hbA hS dL_law_20 (tk_i (v := 4) (by decide +kernel) ?_)
    refine lv_iconst (v := 4) hx hb dL_law_21 (by decide) ?_
    refine lv_isub hx hb dL_law_22 (tk_i (v := 0) (by decide +kernel) ?_)
    refine lv_icmp_gt (tgt := 1086) hx hb dL_law_23 (by decide) (fun _ => ?_) (fun h9 => absurd (by decide +kernel) h9)
    refine lv_iconst (v := 1) hx hb dL_law_1086 (by decide) ?_
    refine va_forget (fun q hq => by have h9 := hS.2.2 q hq; rw [← hAe] at h9; exact h9) ?_
    refine W.widen (k := 600000) (n := 7302250) (by decide) (by decide) ?_
    exact lw_ret hx hb hr hlocks dL_law_1087
set_option maxHeartbeats 8000000 in
set_option maxRecDepth 100000 in
theorem lc_19 {p : Program} {e : Env} {s : State} {m : MethodId} {below : List Frame} {meth : Method} {c : Code} (l : Launch) {b : Nat} {xs : Nat → Int32} (C0 : lw_At p s m meth c b 4 xs) (dC : Nat → ClassId) (dI : Nat → Nat → Nat) (cI c2 : ClassId) (q1 : Nat) (q2 : Nat) (q3 : Nat) (q4 : Nat) (q5 : Nat) (q6 : Nat) (q7 : Nat) (q8 : Nat) (r9 : Nat → Nat) (q10 : Nat) (q11 : Nat) (q12 : Nat) (r13 : Nat → Nat) (q14 : Nat) (q15 : Nat) (q16 : Nat) (q17 : Nat) (q18 : Nat) (q19 : Nat) (q20 : Nat) (r21 : Nat → Nat) (q22 : Nat) (q23 : Nat) (q24 : Nat) (q25 : Nat) (q26 : Nat) (q27 : Nat) (q28 : Nat) (q29 : Nat) (q30 : Nat) (q31 : Nat) (q32 : Nat) (q33 : Nat) (q34 : Nat) (q35 : Nat) (q36 : Nat) (q37 : Nat) (q38 : Nat) (q39 : Nat) (q40 : Nat) (q41 : Nat) (q42 : Nat) (q43 : Nat) (q44 : Nat) (q45 : Nat) (q46 : Nat) (q47 : Nat) (q48 : Nat) (q49 : Nat) (q50 : Nat) (q51 : Nat) (q52 : Nat) (q53 : Nat) (q54 : Nat) (q55 : Nat) (q56 : Nat) (q57 : Nat) (q58 : Nat) (q59 : Nat) (q60 : Nat) (q61 : Nat) (q62 : Nat) (q63 : Nat) (q64 : Nat) (q65 : Nat) (q66 : Nat) (q67 : Nat) (a1 a2 a3 : Int32) (ha1 : xs (Int32.toNatClampNeg 1) = a1) (ha2 : xs (Int32.toNatClampNeg 2) = a2) (ha3 : xs (Int32.toNatClampNeg 3) = a3) (hK : va_K (dC, dI) vwCl [(cI, .int), (c2, .array .int)] s) (hN : nsAll s) (H : Heap) (locs : List Loc) (hP : va_P (dC, dI) vwCl [(q1, .inr (11, [.ref q2, .ref q4, .ref q6, .ref q18, .ref q23, .ref q28, .ref q33, .ref q36, .ref q37, .ref q40, .ref q44, .ref q48, .int 0])), (q2, .inr (4, [.ref q3, .int 0, .int 0])), (q3, .inl (cI, 12, .inl (fun _ => 0))), (q4, .inr (10, [.ref q5, .int 0, .int 0])), (q5, .inl (cI, 12, .inl (fun _ => (-1)))), (q6, .inr (6, [.ref q7, .ref q10, .ref q16, .ref q17, .int 0, .int 0, .int 0, .int 0, .int 0])), (q7, .inr (3, [.ref q8, .int 0])), (q8, .inl (c2, 13, .inr (.inr (.inr (.inr (fun i => if i < 13 then some (r9 i) else none)))))), (r9 0, .inl (cI, 12, .inl (fun _ => 0))), (q10, .inr (5, [.ref q11, .ref q14, .ref q15, .int 0, .int 0, .int 0])), (q11, .inr (3, [.ref q12, .int 0])), (q12, .inl (c2, 13, .inr (.inr (.inr (.inr (fun i => if i < 13 then some (r13 i) else none)))))), (r13 0, .inl (cI, 12, .inl (fun _ => 0))), (q14, .inl (cI, 4096, .inl (fun _ => 0))), (q18, .inr (9, [.ref q19, .ref q22, .int 0, .int (-1)])), (q19, .inr (3, [.ref q20, .int 0])), (q20, .inl (c2, 13, .inr (.inr (.inr (.inr (fun i => if i < 13 then some (r21 i) else none)))))), (r21 0, .inl (cI, 12, .inl (fun _ => 0))), (q23, .inr (1, [.int 0, .ref q24, .ref q25, .ref q26, .ref q27, .int 0, .int (-1), .int (-1)])), (q28, .inr (1, [.int 1, .ref q29, .ref q30, .ref q31, .ref q32, .int 0, .int (-1), .int (-1)])), (q33, .inr (7, [.ref q34, .ref q35, .int 0, .int (-1)])), (q35, .inl (cI, 12, .inl (fun _ => 0))), (q37, .inr (2, [.ref q38, .ref q39, .int 0, .int (-1)])), (q40, .inr (0, [.ref q42, .ref q41, .ref q43, .int 0, .int 0, .int 0, .int 0, .int (-1)])), (q42, .inl (cI, 4096, .inl (fun _ => 0))), (q44, .inr (0, [.ref q46, .ref q45, .ref q47, .int 0, .int 0, .int 0, .int 0, .int (-1)])), (q46, .inl (cI, 256, .inl (fun _ => 0))), (q48, .inl (cI, 5, .inl (fun _ => 0))), (q49, .inr (12, [.int 0, .ref q50, .int 0, .ref q51, .int 0, .ref q52, .ref q53, .int 0, .ref q54, .int 0, .ref q55, .int (-9), .int 0, .int 0, .ref q56, .ref q57, .ref q58, .ref q59, .ref q60, .int 0, .ref q61, .ref q62, .ref q63, .int 0, .ref q64, .ref q65, .ref q66, .int 0, .ref q67])), (q50, .inl (cI, 5, .inl (fun _ => 0))), (q51, .inl (cI, 12, .inl (fun _ => 0))), (q52, .inl (cI, 12, .inl (fun _ => (-9)))), (q56, .inl (cI, 12, .inl (fun _ => 0))), (q57, .inl (cI, 12, .inl (fun _ => 0))), (q58, .inl (cI, 49152, .inl (fun _ => 0))), (q59, .inl (cI, 4096, .inl (fun _ => 0))), (q67, .inl (cI, 12, .inl (fun _ => 0)))] H) (hD : va_D (fun q : Nat => s.heap.size ≤ q) [(q1, .inr (11, [.ref q2, .ref q4, .ref q6, .ref q18, .ref q23, .ref q28, .ref q33, .ref q36, .ref q37, .ref q40, .ref q44, .ref q48, .int 0])), (q2, .inr (4, [.ref q3, .int 0, .int 0])), (q3, .inl (cI, 12, .inl (fun _ => 0))), (q4, .inr (10, [.ref q5, .int 0, .int 0])), (q5, .inl (cI, 12, .inl (fun _ => (-1)))), (q6, .inr (6, [.ref q7, .ref q10, .ref q16, .ref q17, .int 0, .int 0, .int 0, .int 0, .int 0])), (q7, .inr (3, [.ref q8, .int 0])), (q8, .inl (c2, 13, .inr (.inr (.inr (.inr (fun i => if i < 13 then some (r9 i) else none)))))), (r9 0, .inl (cI, 12, .inl (fun _ => 0))), (q10, .inr (5, [.ref q11, .ref q14, .ref q15, .int 0, .int 0, .int 0])), (q11, .inr (3, [.ref q12, .int 0])), (q12, .inl (c2, 13, .inr (.inr (.inr (.inr (fun i => if i < 13 then some (r13 i) else none)))))), (r13 0, .inl (cI, 12, .inl (fun _ => 0))), (q14, .inl (cI, 4096, .inl (fun _ => 0))), (q18, .inr (9, [.ref q19, .ref q22, .int 0, .int (-1)])), (q19, .inr (3, [.ref q20, .int 0])), (q20, .inl (c2, 13, .inr (.inr (.inr (.inr (fun i => if i < 13 then some (r21 i) else none)))))), (r21 0, .inl (cI, 12, .inl (fun _ => 0))), (q23, .inr (1, [.int 0, .ref q24, .ref q25, .ref q26, .ref q27, .int 0, .int (-1), .int (-1)])), (q28, .inr (1, [.int 1, .ref q29, .ref q30, .ref q31, .ref q32, .int 0, .int (-1), .int (-1)])), (q33, .inr (7, [.ref q34, .ref q35, .int 0, .int (-1)])), (q35, .inl (cI, 12, .inl (fun _ => 0))), (q37, .inr (2, [.ref q38, .ref q39, .int 0, .int (-1)])), (q40, .inr (0, [.ref q42, .ref q41, .ref q43, .int 0, .int 0, .int 0, .int 0, .int (-1)])), (q42, .inl (cI, 4096, .inl (fun _ => 0))), (q44, .inr (0, [.ref q46, .ref q45, .ref q47, .int 0, .int 0, .int 0, .int 0, .int (-1)])), (q46, .inl (cI, 256, .inl (fun _ => 0))), (q48, .inl (cI, 5, .inl (fun _ => 0))), (q49, .inr (12, [.int 0, .ref q50, .int 0, .ref q51, .int 0, .ref q52, .ref q53, .int 0, .ref q54, .int 0, .ref q55, .int (-9), .int 0, .int 0, .ref q56, .ref q57, .ref q58, .ref q59, .ref q60, .int 0, .ref q61, .ref q62, .ref q63, .int 0, .ref q64, .ref q65, .ref q66, .int 0, .ref q67])), (q50, .inl (cI, 5, .inl (fun _ => 0))), (q51, .inl (cI, 12, .inl (fun _ => 0))), (q52, .inl (cI, 12, .inl (fun _ => (-9)))), (q56, .inl (cI, 12, .inl (fun _ => 0))), (q57, .inl (cI, 12, .inl (fun _ => 0))), (q58, .inl (cI, 49152, .inl (fun _ => 0))), (q59, .inl (cI, 4096, .inl (fun _ => 0))), (q67, .inl (cI, 12, .inl (fun _ => 0)))]) (hS : va_S (fun q : Nat => s.heap.size ≤ q) s.heap H locs) (ls : Array Slot) (hl : lv_has ls 4 [(3, .int 0), (2, .ref q49), (1, .ref q1), (0, .ref b)]) : W p l e room_1 s m #[Value.ref b] below meth c H locs 128 161896 (lw_Z below #[Value.ref b] s) (F0 m 619 ls []) := by
  obtain ⟨hx, hb, hr, hml, hown0, hts0, hX, hbl, hlocks, hgv⟩ := id C0
  have hown : s.vm.findClass RL = some m.cls := hown0
  have hts : ∀ w ∈ wsL_law, w.before #[Value.ref b] s = true := fun w h => hts0 w (wsL_law_in w h)
  have hA : ∀ q : Nat, s.heap.size ≤ q → (fun q : Nat => s.heap.size ≤ q) q := fun _ h => h
  have hbA : ¬ (fun q : Nat => s.heap.size ≤ q) b := Nat.not_le.mpr hbl
  generalize hAe : (fun q : Nat => s.heap.size ≤ q) = A at hD hS hA hbA
  have a1_rg := i_rng a1
  have a2_rg := i_rng a2
  have a3_rg := i_rng a3
  obtain ⟨a1_l, a1_h⟩ := a1_rg
  obtain ⟨a2_l, a2_h⟩ := a2_rg
  obtain ⟨a3_l, a3_h⟩ := a3_rg
  rcases (show a1.toInt ≤ (-2) ∨ (-1) ≤ a1.toInt by omega) with g_a1_1 | g_a1_1
  ·
    refine lv_aload_n hx hb dL_law_619 rfl (lv_at hl 2 rfl) ?_
    refine lv_aload_n hx hb dL_law_620 rfl (lv_at hl 3 rfl) ?_
    refine lv_iload_n hx hb dL_law_621 rfl (lv_at hl 0 rfl) ?_
    refine lv_iconst (v := 1) hx hb dL_law_622 (by decide) ?_
    refine lv_iadd hx hb dL_law_623 (tk_i (v := 1) (by decide +kernel) ?_)
    refine va_sld hx hb hX hbl hbA hS (vin (by decide +kernel)) dL_law_624 (tk_i (v := a1) ha1 ?_)
    refine kcall_i (D := (dC, dI)) (S := Unit) (v := (-1)) (wc := [(q1, .inr (11, [.ref q2, .ref q4, .ref q6, .ref q18, .ref q23, .ref q28, .ref q33, .ref q36, .ref q37, .ref q40, .ref q44, .ref q48, .int 0])), (q2, .inr (4, [.ref q3, .int 0, .int 0]))]) (wr := [(q49, .inr (12, [.int 0, .ref q50, .int 0, .ref q51, .int 0, .ref q52, .ref q53, .int 0, .ref q54, .int 0, .ref q55, .int (-9), .int 0, .int 0, .ref q56, .ref q57, .ref q58, .ref q59, .ref q60, .int 0, .ref q61, .ref q62, .ref q63, .int 0, .ref q64, .ref q65, .ref q66, .int 0, .ref q67]))]) (w1 := fun _ => []) (fun hPc hDc => va_runV (As := [.int a1]) (rest := []) ⟨hx, hb, hml, hown, hts⟩ (kX11_colour_1 l dC dI cI c2 q1 q2 q4 q6 q18 q23 q28 q33 q36 q37 q40 q44 q48 q3 H.size a1 (by omega) (by omega)) (cwV 1 hts gL_law_X11_colour rfl rfl rfl (by decide +kernel) ⟨Nat.le_of_ble_eq_true rfl, Nat.le_of_ble_eq_true rfl⟩) (pre_V hPc hK hDc hN (ci := 11) (q0 := 0) rfl rfl) rfl rfl hl.1 rfl (lv_room (Nat.le_of_ble_eq_true rfl)) dL_law_625 ⟨Nat.le_of_ble_eq_true rfl, Nat.le_of_ble_eq_true rfl⟩) hP hD hS hA [0, 1] [28] rfl rfl (by decide) (by decide) (by decide) (fun u H locs hP hD hS => ?_)
    have hP : va_P (dC, dI) vwCl [(q49, .inr (12, [.int 0, .ref q50, .int 0, .ref q51, .int 0, .ref q52, .ref q53, .int 0, .ref q54, .int 0, .ref q55, .int (-9), .int 0, .int 0, .ref q56, .ref q57, .ref q58, .ref q59, .ref q60, .int 0, .ref q61, .ref q62, .ref q63, .int 0, .ref q64, .ref q65, .ref q66, .int 0, .ref q67]))] H := hP
    have hD : va_D A [(q49, .inr (12, [.int 0, .ref q50, .int 0, .ref q51, .int 0, .ref q52, .ref q53, .int 0, .ref q54, .int 0, .ref q55, .int (-9), .int 0, .int 0, .ref q56, .ref q57, .ref q58, .ref q59, .ref q60, .int 0, .ref q61, .ref q62, .ref q63, .int 0, .ref q64, .ref q65, .ref q66, .int 0, .ref q67]))] := hD
    refine lv_aload_n hx hb dL_law_628 rfl (lv_at hl 1 rfl) ?_
    refine lv_aload_n hx hb dL_law_629 rfl (lv_at hl 3 rfl) ?_
    refine lv_iload_n hx hb dL_law_630 rfl (lv_at hl 0 rfl) ?_
    refine lv_iconst (v := 1) hx hb dL_law_631 (by decide) ?_
    refine lv_iadd hx hb dL_law_632 (tk_i (v := 1) (by decide +kernel) ?_)
    refine va_sld hx hb hX hbl hbA hS (vin (by decide +kernel)) dL_law_633 (tk_i (v := a1) ha1 ?_)
    refine kcall_i (D := (dC, dI)) (S := Unit) (v := (-1)) (wc := [(q49, .inr (12, [.int 0, .ref q50, .int 0, .ref q51, .int 0, .ref q52, .ref q53, .int 0, .ref q54, .int 0, .ref q55, .int (-9), .int 0, .int 0, .ref q56, .ref q57, .ref q58, .ref q59, .ref q60, .int 0, .ref q61, .ref q62, .ref q63, .int 0, .ref q64, .ref q65, .ref q66, .int 0, .ref q67]))]) (wr := []) (w1 := fun _ => []) (fun hPc hDc => va_runV (As := [.int a1]) (rest := [.int (-1)]) ⟨hx, hb, hml, hown, hts⟩ (kX12_colour_1 l dC dI cI c2 q49 q50 q51 q52 q53 q54 q55 q56 q57 q58 q59 q60 q61 q62 q63 q64 q65 q66 q67 H.size a1 (by omega) (by omega)) (cwV 1 hts gL_law_X12_colour rfl rfl rfl (by decide +kernel) ⟨Nat.le_of_ble_eq_true rfl, Nat.le_of_ble_eq_true rfl⟩) (pre_V hPc hK hDc hN (ci := 12) (q0 := 0) rfl rfl) rfl rfl hl.1 rfl (lv_room (Nat.le_of_ble_eq_true rfl)) dL_law_634 ⟨Nat.le_of_ble_eq_true rfl, Nat.le_of_ble_eq_true rfl⟩) hP hD hS hA [0] [] rfl rfl (by decide) (by decide) (by decide) (fun u H locs hP hD hS => ?_)
    have hP : va_P (dC, dI) vwCl [] H := hP
    have hD : va_D A [] := hD
    refine lv_icmp_eq (tgt := 1080) hx hb dL_law_637 (by decide) (fun _ => ?_) (fun h9 => absurd (by decide +kernel) h9)
    refine lv_iinc (v := 4) (lv' := [(3, .int 4), (2, .ref q49), (1, .ref q1), (0, .ref b)]) hx hb dL_law_1080 hl (k := 0) rfl (by decide +kernel) (by decide) rfl (fun ls hl => ?_)
    refine lv_goto (tgt := 18) hx hb dL_law_1083 (by decide) ?_
    refine lv_iload_n hx hb dL_law_18 rfl (lv_at hl 0 rfl) ?_
    refine lv_aload_n hx hb dL_law_19 rfl (lv_at hl 3 rfl) ?_
    refine va_slen hx hb hX hbl hbA hS dL_law_20 (tk_i (v := 4) (by decide +kernel) ?_)
    refine lv_iconst (v := 4) hx hb dL_law_21 (by decide) ?_
    refine lv_isub hx hb dL_law_22 (tk_i (v := 0) (by decide +kernel) ?_)
    refine lv_icmp_gt (tgt := 1086) hx hb dL_law_23 (by decide) (fun _ => ?_) (fun h9 => absurd (by decide +kernel) h9)
    refine lv_iconst (v := 1) hx hb dL_law_1086 (by decide) ?_
    refine va_forget (fun q hq => by have h9 := hS.2.2 q hq; rw [← hAe] at h9; exact h9) ?_
    refine W.widen (k := 600000) (n := 7302250) (by decide) (by decide) ?_
    exact lw_ret hx hb hr hlocks dL_law_1087
  ·
    rcases (show a1.toInt ≤ (-1) ∨ 0 ≤ a1.toInt by omega) with g_a1_0 | g_a1_0
    ·
      have e_a1 : a1 = (-1) := ib_eq (X := (-1)) (by omega) (by decide +kernel)
      subst e_a1
      refine lv_aload_n hx hb dL_law_619 rfl (lv_at hl 2 rfl) ?_
      refine lv_aload_n hx hb dL_law_620 rfl (lv_at hl 3 rfl) ?_
      refine lv_iload_n hx hb dL_law_621 rfl (lv_at hl 0 rfl) ?_
      refine lv_iconst (v := 1) hx hb dL_law_622 (by decide) ?_
      refine lv_iadd hx hb dL_law_623 (tk_i (v := 1) (by decide +kernel) ?_)
      refine va_sld hx hb hX hbl hbA hS (vin (by decide +kernel)) dL_law_624 (tk_i (v := (-1)) ha1 ?_)
      refine kcall_i (D := (dC, dI)) (S := Unit) (v := 0) (wc := [(q1, .inr (11, [.ref q2, .ref q4, .ref q6, .ref q18, .ref q23, .ref q28, .ref q33, .ref q36, .ref q37, .ref q40, .ref q44, .ref q48, .int 0])), (q23, .inr (1, [.int 0, .ref q24, .ref q25, .ref q26, .ref q27, .int 0, .int (-1), .int (-1)])), (q2, .inr (4, [.ref q3, .int 0, .int 0])), (q33, .inr (7, [.ref q34, .ref q35, .int 0, .int (-1)])), (q35, .inl (cI, 12, .inl (fun _ => 0)))]) (wr := [(q49, .inr (12, [.int 0, .ref q50, .int 0, .ref q51, .int 0, .ref q52, .ref q53, .int 0, .ref q54, .int 0, .ref q55, .int (-9), .int 0, .int 0, .ref q56, .ref q57, .ref q58, .ref q59, .ref q60, .int 0, .ref q61, .ref q62, .ref q63, .int 0, .ref q64, .ref q65, .ref q66, .int 0, .ref q67]))]) (w1 := fun _ => []) (fun hPc hDc => va_runV (As := [.int (-1)]) (rest := []) ⟨hx, hb, hml, hown, hts⟩ (kX11_colour_2 l dC dI cI c2 q1 q23 q2 q33 q35 q4 q6 q18 q28 q36 q37 q40 q44 q48 q24 q25 q26 q27 q3 q34 H.size) (cwV 1 hts gL_law_X11_colour rfl rfl rfl (by decide +kernel) ⟨Nat.le_of_ble_eq_true rfl, Nat.le_of_ble_eq_true rfl⟩) (pre_V hPc hK hDc hN (ci := 11) (q0 := 0) rfl rfl) rfl rfl hl.1 rfl (lv_room (Nat.le_of_ble_eq_true rfl)) dL_law_625 ⟨Nat.le_of_ble_eq_true rfl, Nat.le_of_ble_eq_true rfl⟩) hP hD hS hA [0, 18, 1, 20, 21] [28] rfl rfl (by decide) (by decide) (by decide) (fun u H locs hP hD hS => ?_)
      have hP : va_P (dC, dI) vwCl [(q49, .inr (12, [.int 0, .ref q50, .int 0, .ref q51, .int 0, .ref q52, .ref q53, .int 0, .ref q54, .int 0, .ref q55, .int (-9), .int 0, .int 0, .ref q56, .ref q57, .ref q58, .ref q59, .ref q60, .int 0, .ref q61, .ref q62, .ref q63, .int 0, .ref q64, .ref q65, .ref q66, .int 0, .ref q67]))] H := hP
      have hD : va_D A [(q49, .inr (12, [.int 0, .ref q50, .int 0, .ref q51, .int 0, .ref q52, .ref q53, .int 0, .ref q54, .int 0, .ref q55, .int (-9), .int 0, .int 0, .ref q56, .ref q57, .ref q58, .ref q59, .ref q60, .int 0, .ref q61, .ref q62, .ref q63, .int 0, .ref q64, .ref q65, .ref q66, .int 0, .ref q67]))] := hD
      refine lv_aload_n hx hb dL_law_628 rfl (lv_at hl 1 rfl) ?_
      refine lv_aload_n hx hb dL_law_629 rfl (lv_at hl 3 rfl) ?_
      refine lv_iload_n hx hb dL_law_630 rfl (lv_at hl 0 rfl) ?_
      refine lv_iconst (v := 1) hx hb dL_law_631 (by decide) ?_
      refine lv_iadd hx hb dL_law_632 (tk_i (v := 1) (by decide +kernel) ?_)
      refine va_sld hx hb hX hbl hbA hS (vin (by decide +kernel)) dL_law_633 (tk_i (v := (-1)) ha1 ?_)
      refine kcall_i (D := (dC, dI)) (S := Unit) (v := 0) (wc := [(q49, .inr (12, [.int 0, .ref q50, .int 0, .ref q51, .int 0, .ref q52, .ref q53, .int 0, .ref q54, .int 0, .ref q55, .int (-9), .int 0, .int 0, .ref q56, .ref q57, .ref q58, .ref q59, .ref q60, .int 0, .ref q61, .ref q62, .ref q63, .int 0, .ref q64, .ref q65, .ref q66, .int 0, .ref q67]))]) (wr := []) (w1 := fun _ => []) (fun hPc hDc => va_runV (As := [.int (-1)]) (rest := [.int 0]) ⟨hx, hb, hml, hown, hts⟩ (kX12_colour_2 l dC dI cI c2 q49 q50 q51 q52 q53 q54 q55 q56 q57 q58 q59 q60 q61 q62 q63 q64 q65 q66 q67 H.size) (cwV 1 hts gL_law_X12_colour rfl rfl rfl (by decide +kernel) ⟨Nat.le_of_ble_eq_true rfl, Nat.le_of_ble_eq_true rfl⟩) (pre_V hPc hK hDc hN (ci := 12) (q0 := 0) rfl rfl) rfl rfl hl.1 rfl (lv_room (Nat.le_of_ble_eq_true rfl)) dL_law_634 ⟨Nat.le_of_ble_eq_true rfl, Nat.le_of_ble_eq_true rfl⟩) hP hD hS hA [0] [] rfl rfl (by decide) (by decide) (by decide) (fun u H locs hP hD hS => ?_)
      have hP : va_P (dC, dI) vwCl [] H := hP
      have hD : va_D A [] := hD
      refine lv_icmp_eq (tgt := 1080) hx hb dL_law_637 (by decide) (fun _ => ?_) (fun h9 => absurd (by decide +kernel) h9)
      refine lv_iinc (v := 4) (lv' := [(3, .int 4), (2, .ref q49), (1, .ref q1), (0, .ref b)]) hx hb dL_law_1080 hl (k := 0) rfl (by decide +kernel) (by decide) rfl (fun ls hl => ?_)
      refine lv_goto (tgt := 18) hx hb dL_law_1083 (by decide) ?_
      refine lv_iload_n hx hb dL_law_18 rfl (lv_at hl 0 rfl) ?_
      refine lv_aload_n hx hb dL_law_19 rfl (lv_at hl 3 rfl) ?_
      refine va_slen hx hb hX hbl hbA hS dL_law_20 (tk_i (v := 4) (by decide +kernel) ?_)
      refine lv_iconst (v := 4) hx hb dL_law_21 (by decide) ?_
      refine lv_isub hx hb dL_law_22 (tk_i (v := 0) (by decide +kernel) ?_)
      refine lv_icmp_gt (tgt := 1086) hx hb dL_law_23 (by decide) (fun _ => ?_) (fun h9 => absurd (by decide +kernel) h9)
      refine lv_iconst (v := 1) hx hb dL_law_1086 (by decide) ?_
      refine va_forget (fun q hq => by have h9 := hS.2.2 q hq; rw [← hAe] at h9; exact h9) ?_
      refine W.widen (k := 600000) (n := 7302250) (by decide) (by decide) ?_
      exact lw_ret hx hb hr hlocks dL_law_1087
    ·
      refine lv_aload_n hx hb dL_law_619 rfl (lv_at hl 2 rfl) ?_
      refine lv_aload_n hx hb dL_law_620 rfl (lv_at hl 3 rfl) ?_
      refine lv_iload_n hx hb dL_law_621 rfl (lv_at hl 0 rfl) ?_
      refine lv_iconst (v := 1) hx hb dL_law_622 (by decide) ?_
      refine lv_iadd hx hb dL_law_623 (tk_i (v := 1) (by decide +kernel) ?_)
      refine va_sld hx hb hX hbl hbA hS (vin (by decide +kernel)) dL_law_624 (tk_i (v := a1) ha1 ?_)
      refine kcall_i (D := (dC, dI)) (S := Unit) (v := (-1)) (wc := [(q1, .inr (11, [.ref q2, .ref q4, .ref q6, .ref q18, .ref q23, .ref q28, .ref q33, .ref q36, .ref q37, .ref q40, .ref q44, .ref q48, .int 0])), (q2, .inr (4, [.ref q3, .int 0, .int 0]))]) (wr := [(q49, .inr (12, [.int 0, .ref q50, .int 0, .ref q51, .int 0, .ref q52, .ref q53, .int 0, .ref q54, .int 0, .ref q55, .int (-9), .int 0, .int 0, .ref q56, .ref q57, .ref q58, .ref q59, .ref q60, .int 0, .ref q61, .ref q62, .ref q63, .int 0, .ref q64, .ref q65, .ref q66, .int 0, .ref q67]))]) (w1 := fun _ => []) (fun hPc hDc => va_runV (As := [.int a1]) (rest := []) ⟨hx, hb, hml, hown, hts⟩ (kX11_colour_3 l dC dI cI c2 q1 q2 q4 q6 q18 q23 q28 q33 q36 q37 q40 q44 q48 q3 H.size a1 (by omega) (by omega)) (cwV 1 hts gL_law_X11_colour rfl rfl rfl (by decide +kernel) ⟨Nat.le_of_ble_eq_true rfl, Nat.le_of_ble_eq_true rfl⟩) (pre_V hPc hK hDc hN (ci := 11) (q0 := 0) rfl rfl) rfl rfl hl.1 rfl (lv_room (Nat.le_of_ble_eq_true rfl)) dL_law_625 ⟨Nat.le_of_ble_eq_true rfl, Nat.le_of_ble_eq_true rfl⟩) hP hD hS hA [0, 1] [28] rfl rfl (by decide) (by decide) (by decide) (fun u H locs hP hD hS => ?_)
      have hP : va_P (dC, dI) vwCl [(q49, .inr (12, [.int 0, .ref q50, .int 0, .ref q51, .int 0, .ref q52, .ref q53, .int 0, .ref q54, .int 0, .ref q55, .int (-9), .int 0, .int 0, .ref q56, .ref q57, .ref q58, .ref q59, .ref q60, .int 0, .ref q61, .ref q62, .ref q63, .int 0, .ref q64, .ref q65, .ref q66, .int 0, .ref q67]))] H := hP
      have hD : va_D A [(q49, .inr (12, [.int 0, .ref q50, .int 0, .ref q51, .int 0, .ref q52, .ref q53, .int 0, .ref q54, .int 0, .ref q55, .int (-9), .int 0, .int 0, .ref q56, .ref q57, .ref q58, .ref q59, .ref q60, .int 0, .ref q61, .ref q62, .ref q63, .int 0, .ref q64, .ref q65, .ref q66, .int 0, .ref q67]))] := hD
      refine lv_aload_n hx hb dL_law_628 rfl (lv_at hl 1 rfl) ?_
      refine lv_aload_n hx hb dL_law_629 rfl (lv_at hl 3 rfl) ?_
      refine lv_iload_n hx hb dL_law_630 rfl (lv_at hl 0 rfl) ?_
      refine lv_iconst (v := 1) hx hb dL_law_631 (by decide) ?_
      refine lv_iadd hx hb dL_law_632 (tk_i (v := 1) (by decide +kernel) ?_)
      refine va_sld hx hb hX hbl hbA hS (vin (by decide +kernel)) dL_law_633 (tk_i (v := a1) ha1 ?_)
      refine kcall_i (D := (dC, dI)) (S := Unit) (v := (-1)) (wc := [(q49, .inr (12, [.int 0, .ref q50, .int 0, .ref q51, .int 0, .ref q52, .ref q53, .int 0, .ref q54, .int 0, .ref q55, .int (-9), .int 0, .int 0, .ref q56, .ref q57, .ref q58, .ref q59, .ref q60, .int 0, .ref q61, .ref q62, .ref q63, .int 0, .ref q64, .ref q65, .ref q66, .int 0, .ref q67]))]) (wr := []) (w1 := fun _ => []) (fun hPc hDc => va_runV (As := [.int a1]) (rest := [.int (-1)]) ⟨hx, hb, hml, hown, hts⟩ (kX12_colour_3 l dC dI cI c2 q49 q50 q51 q52 q53 q54 q55 q56 q57 q58 q59 q60 q61 q62 q63 q64 q65 q66 q67 H.size a1 (by omega) (by omega)) (cwV 1 hts gL_law_X12_colour rfl rfl rfl (by decide +kernel) ⟨Nat.le_of_ble_eq_true rfl, Nat.le_of_ble_eq_true rfl⟩) (pre_V hPc hK hDc hN (ci := 12) (q0 := 0) rfl rfl) rfl rfl hl.1 rfl (lv_room (Nat.le_of_ble_eq_true rfl)) dL_law_634 ⟨Nat.le_of_ble_eq_true rfl, Nat.le_of_ble_eq_true rfl⟩) hP hD hS hA [0] [] rfl rfl (by decide) (by decide) (by decide) (fun u H locs hP hD hS => ?_)
      have hP : va_P (dC, dI) vwCl [] H := hP
      have hD : va_D A [] := hD
      refine lv_icmp_eq (tgt := 1080) hx hb dL_law_637 (by decide) (fun _ => ?_) (fun h9 => absurd (by decide +kernel) h9)
      refine lv_iinc (v := 4) (lv' := [(3, .int 4), (2, .ref q49), (1, .ref q1), (0, .ref b)]) hx hb dL_law_1080 hl (k := 0) rfl (by decide +kernel) (by decide) rfl (fun ls hl => ?_)
      refine lv_goto (tgt := 18) hx hb dL_law_1083 (by decide) ?_
      refine lv_iload_n hx hb dL_law_18 rfl (lv_at hl 0 rfl) ?_
      refine lv_aload_n hx hb dL_law_19 rfl (lv_at hl 3 rfl) ?_
      refine va_slen hx hb hX hbl hbA hS dL_law_20 (tk_i (v := 4) (by decide +kernel) ?_)
      refine lv_iconst (v := 4) hx hb dL_law_21 (by decide) ?_
      refine lv_isub hx hb dL_law_22 (tk_i (v := 0) (by decide +kernel) ?_)
      refine lv_icmp_gt (tgt := 1086) hx hb dL_law_23 (by decide) (fun _ => ?_) (fun h9 => absurd (by decide +kernel) h9)
      refine lv_iconst (v := 1) hx hb dL_law_1086 (by decide) ?_
      refine va_forget (fun q hq => by have h9 := hS.2.2 q hq; rw [← hAe] at h9; exact h9) ?_
      refine W.widen (k := 600000) (n := 7302250) (by decide) (by decide) ?_
      exact lw_ret hx hb hr hlocks dL_law_1087
set_option maxHeartbeats 8000000 in
set_option maxRecDepth 100000 in
theorem lc_20 {p : Program} {e : Env} {s : State} {m : MethodId} {below : List Frame} {meth : Method} {c : Code} (l : Launch) {b : Nat} {xs : Nat → Int32} (C0 : lw_At p s m meth c b 4 xs) (dC : Nat → ClassId) (dI : Nat → Nat → Nat) (cI c2 : ClassId) (q1 : Nat) (q2 : Nat) (q3 : Nat) (q4 : Nat) (q5 : Nat) (q6 : Nat) (q7 : Nat) (q8 : Nat) (r9 : Nat → Nat) (q10 : Nat) (q11 : Nat) (q12 : Nat) (r13 : Nat → Nat) (q14 : Nat) (q15 : Nat) (q16 : Nat) (q17 : Nat) (q18 : Nat) (q19 : Nat) (q20 : Nat) (r21 : Nat → Nat) (q22 : Nat) (q23 : Nat) (q24 : Nat) (q25 : Nat) (q26 : Nat) (q27 : Nat) (q28 : Nat) (q29 : Nat) (q30 : Nat) (q31 : Nat) (q32 : Nat) (q33 : Nat) (q34 : Nat) (q35 : Nat) (q36 : Nat) (q37 : Nat) (q38 : Nat) (q39 : Nat) (q40 : Nat) (q41 : Nat) (q42 : Nat) (q43 : Nat) (q44 : Nat) (q45 : Nat) (q46 : Nat) (q47 : Nat) (q48 : Nat) (q49 : Nat) (q50 : Nat) (q51 : Nat) (q52 : Nat) (q53 : Nat) (q54 : Nat) (q55 : Nat) (q56 : Nat) (q57 : Nat) (q58 : Nat) (q59 : Nat) (q60 : Nat) (q61 : Nat) (q62 : Nat) (q63 : Nat) (q64 : Nat) (q65 : Nat) (q66 : Nat) (q67 : Nat) (a1 a2 a3 : Int32) (ha1 : xs (Int32.toNatClampNeg 1) = a1) (ha2 : xs (Int32.toNatClampNeg 2) = a2) (ha3 : xs (Int32.toNatClampNeg 3) = a3) (hK : va_K (dC, dI) vwCl [(cI, .int), (c2, .array .int)] s) (hN : nsAll s) (H : Heap) (locs : List Loc) (hP : va_P (dC, dI) vwCl [(q1, .inr (11, [.ref q2, .ref q4, .ref q6, .ref q18, .ref q23, .ref q28, .ref q33, .ref q36, .ref q37, .ref q40, .ref q44, .ref q48, .int 0])), (q2, .inr (4, [.ref q3, .int 0, .int 0])), (q3, .inl (cI, 12, .inl (fun _ => 0))), (q4, .inr (10, [.ref q5, .int 0, .int 0])), (q5, .inl (cI, 12, .inl (fun _ => (-1)))), (q6, .inr (6, [.ref q7, .ref q10, .ref q16, .ref q17, .int 0, .int 0, .int 0, .int 0, .int 0])), (q7, .inr (3, [.ref q8, .int 0])), (q8, .inl (c2, 13, .inr (.inr (.inr (.inr (fun i => if i < 13 then some (r9 i) else none)))))), (r9 0, .inl (cI, 12, .inl (fun _ => 0))), (q10, .inr (5, [.ref q11, .ref q14, .ref q15, .int 0, .int 0, .int 0])), (q11, .inr (3, [.ref q12, .int 0])), (q12, .inl (c2, 13, .inr (.inr (.inr (.inr (fun i => if i < 13 then some (r13 i) else none)))))), (r13 0, .inl (cI, 12, .inl (fun _ => 0))), (q14, .inl (cI, 4096, .inl (fun _ => 0))), (q18, .inr (9, [.ref q19, .ref q22, .int 0, .int (-1)])), (q19, .inr (3, [.ref q20, .int 0])), (q20, .inl (c2, 13, .inr (.inr (.inr (.inr (fun i => if i < 13 then some (r21 i) else none)))))), (r21 0, .inl (cI, 12, .inl (fun _ => 0))), (q23, .inr (1, [.int 0, .ref q24, .ref q25, .ref q26, .ref q27, .int 0, .int (-1), .int (-1)])), (q28, .inr (1, [.int 1, .ref q29, .ref q30, .ref q31, .ref q32, .int 0, .int (-1), .int (-1)])), (q33, .inr (7, [.ref q34, .ref q35, .int 0, .int (-1)])), (q35, .inl (cI, 12, .inl (fun _ => 0))), (q37, .inr (2, [.ref q38, .ref q39, .int 0, .int (-1)])), (q40, .inr (0, [.ref q42, .ref q41, .ref q43, .int 0, .int 0, .int 0, .int 0, .int (-1)])), (q42, .inl (cI, 4096, .inl (fun _ => 0))), (q44, .inr (0, [.ref q46, .ref q45, .ref q47, .int 0, .int 0, .int 0, .int 0, .int (-1)])), (q46, .inl (cI, 256, .inl (fun _ => 0))), (q48, .inl (cI, 5, .inl (fun _ => 0))), (q49, .inr (12, [.int 0, .ref q50, .int 0, .ref q51, .int 0, .ref q52, .ref q53, .int 0, .ref q54, .int 0, .ref q55, .int (-9), .int 0, .int 0, .ref q56, .ref q57, .ref q58, .ref q59, .ref q60, .int 0, .ref q61, .ref q62, .ref q63, .int 0, .ref q64, .ref q65, .ref q66, .int 0, .ref q67])), (q50, .inl (cI, 5, .inl (fun _ => 0))), (q51, .inl (cI, 12, .inl (fun _ => 0))), (q52, .inl (cI, 12, .inl (fun _ => (-9)))), (q56, .inl (cI, 12, .inl (fun _ => 0))), (q57, .inl (cI, 12, .inl (fun _ => 0))), (q58, .inl (cI, 49152, .inl (fun _ => 0))), (q59, .inl (cI, 4096, .inl (fun _ => 0))), (q67, .inl (cI, 12, .inl (fun _ => 0)))] H) (hD : va_D (fun q : Nat => s.heap.size ≤ q) [(q1, .inr (11, [.ref q2, .ref q4, .ref q6, .ref q18, .ref q23, .ref q28, .ref q33, .ref q36, .ref q37, .ref q40, .ref q44, .ref q48, .int 0])), (q2, .inr (4, [.ref q3, .int 0, .int 0])), (q3, .inl (cI, 12, .inl (fun _ => 0))), (q4, .inr (10, [.ref q5, .int 0, .int 0])), (q5, .inl (cI, 12, .inl (fun _ => (-1)))), (q6, .inr (6, [.ref q7, .ref q10, .ref q16, .ref q17, .int 0, .int 0, .int 0, .int 0, .int 0])), (q7, .inr (3, [.ref q8, .int 0])), (q8, .inl (c2, 13, .inr (.inr (.inr (.inr (fun i => if i < 13 then some (r9 i) else none)))))), (r9 0, .inl (cI, 12, .inl (fun _ => 0))), (q10, .inr (5, [.ref q11, .ref q14, .ref q15, .int 0, .int 0, .int 0])), (q11, .inr (3, [.ref q12, .int 0])), (q12, .inl (c2, 13, .inr (.inr (.inr (.inr (fun i => if i < 13 then some (r13 i) else none)))))), (r13 0, .inl (cI, 12, .inl (fun _ => 0))), (q14, .inl (cI, 4096, .inl (fun _ => 0))), (q18, .inr (9, [.ref q19, .ref q22, .int 0, .int (-1)])), (q19, .inr (3, [.ref q20, .int 0])), (q20, .inl (c2, 13, .inr (.inr (.inr (.inr (fun i => if i < 13 then some (r21 i) else none)))))), (r21 0, .inl (cI, 12, .inl (fun _ => 0))), (q23, .inr (1, [.int 0, .ref q24, .ref q25, .ref q26, .ref q27, .int 0, .int (-1), .int (-1)])), (q28, .inr (1, [.int 1, .ref q29, .ref q30, .ref q31, .ref q32, .int 0, .int (-1), .int (-1)])), (q33, .inr (7, [.ref q34, .ref q35, .int 0, .int (-1)])), (q35, .inl (cI, 12, .inl (fun _ => 0))), (q37, .inr (2, [.ref q38, .ref q39, .int 0, .int (-1)])), (q40, .inr (0, [.ref q42, .ref q41, .ref q43, .int 0, .int 0, .int 0, .int 0, .int (-1)])), (q42, .inl (cI, 4096, .inl (fun _ => 0))), (q44, .inr (0, [.ref q46, .ref q45, .ref q47, .int 0, .int 0, .int 0, .int 0, .int (-1)])), (q46, .inl (cI, 256, .inl (fun _ => 0))), (q48, .inl (cI, 5, .inl (fun _ => 0))), (q49, .inr (12, [.int 0, .ref q50, .int 0, .ref q51, .int 0, .ref q52, .ref q53, .int 0, .ref q54, .int 0, .ref q55, .int (-9), .int 0, .int 0, .ref q56, .ref q57, .ref q58, .ref q59, .ref q60, .int 0, .ref q61, .ref q62, .ref q63, .int 0, .ref q64, .ref q65, .ref q66, .int 0, .ref q67])), (q50, .inl (cI, 5, .inl (fun _ => 0))), (q51, .inl (cI, 12, .inl (fun _ => 0))), (q52, .inl (cI, 12, .inl (fun _ => (-9)))), (q56, .inl (cI, 12, .inl (fun _ => 0))), (q57, .inl (cI, 12, .inl (fun _ => 0))), (q58, .inl (cI, 49152, .inl (fun _ => 0))), (q59, .inl (cI, 4096, .inl (fun _ => 0))), (q67, .inl (cI, 12, .inl (fun _ => 0)))]) (hS : va_S (fun q : Nat => s.heap.size ≤ q) s.heap H locs) (ls : Array Slot) (hl : lv_has ls 4 [(3, .int 0), (2, .ref q49), (1, .ref q1), (0, .ref b)]) : W p l e room_1 s m #[Value.ref b] below meth c H locs 128 161896 (lw_Z below #[Value.ref b] s) (F0 m 642 ls []) := by
  obtain ⟨hx, hb, hr, hml, hown0, hts0, hX, hbl, hlocks, hgv⟩ := id C0
  have hown : s.vm.findClass RL = some m.cls := hown0
  have hts : ∀ w ∈ wsL_law, w.before #[Value.ref b] s = true := fun w h => hts0 w (wsL_law_in w h)
  have hA : ∀ q : Nat, s.heap.size ≤ q → (fun q : Nat => s.heap.size ≤ q) q := fun _ h => h
  have hbA : ¬ (fun q : Nat => s.heap.size ≤ q) b := Nat.not_le.mpr hbl
  generalize hAe : (fun q : Nat => s.heap.size ≤ q) = A at hD hS hA hbA
  have a1_rg := i_rng a1
  have a2_rg := i_rng a2
  have a3_rg := i_rng a3
  obtain ⟨a1_l, a1_h⟩ := a1_rg
  obtain ⟨a2_l, a2_h⟩ := a2_rg
  obtain ⟨a3_l, a3_h⟩ := a3_rg
  refine lv_aload_n hx hb dL_law_642 rfl (lv_at hl 2 rfl) ?_
  refine kcall_i (D := (dC, dI)) (S := Unit) (v := 0) (wc := [(q1, .inr (11, [.ref q2, .ref q4, .ref q6, .ref q18, .ref q23, .ref q28, .ref q33, .ref q36, .ref q37, .ref q40, .ref q44, .ref q48, .int 0])), (q28, .inr (1, [.int 1, .ref q29, .ref q30, .ref q31, .ref q32, .int 0, .int (-1), .int (-1)])), (q2, .inr (4, [.ref q3, .int 0, .int 0]))]) (wr := [(q49, .inr (12, [.int 0, .ref q50, .int 0, .ref q51, .int 0, .ref q52, .ref q53, .int 0, .ref q54, .int 0, .ref q55, .int (-9), .int 0, .int 0, .ref q56, .ref q57, .ref q58, .ref q59, .ref q60, .int 0, .ref q61, .ref q62, .ref q63, .int 0, .ref q64, .ref q65, .ref q66, .int 0, .ref q67]))]) (w1 := fun _ => []) (fun hPc hDc => va_runV (As := []) (rest := []) ⟨hx, hb, hml, hown, hts⟩ (kX11_apart_1 l dC dI cI c2 q1 q28 q2 q4 q6 q18 q23 q33 q36 q37 q40 q44 q48 q29 q30 q31 q32 q3 H.size) (cwV 0 hts gL_law_X11_apart rfl rfl rfl (by decide +kernel) ⟨Nat.le_of_ble_eq_true rfl, Nat.le_of_ble_eq_true rfl⟩) (pre_V hPc hK hDc hN (ci := 11) (q0 := 0) rfl rfl) rfl rfl hl.1 rfl (lv_room (Nat.le_of_ble_eq_true rfl)) dL_law_643 ⟨Nat.le_of_ble_eq_true rfl, Nat.le_of_ble_eq_true rfl⟩) hP hD hS hA [0, 19, 1] [28] rfl rfl (by decide) (by decide) (by decide) (fun u H locs hP hD hS => ?_)
  have hP : va_P (dC, dI) vwCl [(q49, .inr (12, [.int 0, .ref q50, .int 0, .ref q51, .int 0, .ref q52, .ref q53, .int 0, .ref q54, .int 0, .ref q55, .int (-9), .int 0, .int 0, .ref q56, .ref q57, .ref q58, .ref q59, .ref q60, .int 0, .ref q61, .ref q62, .ref q63, .int 0, .ref q64, .ref q65, .ref q66, .int 0, .ref q67]))] H := hP
  have hD : va_D A [(q49, .inr (12, [.int 0, .ref q50, .int 0, .ref q51, .int 0, .ref q52, .ref q53, .int 0, .ref q54, .int 0, .ref q55, .int (-9), .int 0, .int 0, .ref q56, .ref q57, .ref q58, .ref q59, .ref q60, .int 0, .ref q61, .ref q62, .ref q63, .int 0, .ref q64, .ref q65, .ref q66, .int 0, .ref q67]))] := hD
  refine lv_aload_n hx hb dL_law_646 rfl (lv_at hl 1 rfl) ?_
  refine kcall_i (D := (dC, dI)) (S := Unit) (v := 0) (wc := [(q49, .inr (12, [.int 0, .ref q50, .int 0, .ref q51, .int 0, .ref q52, .ref q53, .int 0, .ref q54, .int 0, .ref q55, .int (-9), .int 0, .int 0, .ref q56, .ref q57, .ref q58, .ref q59, .ref q60, .int 0, .ref q61, .ref q62, .ref q63, .int 0, .ref q64, .ref q65, .ref q66, .int 0, .ref q67]))]) (wr := []) (w1 := fun _ => []) (fun hPc hDc => va_runV (As := []) (rest := [.int 0]) ⟨hx, hb, hml, hown, hts⟩ (kX12_apart_1 l dC dI cI c2 q49 q50 q51 q52 q53 q54 q55 q56 q57 q58 q59 q60 q61 q62 q63 q64 q65 q66 q67 H.size) (cwV 0 hts gL_law_X12_apart rfl rfl rfl (by decide +kernel) ⟨Nat.le_of_ble_eq_true rfl, Nat.le_of_ble_eq_true rfl⟩) (pre_V hPc hK hDc hN (ci := 12) (q0 := 0) rfl rfl) rfl rfl hl.1 rfl (lv_room (Nat.le_of_ble_eq_true rfl)) dL_law_647 ⟨Nat.le_of_ble_eq_true rfl, Nat.le_of_ble_eq_true rfl⟩) hP hD hS hA [0] [] rfl rfl (by decide) (by decide) (by decide) (fun u H locs hP hD hS => ?_)
  have hP : va_P (dC, dI) vwCl [] H := hP
  have hD : va_D A [] := hD
  refine lv_icmp_eq (tgt := 1080) hx hb dL_law_650 (by decide) (fun _ => ?_) (fun h9 => absurd (by decide +kernel) h9)
  refine lv_iinc (v := 4) (lv' := [(3, .int 4), (2, .ref q49), (1, .ref q1), (0, .ref b)]) hx hb dL_law_1080 hl (k := 0) rfl (by decide +kernel) (by decide) rfl (fun ls hl => ?_)
  refine lv_goto (tgt := 18) hx hb dL_law_1083 (by decide) ?_
  refine lv_iload_n hx hb dL_law_18 rfl (lv_at hl 0 rfl) ?_
  refine lv_aload_n hx hb dL_law_19 rfl (lv_at hl 3 rfl) ?_
  refine va_slen hx hb hX hbl hbA hS dL_law_20 (tk_i (v := 4) (by decide +kernel) ?_)
  refine lv_iconst (v := 4) hx hb dL_law_21 (by decide) ?_
  refine lv_isub hx hb dL_law_22 (tk_i (v := 0) (by decide +kernel) ?_)
  refine lv_icmp_gt (tgt := 1086) hx hb dL_law_23 (by decide) (fun _ => ?_) (fun h9 => absurd (by decide +kernel) h9)
  refine lv_iconst (v := 1) hx hb dL_law_1086 (by decide) ?_
  refine va_forget (fun q hq => by have h9 := hS.2.2 q hq; rw [← hAe] at h9; exact h9) ?_
  refine W.widen (k := 600000) (n := 7302250) (by decide) (by decide) ?_
  exact lw_ret hx hb hr hlocks dL_law_1087
set_option maxHeartbeats 8000000 in
set_option maxRecDepth 100000 in
theorem lc_21 {p : Program} {e : Env} {s : State} {m : MethodId} {below : List Frame} {meth : Method} {c : Code} (l : Launch) {b : Nat} {xs : Nat → Int32} (C0 : lw_At p s m meth c b 4 xs) (dC : Nat → ClassId) (dI : Nat → Nat → Nat) (cI c2 : ClassId) (q1 : Nat) (q2 : Nat) (q3 : Nat) (q4 : Nat) (q5 : Nat) (q6 : Nat) (q7 : Nat) (q8 : Nat) (r9 : Nat → Nat) (q10 : Nat) (q11 : Nat) (q12 : Nat) (r13 : Nat → Nat) (q14 : Nat) (q15 : Nat) (q16 : Nat) (q17 : Nat) (q18 : Nat) (q19 : Nat) (q20 : Nat) (r21 : Nat → Nat) (q22 : Nat) (q23 : Nat) (q24 : Nat) (q25 : Nat) (q26 : Nat) (q27 : Nat) (q28 : Nat) (q29 : Nat) (q30 : Nat) (q31 : Nat) (q32 : Nat) (q33 : Nat) (q34 : Nat) (q35 : Nat) (q36 : Nat) (q37 : Nat) (q38 : Nat) (q39 : Nat) (q40 : Nat) (q41 : Nat) (q42 : Nat) (q43 : Nat) (q44 : Nat) (q45 : Nat) (q46 : Nat) (q47 : Nat) (q48 : Nat) (q49 : Nat) (q50 : Nat) (q51 : Nat) (q52 : Nat) (q53 : Nat) (q54 : Nat) (q55 : Nat) (q56 : Nat) (q57 : Nat) (q58 : Nat) (q59 : Nat) (q60 : Nat) (q61 : Nat) (q62 : Nat) (q63 : Nat) (q64 : Nat) (q65 : Nat) (q66 : Nat) (q67 : Nat) (a1 a2 a3 : Int32) (ha1 : xs (Int32.toNatClampNeg 1) = a1) (ha2 : xs (Int32.toNatClampNeg 2) = a2) (ha3 : xs (Int32.toNatClampNeg 3) = a3) (hK : va_K (dC, dI) vwCl [(cI, .int), (c2, .array .int)] s) (hN : nsAll s) (H : Heap) (locs : List Loc) (hP : va_P (dC, dI) vwCl [(q1, .inr (11, [.ref q2, .ref q4, .ref q6, .ref q18, .ref q23, .ref q28, .ref q33, .ref q36, .ref q37, .ref q40, .ref q44, .ref q48, .int 0])), (q2, .inr (4, [.ref q3, .int 0, .int 0])), (q3, .inl (cI, 12, .inl (fun _ => 0))), (q4, .inr (10, [.ref q5, .int 0, .int 0])), (q5, .inl (cI, 12, .inl (fun _ => (-1)))), (q6, .inr (6, [.ref q7, .ref q10, .ref q16, .ref q17, .int 0, .int 0, .int 0, .int 0, .int 0])), (q7, .inr (3, [.ref q8, .int 0])), (q8, .inl (c2, 13, .inr (.inr (.inr (.inr (fun i => if i < 13 then some (r9 i) else none)))))), (r9 0, .inl (cI, 12, .inl (fun _ => 0))), (q10, .inr (5, [.ref q11, .ref q14, .ref q15, .int 0, .int 0, .int 0])), (q11, .inr (3, [.ref q12, .int 0])), (q12, .inl (c2, 13, .inr (.inr (.inr (.inr (fun i => if i < 13 then some (r13 i) else none)))))), (r13 0, .inl (cI, 12, .inl (fun _ => 0))), (q14, .inl (cI, 4096, .inl (fun _ => 0))), (q18, .inr (9, [.ref q19, .ref q22, .int 0, .int (-1)])), (q19, .inr (3, [.ref q20, .int 0])), (q20, .inl (c2, 13, .inr (.inr (.inr (.inr (fun i => if i < 13 then some (r21 i) else none)))))), (r21 0, .inl (cI, 12, .inl (fun _ => 0))), (q23, .inr (1, [.int 0, .ref q24, .ref q25, .ref q26, .ref q27, .int 0, .int (-1), .int (-1)])), (q28, .inr (1, [.int 1, .ref q29, .ref q30, .ref q31, .ref q32, .int 0, .int (-1), .int (-1)])), (q33, .inr (7, [.ref q34, .ref q35, .int 0, .int (-1)])), (q35, .inl (cI, 12, .inl (fun _ => 0))), (q37, .inr (2, [.ref q38, .ref q39, .int 0, .int (-1)])), (q40, .inr (0, [.ref q42, .ref q41, .ref q43, .int 0, .int 0, .int 0, .int 0, .int (-1)])), (q42, .inl (cI, 4096, .inl (fun _ => 0))), (q44, .inr (0, [.ref q46, .ref q45, .ref q47, .int 0, .int 0, .int 0, .int 0, .int (-1)])), (q46, .inl (cI, 256, .inl (fun _ => 0))), (q48, .inl (cI, 5, .inl (fun _ => 0))), (q49, .inr (12, [.int 0, .ref q50, .int 0, .ref q51, .int 0, .ref q52, .ref q53, .int 0, .ref q54, .int 0, .ref q55, .int (-9), .int 0, .int 0, .ref q56, .ref q57, .ref q58, .ref q59, .ref q60, .int 0, .ref q61, .ref q62, .ref q63, .int 0, .ref q64, .ref q65, .ref q66, .int 0, .ref q67])), (q50, .inl (cI, 5, .inl (fun _ => 0))), (q51, .inl (cI, 12, .inl (fun _ => 0))), (q52, .inl (cI, 12, .inl (fun _ => (-9)))), (q56, .inl (cI, 12, .inl (fun _ => 0))), (q57, .inl (cI, 12, .inl (fun _ => 0))), (q58, .inl (cI, 49152, .inl (fun _ => 0))), (q59, .inl (cI, 4096, .inl (fun _ => 0))), (q67, .inl (cI, 12, .inl (fun _ => 0)))] H) (hD : va_D (fun q : Nat => s.heap.size ≤ q) [(q1, .inr (11, [.ref q2, .ref q4, .ref q6, .ref q18, .ref q23, .ref q28, .ref q33, .ref q36, .ref q37, .ref q40, .ref q44, .ref q48, .int 0])), (q2, .inr (4, [.ref q3, .int 0, .int 0])), (q3, .inl (cI, 12, .inl (fun _ => 0))), (q4, .inr (10, [.ref q5, .int 0, .int 0])), (q5, .inl (cI, 12, .inl (fun _ => (-1)))), (q6, .inr (6, [.ref q7, .ref q10, .ref q16, .ref q17, .int 0, .int 0, .int 0, .int 0, .int 0])), (q7, .inr (3, [.ref q8, .int 0])), (q8, .inl (c2, 13, .inr (.inr (.inr (.inr (fun i => if i < 13 then some (r9 i) else none)))))), (r9 0, .inl (cI, 12, .inl (fun _ => 0))), (q10, .inr (5, [.ref q11, .ref q14, .ref q15, .int 0, .int 0, .int 0])), (q11, .inr (3, [.ref q12, .int 0])), (q12, .inl (c2, 13, .inr (.inr (.inr (.inr (fun i => if i < 13 then some (r13 i) else none)))))), (r13 0, .inl (cI, 12, .inl (fun _ => 0))), (q14, .inl (cI, 4096, .inl (fun _ => 0))), (q18, .inr (9, [.ref q19, .ref q22, .int 0, .int (-1)])), (q19, .inr (3, [.ref q20, .int 0])), (q20, .inl (c2, 13, .inr (.inr (.inr (.inr (fun i => if i < 13 then some (r21 i) else none)))))), (r21 0, .inl (cI, 12, .inl (fun _ => 0))), (q23, .inr (1, [.int 0, .ref q24, .ref q25, .ref q26, .ref q27, .int 0, .int (-1), .int (-1)])), (q28, .inr (1, [.int 1, .ref q29, .ref q30, .ref q31, .ref q32, .int 0, .int (-1), .int (-1)])), (q33, .inr (7, [.ref q34, .ref q35, .int 0, .int (-1)])), (q35, .inl (cI, 12, .inl (fun _ => 0))), (q37, .inr (2, [.ref q38, .ref q39, .int 0, .int (-1)])), (q40, .inr (0, [.ref q42, .ref q41, .ref q43, .int 0, .int 0, .int 0, .int 0, .int (-1)])), (q42, .inl (cI, 4096, .inl (fun _ => 0))), (q44, .inr (0, [.ref q46, .ref q45, .ref q47, .int 0, .int 0, .int 0, .int 0, .int (-1)])), (q46, .inl (cI, 256, .inl (fun _ => 0))), (q48, .inl (cI, 5, .inl (fun _ => 0))), (q49, .inr (12, [.int 0, .ref q50, .int 0, .ref q51, .int 0, .ref q52, .ref q53, .int 0, .ref q54, .int 0, .ref q55, .int (-9), .int 0, .int 0, .ref q56, .ref q57, .ref q58, .ref q59, .ref q60, .int 0, .ref q61, .ref q62, .ref q63, .int 0, .ref q64, .ref q65, .ref q66, .int 0, .ref q67])), (q50, .inl (cI, 5, .inl (fun _ => 0))), (q51, .inl (cI, 12, .inl (fun _ => 0))), (q52, .inl (cI, 12, .inl (fun _ => (-9)))), (q56, .inl (cI, 12, .inl (fun _ => 0))), (q57, .inl (cI, 12, .inl (fun _ => 0))), (q58, .inl (cI, 49152, .inl (fun _ => 0))), (q59, .inl (cI, 4096, .inl (fun _ => 0))), (q67, .inl (cI, 12, .inl (fun _ => 0)))]) (hS : va_S (fun q : Nat => s.heap.size ≤ q) s.heap H locs) (ls : Array Slot) (hl : lv_has ls 4 [(3, .int 0), (2, .ref q49), (1, .ref q1), (0, .ref b)]) : W p l e room_1 s m #[Value.ref b] below meth c H locs 128 161896 (lw_Z below #[Value.ref b] s) (F0 m 655 ls []) := by
  obtain ⟨hx, hb, hr, hml, hown0, hts0, hX, hbl, hlocks, hgv⟩ := id C0
  have hown : s.vm.findClass RL = some m.cls := hown0
  have hts : ∀ w ∈ wsL_law, w.before #[Value.ref b] s = true := fun w h => hts0 w (wsL_law_in w h)
  have hA : ∀ q : Nat, s.heap.size ≤ q → (fun q : Nat => s.heap.size ≤ q) q := fun _ h => h
  have hbA : ¬ (fun q : Nat => s.heap.size ≤ q) b := Nat.not_le.mpr hbl
  generalize hAe : (fun q : Nat => s.heap.size ≤ q) = A at hD hS hA hbA
  have a1_rg := i_rng a1
  have a2_rg := i_rng a2
  have a3_rg := i_rng a3
  obtain ⟨a1_l, a1_h⟩ := a1_rg
  obtain ⟨a2_l, a2_h⟩ := a2_rg
  obtain ⟨a3_l, a3_h⟩ := a3_rg
  rcases (show a1.toInt ≤ (-1) ∨ 0 ≤ a1.toInt by omega) with g_a1_0 | g_a1_0
  ·
    refine lv_aload_n hx hb dL_law_655 rfl (lv_at hl 2 rfl) ?_
    refine lv_aload_n hx hb dL_law_656 rfl (lv_at hl 3 rfl) ?_
    refine lv_iload_n hx hb dL_law_657 rfl (lv_at hl 0 rfl) ?_
    refine lv_iconst (v := 1) hx hb dL_law_658 (by decide) ?_
    refine lv_iadd hx hb dL_law_659 (tk_i (v := 1) (by decide +kernel) ?_)
    refine va_sld hx hb hX hbl hbA hS (vin (by decide +kernel)) dL_law_660 (tk_i (v := a1) ha1 ?_)
    refine lv_aload_n hx hb dL_law_661 rfl (lv_at hl 3 rfl) ?_
    refine lv_iload_n hx hb dL_law_662 rfl (lv_at hl 0 rfl) ?_
    refine lv_iconst (v := 2) hx hb dL_law_663 (by decide) ?_
    refine lv_iadd hx hb dL_law_664 (tk_i (v := 2) (by decide +kernel) ?_)
    refine va_sld hx hb hX hbl hbA hS (vin (by decide +kernel)) dL_law_665 (tk_i (v := a2) ha2 ?_)
    refine kcall_i (D := (dC, dI)) (S := Unit) (v := (-1)) (wc := [(q1, .inr (11, [.ref q2, .ref q4, .ref q6, .ref q18, .ref q23, .ref q28, .ref q33, .ref q36, .ref q37, .ref q40, .ref q44, .ref q48, .int 0])), (q23, .inr (1, [.int 0, .ref q24, .ref q25, .ref q26, .ref q27, .int 0, .int (-1), .int (-1)])), (q2, .inr (4, [.ref q3, .int 0, .int 0]))]) (wr := [(q49, .inr (12, [.int 0, .ref q50, .int 0, .ref q51, .int 0, .ref q52, .ref q53, .int 0, .ref q54, .int 0, .ref q55, .int (-9), .int 0, .int 0, .ref q56, .ref q57, .ref q58, .ref q59, .ref q60, .int 0, .ref q61, .ref q62, .ref q63, .int 0, .ref q64, .ref q65, .ref q66, .int 0, .ref q67]))]) (w1 := fun _ => []) (fun hPc hDc => va_runV (As := [.int a1, .int a2]) (rest := []) ⟨hx, hb, hml, hown, hts⟩ (kX11_tree_1 l dC dI cI c2 q1 q23 q2 q4 q6 q18 q28 q33 q36 q37 q40 q44 q48 q24 q25 q26 q27 q3 H.size a1 a2 (by omega) (by omega) (by omega) (by omega)) (cwV 2 hts gL_law_X11_tree rfl rfl rfl (by decide +kernel) ⟨Nat.le_of_ble_eq_true rfl, Nat.le_of_ble_eq_true rfl⟩) (pre_V hPc hK hDc hN (ci := 11) (q0 := 0) rfl rfl) rfl rfl hl.1 rfl (lv_room (Nat.le_of_ble_eq_true rfl)) dL_law_666 ⟨Nat.le_of_ble_eq_true rfl, Nat.le_of_ble_eq_true rfl⟩) hP hD hS hA [0, 18, 1] [28] rfl rfl (by decide) (by decide) (by decide) (fun u H locs hP hD hS => ?_)
    have hP : va_P (dC, dI) vwCl [(q49, .inr (12, [.int 0, .ref q50, .int 0, .ref q51, .int 0, .ref q52, .ref q53, .int 0, .ref q54, .int 0, .ref q55, .int (-9), .int 0, .int 0, .ref q56, .ref q57, .ref q58, .ref q59, .ref q60, .int 0, .ref q61, .ref q62, .ref q63, .int 0, .ref q64, .ref q65, .ref q66, .int 0, .ref q67]))] H := hP
    have hD : va_D A [(q49, .inr (12, [.int 0, .ref q50, .int 0, .ref q51, .int 0, .ref q52, .ref q53, .int 0, .ref q54, .int 0, .ref q55, .int (-9), .int 0, .int 0, .ref q56, .ref q57, .ref q58, .ref q59, .ref q60, .int 0, .ref q61, .ref q62, .ref q63, .int 0, .ref q64, .ref q65, .ref q66, .int 0, .ref q67]))] := hD
    refine lv_aload_n hx hb dL_law_669 rfl (lv_at hl 1 rfl) ?_
    refine lv_aload_n hx hb dL_law_670 rfl (lv_at hl 3 rfl) ?_
    refine lv_iload_n hx hb dL_law_671 rfl (lv_at hl 0 rfl) ?_
    refine lv_iconst (v := 1) hx hb dL_law_672 (by decide) ?_
    refine lv_iadd hx hb dL_law_673 (tk_i (v := 1) (by decide +kernel) ?_)
    refine va_sld hx hb hX hbl hbA hS (vin (by decide +kernel)) dL_law_674 (tk_i (v := a1) ha1 ?_)
    refine lv_aload_n hx hb dL_law_675 rfl (lv_at hl 3 rfl) ?_
    refine lv_iload_n hx hb dL_law_676 rfl (lv_at hl 0 rfl) ?_
    refine lv_iconst (v := 2) hx hb dL_law_677 (by decide) ?_
    refine lv_iadd hx hb dL_law_678 (tk_i (v := 2) (by decide +kernel) ?_)
    refine va_sld hx hb hX hbl hbA hS (vin (by decide +kernel)) dL_law_679 (tk_i (v := a2) ha2 ?_)
    refine kcall_i (D := (dC, dI)) (S := Unit) (v := (-1)) (wc := [(q49, .inr (12, [.int 0, .ref q50, .int 0, .ref q51, .int 0, .ref q52, .ref q53, .int 0, .ref q54, .int 0, .ref q55, .int (-9), .int 0, .int 0, .ref q56, .ref q57, .ref q58, .ref q59, .ref q60, .int 0, .ref q61, .ref q62, .ref q63, .int 0, .ref q64, .ref q65, .ref q66, .int 0, .ref q67]))]) (wr := []) (w1 := fun _ => []) (fun hPc hDc => va_runV (As := [.int a1, .int a2]) (rest := [.int (-1)]) ⟨hx, hb, hml, hown, hts⟩ (kX12_tree_1 l dC dI cI c2 q49 q50 q51 q52 q53 q54 q55 q56 q57 q58 q59 q60 q61 q62 q63 q64 q65 q66 q67 H.size a1 a2 (by omega) (by omega) (by omega) (by omega)) (cwV 2 hts gL_law_X12_tree rfl rfl rfl (by decide +kernel) ⟨Nat.le_of_ble_eq_true rfl, Nat.le_of_ble_eq_true rfl⟩) (pre_V hPc hK hDc hN (ci := 12) (q0 := 0) rfl rfl) rfl rfl hl.1 rfl (lv_room (Nat.le_of_ble_eq_true rfl)) dL_law_680 ⟨Nat.le_of_ble_eq_true rfl, Nat.le_of_ble_eq_true rfl⟩) hP hD hS hA [0] [] rfl rfl (by decide) (by decide) (by decide) (fun u H locs hP hD hS => ?_)
    have hP : va_P (dC, dI) vwCl [] H := hP
    have hD : va_D A [] := hD
    refine lv_icmp_eq (tgt := 1080) hx hb dL_law_683 (by decide) (fun _ => ?_) (fun h9 => absurd (by decide +kernel) h9)
    refine lv_iinc (v := 4) (lv' := [(3, .int 4), (2, .ref q49), (1, .ref q1), (0, .ref b)]) hx hb dL_law_1080 hl (k := 0) rfl (by decide +kernel) (by decide) rfl (fun ls hl => ?_)
    refine lv_goto (tgt := 18) hx hb dL_law_1083 (by decide) ?_
    refine lv_iload_n hx hb dL_law_18 rfl (lv_at hl 0 rfl) ?_
    refine lv_aload_n hx hb dL_law_19 rfl (lv_at hl 3 rfl) ?_
    refine va_slen hx hb hX hbl hbA hS dL_law_20 (tk_i (v := 4) (by decide +kernel) ?_)
    refine lv_iconst (v := 4) hx hb dL_law_21 (by decide) ?_
    refine lv_isub hx hb dL_law_22 (tk_i (v := 0) (by decide +kernel) ?_)
    refine lv_icmp_gt (tgt := 1086) hx hb dL_law_23 (by decide) (fun _ => ?_) (fun h9 => absurd (by decide +kernel) h9)
    refine lv_iconst (v := 1) hx hb dL_law_1086 (by decide) ?_
    refine va_forget (fun q hq => by have h9 := hS.2.2 q hq; rw [← hAe] at h9; exact h9) ?_
    refine W.widen (k := 600000) (n := 7302250) (by decide) (by decide) ?_
    exact lw_ret hx hb hr hlocks dL_law_1087
  ·
    refine lv_aload_n hx hb dL_law_655 rfl (lv_at hl 2 rfl) ?_
    refine lv_aload_n hx hb dL_law_656 rfl (lv_at hl 3 rfl) ?_
    refine lv_iload_n hx hb dL_law_657 rfl (lv_at hl 0 rfl) ?_
    refine lv_iconst (v := 1) hx hb dL_law_658 (by decide) ?_
    refine lv_iadd hx hb dL_law_659 (tk_i (v := 1) (by decide +kernel) ?_)
    refine va_sld hx hb hX hbl hbA hS (vin (by decide +kernel)) dL_law_660 (tk_i (v := a1) ha1 ?_)
    refine lv_aload_n hx hb dL_law_661 rfl (lv_at hl 3 rfl) ?_
    refine lv_iload_n hx hb dL_law_662 rfl (lv_at hl 0 rfl) ?_
    refine lv_iconst (v := 2) hx hb dL_law_663 (by decide) ?_
    refine lv_iadd hx hb dL_law_664 (tk_i (v := 2) (by decide +kernel) ?_)
    refine va_sld hx hb hX hbl hbA hS (vin (by decide +kernel)) dL_law_665 (tk_i (v := a2) ha2 ?_)
    refine kcall_i (D := (dC, dI)) (S := Unit) (v := (-1)) (wc := [(q1, .inr (11, [.ref q2, .ref q4, .ref q6, .ref q18, .ref q23, .ref q28, .ref q33, .ref q36, .ref q37, .ref q40, .ref q44, .ref q48, .int 0])), (q23, .inr (1, [.int 0, .ref q24, .ref q25, .ref q26, .ref q27, .int 0, .int (-1), .int (-1)])), (q2, .inr (4, [.ref q3, .int 0, .int 0]))]) (wr := [(q49, .inr (12, [.int 0, .ref q50, .int 0, .ref q51, .int 0, .ref q52, .ref q53, .int 0, .ref q54, .int 0, .ref q55, .int (-9), .int 0, .int 0, .ref q56, .ref q57, .ref q58, .ref q59, .ref q60, .int 0, .ref q61, .ref q62, .ref q63, .int 0, .ref q64, .ref q65, .ref q66, .int 0, .ref q67]))]) (w1 := fun _ => []) (fun hPc hDc => va_runV (As := [.int a1, .int a2]) (rest := []) ⟨hx, hb, hml, hown, hts⟩ (kX11_tree_2 l dC dI cI c2 q1 q23 q2 q4 q6 q18 q28 q33 q36 q37 q40 q44 q48 q24 q25 q26 q27 q3 H.size a1 a2 (by omega) (by omega) (by omega) (by omega)) (cwV 2 hts gL_law_X11_tree rfl rfl rfl (by decide +kernel) ⟨Nat.le_of_ble_eq_true rfl, Nat.le_of_ble_eq_true rfl⟩) (pre_V hPc hK hDc hN (ci := 11) (q0 := 0) rfl rfl) rfl rfl hl.1 rfl (lv_room (Nat.le_of_ble_eq_true rfl)) dL_law_666 ⟨Nat.le_of_ble_eq_true rfl, Nat.le_of_ble_eq_true rfl⟩) hP hD hS hA [0, 18, 1] [28] rfl rfl (by decide) (by decide) (by decide) (fun u H locs hP hD hS => ?_)
    have hP : va_P (dC, dI) vwCl [(q49, .inr (12, [.int 0, .ref q50, .int 0, .ref q51, .int 0, .ref q52, .ref q53, .int 0, .ref q54, .int 0, .ref q55, .int (-9), .int 0, .int 0, .ref q56, .ref q57, .ref q58, .ref q59, .ref q60, .int 0, .ref q61, .ref q62, .ref q63, .int 0, .ref q64, .ref q65, .ref q66, .int 0, .ref q67]))] H := hP
    have hD : va_D A [(q49, .inr (12, [.int 0, .ref q50, .int 0, .ref q51, .int 0, .ref q52, .ref q53, .int 0, .ref q54, .int 0, .ref q55, .int (-9), .int 0, .int 0, .ref q56, .ref q57, .ref q58, .ref q59, .ref q60, .int 0, .ref q61, .ref q62, .ref q63, .int 0, .ref q64, .ref q65, .ref q66, .int 0, .ref q67]))] := hD
    refine lv_aload_n hx hb dL_law_669 rfl (lv_at hl 1 rfl) ?_
    refine lv_aload_n hx hb dL_law_670 rfl (lv_at hl 3 rfl) ?_
    refine lv_iload_n hx hb dL_law_671 rfl (lv_at hl 0 rfl) ?_
    refine lv_iconst (v := 1) hx hb dL_law_672 (by decide) ?_
    refine lv_iadd hx hb dL_law_673 (tk_i (v := 1) (by decide +kernel) ?_)
    refine va_sld hx hb hX hbl hbA hS (vin (by decide +kernel)) dL_law_674 (tk_i (v := a1) ha1 ?_)
    refine lv_aload_n hx hb dL_law_675 rfl (lv_at hl 3 rfl) ?_
    refine lv_iload_n hx hb dL_law_676 rfl (lv_at hl 0 rfl) ?_
    refine lv_iconst (v := 2) hx hb dL_law_677 (by decide) ?_
    refine lv_iadd hx hb dL_law_678 (tk_i (v := 2) (by decide +kernel) ?_)
    refine va_sld hx hb hX hbl hbA hS (vin (by decide +kernel)) dL_law_679 (tk_i (v := a2) ha2 ?_)
    refine kcall_i (D := (dC, dI)) (S := Unit) (v := (-1)) (wc := [(q49, .inr (12, [.int 0, .ref q50, .int 0, .ref q51, .int 0, .ref q52, .ref q53, .int 0, .ref q54, .int 0, .ref q55, .int (-9), .int 0, .int 0, .ref q56, .ref q57, .ref q58, .ref q59, .ref q60, .int 0, .ref q61, .ref q62, .ref q63, .int 0, .ref q64, .ref q65, .ref q66, .int 0, .ref q67]))]) (wr := []) (w1 := fun _ => []) (fun hPc hDc => va_runV (As := [.int a1, .int a2]) (rest := [.int (-1)]) ⟨hx, hb, hml, hown, hts⟩ (kX12_tree_2 l dC dI cI c2 q49 q50 q51 q52 q53 q54 q55 q56 q57 q58 q59 q60 q61 q62 q63 q64 q65 q66 q67 H.size a1 a2 (by omega) (by omega) (by omega) (by omega)) (cwV 2 hts gL_law_X12_tree rfl rfl rfl (by decide +kernel) ⟨Nat.le_of_ble_eq_true rfl, Nat.le_of_ble_eq_true rfl⟩) (pre_V hPc hK hDc hN (ci := 12) (q0 := 0) rfl rfl) rfl rfl hl.1 rfl (lv_room (Nat.le_of_ble_eq_true rfl)) dL_law_680 ⟨Nat.le_of_ble_eq_true rfl, Nat.le_of_ble_eq_true rfl⟩) hP hD hS hA [0] [] rfl rfl (by decide) (by decide) (by decide) (fun u H locs hP hD hS => ?_)
    have hP : va_P (dC, dI) vwCl [] H := hP
    have hD : va_D A [] := hD
    refine lv_icmp_eq (tgt := 1080) hx hb dL_law_683 (by decide) (fun _ => ?_) (fun h9 => absurd (by decide +kernel) h9)
    refine lv_iinc (v := 4) (lv' := [(3, .int 4), (2, .ref q49), (1, .ref q1), (0, .ref b)]) hx hb dL_law_1080 hl (k := 0) rfl (by decide +kernel) (by decide) rfl (fun ls hl => ?_)
    refine lv_goto (tgt := 18) hx hb dL_law_1083 (by decide) ?_
    refine lv_iload_n hx hb dL_law_18 rfl (lv_at hl 0 rfl) ?_
    refine lv_aload_n hx hb dL_law_19 rfl (lv_at hl 3 rfl) ?_
    refine va_slen hx hb hX hbl hbA hS dL_law_20 (tk_i (v := 4) (by decide +kernel) ?_)
    refine lv_iconst (v := 4) hx hb dL_law_21 (by decide) ?_
    refine lv_isub hx hb dL_law_22 (tk_i (v := 0) (by decide +kernel) ?_)
    refine lv_icmp_gt (tgt := 1086) hx hb dL_law_23 (by decide) (fun _ => ?_) (fun h9 => absurd (by decide +kernel) h9)
    refine lv_iconst (v := 1) hx hb dL_law_1086 (by decide) ?_
    refine va_forget (fun q hq => by have h9 := hS.2.2 q hq; rw [← hAe] at h9; exact h9) ?_
    refine W.widen (k := 600000) (n := 7302250) (by decide) (by decide) ?_
    exact lw_ret hx hb hr hlocks dL_law_1087
set_option maxHeartbeats 8000000 in
set_option maxRecDepth 100000 in
theorem lc_22 {p : Program} {e : Env} {s : State} {m : MethodId} {below : List Frame} {meth : Method} {c : Code} (l : Launch) {b : Nat} {xs : Nat → Int32} (C0 : lw_At p s m meth c b 4 xs) (dC : Nat → ClassId) (dI : Nat → Nat → Nat) (cI c2 : ClassId) (q1 : Nat) (q2 : Nat) (q3 : Nat) (q4 : Nat) (q5 : Nat) (q6 : Nat) (q7 : Nat) (q8 : Nat) (r9 : Nat → Nat) (q10 : Nat) (q11 : Nat) (q12 : Nat) (r13 : Nat → Nat) (q14 : Nat) (q15 : Nat) (q16 : Nat) (q17 : Nat) (q18 : Nat) (q19 : Nat) (q20 : Nat) (r21 : Nat → Nat) (q22 : Nat) (q23 : Nat) (q24 : Nat) (q25 : Nat) (q26 : Nat) (q27 : Nat) (q28 : Nat) (q29 : Nat) (q30 : Nat) (q31 : Nat) (q32 : Nat) (q33 : Nat) (q34 : Nat) (q35 : Nat) (q36 : Nat) (q37 : Nat) (q38 : Nat) (q39 : Nat) (q40 : Nat) (q41 : Nat) (q42 : Nat) (q43 : Nat) (q44 : Nat) (q45 : Nat) (q46 : Nat) (q47 : Nat) (q48 : Nat) (q49 : Nat) (q50 : Nat) (q51 : Nat) (q52 : Nat) (q53 : Nat) (q54 : Nat) (q55 : Nat) (q56 : Nat) (q57 : Nat) (q58 : Nat) (q59 : Nat) (q60 : Nat) (q61 : Nat) (q62 : Nat) (q63 : Nat) (q64 : Nat) (q65 : Nat) (q66 : Nat) (q67 : Nat) (a1 a2 a3 : Int32) (ha1 : xs (Int32.toNatClampNeg 1) = a1) (ha2 : xs (Int32.toNatClampNeg 2) = a2) (ha3 : xs (Int32.toNatClampNeg 3) = a3) (hK : va_K (dC, dI) vwCl [(cI, .int), (c2, .array .int)] s) (hN : nsAll s) (H : Heap) (locs : List Loc) (hP : va_P (dC, dI) vwCl [(q1, .inr (11, [.ref q2, .ref q4, .ref q6, .ref q18, .ref q23, .ref q28, .ref q33, .ref q36, .ref q37, .ref q40, .ref q44, .ref q48, .int 0])), (q2, .inr (4, [.ref q3, .int 0, .int 0])), (q3, .inl (cI, 12, .inl (fun _ => 0))), (q4, .inr (10, [.ref q5, .int 0, .int 0])), (q5, .inl (cI, 12, .inl (fun _ => (-1)))), (q6, .inr (6, [.ref q7, .ref q10, .ref q16, .ref q17, .int 0, .int 0, .int 0, .int 0, .int 0])), (q7, .inr (3, [.ref q8, .int 0])), (q8, .inl (c2, 13, .inr (.inr (.inr (.inr (fun i => if i < 13 then some (r9 i) else none)))))), (r9 0, .inl (cI, 12, .inl (fun _ => 0))), (q10, .inr (5, [.ref q11, .ref q14, .ref q15, .int 0, .int 0, .int 0])), (q11, .inr (3, [.ref q12, .int 0])), (q12, .inl (c2, 13, .inr (.inr (.inr (.inr (fun i => if i < 13 then some (r13 i) else none)))))), (r13 0, .inl (cI, 12, .inl (fun _ => 0))), (q14, .inl (cI, 4096, .inl (fun _ => 0))), (q18, .inr (9, [.ref q19, .ref q22, .int 0, .int (-1)])), (q19, .inr (3, [.ref q20, .int 0])), (q20, .inl (c2, 13, .inr (.inr (.inr (.inr (fun i => if i < 13 then some (r21 i) else none)))))), (r21 0, .inl (cI, 12, .inl (fun _ => 0))), (q23, .inr (1, [.int 0, .ref q24, .ref q25, .ref q26, .ref q27, .int 0, .int (-1), .int (-1)])), (q28, .inr (1, [.int 1, .ref q29, .ref q30, .ref q31, .ref q32, .int 0, .int (-1), .int (-1)])), (q33, .inr (7, [.ref q34, .ref q35, .int 0, .int (-1)])), (q35, .inl (cI, 12, .inl (fun _ => 0))), (q37, .inr (2, [.ref q38, .ref q39, .int 0, .int (-1)])), (q40, .inr (0, [.ref q42, .ref q41, .ref q43, .int 0, .int 0, .int 0, .int 0, .int (-1)])), (q42, .inl (cI, 4096, .inl (fun _ => 0))), (q44, .inr (0, [.ref q46, .ref q45, .ref q47, .int 0, .int 0, .int 0, .int 0, .int (-1)])), (q46, .inl (cI, 256, .inl (fun _ => 0))), (q48, .inl (cI, 5, .inl (fun _ => 0))), (q49, .inr (12, [.int 0, .ref q50, .int 0, .ref q51, .int 0, .ref q52, .ref q53, .int 0, .ref q54, .int 0, .ref q55, .int (-9), .int 0, .int 0, .ref q56, .ref q57, .ref q58, .ref q59, .ref q60, .int 0, .ref q61, .ref q62, .ref q63, .int 0, .ref q64, .ref q65, .ref q66, .int 0, .ref q67])), (q50, .inl (cI, 5, .inl (fun _ => 0))), (q51, .inl (cI, 12, .inl (fun _ => 0))), (q52, .inl (cI, 12, .inl (fun _ => (-9)))), (q56, .inl (cI, 12, .inl (fun _ => 0))), (q57, .inl (cI, 12, .inl (fun _ => 0))), (q58, .inl (cI, 49152, .inl (fun _ => 0))), (q59, .inl (cI, 4096, .inl (fun _ => 0))), (q67, .inl (cI, 12, .inl (fun _ => 0)))] H) (hD : va_D (fun q : Nat => s.heap.size ≤ q) [(q1, .inr (11, [.ref q2, .ref q4, .ref q6, .ref q18, .ref q23, .ref q28, .ref q33, .ref q36, .ref q37, .ref q40, .ref q44, .ref q48, .int 0])), (q2, .inr (4, [.ref q3, .int 0, .int 0])), (q3, .inl (cI, 12, .inl (fun _ => 0))), (q4, .inr (10, [.ref q5, .int 0, .int 0])), (q5, .inl (cI, 12, .inl (fun _ => (-1)))), (q6, .inr (6, [.ref q7, .ref q10, .ref q16, .ref q17, .int 0, .int 0, .int 0, .int 0, .int 0])), (q7, .inr (3, [.ref q8, .int 0])), (q8, .inl (c2, 13, .inr (.inr (.inr (.inr (fun i => if i < 13 then some (r9 i) else none)))))), (r9 0, .inl (cI, 12, .inl (fun _ => 0))), (q10, .inr (5, [.ref q11, .ref q14, .ref q15, .int 0, .int 0, .int 0])), (q11, .inr (3, [.ref q12, .int 0])), (q12, .inl (c2, 13, .inr (.inr (.inr (.inr (fun i => if i < 13 then some (r13 i) else none)))))), (r13 0, .inl (cI, 12, .inl (fun _ => 0))), (q14, .inl (cI, 4096, .inl (fun _ => 0))), (q18, .inr (9, [.ref q19, .ref q22, .int 0, .int (-1)])), (q19, .inr (3, [.ref q20, .int 0])), (q20, .inl (c2, 13, .inr (.inr (.inr (.inr (fun i => if i < 13 then some (r21 i) else none)))))), (r21 0, .inl (cI, 12, .inl (fun _ => 0))), (q23, .inr (1, [.int 0, .ref q24, .ref q25, .ref q26, .ref q27, .int 0, .int (-1), .int (-1)])), (q28, .inr (1, [.int 1, .ref q29, .ref q30, .ref q31, .ref q32, .int 0, .int (-1), .int (-1)])), (q33, .inr (7, [.ref q34, .ref q35, .int 0, .int (-1)])), (q35, .inl (cI, 12, .inl (fun _ => 0))), (q37, .inr (2, [.ref q38, .ref q39, .int 0, .int (-1)])), (q40, .inr (0, [.ref q42, .ref q41, .ref q43, .int 0, .int 0, .int 0, .int 0, .int (-1)])), (q42, .inl (cI, 4096, .inl (fun _ => 0))), (q44, .inr (0, [.ref q46, .ref q45, .ref q47, .int 0, .int 0, .int 0, .int 0, .int (-1)])), (q46, .inl (cI, 256, .inl (fun _ => 0))), (q48, .inl (cI, 5, .inl (fun _ => 0))), (q49, .inr (12, [.int 0, .ref q50, .int 0, .ref q51, .int 0, .ref q52, .ref q53, .int 0, .ref q54, .int 0, .ref q55, .int (-9), .int 0, .int 0, .ref q56, .ref q57, .ref q58, .ref q59, .ref q60, .int 0, .ref q61, .ref q62, .ref q63, .int 0, .ref q64, .ref q65, .ref q66, .int 0, .ref q67])), (q50, .inl (cI, 5, .inl (fun _ => 0))), (q51, .inl (cI, 12, .inl (fun _ => 0))), (q52, .inl (cI, 12, .inl (fun _ => (-9)))), (q56, .inl (cI, 12, .inl (fun _ => 0))), (q57, .inl (cI, 12, .inl (fun _ => 0))), (q58, .inl (cI, 49152, .inl (fun _ => 0))), (q59, .inl (cI, 4096, .inl (fun _ => 0))), (q67, .inl (cI, 12, .inl (fun _ => 0)))]) (hS : va_S (fun q : Nat => s.heap.size ≤ q) s.heap H locs) (ls : Array Slot) (hl : lv_has ls 4 [(3, .int 0), (2, .ref q49), (1, .ref q1), (0, .ref b)]) : W p l e room_1 s m #[Value.ref b] below meth c H locs 128 161896 (lw_Z below #[Value.ref b] s) (F0 m 688 ls []) := by
  obtain ⟨hx, hb, hr, hml, hown0, hts0, hX, hbl, hlocks, hgv⟩ := id C0
  have hown : s.vm.findClass RL = some m.cls := hown0
  have hts : ∀ w ∈ wsL_law, w.before #[Value.ref b] s = true := fun w h => hts0 w (wsL_law_in w h)
  have hA : ∀ q : Nat, s.heap.size ≤ q → (fun q : Nat => s.heap.size ≤ q) q := fun _ h => h
  have hbA : ¬ (fun q : Nat => s.heap.size ≤ q) b := Nat.not_le.mpr hbl
  generalize hAe : (fun q : Nat => s.heap.size ≤ q) = A at hD hS hA hbA
  have a1_rg := i_rng a1
  have a2_rg := i_rng a2
  have a3_rg := i_rng a3
  obtain ⟨a1_l, a1_h⟩ := a1_rg
  obtain ⟨a2_l, a2_h⟩ := a2_rg
  obtain ⟨a3_l, a3_h⟩ := a3_rg
  rcases (show a1.toInt ≤ (-1) ∨ 0 ≤ a1.toInt by omega) with g_a1_0 | g_a1_0
  ·
    refine lv_aload_n hx hb dL_law_688 rfl (lv_at hl 2 rfl) ?_
    refine lv_aload_n hx hb dL_law_689 rfl (lv_at hl 3 rfl) ?_
    refine lv_iload_n hx hb dL_law_690 rfl (lv_at hl 0 rfl) ?_
    refine lv_iconst (v := 1) hx hb dL_law_691 (by decide) ?_
    refine lv_iadd hx hb dL_law_692 (tk_i (v := 1) (by decide +kernel) ?_)
    refine va_sld hx hb hX hbl hbA hS (vin (by decide +kernel)) dL_law_693 (tk_i (v := a1) ha1 ?_)
    refine lv_aload_n hx hb dL_law_694 rfl (lv_at hl 3 rfl) ?_
    refine lv_iload_n hx hb dL_law_695 rfl (lv_at hl 0 rfl) ?_
    refine lv_iconst (v := 2) hx hb dL_law_696 (by decide) ?_
    refine lv_iadd hx hb dL_law_697 (tk_i (v := 2) (by decide +kernel) ?_)
    refine va_sld hx hb hX hbl hbA hS (vin (by decide +kernel)) dL_law_698 (tk_i (v := a2) ha2 ?_)
    refine lv_aload_n hx hb dL_law_699 rfl (lv_at hl 3 rfl) ?_
    refine lv_iload_n hx hb dL_law_700 rfl (lv_at hl 0 rfl) ?_
    refine lv_iconst (v := 3) hx hb dL_law_701 (by decide) ?_
    refine lv_iadd hx hb dL_law_702 (tk_i (v := 3) (by decide +kernel) ?_)
    refine va_sld hx hb hX hbl hbA hS (vin (by decide +kernel)) dL_law_703 (tk_i (v := a3) ha3 ?_)
    refine kcall_i (D := (dC, dI)) (S := Unit) (v := (-1)) (wc := [(q1, .inr (11, [.ref q2, .ref q4, .ref q6, .ref q18, .ref q23, .ref q28, .ref q33, .ref q36, .ref q37, .ref q40, .ref q44, .ref q48, .int 0])), (q2, .inr (4, [.ref q3, .int 0, .int 0]))]) (wr := [(q49, .inr (12, [.int 0, .ref q50, .int 0, .ref q51, .int 0, .ref q52, .ref q53, .int 0, .ref q54, .int 0, .ref q55, .int (-9), .int 0, .int 0, .ref q56, .ref q57, .ref q58, .ref q59, .ref q60, .int 0, .ref q61, .ref q62, .ref q63, .int 0, .ref q64, .ref q65, .ref q66, .int 0, .ref q67]))]) (w1 := fun _ => []) (fun hPc hDc => va_runV (As := [.int a1, .int a2, .int a3]) (rest := []) ⟨hx, hb, hml, hown, hts⟩ (kX11_part_1 l dC dI cI c2 q1 q2 q4 q6 q18 q23 q28 q33 q36 q37 q40 q44 q48 q3 H.size a1 a2 a3 (by omega) (by omega) (by omega) (by omega) (by omega) (by omega)) (cwV 3 hts gL_law_X11_part rfl rfl rfl (by decide +kernel) ⟨Nat.le_of_ble_eq_true rfl, Nat.le_of_ble_eq_true rfl⟩) (pre_V hPc hK hDc hN (ci := 11) (q0 := 0) rfl rfl) rfl rfl hl.1 rfl (lv_room (Nat.le_of_ble_eq_true rfl)) dL_law_704 ⟨Nat.le_of_ble_eq_true rfl, Nat.le_of_ble_eq_true rfl⟩) hP hD hS hA [0, 1] [28] rfl rfl (by decide) (by decide) (by decide) (fun u H locs hP hD hS => ?_)
    have hP : va_P (dC, dI) vwCl [(q49, .inr (12, [.int 0, .ref q50, .int 0, .ref q51, .int 0, .ref q52, .ref q53, .int 0, .ref q54, .int 0, .ref q55, .int (-9), .int 0, .int 0, .ref q56, .ref q57, .ref q58, .ref q59, .ref q60, .int 0, .ref q61, .ref q62, .ref q63, .int 0, .ref q64, .ref q65, .ref q66, .int 0, .ref q67]))] H := hP
    have hD : va_D A [(q49, .inr (12, [.int 0, .ref q50, .int 0, .ref q51, .int 0, .ref q52, .ref q53, .int 0, .ref q54, .int 0, .ref q55, .int (-9), .int 0, .int 0, .ref q56, .ref q57, .ref q58, .ref q59, .ref q60, .int 0, .ref q61, .ref q62, .ref q63, .int 0, .ref q64, .ref q65, .ref q66, .int 0, .ref q67]))] := hD
    refine lv_aload_n hx hb dL_law_707 rfl (lv_at hl 1 rfl) ?_
    refine lv_aload_n hx hb dL_law_708 rfl (lv_at hl 3 rfl) ?_
    refine lv_iload_n hx hb dL_law_709 rfl (lv_at hl 0 rfl) ?_
    refine lv_iconst (v := 1) hx hb dL_law_710 (by decide) ?_
    refine lv_iadd hx hb dL_law_711 (tk_i (v := 1) (by decide +kernel) ?_)
    refine va_sld hx hb hX hbl hbA hS (vin (by decide +kernel)) dL_law_712 (tk_i (v := a1) ha1 ?_)
    refine lv_aload_n hx hb dL_law_713 rfl (lv_at hl 3 rfl) ?_
    refine lv_iload_n hx hb dL_law_714 rfl (lv_at hl 0 rfl) ?_
    refine lv_iconst (v := 2) hx hb dL_law_715 (by decide) ?_
    refine lv_iadd hx hb dL_law_716 (tk_i (v := 2) (by decide +kernel) ?_)
    refine va_sld hx hb hX hbl hbA hS (vin (by decide +kernel)) dL_law_717 (tk_i (v := a2) ha2 ?_)
    refine lv_aload_n hx hb dL_law_718 rfl (lv_at hl 3 rfl) ?_
    refine lv_iload_n hx hb dL_law_719 rfl (lv_at hl 0 rfl) ?_
    refine lv_iconst (v := 3) hx hb dL_law_720 (by decide) ?_
    refine lv_iadd hx hb dL_law_721 (tk_i (v := 3) (by decide +kernel) ?_)
    refine va_sld hx hb hX hbl hbA hS (vin (by decide +kernel)) dL_law_722 (tk_i (v := a3) ha3 ?_)
    refine kcall_i (D := (dC, dI)) (S := Unit) (v := (-1)) (wc := [(q49, .inr (12, [.int 0, .ref q50, .int 0, .ref q51, .int 0, .ref q52, .ref q53, .int 0, .ref q54, .int 0, .ref q55, .int (-9), .int 0, .int 0, .ref q56, .ref q57, .ref q58, .ref q59, .ref q60, .int 0, .ref q61, .ref q62, .ref q63, .int 0, .ref q64, .ref q65, .ref q66, .int 0, .ref q67]))]) (wr := []) (w1 := fun _ => []) (fun hPc hDc => va_runV (As := [.int a1, .int a2, .int a3]) (rest := [.int (-1)]) ⟨hx, hb, hml, hown, hts⟩ (kX12_part_1 l dC dI cI c2 q49 q50 q51 q52 q53 q54 q55 q56 q57 q58 q59 q60 q61 q62 q63 q64 q65 q66 q67 H.size a1 a2 a3 (by omega) (by omega) (by omega) (by omega) (by omega) (by omega)) (cwV 3 hts gL_law_X12_part rfl rfl rfl (by decide +kernel) ⟨Nat.le_of_ble_eq_true rfl, Nat.le_of_ble_eq_true rfl⟩) (pre_V hPc hK hDc hN (ci := 12) (q0 := 0) rfl rfl) rfl rfl hl.1 rfl (lv_room (Nat.le_of_ble_eq_true rfl)) dL_law_723 ⟨Nat.le_of_ble_eq_true rfl, Nat.le_of_ble_eq_true rfl⟩) hP hD hS hA [0] [] rfl rfl (by decide) (by decide) (by decide) (fun u H locs hP hD hS => ?_)
    have hP : va_P (dC, dI) vwCl [] H := hP
    have hD : va_D A [] := hD
    refine lv_icmp_eq (tgt := 1080) hx hb dL_law_726 (by decide) (fun _ => ?_) (fun h9 => absurd (by decide +kernel) h9)
    refine lv_iinc (v := 4) (lv' := [(3, .int 4), (2, .ref q49), (1, .ref q1), (0, .ref b)]) hx hb dL_law_1080 hl (k := 0) rfl (by decide +kernel) (by decide) rfl (fun ls hl => ?_)
    refine lv_goto (tgt := 18) hx hb dL_law_1083 (by decide) ?_
    refine lv_iload_n hx hb dL_law_18 rfl (lv_at hl 0 rfl) ?_
    refine lv_aload_n hx hb dL_law_19 rfl (lv_at hl 3 rfl) ?_
    refine va_slen hx hb hX hbl hbA hS dL_law_20 (tk_i (v := 4) (by decide +kernel) ?_)
    refine lv_iconst (v := 4) hx hb dL_law_21 (by decide) ?_
    refine lv_isub hx hb dL_law_22 (tk_i (v := 0) (by decide +kernel) ?_)
    refine lv_icmp_gt (tgt := 1086) hx hb dL_law_23 (by decide) (fun _ => ?_) (fun h9 => absurd (by decide +kernel) h9)
    refine lv_iconst (v := 1) hx hb dL_law_1086 (by decide) ?_
    refine va_forget (fun q hq => by have h9 := hS.2.2 q hq; rw [← hAe] at h9; exact h9) ?_
    refine W.widen (k := 600000) (n := 7302250) (by decide) (by decide) ?_
    exact lw_ret hx hb hr hlocks dL_law_1087
  ·
    refine lv_aload_n hx hb dL_law_688 rfl (lv_at hl 2 rfl) ?_
    refine lv_aload_n hx hb dL_law_689 rfl (lv_at hl 3 rfl) ?_
    refine lv_iload_n hx hb dL_law_690 rfl (lv_at hl 0 rfl) ?_
    refine lv_iconst (v := 1) hx hb dL_law_691 (by decide) ?_
    refine lv_iadd hx hb dL_law_692 (tk_i (v := 1) (by decide +kernel) ?_)
    refine va_sld hx hb hX hbl hbA hS (vin (by decide +kernel)) dL_law_693 (tk_i (v := a1) ha1 ?_)
    refine lv_aload_n hx hb dL_law_694 rfl (lv_at hl 3 rfl) ?_
    refine lv_iload_n hx hb dL_law_695 rfl (lv_at hl 0 rfl) ?_
    refine lv_iconst (v := 2) hx hb dL_law_696 (by decide) ?_
    refine lv_iadd hx hb dL_law_697 (tk_i (v := 2) (by decide +kernel) ?_)
    refine va_sld hx hb hX hbl hbA hS (vin (by decide +kernel)) dL_law_698 (tk_i (v := a2) ha2 ?_)
    refine lv_aload_n hx hb dL_law_699 rfl (lv_at hl 3 rfl) ?_
    refine lv_iload_n hx hb dL_law_700 rfl (lv_at hl 0 rfl) ?_
    refine lv_iconst (v := 3) hx hb dL_law_701 (by decide) ?_
    refine lv_iadd hx hb dL_law_702 (tk_i (v := 3) (by decide +kernel) ?_)
    refine va_sld hx hb hX hbl hbA hS (vin (by decide +kernel)) dL_law_703 (tk_i (v := a3) ha3 ?_)
    refine kcall_i (D := (dC, dI)) (S := Unit) (v := (-1)) (wc := [(q1, .inr (11, [.ref q2, .ref q4, .ref q6, .ref q18, .ref q23, .ref q28, .ref q33, .ref q36, .ref q37, .ref q40, .ref q44, .ref q48, .int 0])), (q2, .inr (4, [.ref q3, .int 0, .int 0]))]) (wr := [(q49, .inr (12, [.int 0, .ref q50, .int 0, .ref q51, .int 0, .ref q52, .ref q53, .int 0, .ref q54, .int 0, .ref q55, .int (-9), .int 0, .int 0, .ref q56, .ref q57, .ref q58, .ref q59, .ref q60, .int 0, .ref q61, .ref q62, .ref q63, .int 0, .ref q64, .ref q65, .ref q66, .int 0, .ref q67]))]) (w1 := fun _ => []) (fun hPc hDc => va_runV (As := [.int a1, .int a2, .int a3]) (rest := []) ⟨hx, hb, hml, hown, hts⟩ (kX11_part_2 l dC dI cI c2 q1 q2 q4 q6 q18 q23 q28 q33 q36 q37 q40 q44 q48 q3 H.size a1 a2 a3 (by omega) (by omega) (by omega) (by omega) (by omega) (by omega)) (cwV 3 hts gL_law_X11_part rfl rfl rfl (by decide +kernel) ⟨Nat.le_of_ble_eq_true rfl, Nat.le_of_ble_eq_true rfl⟩) (pre_V hPc hK hDc hN (ci := 11) (q0 := 0) rfl rfl) rfl rfl hl.1 rfl (lv_room (Nat.le_of_ble_eq_true rfl)) dL_law_704 ⟨Nat.le_of_ble_eq_true rfl, Nat.le_of_ble_eq_true rfl⟩) hP hD hS hA [0, 1] [28] rfl rfl (by decide) (by decide) (by decide) (fun u H locs hP hD hS => ?_)
    have hP : va_P (dC, dI) vwCl [(q49, .inr (12, [.int 0, .ref q50, .int 0, .ref q51, .int 0, .ref q52, .ref q53, .int 0, .ref q54, .int 0, .ref q55, .int (-9), .int 0, .int 0, .ref q56, .ref q57, .ref q58, .ref q59, .ref q60, .int 0, .ref q61, .ref q62, .ref q63, .int 0, .ref q64, .ref q65, .ref q66, .int 0, .ref q67]))] H := hP
    have hD : va_D A [(q49, .inr (12, [.int 0, .ref q50, .int 0, .ref q51, .int 0, .ref q52, .ref q53, .int 0, .ref q54, .int 0, .ref q55, .int (-9), .int 0, .int 0, .ref q56, .ref q57, .ref q58, .ref q59, .ref q60, .int 0, .ref q61, .ref q62, .ref q63, .int 0, .ref q64, .ref q65, .ref q66, .int 0, .ref q67]))] := hD
    refine lv_aload_n hx hb dL_law_707 rfl (lv_at hl 1 rfl) ?_
    refine lv_aload_n hx hb dL_law_708 rfl (lv_at hl 3 rfl) ?_
    refine lv_iload_n hx hb dL_law_709 rfl (lv_at hl 0 rfl) ?_
    refine lv_iconst (v := 1) hx hb dL_law_710 (by decide) ?_
    refine lv_iadd hx hb dL_law_711 (tk_i (v := 1) (by decide +kernel) ?_)
    refine va_sld hx hb hX hbl hbA hS (vin (by decide +kernel)) dL_law_712 (tk_i (v := a1) ha1 ?_)
    refine lv_aload_n hx hb dL_law_713 rfl (lv_at hl 3 rfl) ?_
    refine lv_iload_n hx hb dL_law_714 rfl (lv_at hl 0 rfl) ?_
    refine lv_iconst (v := 2) hx hb dL_law_715 (by decide) ?_
    refine lv_iadd hx hb dL_law_716 (tk_i (v := 2) (by decide +kernel) ?_)
    refine va_sld hx hb hX hbl hbA hS (vin (by decide +kernel)) dL_law_717 (tk_i (v := a2) ha2 ?_)
    refine lv_aload_n hx hb dL_law_718 rfl (lv_at hl 3 rfl) ?_
    refine lv_iload_n hx hb dL_law_719 rfl (lv_at hl 0 rfl) ?_
    refine lv_iconst (v := 3) hx hb dL_law_720 (by decide) ?_
    refine lv_iadd hx hb dL_law_721 (tk_i (v := 3) (by decide +kernel) ?_)
    refine va_sld hx hb hX hbl hbA hS (vin (by decide +kernel)) dL_law_722 (tk_i (v := a3) ha3 ?_)
    refine kcall_i (D := (dC, dI)) (S := Unit) (v := (-1)) (wc := [(q49, .inr (12, [.int 0, .ref q50, .int 0, .ref q51, .int 0, .ref q52, .ref q53, .int 0, .ref q54, .int 0, .ref q55, .int (-9), .int 0, .int 0, .ref q56, .ref q57, .ref q58, .ref q59, .ref q60, .int 0, .ref q61, .ref q62, .ref q63, .int 0, .ref q64, .ref q65, .ref q66, .int 0, .ref q67]))]) (wr := []) (w1 := fun _ => []) (fun hPc hDc => va_runV (As := [.int a1, .int a2, .int a3]) (rest := [.int (-1)]) ⟨hx, hb, hml, hown, hts⟩ (kX12_part_2 l dC dI cI c2 q49 q50 q51 q52 q53 q54 q55 q56 q57 q58 q59 q60 q61 q62 q63 q64 q65 q66 q67 H.size a1 a2 a3 (by omega) (by omega) (by omega) (by omega) (by omega) (by omega)) (cwV 3 hts gL_law_X12_part rfl rfl rfl (by decide +kernel) ⟨Nat.le_of_ble_eq_true rfl, Nat.le_of_ble_eq_true rfl⟩) (pre_V hPc hK hDc hN (ci := 12) (q0 := 0) rfl rfl) rfl rfl hl.1 rfl (lv_room (Nat.le_of_ble_eq_true rfl)) dL_law_723 ⟨Nat.le_of_ble_eq_true rfl, Nat.le_of_ble_eq_true rfl⟩) hP hD hS hA [0] [] rfl rfl (by decide) (by decide) (by decide) (fun u H locs hP hD hS => ?_)
    have hP : va_P (dC, dI) vwCl [] H := hP
    have hD : va_D A [] := hD
    refine lv_icmp_eq (tgt := 1080) hx hb dL_law_726 (by decide) (fun _ => ?_) (fun h9 => absurd (by decide +kernel) h9)
    refine lv_iinc (v := 4) (lv' := [(3, .int 4), (2, .ref q49), (1, .ref q1), (0, .ref b)]) hx hb dL_law_1080 hl (k := 0) rfl (by decide +kernel) (by decide) rfl (fun ls hl => ?_)
    refine lv_goto (tgt := 18) hx hb dL_law_1083 (by decide) ?_
    refine lv_iload_n hx hb dL_law_18 rfl (lv_at hl 0 rfl) ?_
    refine lv_aload_n hx hb dL_law_19 rfl (lv_at hl 3 rfl) ?_
    refine va_slen hx hb hX hbl hbA hS dL_law_20 (tk_i (v := 4) (by decide +kernel) ?_)
    refine lv_iconst (v := 4) hx hb dL_law_21 (by decide) ?_
    refine lv_isub hx hb dL_law_22 (tk_i (v := 0) (by decide +kernel) ?_)
    refine lv_icmp_gt (tgt := 1086) hx hb dL_law_23 (by decide) (fun _ => ?_) (fun h9 => absurd (by decide +kernel) h9)
    refine lv_iconst (v := 1) hx hb dL_law_1086 (by decide) ?_
    refine va_forget (fun q hq => by have h9 := hS.2.2 q hq; rw [← hAe] at h9; exact h9) ?_
    refine W.widen (k := 600000) (n := 7302250) (by decide) (by decide) ?_
    exact lw_ret hx hb hr hlocks dL_law_1087
set_option maxHeartbeats 8000000 in
set_option maxRecDepth 100000 in
theorem lc_23 {p : Program} {e : Env} {s : State} {m : MethodId} {below : List Frame} {meth : Method} {c : Code} (l : Launch) {b : Nat} {xs : Nat → Int32} (C0 : lw_At p s m meth c b 4 xs) (dC : Nat → ClassId) (dI : Nat → Nat → Nat) (cI c2 : ClassId) (q1 : Nat) (q2 : Nat) (q3 : Nat) (q4 : Nat) (q5 : Nat) (q6 : Nat) (q7 : Nat) (q8 : Nat) (r9 : Nat → Nat) (q10 : Nat) (q11 : Nat) (q12 : Nat) (r13 : Nat → Nat) (q14 : Nat) (q15 : Nat) (q16 : Nat) (q17 : Nat) (q18 : Nat) (q19 : Nat) (q20 : Nat) (r21 : Nat → Nat) (q22 : Nat) (q23 : Nat) (q24 : Nat) (q25 : Nat) (q26 : Nat) (q27 : Nat) (q28 : Nat) (q29 : Nat) (q30 : Nat) (q31 : Nat) (q32 : Nat) (q33 : Nat) (q34 : Nat) (q35 : Nat) (q36 : Nat) (q37 : Nat) (q38 : Nat) (q39 : Nat) (q40 : Nat) (q41 : Nat) (q42 : Nat) (q43 : Nat) (q44 : Nat) (q45 : Nat) (q46 : Nat) (q47 : Nat) (q48 : Nat) (q49 : Nat) (q50 : Nat) (q51 : Nat) (q52 : Nat) (q53 : Nat) (q54 : Nat) (q55 : Nat) (q56 : Nat) (q57 : Nat) (q58 : Nat) (q59 : Nat) (q60 : Nat) (q61 : Nat) (q62 : Nat) (q63 : Nat) (q64 : Nat) (q65 : Nat) (q66 : Nat) (q67 : Nat) (a1 a2 a3 : Int32) (ha1 : xs (Int32.toNatClampNeg 1) = a1) (ha2 : xs (Int32.toNatClampNeg 2) = a2) (ha3 : xs (Int32.toNatClampNeg 3) = a3) (hK : va_K (dC, dI) vwCl [(cI, .int), (c2, .array .int)] s) (hN : nsAll s) (H : Heap) (locs : List Loc) (hP : va_P (dC, dI) vwCl [(q1, .inr (11, [.ref q2, .ref q4, .ref q6, .ref q18, .ref q23, .ref q28, .ref q33, .ref q36, .ref q37, .ref q40, .ref q44, .ref q48, .int 0])), (q2, .inr (4, [.ref q3, .int 0, .int 0])), (q3, .inl (cI, 12, .inl (fun _ => 0))), (q4, .inr (10, [.ref q5, .int 0, .int 0])), (q5, .inl (cI, 12, .inl (fun _ => (-1)))), (q6, .inr (6, [.ref q7, .ref q10, .ref q16, .ref q17, .int 0, .int 0, .int 0, .int 0, .int 0])), (q7, .inr (3, [.ref q8, .int 0])), (q8, .inl (c2, 13, .inr (.inr (.inr (.inr (fun i => if i < 13 then some (r9 i) else none)))))), (r9 0, .inl (cI, 12, .inl (fun _ => 0))), (q10, .inr (5, [.ref q11, .ref q14, .ref q15, .int 0, .int 0, .int 0])), (q11, .inr (3, [.ref q12, .int 0])), (q12, .inl (c2, 13, .inr (.inr (.inr (.inr (fun i => if i < 13 then some (r13 i) else none)))))), (r13 0, .inl (cI, 12, .inl (fun _ => 0))), (q14, .inl (cI, 4096, .inl (fun _ => 0))), (q18, .inr (9, [.ref q19, .ref q22, .int 0, .int (-1)])), (q19, .inr (3, [.ref q20, .int 0])), (q20, .inl (c2, 13, .inr (.inr (.inr (.inr (fun i => if i < 13 then some (r21 i) else none)))))), (r21 0, .inl (cI, 12, .inl (fun _ => 0))), (q23, .inr (1, [.int 0, .ref q24, .ref q25, .ref q26, .ref q27, .int 0, .int (-1), .int (-1)])), (q28, .inr (1, [.int 1, .ref q29, .ref q30, .ref q31, .ref q32, .int 0, .int (-1), .int (-1)])), (q33, .inr (7, [.ref q34, .ref q35, .int 0, .int (-1)])), (q35, .inl (cI, 12, .inl (fun _ => 0))), (q37, .inr (2, [.ref q38, .ref q39, .int 0, .int (-1)])), (q40, .inr (0, [.ref q42, .ref q41, .ref q43, .int 0, .int 0, .int 0, .int 0, .int (-1)])), (q42, .inl (cI, 4096, .inl (fun _ => 0))), (q44, .inr (0, [.ref q46, .ref q45, .ref q47, .int 0, .int 0, .int 0, .int 0, .int (-1)])), (q46, .inl (cI, 256, .inl (fun _ => 0))), (q48, .inl (cI, 5, .inl (fun _ => 0))), (q49, .inr (12, [.int 0, .ref q50, .int 0, .ref q51, .int 0, .ref q52, .ref q53, .int 0, .ref q54, .int 0, .ref q55, .int (-9), .int 0, .int 0, .ref q56, .ref q57, .ref q58, .ref q59, .ref q60, .int 0, .ref q61, .ref q62, .ref q63, .int 0, .ref q64, .ref q65, .ref q66, .int 0, .ref q67])), (q50, .inl (cI, 5, .inl (fun _ => 0))), (q51, .inl (cI, 12, .inl (fun _ => 0))), (q52, .inl (cI, 12, .inl (fun _ => (-9)))), (q56, .inl (cI, 12, .inl (fun _ => 0))), (q57, .inl (cI, 12, .inl (fun _ => 0))), (q58, .inl (cI, 49152, .inl (fun _ => 0))), (q59, .inl (cI, 4096, .inl (fun _ => 0))), (q67, .inl (cI, 12, .inl (fun _ => 0)))] H) (hD : va_D (fun q : Nat => s.heap.size ≤ q) [(q1, .inr (11, [.ref q2, .ref q4, .ref q6, .ref q18, .ref q23, .ref q28, .ref q33, .ref q36, .ref q37, .ref q40, .ref q44, .ref q48, .int 0])), (q2, .inr (4, [.ref q3, .int 0, .int 0])), (q3, .inl (cI, 12, .inl (fun _ => 0))), (q4, .inr (10, [.ref q5, .int 0, .int 0])), (q5, .inl (cI, 12, .inl (fun _ => (-1)))), (q6, .inr (6, [.ref q7, .ref q10, .ref q16, .ref q17, .int 0, .int 0, .int 0, .int 0, .int 0])), (q7, .inr (3, [.ref q8, .int 0])), (q8, .inl (c2, 13, .inr (.inr (.inr (.inr (fun i => if i < 13 then some (r9 i) else none)))))), (r9 0, .inl (cI, 12, .inl (fun _ => 0))), (q10, .inr (5, [.ref q11, .ref q14, .ref q15, .int 0, .int 0, .int 0])), (q11, .inr (3, [.ref q12, .int 0])), (q12, .inl (c2, 13, .inr (.inr (.inr (.inr (fun i => if i < 13 then some (r13 i) else none)))))), (r13 0, .inl (cI, 12, .inl (fun _ => 0))), (q14, .inl (cI, 4096, .inl (fun _ => 0))), (q18, .inr (9, [.ref q19, .ref q22, .int 0, .int (-1)])), (q19, .inr (3, [.ref q20, .int 0])), (q20, .inl (c2, 13, .inr (.inr (.inr (.inr (fun i => if i < 13 then some (r21 i) else none)))))), (r21 0, .inl (cI, 12, .inl (fun _ => 0))), (q23, .inr (1, [.int 0, .ref q24, .ref q25, .ref q26, .ref q27, .int 0, .int (-1), .int (-1)])), (q28, .inr (1, [.int 1, .ref q29, .ref q30, .ref q31, .ref q32, .int 0, .int (-1), .int (-1)])), (q33, .inr (7, [.ref q34, .ref q35, .int 0, .int (-1)])), (q35, .inl (cI, 12, .inl (fun _ => 0))), (q37, .inr (2, [.ref q38, .ref q39, .int 0, .int (-1)])), (q40, .inr (0, [.ref q42, .ref q41, .ref q43, .int 0, .int 0, .int 0, .int 0, .int (-1)])), (q42, .inl (cI, 4096, .inl (fun _ => 0))), (q44, .inr (0, [.ref q46, .ref q45, .ref q47, .int 0, .int 0, .int 0, .int 0, .int (-1)])), (q46, .inl (cI, 256, .inl (fun _ => 0))), (q48, .inl (cI, 5, .inl (fun _ => 0))), (q49, .inr (12, [.int 0, .ref q50, .int 0, .ref q51, .int 0, .ref q52, .ref q53, .int 0, .ref q54, .int 0, .ref q55, .int (-9), .int 0, .int 0, .ref q56, .ref q57, .ref q58, .ref q59, .ref q60, .int 0, .ref q61, .ref q62, .ref q63, .int 0, .ref q64, .ref q65, .ref q66, .int 0, .ref q67])), (q50, .inl (cI, 5, .inl (fun _ => 0))), (q51, .inl (cI, 12, .inl (fun _ => 0))), (q52, .inl (cI, 12, .inl (fun _ => (-9)))), (q56, .inl (cI, 12, .inl (fun _ => 0))), (q57, .inl (cI, 12, .inl (fun _ => 0))), (q58, .inl (cI, 49152, .inl (fun _ => 0))), (q59, .inl (cI, 4096, .inl (fun _ => 0))), (q67, .inl (cI, 12, .inl (fun _ => 0)))]) (hS : va_S (fun q : Nat => s.heap.size ≤ q) s.heap H locs) (ls : Array Slot) (hl : lv_has ls 4 [(3, .int 0), (2, .ref q49), (1, .ref q1), (0, .ref b)]) : W p l e room_1 s m #[Value.ref b] below meth c H locs 128 161896 (lw_Z below #[Value.ref b] s) (F0 m 731 ls []) := by
  obtain ⟨hx, hb, hr, hml, hown0, hts0, hX, hbl, hlocks, hgv⟩ := id C0
  have hown : s.vm.findClass RL = some m.cls := hown0
  have hts : ∀ w ∈ wsL_law, w.before #[Value.ref b] s = true := fun w h => hts0 w (wsL_law_in w h)
  have hA : ∀ q : Nat, s.heap.size ≤ q → (fun q : Nat => s.heap.size ≤ q) q := fun _ h => h
  have hbA : ¬ (fun q : Nat => s.heap.size ≤ q) b := Nat.not_le.mpr hbl
  generalize hAe : (fun q : Nat => s.heap.size ≤ q) = A at hD hS hA hbA
  have a1_rg := i_rng a1
  have a2_rg := i_rng a2
  have a3_rg := i_rng a3
  obtain ⟨a1_l, a1_h⟩ := a1_rg
  obtain ⟨a2_l, a2_h⟩ := a2_rg
  obtain ⟨a3_l, a3_h⟩ := a3_rg
  rcases (show a1.toInt ≤ (-1) ∨ 0 ≤ a1.toInt by omega) with g_a1_0 | g_a1_0
  ·
    refine lv_aload_n hx hb dL_law_731 rfl (lv_at hl 2 rfl) ?_
    refine lv_aload_n hx hb dL_law_732 rfl (lv_at hl 3 rfl) ?_
    refine lv_iload_n hx hb dL_law_733 rfl (lv_at hl 0 rfl) ?_
    refine lv_iconst (v := 1) hx hb dL_law_734 (by decide) ?_
    refine lv_iadd hx hb dL_law_735 (tk_i (v := 1) (by decide +kernel) ?_)
    refine va_sld hx hb hX hbl hbA hS (vin (by decide +kernel)) dL_law_736 (tk_i (v := a1) ha1 ?_)
    refine kcall_i (D := (dC, dI)) (S := Unit) (v := (-9)) (wc := [(q1, .inr (11, [.ref q2, .ref q4, .ref q6, .ref q18, .ref q23, .ref q28, .ref q33, .ref q36, .ref q37, .ref q40, .ref q44, .ref q48, .int 0])), (q40, .inr (0, [.ref q42, .ref q41, .ref q43, .int 0, .int 0, .int 0, .int 0, .int (-1)])), (q2, .inr (4, [.ref q3, .int 0, .int 0])), (q23, .inr (1, [.int 0, .ref q24, .ref q25, .ref q26, .ref q27, .int 0, .int (-1), .int (-1)])), (q42, .inl (cI, 4096, .inl (fun _ => 0)))]) (wr := [(q49, .inr (12, [.int 0, .ref q50, .int 0, .ref q51, .int 0, .ref q52, .ref q53, .int 0, .ref q54, .int 0, .ref q55, .int (-9), .int 0, .int 0, .ref q56, .ref q57, .ref q58, .ref q59, .ref q60, .int 0, .ref q61, .ref q62, .ref q63, .int 0, .ref q64, .ref q65, .ref q66, .int 0, .ref q67]))]) (w1 := fun _ => []) (fun hPc hDc => va_runV (As := [.int a1]) (rest := []) ⟨hx, hb, hml, hown, hts⟩ (kX11_line_1 l dC dI cI c2 q1 q40 q2 q23 q42 q4 q6 q18 q28 q33 q36 q37 q44 q48 q41 q43 q3 q24 q25 q26 q27 H.size a1 (by omega) (by omega)) (cwV 1 hts gL_law_X11_line rfl rfl rfl (by decide +kernel) ⟨Nat.le_of_ble_eq_true rfl, Nat.le_of_ble_eq_true rfl⟩) (pre_V hPc hK hDc hN (ci := 11) (q0 := 0) rfl rfl) rfl rfl hl.1 rfl (lv_room (Nat.le_of_ble_eq_true rfl)) dL_law_737 ⟨Nat.le_of_ble_eq_true rfl, Nat.le_of_ble_eq_true rfl⟩) hP hD hS hA [0, 23, 1, 18, 24] [28] rfl rfl (by decide) (by decide) (by decide) (fun u H locs hP hD hS => ?_)
    have hP : va_P (dC, dI) vwCl [(q49, .inr (12, [.int 0, .ref q50, .int 0, .ref q51, .int 0, .ref q52, .ref q53, .int 0, .ref q54, .int 0, .ref q55, .int (-9), .int 0, .int 0, .ref q56, .ref q57, .ref q58, .ref q59, .ref q60, .int 0, .ref q61, .ref q62, .ref q63, .int 0, .ref q64, .ref q65, .ref q66, .int 0, .ref q67]))] H := hP
    have hD : va_D A [(q49, .inr (12, [.int 0, .ref q50, .int 0, .ref q51, .int 0, .ref q52, .ref q53, .int 0, .ref q54, .int 0, .ref q55, .int (-9), .int 0, .int 0, .ref q56, .ref q57, .ref q58, .ref q59, .ref q60, .int 0, .ref q61, .ref q62, .ref q63, .int 0, .ref q64, .ref q65, .ref q66, .int 0, .ref q67]))] := hD
    refine lv_aload_n hx hb dL_law_740 rfl (lv_at hl 1 rfl) ?_
    refine lv_aload_n hx hb dL_law_741 rfl (lv_at hl 3 rfl) ?_
    refine lv_iload_n hx hb dL_law_742 rfl (lv_at hl 0 rfl) ?_
    refine lv_iconst (v := 1) hx hb dL_law_743 (by decide) ?_
    refine lv_iadd hx hb dL_law_744 (tk_i (v := 1) (by decide +kernel) ?_)
    refine va_sld hx hb hX hbl hbA hS (vin (by decide +kernel)) dL_law_745 (tk_i (v := a1) ha1 ?_)
    refine kcall_i (D := (dC, dI)) (S := Unit) (v := (-9)) (wc := [(q49, .inr (12, [.int 0, .ref q50, .int 0, .ref q51, .int 0, .ref q52, .ref q53, .int 0, .ref q54, .int 0, .ref q55, .int (-9), .int 0, .int 0, .ref q56, .ref q57, .ref q58, .ref q59, .ref q60, .int 0, .ref q61, .ref q62, .ref q63, .int 0, .ref q64, .ref q65, .ref q66, .int 0, .ref q67]))]) (wr := []) (w1 := fun _ => []) (fun hPc hDc => va_runV (As := [.int a1]) (rest := [.int (-9)]) ⟨hx, hb, hml, hown, hts⟩ (kX12_line_1 l dC dI cI c2 q49 q50 q51 q52 q53 q54 q55 q56 q57 q58 q59 q60 q61 q62 q63 q64 q65 q66 q67 H.size a1 (by omega) (by omega)) (cwV 1 hts gL_law_X12_line rfl rfl rfl (by decide +kernel) ⟨Nat.le_of_ble_eq_true rfl, Nat.le_of_ble_eq_true rfl⟩) (pre_V hPc hK hDc hN (ci := 12) (q0 := 0) rfl rfl) rfl rfl hl.1 rfl (lv_room (Nat.le_of_ble_eq_true rfl)) dL_law_746 ⟨Nat.le_of_ble_eq_true rfl, Nat.le_of_ble_eq_true rfl⟩) hP hD hS hA [0] [] rfl rfl (by decide) (by decide) (by decide) (fun u H locs hP hD hS => ?_)
    have hP : va_P (dC, dI) vwCl [] H := hP
    have hD : va_D A [] := hD
    refine lv_icmp_eq (tgt := 1080) hx hb dL_law_749 (by decide) (fun _ => ?_) (fun h9 => absurd (by decide +kernel) h9)
    refine lv_iinc (v := 4) (lv' := [(3, .int 4), (2, .ref q49), (1, .ref q1), (0, .ref b)]) hx hb dL_law_1080 hl (k := 0) rfl (by decide +kernel) (by decide) rfl (fun ls hl => ?_)
    refine lv_goto (tgt := 18) hx hb dL_law_1083 (by decide) ?_
    refine lv_iload_n hx hb dL_law_18 rfl (lv_at hl 0 rfl) ?_
    refine lv_aload_n hx hb dL_law_19 rfl (lv_at hl 3 rfl) ?_
    refine va_slen hx hb hX hbl hbA hS dL_law_20 (tk_i (v := 4) (by decide +kernel) ?_)
    refine lv_iconst (v := 4) hx hb dL_law_21 (by decide) ?_
    refine lv_isub hx hb dL_law_22 (tk_i (v := 0) (by decide +kernel) ?_)
    refine lv_icmp_gt (tgt := 1086) hx hb dL_law_23 (by decide) (fun _ => ?_) (fun h9 => absurd (by decide +kernel) h9)
    refine lv_iconst (v := 1) hx hb dL_law_1086 (by decide) ?_
    refine va_forget (fun q hq => by have h9 := hS.2.2 q hq; rw [← hAe] at h9; exact h9) ?_
    refine W.widen (k := 600000) (n := 7302250) (by decide) (by decide) ?_
    exact lw_ret hx hb hr hlocks dL_law_1087
  ·
    refine lv_aload_n hx hb dL_law_731 rfl (lv_at hl 2 rfl) ?_
    refine lv_aload_n hx hb dL_law_732 rfl (lv_at hl 3 rfl) ?_
    refine lv_iload_n hx hb dL_law_733 rfl (lv_at hl 0 rfl) ?_
    refine lv_iconst (v := 1) hx hb dL_law_734 (by decide) ?_
    refine lv_iadd hx hb dL_law_735 (tk_i (v := 1) (by decide +kernel) ?_)
    refine va_sld hx hb hX hbl hbA hS (vin (by decide +kernel)) dL_law_736 (tk_i (v := a1) ha1 ?_)
    refine kcall_i (D := (dC, dI)) (S := Unit) (v := (-9)) (wc := [(q1, .inr (11, [.ref q2, .ref q4, .ref q6, .ref q18, .ref q23, .ref q28, .ref q33, .ref q36, .ref q37, .ref q40, .ref q44, .ref q48, .int 0])), (q40, .inr (0, [.ref q42, .ref q41, .ref q43, .int 0, .int 0, .int 0, .int 0, .int (-1)])), (q2, .inr (4, [.ref q3, .int 0, .int 0])), (q23, .inr (1, [.int 0, .ref q24, .ref q25, .ref q26, .ref q27, .int 0, .int (-1), .int (-1)])), (q42, .inl (cI, 4096, .inl (fun _ => 0)))]) (wr := [(q49, .inr (12, [.int 0, .ref q50, .int 0, .ref q51, .int 0, .ref q52, .ref q53, .int 0, .ref q54, .int 0, .ref q55, .int (-9), .int 0, .int 0, .ref q56, .ref q57, .ref q58, .ref q59, .ref q60, .int 0, .ref q61, .ref q62, .ref q63, .int 0, .ref q64, .ref q65, .ref q66, .int 0, .ref q67]))]) (w1 := fun _ => []) (fun hPc hDc => va_runV (As := [.int a1]) (rest := []) ⟨hx, hb, hml, hown, hts⟩ (kX11_line_2 l dC dI cI c2 q1 q40 q2 q23 q42 q4 q6 q18 q28 q33 q36 q37 q44 q48 q41 q43 q3 q24 q25 q26 q27 H.size a1 (by omega) (by omega)) (cwV 1 hts gL_law_X11_line rfl rfl rfl (by decide +kernel) ⟨Nat.le_of_ble_eq_true rfl, Nat.le_of_ble_eq_true rfl⟩) (pre_V hPc hK hDc hN (ci := 11) (q0 := 0) rfl rfl) rfl rfl hl.1 rfl (lv_room (Nat.le_of_ble_eq_true rfl)) dL_law_737 ⟨Nat.le_of_ble_eq_true rfl, Nat.le_of_ble_eq_true rfl⟩) hP hD hS hA [0, 23, 1, 18, 24] [28] rfl rfl (by decide) (by decide) (by decide) (fun u H locs hP hD hS => ?_)
    have hP : va_P (dC, dI) vwCl [(q49, .inr (12, [.int 0, .ref q50, .int 0, .ref q51, .int 0, .ref q52, .ref q53, .int 0, .ref q54, .int 0, .ref q55, .int (-9), .int 0, .int 0, .ref q56, .ref q57, .ref q58, .ref q59, .ref q60, .int 0, .ref q61, .ref q62, .ref q63, .int 0, .ref q64, .ref q65, .ref q66, .int 0, .ref q67]))] H := hP
    have hD : va_D A [(q49, .inr (12, [.int 0, .ref q50, .int 0, .ref q51, .int 0, .ref q52, .ref q53, .int 0, .ref q54, .int 0, .ref q55, .int (-9), .int 0, .int 0, .ref q56, .ref q57, .ref q58, .ref q59, .ref q60, .int 0, .ref q61, .ref q62, .ref q63, .int 0, .ref q64, .ref q65, .ref q66, .int 0, .ref q67]))] := hD
    refine lv_aload_n hx hb dL_law_740 rfl (lv_at hl 1 rfl) ?_
    refine lv_aload_n hx hb dL_law_741 rfl (lv_at hl 3 rfl) ?_
    refine lv_iload_n hx hb dL_law_742 rfl (lv_at hl 0 rfl) ?_
    refine lv_iconst (v := 1) hx hb dL_law_743 (by decide) ?_
    refine lv_iadd hx hb dL_law_744 (tk_i (v := 1) (by decide +kernel) ?_)
    refine va_sld hx hb hX hbl hbA hS (vin (by decide +kernel)) dL_law_745 (tk_i (v := a1) ha1 ?_)
    refine kcall_i (D := (dC, dI)) (S := Unit) (v := (-9)) (wc := [(q49, .inr (12, [.int 0, .ref q50, .int 0, .ref q51, .int 0, .ref q52, .ref q53, .int 0, .ref q54, .int 0, .ref q55, .int (-9), .int 0, .int 0, .ref q56, .ref q57, .ref q58, .ref q59, .ref q60, .int 0, .ref q61, .ref q62, .ref q63, .int 0, .ref q64, .ref q65, .ref q66, .int 0, .ref q67]))]) (wr := []) (w1 := fun _ => []) (fun hPc hDc => va_runV (As := [.int a1]) (rest := [.int (-9)]) ⟨hx, hb, hml, hown, hts⟩ (kX12_line_2 l dC dI cI c2 q49 q50 q51 q52 q53 q54 q55 q56 q57 q58 q59 q60 q61 q62 q63 q64 q65 q66 q67 H.size a1 (by omega) (by omega)) (cwV 1 hts gL_law_X12_line rfl rfl rfl (by decide +kernel) ⟨Nat.le_of_ble_eq_true rfl, Nat.le_of_ble_eq_true rfl⟩) (pre_V hPc hK hDc hN (ci := 12) (q0 := 0) rfl rfl) rfl rfl hl.1 rfl (lv_room (Nat.le_of_ble_eq_true rfl)) dL_law_746 ⟨Nat.le_of_ble_eq_true rfl, Nat.le_of_ble_eq_true rfl⟩) hP hD hS hA [0] [] rfl rfl (by decide) (by decide) (by decide) (fun u H locs hP hD hS => ?_)
    have hP : va_P (dC, dI) vwCl [] H := hP
    have hD : va_D A [] := hD
    refine lv_icmp_eq (tgt := 1080) hx hb dL_law_749 (by decide) (fun _ => ?_) (fun h9 => absurd (by decide +kernel) h9)
    refine lv_iinc (v := 4) (lv' := [(3, .int 4), (2, .ref q49), (1, .ref q1), (0, .ref b)]) hx hb dL_law_1080 hl (k := 0) rfl (by decide +kernel) (by decide) rfl (fun ls hl => ?_)
    refine lv_goto (tgt := 18) hx hb dL_law_1083 (by decide) ?_
    refine lv_iload_n hx hb dL_law_18 rfl (lv_at hl 0 rfl) ?_
    refine lv_aload_n hx hb dL_law_19 rfl (lv_at hl 3 rfl) ?_
    refine va_slen hx hb hX hbl hbA hS dL_law_20 (tk_i (v := 4) (by decide +kernel) ?_)
    refine lv_iconst (v := 4) hx hb dL_law_21 (by decide) ?_
    refine lv_isub hx hb dL_law_22 (tk_i (v := 0) (by decide +kernel) ?_)
    refine lv_icmp_gt (tgt := 1086) hx hb dL_law_23 (by decide) (fun _ => ?_) (fun h9 => absurd (by decide +kernel) h9)
    refine lv_iconst (v := 1) hx hb dL_law_1086 (by decide) ?_
    refine va_forget (fun q hq => by have h9 := hS.2.2 q hq; rw [← hAe] at h9; exact h9) ?_
    refine W.widen (k := 600000) (n := 7302250) (by decide) (by decide) ?_
    exact lw_ret hx hb hr hlocks dL_law_1087
set_option maxHeartbeats 8000000 in
set_option maxRecDepth 100000 in
theorem lc_24 {p : Program} {e : Env} {s : State} {m : MethodId} {below : List Frame} {meth : Method} {c : Code} (l : Launch) {b : Nat} {xs : Nat → Int32} (C0 : lw_At p s m meth c b 4 xs) (dC : Nat → ClassId) (dI : Nat → Nat → Nat) (cI c2 : ClassId) (q1 : Nat) (q2 : Nat) (q3 : Nat) (q4 : Nat) (q5 : Nat) (q6 : Nat) (q7 : Nat) (q8 : Nat) (r9 : Nat → Nat) (q10 : Nat) (q11 : Nat) (q12 : Nat) (r13 : Nat → Nat) (q14 : Nat) (q15 : Nat) (q16 : Nat) (q17 : Nat) (q18 : Nat) (q19 : Nat) (q20 : Nat) (r21 : Nat → Nat) (q22 : Nat) (q23 : Nat) (q24 : Nat) (q25 : Nat) (q26 : Nat) (q27 : Nat) (q28 : Nat) (q29 : Nat) (q30 : Nat) (q31 : Nat) (q32 : Nat) (q33 : Nat) (q34 : Nat) (q35 : Nat) (q36 : Nat) (q37 : Nat) (q38 : Nat) (q39 : Nat) (q40 : Nat) (q41 : Nat) (q42 : Nat) (q43 : Nat) (q44 : Nat) (q45 : Nat) (q46 : Nat) (q47 : Nat) (q48 : Nat) (q49 : Nat) (q50 : Nat) (q51 : Nat) (q52 : Nat) (q53 : Nat) (q54 : Nat) (q55 : Nat) (q56 : Nat) (q57 : Nat) (q58 : Nat) (q59 : Nat) (q60 : Nat) (q61 : Nat) (q62 : Nat) (q63 : Nat) (q64 : Nat) (q65 : Nat) (q66 : Nat) (q67 : Nat) (a1 a2 a3 : Int32) (ha1 : xs (Int32.toNatClampNeg 1) = a1) (ha2 : xs (Int32.toNatClampNeg 2) = a2) (ha3 : xs (Int32.toNatClampNeg 3) = a3) (hK : va_K (dC, dI) vwCl [(cI, .int), (c2, .array .int)] s) (hN : nsAll s) (H : Heap) (locs : List Loc) (hP : va_P (dC, dI) vwCl [(q1, .inr (11, [.ref q2, .ref q4, .ref q6, .ref q18, .ref q23, .ref q28, .ref q33, .ref q36, .ref q37, .ref q40, .ref q44, .ref q48, .int 0])), (q2, .inr (4, [.ref q3, .int 0, .int 0])), (q3, .inl (cI, 12, .inl (fun _ => 0))), (q4, .inr (10, [.ref q5, .int 0, .int 0])), (q5, .inl (cI, 12, .inl (fun _ => (-1)))), (q6, .inr (6, [.ref q7, .ref q10, .ref q16, .ref q17, .int 0, .int 0, .int 0, .int 0, .int 0])), (q7, .inr (3, [.ref q8, .int 0])), (q8, .inl (c2, 13, .inr (.inr (.inr (.inr (fun i => if i < 13 then some (r9 i) else none)))))), (r9 0, .inl (cI, 12, .inl (fun _ => 0))), (q10, .inr (5, [.ref q11, .ref q14, .ref q15, .int 0, .int 0, .int 0])), (q11, .inr (3, [.ref q12, .int 0])), (q12, .inl (c2, 13, .inr (.inr (.inr (.inr (fun i => if i < 13 then some (r13 i) else none)))))), (r13 0, .inl (cI, 12, .inl (fun _ => 0))), (q14, .inl (cI, 4096, .inl (fun _ => 0))), (q18, .inr (9, [.ref q19, .ref q22, .int 0, .int (-1)])), (q19, .inr (3, [.ref q20, .int 0])), (q20, .inl (c2, 13, .inr (.inr (.inr (.inr (fun i => if i < 13 then some (r21 i) else none)))))), (r21 0, .inl (cI, 12, .inl (fun _ => 0))), (q23, .inr (1, [.int 0, .ref q24, .ref q25, .ref q26, .ref q27, .int 0, .int (-1), .int (-1)])), (q28, .inr (1, [.int 1, .ref q29, .ref q30, .ref q31, .ref q32, .int 0, .int (-1), .int (-1)])), (q33, .inr (7, [.ref q34, .ref q35, .int 0, .int (-1)])), (q35, .inl (cI, 12, .inl (fun _ => 0))), (q37, .inr (2, [.ref q38, .ref q39, .int 0, .int (-1)])), (q40, .inr (0, [.ref q42, .ref q41, .ref q43, .int 0, .int 0, .int 0, .int 0, .int (-1)])), (q42, .inl (cI, 4096, .inl (fun _ => 0))), (q44, .inr (0, [.ref q46, .ref q45, .ref q47, .int 0, .int 0, .int 0, .int 0, .int (-1)])), (q46, .inl (cI, 256, .inl (fun _ => 0))), (q48, .inl (cI, 5, .inl (fun _ => 0))), (q49, .inr (12, [.int 0, .ref q50, .int 0, .ref q51, .int 0, .ref q52, .ref q53, .int 0, .ref q54, .int 0, .ref q55, .int (-9), .int 0, .int 0, .ref q56, .ref q57, .ref q58, .ref q59, .ref q60, .int 0, .ref q61, .ref q62, .ref q63, .int 0, .ref q64, .ref q65, .ref q66, .int 0, .ref q67])), (q50, .inl (cI, 5, .inl (fun _ => 0))), (q51, .inl (cI, 12, .inl (fun _ => 0))), (q52, .inl (cI, 12, .inl (fun _ => (-9)))), (q56, .inl (cI, 12, .inl (fun _ => 0))), (q57, .inl (cI, 12, .inl (fun _ => 0))), (q58, .inl (cI, 49152, .inl (fun _ => 0))), (q59, .inl (cI, 4096, .inl (fun _ => 0))), (q67, .inl (cI, 12, .inl (fun _ => 0)))] H) (hD : va_D (fun q : Nat => s.heap.size ≤ q) [(q1, .inr (11, [.ref q2, .ref q4, .ref q6, .ref q18, .ref q23, .ref q28, .ref q33, .ref q36, .ref q37, .ref q40, .ref q44, .ref q48, .int 0])), (q2, .inr (4, [.ref q3, .int 0, .int 0])), (q3, .inl (cI, 12, .inl (fun _ => 0))), (q4, .inr (10, [.ref q5, .int 0, .int 0])), (q5, .inl (cI, 12, .inl (fun _ => (-1)))), (q6, .inr (6, [.ref q7, .ref q10, .ref q16, .ref q17, .int 0, .int 0, .int 0, .int 0, .int 0])), (q7, .inr (3, [.ref q8, .int 0])), (q8, .inl (c2, 13, .inr (.inr (.inr (.inr (fun i => if i < 13 then some (r9 i) else none)))))), (r9 0, .inl (cI, 12, .inl (fun _ => 0))), (q10, .inr (5, [.ref q11, .ref q14, .ref q15, .int 0, .int 0, .int 0])), (q11, .inr (3, [.ref q12, .int 0])), (q12, .inl (c2, 13, .inr (.inr (.inr (.inr (fun i => if i < 13 then some (r13 i) else none)))))), (r13 0, .inl (cI, 12, .inl (fun _ => 0))), (q14, .inl (cI, 4096, .inl (fun _ => 0))), (q18, .inr (9, [.ref q19, .ref q22, .int 0, .int (-1)])), (q19, .inr (3, [.ref q20, .int 0])), (q20, .inl (c2, 13, .inr (.inr (.inr (.inr (fun i => if i < 13 then some (r21 i) else none)))))), (r21 0, .inl (cI, 12, .inl (fun _ => 0))), (q23, .inr (1, [.int 0, .ref q24, .ref q25, .ref q26, .ref q27, .int 0, .int (-1), .int (-1)])), (q28, .inr (1, [.int 1, .ref q29, .ref q30, .ref q31, .ref q32, .int 0, .int (-1), .int (-1)])), (q33, .inr (7, [.ref q34, .ref q35, .int 0, .int (-1)])), (q35, .inl (cI, 12, .inl (fun _ => 0))), (q37, .inr (2, [.ref q38, .ref q39, .int 0, .int (-1)])), (q40, .inr (0, [.ref q42, .ref q41, .ref q43, .int 0, .int 0, .int 0, .int 0, .int (-1)])), (q42, .inl (cI, 4096, .inl (fun _ => 0))), (q44, .inr (0, [.ref q46, .ref q45, .ref q47, .int 0, .int 0, .int 0, .int 0, .int (-1)])), (q46, .inl (cI, 256, .inl (fun _ => 0))), (q48, .inl (cI, 5, .inl (fun _ => 0))), (q49, .inr (12, [.int 0, .ref q50, .int 0, .ref q51, .int 0, .ref q52, .ref q53, .int 0, .ref q54, .int 0, .ref q55, .int (-9), .int 0, .int 0, .ref q56, .ref q57, .ref q58, .ref q59, .ref q60, .int 0, .ref q61, .ref q62, .ref q63, .int 0, .ref q64, .ref q65, .ref q66, .int 0, .ref q67])), (q50, .inl (cI, 5, .inl (fun _ => 0))), (q51, .inl (cI, 12, .inl (fun _ => 0))), (q52, .inl (cI, 12, .inl (fun _ => (-9)))), (q56, .inl (cI, 12, .inl (fun _ => 0))), (q57, .inl (cI, 12, .inl (fun _ => 0))), (q58, .inl (cI, 49152, .inl (fun _ => 0))), (q59, .inl (cI, 4096, .inl (fun _ => 0))), (q67, .inl (cI, 12, .inl (fun _ => 0)))]) (hS : va_S (fun q : Nat => s.heap.size ≤ q) s.heap H locs) (ls : Array Slot) (hl : lv_has ls 4 [(3, .int 0), (2, .ref q49), (1, .ref q1), (0, .ref b)]) : W p l e room_1 s m #[Value.ref b] below meth c H locs 128 161896 (lw_Z below #[Value.ref b] s) (F0 m 754 ls []) := by
  obtain ⟨hx, hb, hr, hml, hown0, hts0, hX, hbl, hlocks, hgv⟩ := id C0
  have hown : s.vm.findClass RL = some m.cls := hown0
  have hts : ∀ w ∈ wsL_law, w.before #[Value.ref b] s = true := fun w h => hts0 w (wsL_law_in w h)
  have hA : ∀ q : Nat, s.heap.size ≤ q → (fun q : Nat => s.heap.size ≤ q) q := fun _ h => h
  have hbA : ¬ (fun q : Nat => s.heap.size ≤ q) b := Nat.not_le.mpr hbl
  generalize hAe : (fun q : Nat => s.heap.size ≤ q) = A at hD hS hA hbA
  have a1_rg := i_rng a1
  have a2_rg := i_rng a2
  have a3_rg := i_rng a3
  obtain ⟨a1_l, a1_h⟩ := a1_rg
  obtain ⟨a2_l, a2_h⟩ := a2_rg
  obtain ⟨a3_l, a3_h⟩ := a3_rg
  rcases (show a2.toInt ≤ (-1) ∨ 0 ≤ a2.toInt by omega) with g_a2_0 | g_a2_0
  ·
    rcases (show a1.toInt ≤ (-1) ∨ 0 ≤ a1.toInt by omega) with g_a1_0 | g_a1_0
    ·
      refine lv_aload_n hx hb dL_law_754 rfl (lv_at hl 2 rfl) ?_
      refine lv_aload_n hx hb dL_law_755 rfl (lv_at hl 3 rfl) ?_
      refine lv_iload_n hx hb dL_law_756 rfl (lv_at hl 0 rfl) ?_
      refine lv_iconst (v := 1) hx hb dL_law_757 (by decide) ?_
      refine lv_iadd hx hb dL_law_758 (tk_i (v := 1) (by decide +kernel) ?_)
      refine va_sld hx hb hX hbl hbA hS (vin (by decide +kernel)) dL_law_759 (tk_i (v := a1) ha1 ?_)
      refine lv_aload_n hx hb dL_law_760 rfl (lv_at hl 3 rfl) ?_
      refine lv_iload_n hx hb dL_law_761 rfl (lv_at hl 0 rfl) ?_
      refine lv_iconst (v := 2) hx hb dL_law_762 (by decide) ?_
      refine lv_iadd hx hb dL_law_763 (tk_i (v := 2) (by decide +kernel) ?_)
      refine va_sld hx hb hX hbl hbA hS (vin (by decide +kernel)) dL_law_764 (tk_i (v := a2) ha2 ?_)
      refine lv_if_eq (tgt := 772) hx hb dL_law_765 (by decide) (fun h9 => absurd h9 (ib_ne (X := a2.toInt) (Y := 0) rfl (by decide +kernel) (by omega))) (fun _ => ?_)
      refine lv_iconst (v := 1) hx hb dL_law_768 (by decide) ?_
      refine lv_goto (tgt := 773) hx hb dL_law_769 (by decide) ?_
      refine kcall_i (D := (dC, dI)) (S := Unit) (v := (-1)) (wc := [(q1, .inr (11, [.ref q2, .ref q4, .ref q6, .ref q18, .ref q23, .ref q28, .ref q33, .ref q36, .ref q37, .ref q40, .ref q44, .ref q48, .int 0])), (q2, .inr (4, [.ref q3, .int 0, .int 0]))]) (wr := [(q49, .inr (12, [.int 0, .ref q50, .int 0, .ref q51, .int 0, .ref q52, .ref q53, .int 0, .ref q54, .int 0, .ref q55, .int (-9), .int 0, .int 0, .ref q56, .ref q57, .ref q58, .ref q59, .ref q60, .int 0, .ref q61, .ref q62, .ref q63, .int 0, .ref q64, .ref q65, .ref q66, .int 0, .ref q67]))]) (w1 := fun _ => []) (fun hPc hDc => va_runV (As := [.int a1, .int 1]) (rest := []) ⟨hx, hb, hml, hown, hts⟩ (kX11_span_1 l dC dI cI c2 q1 q2 q4 q6 q18 q23 q28 q33 q36 q37 q40 q44 q48 q3 H.size a1 (by omega) (by omega)) (cwV 2 hts gL_law_X11_span rfl rfl rfl (by decide +kernel) ⟨Nat.le_of_ble_eq_true rfl, Nat.le_of_ble_eq_true rfl⟩) (pre_V hPc hK hDc hN (ci := 11) (q0 := 0) rfl rfl) rfl rfl hl.1 rfl (lv_room (Nat.le_of_ble_eq_true rfl)) dL_law_773 ⟨Nat.le_of_ble_eq_true rfl, Nat.le_of_ble_eq_true rfl⟩) hP hD hS hA [0, 1] [28] rfl rfl (by decide) (by decide) (by decide) (fun u H locs hP hD hS => ?_)
      have hP : va_P (dC, dI) vwCl [(q49, .inr (12, [.int 0, .ref q50, .int 0, .ref q51, .int 0, .ref q52, .ref q53, .int 0, .ref q54, .int 0, .ref q55, .int (-9), .int 0, .int 0, .ref q56, .ref q57, .ref q58, .ref q59, .ref q60, .int 0, .ref q61, .ref q62, .ref q63, .int 0, .ref q64, .ref q65, .ref q66, .int 0, .ref q67]))] H := hP
      have hD : va_D A [(q49, .inr (12, [.int 0, .ref q50, .int 0, .ref q51, .int 0, .ref q52, .ref q53, .int 0, .ref q54, .int 0, .ref q55, .int (-9), .int 0, .int 0, .ref q56, .ref q57, .ref q58, .ref q59, .ref q60, .int 0, .ref q61, .ref q62, .ref q63, .int 0, .ref q64, .ref q65, .ref q66, .int 0, .ref q67]))] := hD
      refine lv_aload_n hx hb dL_law_776 rfl (lv_at hl 1 rfl) ?_
      refine lv_aload_n hx hb dL_law_777 rfl (lv_at hl 3 rfl) ?_
      refine lv_iload_n hx hb dL_law_778 rfl (lv_at hl 0 rfl) ?_
      refine lv_iconst (v := 1) hx hb dL_law_779 (by decide) ?_
      refine lv_iadd hx hb dL_law_780 (tk_i (v := 1) (by decide +kernel) ?_)
      refine va_sld hx hb hX hbl hbA hS (vin (by decide +kernel)) dL_law_781 (tk_i (v := a1) ha1 ?_)
      refine lv_aload_n hx hb dL_law_782 rfl (lv_at hl 3 rfl) ?_
      refine lv_iload_n hx hb dL_law_783 rfl (lv_at hl 0 rfl) ?_
      refine lv_iconst (v := 2) hx hb dL_law_784 (by decide) ?_
      refine lv_iadd hx hb dL_law_785 (tk_i (v := 2) (by decide +kernel) ?_)
      refine va_sld hx hb hX hbl hbA hS (vin (by decide +kernel)) dL_law_786 (tk_i (v := a2) ha2 ?_)
      refine lv_if_eq (tgt := 794) hx hb dL_law_787 (by decide) (fun h9 => absurd h9 (ib_ne (X := a2.toInt) (Y := 0) rfl (by decide +kernel) (by omega))) (fun _ => ?_)
      refine lv_iconst (v := 1) hx hb dL_law_790 (by decide) ?_
      refine lv_goto (tgt := 795) hx hb dL_law_791 (by decide) ?_
      refine kcall_i (D := (dC, dI)) (S := Unit) (v := (-1)) (wc := [(q49, .inr (12, [.int 0, .ref q50, .int 0, .ref q51, .int 0, .ref q52, .ref q53, .int 0, .ref q54, .int 0, .ref q55, .int (-9), .int 0, .int 0, .ref q56, .ref q57, .ref q58, .ref q59, .ref q60, .int 0, .ref q61, .ref q62, .ref q63, .int 0, .ref q64, .ref q65, .ref q66, .int 0, .ref q67]))]) (wr := []) (w1 := fun _ => []) (fun hPc hDc => va_runV (As := [.int a1, .int 1]) (rest := [.int (-1)]) ⟨hx, hb, hml, hown, hts⟩ (kX12_span_1 l dC dI cI c2 q49 q50 q51 q52 q53 q54 q55 q56 q57 q58 q59 q60 q61 q62 q63 q64 q65 q66 q67 H.size a1 (by omega) (by omega)) (cwV 2 hts gL_law_X12_span rfl rfl rfl (by decide +kernel) ⟨Nat.le_of_ble_eq_true rfl, Nat.le_of_ble_eq_true rfl⟩) (pre_V hPc hK hDc hN (ci := 12) (q0 := 0) rfl rfl) rfl rfl hl.1 rfl (lv_room (Nat.le_of_ble_eq_true rfl)) dL_law_795 ⟨Nat.le_of_ble_eq_true rfl, Nat.le_of_ble_eq_true rfl⟩) hP hD hS hA [0] [] rfl rfl (by decide) (by decide) (by decide) (fun u H locs hP hD hS => ?_)
      have hP : va_P (dC, dI) vwCl [] H := hP
      have hD : va_D A [] := hD
      refine lv_icmp_eq (tgt := 1080) hx hb dL_law_798 (by decide) (fun _ => ?_) (fun h9 => absurd (by decide +kernel) h9)
      refine lv_iinc (v := 4) (lv' := [(3, .int 4), (2, .ref q49), (1, .ref q1), (0, .ref b)]) hx hb dL_law_1080 hl (k := 0) rfl (by decide +kernel) (by decide) rfl (fun ls hl => ?_)
      refine lv_goto (tgt := 18) hx hb dL_law_1083 (by decide) ?_
      refine lv_iload_n hx hb dL_law_18 rfl (lv_at hl 0 rfl) ?_
      refine lv_aload_n hx hb dL_law_19 rfl (lv_at hl 3 rfl) ?_
      refine va_slen hx hb hX hbl hbA hS dL_law_20 (tk_i (v := 4) (by decide +kernel) ?_)
      refine lv_iconst (v := 4) hx hb dL_law_21 (by decide) ?_
      refine lv_isub hx hb dL_law_22 (tk_i (v := 0) (by decide +kernel) ?_)
      refine lv_icmp_gt (tgt := 1086) hx hb dL_law_23 (by decide) (fun _ => ?_) (fun h9 => absurd (by decide +kernel) h9)
      refine lv_iconst (v := 1) hx hb dL_law_1086 (by decide) ?_
      refine va_forget (fun q hq => by have h9 := hS.2.2 q hq; rw [← hAe] at h9; exact h9) ?_
      refine W.widen (k := 600000) (n := 7302250) (by decide) (by decide) ?_
      exact lw_ret hx hb hr hlocks dL_law_1087
    ·
      refine lv_aload_n hx hb dL_law_754 rfl (lv_at hl 2 rfl) ?_
      refine lv_aload_n hx hb dL_law_755 rfl (lv_at hl 3 rfl) ?_
      refine lv_iload_n hx hb dL_law_756 rfl (lv_at hl 0 rfl) ?_
      refine lv_iconst (v := 1) hx hb dL_law_757 (by decide) ?_
      refine lv_iadd hx hb dL_law_758 (tk_i (v := 1) (by decide +kernel) ?_)
      refine va_sld hx hb hX hbl hbA hS (vin (by decide +kernel)) dL_law_759 (tk_i (v := a1) ha1 ?_)
      refine lv_aload_n hx hb dL_law_760 rfl (lv_at hl 3 rfl) ?_
      refine lv_iload_n hx hb dL_law_761 rfl (lv_at hl 0 rfl) ?_
      refine lv_iconst (v := 2) hx hb dL_law_762 (by decide) ?_
      refine lv_iadd hx hb dL_law_763 (tk_i (v := 2) (by decide +kernel) ?_)
      refine va_sld hx hb hX hbl hbA hS (vin (by decide +kernel)) dL_law_764 (tk_i (v := a2) ha2 ?_)
      refine lv_if_eq (tgt := 772) hx hb dL_law_765 (by decide) (fun h9 => absurd h9 (ib_ne (X := a2.toInt) (Y := 0) rfl (by decide +kernel) (by omega))) (fun _ => ?_)
      refine lv_iconst (v := 1) hx hb dL_law_768 (by decide) ?_
      refine lv_goto (tgt := 773) hx hb dL_law_769 (by decide) ?_
      refine kcall_i (D := (dC, dI)) (S := Unit) (v := (-1)) (wc := [(q1, .inr (11, [.ref q2, .ref q4, .ref q6, .ref q18, .ref q23, .ref q28, .ref q33, .ref q36, .ref q37, .ref q40, .ref q44, .ref q48, .int 0])), (q2, .inr (4, [.ref q3, .int 0, .int 0]))]) (wr := [(q49, .inr (12, [.int 0, .ref q50, .int 0, .ref q51, .int 0, .ref q52, .ref q53, .int 0, .ref q54, .int 0, .ref q55, .int (-9), .int 0, .int 0, .ref q56, .ref q57, .ref q58, .ref q59, .ref q60, .int 0, .ref q61, .ref q62, .ref q63, .int 0, .ref q64, .ref q65, .ref q66, .int 0, .ref q67]))]) (w1 := fun _ => []) (fun hPc hDc => va_runV (As := [.int a1, .int 1]) (rest := []) ⟨hx, hb, hml, hown, hts⟩ (kX11_span_2 l dC dI cI c2 q1 q2 q4 q6 q18 q23 q28 q33 q36 q37 q40 q44 q48 q3 H.size a1 (by omega) (by omega)) (cwV 2 hts gL_law_X11_span rfl rfl rfl (by decide +kernel) ⟨Nat.le_of_ble_eq_true rfl, Nat.le_of_ble_eq_true rfl⟩) (pre_V hPc hK hDc hN (ci := 11) (q0 := 0) rfl rfl) rfl rfl hl.1 rfl (lv_room (Nat.le_of_ble_eq_true rfl)) dL_law_773 ⟨Nat.le_of_ble_eq_true rfl, Nat.le_of_ble_eq_true rfl⟩) hP hD hS hA [0, 1] [28] rfl rfl (by decide) (by decide) (by decide) (fun u H locs hP hD hS => ?_)
      have hP : va_P (dC, dI) vwCl [(q49, .inr (12, [.int 0, .ref q50, .int 0, .ref q51, .int 0, .ref q52, .ref q53, .int 0, .ref q54, .int 0, .ref q55, .int (-9), .int 0, .int 0, .ref q56, .ref q57, .ref q58, .ref q59, .ref q60, .int 0, .ref q61, .ref q62, .ref q63, .int 0, .ref q64, .ref q65, .ref q66, .int 0, .ref q67]))] H := hP
      have hD : va_D A [(q49, .inr (12, [.int 0, .ref q50, .int 0, .ref q51, .int 0, .ref q52, .ref q53, .int 0, .ref q54, .int 0, .ref q55, .int (-9), .int 0, .int 0, .ref q56, .ref q57, .ref q58, .ref q59, .ref q60, .int 0, .ref q61, .ref q62, .ref q63, .int 0, .ref q64, .ref q65, .ref q66, .int 0, .ref q67]))] := hD
      refine lv_aload_n hx hb dL_law_776 rfl (lv_at hl 1 rfl) ?_
      refine lv_aload_n hx hb dL_law_777 rfl (lv_at hl 3 rfl) ?_
      refine lv_iload_n hx hb dL_law_778 rfl (lv_at hl 0 rfl) ?_
      refine lv_iconst (v := 1) hx hb dL_law_779 (by decide) ?_
      refine lv_iadd hx hb dL_law_780 (tk_i (v := 1) (by decide +kernel) ?_)
      refine va_sld hx hb hX hbl hbA hS (vin (by decide +kernel)) dL_law_781 (tk_i (v := a1) ha1 ?_)
      refine lv_aload_n hx hb dL_law_782 rfl (lv_at hl 3 rfl) ?_
      refine lv_iload_n hx hb dL_law_783 rfl (lv_at hl 0 rfl) ?_
      refine lv_iconst (v := 2) hx hb dL_law_784 (by decide) ?_
      refine lv_iadd hx hb dL_law_785 (tk_i (v := 2) (by decide +kernel) ?_)
      refine va_sld hx hb hX hbl hbA hS (vin (by decide +kernel)) dL_law_786 (tk_i (v := a2) ha2 ?_)
      refine lv_if_eq (tgt := 794) hx hb dL_law_787 (by decide) (fun h9 => absurd h9 (ib_ne (X := a2.toInt) (Y := 0) rfl (by decide +kernel) (by omega))) (fun _ => ?_)
      refine lv_iconst (v := 1) hx hb dL_law_790 (by decide) ?_
      refine lv_goto (tgt := 795) hx hb dL_law_791 (by decide) ?_
      refine kcall_i (D := (dC, dI)) (S := Unit) (v := (-1)) (wc := [(q49, .inr (12, [.int 0, .ref q50, .int 0, .ref q51, .int 0, .ref q52, .ref q53, .int 0, .ref q54, .int 0, .ref q55, .int (-9), .int 0, .int 0, .ref q56, .ref q57, .ref q58, .ref q59, .ref q60, .int 0, .ref q61, .ref q62, .ref q63, .int 0, .ref q64, .ref q65, .ref q66, .int 0, .ref q67]))]) (wr := []) (w1 := fun _ => []) (fun hPc hDc => va_runV (As := [.int a1, .int 1]) (rest := [.int (-1)]) ⟨hx, hb, hml, hown, hts⟩ (kX12_span_2 l dC dI cI c2 q49 q50 q51 q52 q53 q54 q55 q56 q57 q58 q59 q60 q61 q62 q63 q64 q65 q66 q67 H.size a1 (by omega) (by omega)) (cwV 2 hts gL_law_X12_span rfl rfl rfl (by decide +kernel) ⟨Nat.le_of_ble_eq_true rfl, Nat.le_of_ble_eq_true rfl⟩) (pre_V hPc hK hDc hN (ci := 12) (q0 := 0) rfl rfl) rfl rfl hl.1 rfl (lv_room (Nat.le_of_ble_eq_true rfl)) dL_law_795 ⟨Nat.le_of_ble_eq_true rfl, Nat.le_of_ble_eq_true rfl⟩) hP hD hS hA [0] [] rfl rfl (by decide) (by decide) (by decide) (fun u H locs hP hD hS => ?_)
      have hP : va_P (dC, dI) vwCl [] H := hP
      have hD : va_D A [] := hD
      refine lv_icmp_eq (tgt := 1080) hx hb dL_law_798 (by decide) (fun _ => ?_) (fun h9 => absurd (by decide +kernel) h9)
      refine lv_iinc (v := 4) (lv' := [(3, .int 4), (2, .ref q49), (1, .ref q1), (0, .ref b)]) hx hb dL_law_1080 hl (k := 0) rfl (by decide +kernel) (by decide) rfl (fun ls hl => ?_)
      refine lv_goto (tgt := 18) hx hb dL_law_1083 (by decide) ?_
      refine lv_iload_n hx hb dL_law_18 rfl (lv_at hl 0 rfl) ?_
      refine lv_aload_n hx hb dL_law_19 rfl (lv_at hl 3 rfl) ?_
      refine va_slen hx hb hX hbl hbA hS dL_law_20 (tk_i (v := 4) (by decide +kernel) ?_)
      refine lv_iconst (v := 4) hx hb dL_law_21 (by decide) ?_
      refine lv_isub hx hb dL_law_22 (tk_i (v := 0) (by decide +kernel) ?_)
      refine lv_icmp_gt (tgt := 1086) hx hb dL_law_23 (by decide) (fun _ => ?_) (fun h9 => absurd (by decide +kernel) h9)
      refine lv_iconst (v := 1) hx hb dL_law_1086 (by decide) ?_
      refine va_forget (fun q hq => by have h9 := hS.2.2 q hq; rw [← hAe] at h9; exact h9) ?_
      refine W.widen (k := 600000) (n := 7302250) (by decide) (by decide) ?_
      exact lw_ret hx hb hr hlocks dL_law_1087
  ·
    rcases (show a2.toInt ≤ 0 ∨ 1 ≤ a2.toInt by omega) with g_a2_1 | g_a2_1
    ·
      rcases (show a1.toInt ≤ (-1) ∨ 0 ≤ a1.toInt by omega) with g_a1_0 | g_a1_0
      ·
        have e_a2 : a2 = 0 := ib_eq (X := 0) (by omega) (by decide +kernel)
        subst e_a2
        refine lv_aload_n hx hb dL_law_754 rfl (lv_at hl 2 rfl) ?_
        refine lv_aload_n hx hb dL_law_755 rfl (lv_at hl 3 rfl) ?_
        refine lv_iload_n hx hb dL_law_756 rfl (lv_at hl 0 rfl) ?_
        refine lv_iconst (v := 1) hx hb dL_law_757 (by decide) ?_
        refine lv_iadd hx hb dL_law_758 (tk_i (v := 1) (by decide +kernel) ?_)
        refine va_sld hx hb hX hbl hbA hS (vin (by decide +kernel)) dL_law_759 (tk_i (v := a1) ha1 ?_)
        refine lv_aload_n hx hb dL_law_760 rfl (lv_at hl 3 rfl) ?_
        refine lv_iload_n hx hb dL_law_761 rfl (lv_at hl 0 rfl) ?_
        refine lv_iconst (v := 2) hx hb dL_law_762 (by decide) ?_
        refine lv_iadd hx hb dL_law_763 (tk_i (v := 2) (by decide +kernel) ?_)
        refine va_sld hx hb hX hbl hbA hS (vin (by decide +kernel)) dL_law_764 (tk_i (v := 0) ha2 ?_)
        refine lv_if_eq (tgt := 772) hx hb dL_law_765 (by decide) (fun _ => ?_) (fun h9 => absurd (by decide +kernel) h9)
        refine lv_iconst (v := 0) hx hb dL_law_772 (by decide) ?_
        refine kcall_i (D := (dC, dI)) (S := Unit) (v := (-1)) (wc := [(q1, .inr (11, [.ref q2, .ref q4, .ref q6, .ref q18, .ref q23, .ref q28, .ref q33, .ref q36, .ref q37, .ref q40, .ref q44, .ref q48, .int 0])), (q2, .inr (4, [.ref q3, .int 0, .int 0]))]) (wr := [(q49, .inr (12, [.int 0, .ref q50, .int 0, .ref q51, .int 0, .ref q52, .ref q53, .int 0, .ref q54, .int 0, .ref q55, .int (-9), .int 0, .int 0, .ref q56, .ref q57, .ref q58, .ref q59, .ref q60, .int 0, .ref q61, .ref q62, .ref q63, .int 0, .ref q64, .ref q65, .ref q66, .int 0, .ref q67]))]) (w1 := fun _ => []) (fun hPc hDc => va_runV (As := [.int a1, .int 0]) (rest := []) ⟨hx, hb, hml, hown, hts⟩ (kX11_span_3 l dC dI cI c2 q1 q2 q4 q6 q18 q23 q28 q33 q36 q37 q40 q44 q48 q3 H.size a1 (by omega) (by omega)) (cwV 2 hts gL_law_X11_span rfl rfl rfl (by decide +kernel) ⟨Nat.le_of_ble_eq_true rfl, Nat.le_of_ble_eq_true rfl⟩) (pre_V hPc hK hDc hN (ci := 11) (q0 := 0) rfl rfl) rfl rfl hl.1 rfl (lv_room (Nat.le_of_ble_eq_true rfl)) dL_law_773 ⟨Nat.le_of_ble_eq_true rfl, Nat.le_of_ble_eq_true rfl⟩) hP hD hS hA [0, 1] [28] rfl rfl (by decide) (by decide) (by decide) (fun u H locs hP hD hS => ?_)
        have hP : va_P (dC, dI) vwCl [(q49, .inr (12, [.int 0, .ref q50, .int 0, .ref q51, .int 0, .ref q52, .ref q53, .int 0, .ref q54, .int 0, .ref q55, .int (-9), .int 0, .int 0, .ref q56, .ref q57, .ref q58, .ref q59, .ref q60, .int 0, .ref q61, .ref q62, .ref q63, .int 0, .ref q64, .ref q65, .ref q66, .int 0, .ref q67]))] H := hP
        have hD : va_D A [(q49, .inr (12, [.int 0, .ref q50, .int 0, .ref q51, .int 0, .ref q52, .ref q53, .int 0, .ref q54, .int 0, .ref q55, .int (-9), .int 0, .int 0, .ref q56, .ref q57, .ref q58, .ref q59, .ref q60, .int 0, .ref q61, .ref q62, .ref q63, .int 0, .ref q64, .ref q65, .ref q66, .int 0, .ref q67]))] := hD
        refine lv_aload_n hx hb dL_law_776 rfl (lv_at hl 1 rfl) ?_
        refine lv_aload_n hx hb dL_law_777 rfl (lv_at hl 3 rfl) ?_
        refine lv_iload_n hx hb dL_law_778 rfl (lv_at hl 0 rfl) ?_
        refine lv_iconst (v := 1) hx hb dL_law_779 (by decide) ?_
        refine lv_iadd hx hb dL_law_780 (tk_i (v := 1) (by decide +kernel) ?_)
        refine va_sld hx hb hX hbl hbA hS (vin (by decide +kernel)) dL_law_781 (tk_i (v := a1) ha1 ?_)
        refine lv_aload_n hx hb dL_law_782 rfl (lv_at hl 3 rfl) ?_
        refine lv_iload_n hx hb dL_law_783 rfl (lv_at hl 0 rfl) ?_
        refine lv_iconst (v := 2) hx hb dL_law_784 (by decide) ?_
        refine lv_iadd hx hb dL_law_785 (tk_i (v := 2) (by decide +kernel) ?_)
        refine va_sld hx hb hX hbl hbA hS (vin (by decide +kernel)) dL_law_786 (tk_i (v := 0) ha2 ?_)
        refine lv_if_eq (tgt := 794) hx hb dL_law_787 (by decide) (fun _ => ?_) (fun h9 => absurd (by decide +kernel) h9)
        refine lv_iconst (v := 0) hx hb dL_law_794 (by decide) ?_
        refine kcall_i (D := (dC, dI)) (S := Unit) (v := (-1)) (wc := [(q49, .inr (12, [.int 0, .ref q50, .int 0, .ref q51, .int 0, .ref q52, .ref q53, .int 0, .ref q54, .int 0, .ref q55, .int (-9), .int 0, .int 0, .ref q56, .ref q57, .ref q58, .ref q59, .ref q60, .int 0, .ref q61, .ref q62, .ref q63, .int 0, .ref q64, .ref q65, .ref q66, .int 0, .ref q67]))]) (wr := []) (w1 := fun _ => []) (fun hPc hDc => va_runV (As := [.int a1, .int 0]) (rest := [.int (-1)]) ⟨hx, hb, hml, hown, hts⟩ (kX12_span_3 l dC dI cI c2 q49 q50 q51 q52 q53 q54 q55 q56 q57 q58 q59 q60 q61 q62 q63 q64 q65 q66 q67 H.size a1 (by omega) (by omega)) (cwV 2 hts gL_law_X12_span rfl rfl rfl (by decide +kernel) ⟨Nat.le_of_ble_eq_true rfl, Nat.le_of_ble_eq_true rfl⟩) (pre_V hPc hK hDc hN (ci := 12) (q0 := 0) rfl rfl) rfl rfl hl.1 rfl (lv_room (Nat.le_of_ble_eq_true rfl)) dL_law_795 ⟨Nat.le_of_ble_eq_true rfl, Nat.le_of_ble_eq_true rfl⟩) hP hD hS hA [0] [] rfl rfl (by decide) (by decide) (by decide) (fun u H locs hP hD hS => ?_)
        have hP : va_P (dC, dI) vwCl [] H := hP
        have hD : va_D A [] := hD
        refine lv_icmp_eq (tgt := 1080) hx hb dL_law_798 (by decide) (fun _ => ?_) (fun h9 => absurd (by decide +kernel) h9)
        refine lv_iinc (v := 4) (lv' := [(3, .int 4), (2, .ref q49), (1, .ref q1), (0, .ref b)]) hx hb dL_law_1080 hl (k := 0) rfl (by decide +kernel) (by decide) rfl (fun ls hl => ?_)
        refine lv_goto (tgt := 18) hx hb dL_law_1083 (by decide) ?_
        refine lv_iload_n hx hb dL_law_18 rfl (lv_at hl 0 rfl) ?_
        refine lv_aload_n hx hb dL_law_19 rfl (lv_at hl 3 rfl) ?_
        refine va_slen hx hb hX hbl hbA hS dL_law_20 (tk_i (v := 4) (by decide +kernel) ?_)
        refine lv_iconst (v := 4) hx hb dL_law_21 (by decide) ?_
        refine lv_isub hx hb dL_law_22 (tk_i (v := 0) (by decide +kernel) ?_)
        refine lv_icmp_gt (tgt := 1086) hx hb dL_law_23 (by decide) (fun _ => ?_) (fun h9 => absurd (by decide +kernel) h9)
        refine lv_iconst (v := 1) hx hb dL_law_1086 (by decide) ?_
        refine va_forget (fun q hq => by have h9 := hS.2.2 q hq; rw [← hAe] at h9; exact h9) ?_
        refine W.widen (k := 600000) (n := 7302250) (by decide) (by decide) ?_
        exact lw_ret hx hb hr hlocks dL_law_1087
      ·
        have e_a2 : a2 = 0 := ib_eq (X := 0) (by omega) (by decide +kernel)
        subst e_a2
        refine lv_aload_n hx hb dL_law_754 rfl (lv_at hl 2 rfl) ?_
        refine lv_aload_n hx hb dL_law_755 rfl (lv_at hl 3 rfl) ?_
        refine lv_iload_n hx hb dL_law_756 rfl (lv_at hl 0 rfl) ?_
        refine lv_iconst (v := 1) hx hb dL_law_757 (by decide) ?_
        refine lv_iadd hx hb dL_law_758 (tk_i (v := 1) (by decide +kernel) ?_)
        refine va_sld hx hb hX hbl hbA hS (vin (by decide +kernel)) dL_law_759 (tk_i (v := a1) ha1 ?_)
        refine lv_aload_n hx hb dL_law_760 rfl (lv_at hl 3 rfl) ?_
        refine lv_iload_n hx hb dL_law_761 rfl (lv_at hl 0 rfl) ?_
        refine lv_iconst (v := 2) hx hb dL_law_762 (by decide) ?_
        refine lv_iadd hx hb dL_law_763 (tk_i (v := 2) (by decide +kernel) ?_)
        refine va_sld hx hb hX hbl hbA hS (vin (by decide +kernel)) dL_law_764 (tk_i (v := 0) ha2 ?_)
        refine lv_if_eq (tgt := 772) hx hb dL_law_765 (by decide) (fun _ => ?_) (fun h9 => absurd (by decide +kernel) h9)
        refine lv_iconst (v := 0) hx hb dL_law_772 (by decide) ?_
        refine kcall_i (D := (dC, dI)) (S := Unit) (v := (-1)) (wc := [(q1, .inr (11, [.ref q2, .ref q4, .ref q6, .ref q18, .ref q23, .ref q28, .ref q33, .ref q36, .ref q37, .ref q40, .ref q44, .ref q48, .int 0])), (q2, .inr (4, [.ref q3, .int 0, .int 0]))]) (wr := [(q49, .inr (12, [.int 0, .ref q50, .int 0, .ref q51, .int 0, .ref q52, .ref q53, .int 0, .ref q54, .int 0, .ref q55, .int (-9), .int 0, .int 0, .ref q56, .ref q57, .ref q58, .ref q59, .ref q60, .int 0, .ref q61, .ref q62, .ref q63, .int 0, .ref q64, .ref q65, .ref q66, .int 0, .ref q67]))]) (w1 := fun _ => []) (fun hPc hDc => va_runV (As := [.int a1, .int 0]) (rest := []) ⟨hx, hb, hml, hown, hts⟩ (kX11_span_4 l dC dI cI c2 q1 q2 q4 q6 q18 q23 q28 q33 q36 q37 q40 q44 q48 q3 H.size a1 (by omega) (by omega)) (cwV 2 hts gL_law_X11_span rfl rfl rfl (by decide +kernel) ⟨Nat.le_of_ble_eq_true rfl, Nat.le_of_ble_eq_true rfl⟩) (pre_V hPc hK hDc hN (ci := 11) (q0 := 0) rfl rfl) rfl rfl hl.1 rfl (lv_room (Nat.le_of_ble_eq_true rfl)) dL_law_773 ⟨Nat.le_of_ble_eq_true rfl, Nat.le_of_ble_eq_true rfl⟩) hP hD hS hA [0, 1] [28] rfl rfl (by decide) (by decide) (by decide) (fun u H locs hP hD hS => ?_)
        have hP : va_P (dC, dI) vwCl [(q49, .inr (12, [.int 0, .ref q50, .int 0, .ref q51, .int 0, .ref q52, .ref q53, .int 0, .ref q54, .int 0, .ref q55, .int (-9), .int 0, .int 0, .ref q56, .ref q57, .ref q58, .ref q59, .ref q60, .int 0, .ref q61, .ref q62, .ref q63, .int 0, .ref q64, .ref q65, .ref q66, .int 0, .ref q67]))] H := hP
        have hD : va_D A [(q49, .inr (12, [.int 0, .ref q50, .int 0, .ref q51, .int 0, .ref q52, .ref q53, .int 0, .ref q54, .int 0, .ref q55, .int (-9), .int 0, .int 0, .ref q56, .ref q57, .ref q58, .ref q59, .ref q60, .int 0, .ref q61, .ref q62, .ref q63, .int 0, .ref q64, .ref q65, .ref q66, .int 0, .ref q67]))] := hD
        refine lv_aload_n hx hb dL_law_776 rfl (lv_at hl 1 rfl) ?_
        refine lv_aload_n hx hb dL_law_777 rfl (lv_at hl 3 rfl) ?_
        refine lv_iload_n hx hb dL_law_778 rfl (lv_at hl 0 rfl) ?_
        refine lv_iconst (v := 1) hx hb dL_law_779 (by decide) ?_
        refine lv_iadd hx hb dL_law_780 (tk_i (v := 1) (by decide +kernel) ?_)
        refine va_sld hx hb hX hbl hbA hS (vin (by decide +kernel)) dL_law_781 (tk_i (v := a1) ha1 ?_)
        refine lv_aload_n hx hb dL_law_782 rfl (lv_at hl 3 rfl) ?_
        refine lv_iload_n hx hb dL_law_783 rfl (lv_at hl 0 rfl) ?_
        refine lv_iconst (v := 2) hx hb dL_law_784 (by decide) ?_
        refine lv_iadd hx hb dL_law_785 (tk_i (v := 2) (by decide +kernel) ?_)
        refine va_sld hx hb hX hbl hbA hS (vin (by decide +kernel)) dL_law_786 (tk_i (v := 0) ha2 ?_)
        refine lv_if_eq (tgt := 794) hx hb dL_law_787 (by decide) (fun _ => ?_) (fun h9 => absurd (by decide +kernel) h9)
        refine lv_iconst (v := 0) hx hb dL_law_794 (by decide) ?_
        refine kcall_i (D := (dC, dI)) (S := Unit) (v := (-1)) (wc := [(q49, .inr (12, [.int 0, .ref q50, .int 0, .ref q51, .int 0, .ref q52, .ref q53, .int 0, .ref q54, .int 0, .ref q55, .int (-9), .int 0, .int 0, .ref q56, .ref q57, .ref q58, .ref q59, .ref q60, .int 0, .ref q61, .ref q62, .ref q63, .int 0, .ref q64, .ref q65, .ref q66, .int 0, .ref q67]))]) (wr := []) (w1 := fun _ => []) (fun hPc hDc => va_runV (As := [.int a1, .int 0]) (rest := [.int (-1)]) ⟨hx, hb, hml, hown, hts⟩ (kX12_span_4 l dC dI cI c2 q49 q50 q51 q52 q53 q54 q55 q56 q57 q58 q59 q60 q61 q62 q63 q64 q65 q66 q67 H.size a1 (by omega) (by omega)) (cwV 2 hts gL_law_X12_span rfl rfl rfl (by decide +kernel) ⟨Nat.le_of_ble_eq_true rfl, Nat.le_of_ble_eq_true rfl⟩) (pre_V hPc hK hDc hN (ci := 12) (q0 := 0) rfl rfl) rfl rfl hl.1 rfl (lv_room (Nat.le_of_ble_eq_true rfl)) dL_law_795 ⟨Nat.le_of_ble_eq_true rfl, Nat.le_of_ble_eq_true rfl⟩) hP hD hS hA [0] [] rfl rfl (by decide) (by decide) (by decide) (fun u H locs hP hD hS => ?_)
        have hP : va_P (dC, dI) vwCl [] H := hP
        have hD : va_D A [] := hD
        refine lv_icmp_eq (tgt := 1080) hx hb dL_law_798 (by decide) (fun _ => ?_) (fun h9 => absurd (by decide +kernel) h9)
        refine lv_iinc (v := 4) (lv' := [(3, .int 4), (2, .ref q49), (1, .ref q1), (0, .ref b)]) hx hb dL_law_1080 hl (k := 0) rfl (by decide +kernel) (by decide) rfl (fun ls hl => ?_)
        refine lv_goto (tgt := 18) hx hb dL_law_1083 (by decide) ?_
        refine lv_iload_n hx hb dL_law_18 rfl (lv_at hl 0 rfl) ?_
        refine lv_aload_n hx hb dL_law_19 rfl (lv_at hl 3 rfl) ?_
        refine va_slen hx hb hX hbl hbA hS dL_law_20 (tk_i (v := 4) (by decide +kernel) ?_)
        refine lv_iconst (v := 4) hx hb dL_law_21 (by decide) ?_
        refine lv_isub hx hb dL_law_22 (tk_i (v := 0) (by decide +kernel) ?_)
        refine lv_icmp_gt (tgt := 1086) hx hb dL_law_23 (by decide) (fun _ => ?_) (fun h9 => absurd (by decide +kernel) h9)
        refine lv_iconst (v := 1) hx hb dL_law_1086 (by decide) ?_
        refine va_forget (fun q hq => by have h9 := hS.2.2 q hq; rw [← hAe] at h9; exact h9) ?_
        refine W.widen (k := 600000) (n := 7302250) (by decide) (by decide) ?_
        exact lw_ret hx hb hr hlocks dL_law_1087
    ·
      rcases (show a1.toInt ≤ (-1) ∨ 0 ≤ a1.toInt by omega) with g_a1_0 | g_a1_0
      ·
        refine lv_aload_n hx hb dL_law_754 rfl (lv_at hl 2 rfl) ?_
        refine lv_aload_n hx hb dL_law_755 rfl (lv_at hl 3 rfl) ?_
        refine lv_iload_n hx hb dL_law_756 rfl (lv_at hl 0 rfl) ?_
        refine lv_iconst (v := 1) hx hb dL_law_757 (by decide) ?_
        refine lv_iadd hx hb dL_law_758 (tk_i (v := 1) (by decide +kernel) ?_)
        refine va_sld hx hb hX hbl hbA hS (vin (by decide +kernel)) dL_law_759 (tk_i (v := a1) ha1 ?_)
        refine lv_aload_n hx hb dL_law_760 rfl (lv_at hl 3 rfl) ?_
        refine lv_iload_n hx hb dL_law_761 rfl (lv_at hl 0 rfl) ?_
        refine lv_iconst (v := 2) hx hb dL_law_762 (by decide) ?_
        refine lv_iadd hx hb dL_law_763 (tk_i (v := 2) (by decide +kernel) ?_)
        refine va_sld hx hb hX hbl hbA hS (vin (by decide +kernel)) dL_law_764 (tk_i (v := a2) ha2 ?_)
        refine lv_if_eq (tgt := 772) hx hb dL_law_765 (by decide) (fun h9 => absurd h9 (ib_ne (X := a2.toInt) (Y := 0) rfl (by decide +kernel) (by omega))) (fun _ => ?_)
        refine lv_iconst (v := 1) hx hb dL_law_768 (by decide) ?_
        refine lv_goto (tgt := 773) hx hb dL_law_769 (by decide) ?_
        refine kcall_i (D := (dC, dI)) (S := Unit) (v := (-1)) (wc := [(q1, .inr (11, [.ref q2, .ref q4, .ref q6, .ref q18, .ref q23, .ref q28, .ref q33, .ref q36, .ref q37, .ref q40, .ref q44, .ref q48, .int 0])), (q2, .inr (4, [.ref q3, .int 0, .int 0]))]) (wr := [(q49, .inr (12, [.int 0, .ref q50, .int 0, .ref q51, .int 0, .ref q52, .ref q53, .int 0, .ref q54, .int 0, .ref q55, .int (-9), .int 0, .int 0, .ref q56, .ref q57, .ref q58, .ref q59, .ref q60, .int 0, .ref q61, .ref q62, .ref q63, .int 0, .ref q64, .ref q65, .ref q66, .int 0, .ref q67]))]) (w1 := fun _ => []) (fun hPc hDc => va_runV (As := [.int a1, .int 1]) (rest := []) ⟨hx, hb, hml, hown, hts⟩ (kX11_span_1 l dC dI cI c2 q1 q2 q4 q6 q18 q23 q28 q33 q36 q37 q40 q44 q48 q3 H.size a1 (by omega) (by omega)) (cwV 2 hts gL_law_X11_span rfl rfl rfl (by decide +kernel) ⟨Nat.le_of_ble_eq_true rfl, Nat.le_of_ble_eq_true rfl⟩) (pre_V hPc hK hDc hN (ci := 11) (q0 := 0) rfl rfl) rfl rfl hl.1 rfl (lv_room (Nat.le_of_ble_eq_true rfl)) dL_law_773 ⟨Nat.le_of_ble_eq_true rfl, Nat.le_of_ble_eq_true rfl⟩) hP hD hS hA [0, 1] [28] rfl rfl (by decide) (by decide) (by decide) (fun u H locs hP hD hS => ?_)
        have hP : va_P (dC, dI) vwCl [(q49, .inr (12, [.int 0, .ref q50, .int 0, .ref q51, .int 0, .ref q52, .ref q53, .int 0, .ref q54, .int 0, .ref q55, .int (-9), .int 0, .int 0, .ref q56, .ref q57, .ref q58, .ref q59, .ref q60, .int 0, .ref q61, .ref q62, .ref q63, .int 0, .ref q64, .ref q65, .ref q66, .int 0, .ref q67]))] H := hP
        have hD : va_D A [(q49, .inr (12, [.int 0, .ref q50, .int 0, .ref q51, .int 0, .ref q52, .ref q53, .int 0, .ref q54, .int 0, .ref q55, .int (-9), .int 0, .int 0, .ref q56, .ref q57, .ref q58, .ref q59, .ref q60, .int 0, .ref q61, .ref q62, .ref q63, .int 0, .ref q64, .ref q65, .ref q66, .int 0, .ref q67]))] := hD
        refine lv_aload_n hx hb dL_law_776 rfl (lv_at hl 1 rfl) ?_
        refine lv_aload_n hx hb dL_law_777 rfl (lv_at hl 3 rfl) ?_
        refine lv_iload_n hx hb dL_law_778 rfl (lv_at hl 0 rfl) ?_
        refine lv_iconst (v := 1) hx hb dL_law_779 (by decide) ?_
        refine lv_iadd hx hb dL_law_780 (tk_i (v := 1) (by decide +kernel) ?_)
        refine va_sld hx hb hX hbl hbA hS (vin (by decide +kernel)) dL_law_781 (tk_i (v := a1) ha1 ?_)
        refine lv_aload_n hx hb dL_law_782 rfl (lv_at hl 3 rfl) ?_
        refine lv_iload_n hx hb dL_law_783 rfl (lv_at hl 0 rfl) ?_
        refine lv_iconst (v := 2) hx hb dL_law_784 (by decide) ?_
        refine lv_iadd hx hb dL_law_785 (tk_i (v := 2) (by decide +kernel) ?_)
        refine va_sld hx hb hX hbl hbA hS (vin (by decide +kernel)) dL_law_786 (tk_i (v := a2) ha2 ?_)
        refine lv_if_eq (tgt := 794) hx hb dL_law_787 (by decide) (fun h9 => absurd h9 (ib_ne (X := a2.toInt) (Y := 0) rfl (by decide +kernel) (by omega))) (fun _ => ?_)
        refine lv_iconst (v := 1) hx hb dL_law_790 (by decide) ?_
        refine lv_goto (tgt := 795) hx hb dL_law_791 (by decide) ?_
        refine kcall_i (D := (dC, dI)) (S := Unit) (v := (-1)) (wc := [(q49, .inr (12, [.int 0, .ref q50, .int 0, .ref q51, .int 0, .ref q52, .ref q53, .int 0, .ref q54, .int 0, .ref q55, .int (-9), .int 0, .int 0, .ref q56, .ref q57, .ref q58, .ref q59, .ref q60, .int 0, .ref q61, .ref q62, .ref q63, .int 0, .ref q64, .ref q65, .ref q66, .int 0, .ref q67]))]) (wr := []) (w1 := fun _ => []) (fun hPc hDc => va_runV (As := [.int a1, .int 1]) (rest := [.int (-1)]) ⟨hx, hb, hml, hown, hts⟩ (kX12_span_1 l dC dI cI c2 q49 q50 q51 q52 q53 q54 q55 q56 q57 q58 q59 q60 q61 q62 q63 q64 q65 q66 q67 H.size a1 (by omega) (by omega)) (cwV 2 hts gL_law_X12_span rfl rfl rfl (by decide +kernel) ⟨Nat.le_of_ble_eq_true rfl, Nat.le_of_ble_eq_true rfl⟩) (pre_V hPc hK hDc hN (ci := 12) (q0 := 0) rfl rfl) rfl rfl hl.1 rfl (lv_room (Nat.le_of_ble_eq_true rfl)) dL_law_795 ⟨Nat.le_of_ble_eq_true rfl, Nat.le_of_ble_eq_true rfl⟩) hP hD hS hA [0] [] rfl rfl (by decide) (by decide) (by decide) (fun u H locs hP hD hS => ?_)
        have hP : va_P (dC, dI) vwCl [] H := hP
        have hD : va_D A [] := hD
        refine lv_icmp_eq (tgt := 1080) hx hb dL_law_798 (by decide) (fun _ => ?_) (fun h9 => absurd (by decide +kernel) h9)
        refine lv_iinc (v := 4) (lv' := [(3, .int 4), (2, .ref q49), (1, .ref q1), (0, .ref b)]) hx hb dL_law_1080 hl (k := 0) rfl (by decide +kernel) (by decide) rfl (fun ls hl => ?_)
        refine lv_goto (tgt := 18) hx hb dL_law_1083 (by decide) ?_
        refine lv_iload_n hx hb dL_law_18 rfl (lv_at hl 0 rfl) ?_
        refine lv_aload_n hx hb dL_law_19 rfl (lv_at hl 3 rfl) ?_
        refine va_slen hx hb hX hbl hbA hS dL_law_20 (tk_i (v := 4) (by decide +kernel) ?_)
        refine lv_iconst (v := 4) hx hb dL_law_21 (by decide) ?_
        refine lv_isub hx hb dL_law_22 (tk_i (v := 0) (by decide +kernel) ?_)
        refine lv_icmp_gt (tgt := 1086) hx hb dL_law_23 (by decide) (fun _ => ?_) (fun h9 => absurd (by decide +kernel) h9)
        refine lv_iconst (v := 1) hx hb dL_law_1086 (by decide) ?_
        refine va_forget (fun q hq => by have h9 := hS.2.2 q hq; rw [← hAe] at h9; exact h9) ?_
        refine W.widen (k := 600000) (n := 7302250) (by decide) (by decide) ?_
        exact lw_ret hx hb hr hlocks dL_law_1087
      ·
        refine lv_aload_n hx hb dL_law_754 rfl (lv_at hl 2 rfl) ?_
        refine lv_aload_n hx hb dL_law_755 rfl (lv_at hl 3 rfl) ?_
        refine lv_iload_n hx hb dL_law_756 rfl (lv_at hl 0 rfl) ?_
        refine lv_iconst (v := 1) hx hb dL_law_757 (by decide) ?_
        refine lv_iadd hx hb dL_law_758 (tk_i (v := 1) (by decide +kernel) ?_)
        refine va_sld hx hb hX hbl hbA hS (vin (by decide +kernel)) dL_law_759 (tk_i (v := a1) ha1 ?_)
        refine lv_aload_n hx hb dL_law_760 rfl (lv_at hl 3 rfl) ?_
        refine lv_iload_n hx hb dL_law_761 rfl (lv_at hl 0 rfl) ?_
        refine lv_iconst (v := 2) hx hb dL_law_762 (by decide) ?_
        refine lv_iadd hx hb dL_law_763 (tk_i (v := 2) (by decide +kernel) ?_)
        refine va_sld hx hb hX hbl hbA hS (vin (by decide +kernel)) dL_law_764 (tk_i (v := a2) ha2 ?_)
        refine lv_if_eq (tgt := 772) hx hb dL_law_765 (by decide) (fun h9 => absurd h9 (ib_ne (X := a2.toInt) (Y := 0) rfl (by decide +kernel) (by omega))) (fun _ => ?_)
        refine lv_iconst (v := 1) hx hb dL_law_768 (by decide) ?_
        refine lv_goto (tgt := 773) hx hb dL_law_769 (by decide) ?_
        refine kcall_i (D := (dC, dI)) (S := Unit) (v := (-1)) (wc := [(q1, .inr (11, [.ref q2, .ref q4, .ref q6, .ref q18, .ref q23, .ref q28, .ref q33, .ref q36, .ref q37, .ref q40, .ref q44, .ref q48, .int 0])), (q2, .inr (4, [.ref q3, .int 0, .int 0]))]) (wr := [(q49, .inr (12, [.int 0, .ref q50, .int 0, .ref q51, .int 0, .ref q52, .ref q53, .int 0, .ref q54, .int 0, .ref q55, .int (-9), .int 0, .int 0, .ref q56, .ref q57, .ref q58, .ref q59, .ref q60, .int 0, .ref q61, .ref q62, .ref q63, .int 0, .ref q64, .ref q65, .ref q66, .int 0, .ref q67]))]) (w1 := fun _ => []) (fun hPc hDc => va_runV (As := [.int a1, .int 1]) (rest := []) ⟨hx, hb, hml, hown, hts⟩ (kX11_span_2 l dC dI cI c2 q1 q2 q4 q6 q18 q23 q28 q33 q36 q37 q40 q44 q48 q3 H.size a1 (by omega) (by omega)) (cwV 2 hts gL_law_X11_span rfl rfl rfl (by decide +kernel) ⟨Nat.le_of_ble_eq_true rfl, Nat.le_of_ble_eq_true rfl⟩) (pre_V hPc hK hDc hN (ci := 11) (q0 := 0) rfl rfl) rfl rfl hl.1 rfl (lv_room (Nat.le_of_ble_eq_true rfl)) dL_law_773 ⟨Nat.le_of_ble_eq_true rfl, Nat.le_of_ble_eq_true rfl⟩) hP hD hS hA [0, 1] [28] rfl rfl (by decide) (by decide) (by decide) (fun u H locs hP hD hS => ?_)
        have hP : va_P (dC, dI) vwCl [(q49, .inr (12, [.int 0, .ref q50, .int 0, .ref q51, .int 0, .ref q52, .ref q53, .int 0, .ref q54, .int 0, .ref q55, .int (-9), .int 0, .int 0, .ref q56, .ref q57, .ref q58, .ref q59, .ref q60, .int 0, .ref q61, .ref q62, .ref q63, .int 0, .ref q64, .ref q65, .ref q66, .int 0, .ref q67]))] H := hP
        have hD : va_D A [(q49, .inr (12, [.int 0, .ref q50, .int 0, .ref q51, .int 0, .ref q52, .ref q53, .int 0, .ref q54, .int 0, .ref q55, .int (-9), .int 0, .int 0, .ref q56, .ref q57, .ref q58, .ref q59, .ref q60, .int 0, .ref q61, .ref q62, .ref q63, .int 0, .ref q64, .ref q65, .ref q66, .int 0, .ref q67]))] := hD
        refine lv_aload_n hx hb dL_law_776 rfl (lv_at hl 1 rfl) ?_
        refine lv_aload_n hx hb dL_law_777 rfl (lv_at hl 3 rfl) ?_
        refine lv_iload_n hx hb dL_law_778 rfl (lv_at hl 0 rfl) ?_
        refine lv_iconst (v := 1) hx hb dL_law_779 (by decide) ?_
        refine lv_iadd hx hb dL_law_780 (tk_i (v := 1) (by decide +kernel) ?_)
        refine va_sld hx hb hX hbl hbA hS (vin (by decide +kernel)) dL_law_781 (tk_i (v := a1) ha1 ?_)
        refine lv_aload_n hx hb dL_law_782 rfl (lv_at hl 3 rfl) ?_
        refine lv_iload_n hx hb dL_law_783 rfl (lv_at hl 0 rfl) ?_
        refine lv_iconst (v := 2) hx hb dL_law_784 (by decide) ?_
        refine lv_iadd hx hb dL_law_785 (tk_i (v := 2) (by decide +kernel) ?_)
        refine va_sld hx hb hX hbl hbA hS (vin (by decide +kernel)) dL_law_786 (tk_i (v := a2) ha2 ?_)
        refine lv_if_eq (tgt := 794) hx hb dL_law_787 (by decide) (fun h9 => absurd h9 (ib_ne (X := a2.toInt) (Y := 0) rfl (by decide +kernel) (by omega))) (fun _ => ?_)
        refine lv_iconst (v := 1) hx hb dL_law_790 (by decide) ?_
        refine lv_goto (tgt := 795) hx hb dL_law_791 (by decide) ?_
        refine kcall_i (D := (dC, dI)) (S := Unit) (v := (-1)) (wc := [(q49, .inr (12, [.int 0, .ref q50, .int 0, .ref q51, .int 0, .ref q52, .ref q53, .int 0, .ref q54, .int 0, .ref q55, .int (-9), .int 0, .int 0, .ref q56, .ref q57, .ref q58, .ref q59, .ref q60, .int 0, .ref q61, .ref q62, .ref q63, .int 0, .ref q64, .ref q65, .ref q66, .int 0, .ref q67]))]) (wr := []) (w1 := fun _ => []) (fun hPc hDc => va_runV (As := [.int a1, .int 1]) (rest := [.int (-1)]) ⟨hx, hb, hml, hown, hts⟩ (kX12_span_2 l dC dI cI c2 q49 q50 q51 q52 q53 q54 q55 q56 q57 q58 q59 q60 q61 q62 q63 q64 q65 q66 q67 H.size a1 (by omega) (by omega)) (cwV 2 hts gL_law_X12_span rfl rfl rfl (by decide +kernel) ⟨Nat.le_of_ble_eq_true rfl, Nat.le_of_ble_eq_true rfl⟩) (pre_V hPc hK hDc hN (ci := 12) (q0 := 0) rfl rfl) rfl rfl hl.1 rfl (lv_room (Nat.le_of_ble_eq_true rfl)) dL_law_795 ⟨Nat.le_of_ble_eq_true rfl, Nat.le_of_ble_eq_true rfl⟩) hP hD hS hA [0] [] rfl rfl (by decide) (by decide) (by decide) (fun u H locs hP hD hS => ?_)
        have hP : va_P (dC, dI) vwCl [] H := hP
        have hD : va_D A [] := hD
        refine lv_icmp_eq (tgt := 1080) hx hb dL_law_798 (by decide) (fun _ => ?_) (fun h9 => absurd (by decide +kernel) h9)
        refine lv_iinc (v := 4) (lv' := [(3, .int 4), (2, .ref q49), (1, .ref q1), (0, .ref b)]) hx hb dL_law_1080 hl (k := 0) rfl (by decide +kernel) (by decide) rfl (fun ls hl => ?_)
        refine lv_goto (tgt := 18) hx hb dL_law_1083 (by decide) ?_
        refine lv_iload_n hx hb dL_law_18 rfl (lv_at hl 0 rfl) ?_
        refine lv_aload_n hx hb dL_law_19 rfl (lv_at hl 3 rfl) ?_
        refine va_slen hx hb hX hbl hbA hS dL_law_20 (tk_i (v := 4) (by decide +kernel) ?_)
        refine lv_iconst (v := 4) hx hb dL_law_21 (by decide) ?_
        refine lv_isub hx hb dL_law_22 (tk_i (v := 0) (by decide +kernel) ?_)
        refine lv_icmp_gt (tgt := 1086) hx hb dL_law_23 (by decide) (fun _ => ?_) (fun h9 => absurd (by decide +kernel) h9)
        refine lv_iconst (v := 1) hx hb dL_law_1086 (by decide) ?_
        refine va_forget (fun q hq => by have h9 := hS.2.2 q hq; rw [← hAe] at h9; exact h9) ?_
        refine W.widen (k := 600000) (n := 7302250) (by decide) (by decide) ?_
        exact lw_ret hx hb hr hlocks dL_law_1087
set_option maxHeartbeats 8000000 in
set_option maxRecDepth 100000 in
theorem lc_25 {p : Program} {e : Env} {s : State} {m : MethodId} {below : List Frame} {meth : Method} {c : Code} (l : Launch) {b : Nat} {xs : Nat → Int32} (C0 : lw_At p s m meth c b 4 xs) (dC : Nat → ClassId) (dI : Nat → Nat → Nat) (cI c2 : ClassId) (q1 : Nat) (q2 : Nat) (q3 : Nat) (q4 : Nat) (q5 : Nat) (q6 : Nat) (q7 : Nat) (q8 : Nat) (r9 : Nat → Nat) (q10 : Nat) (q11 : Nat) (q12 : Nat) (r13 : Nat → Nat) (q14 : Nat) (q15 : Nat) (q16 : Nat) (q17 : Nat) (q18 : Nat) (q19 : Nat) (q20 : Nat) (r21 : Nat → Nat) (q22 : Nat) (q23 : Nat) (q24 : Nat) (q25 : Nat) (q26 : Nat) (q27 : Nat) (q28 : Nat) (q29 : Nat) (q30 : Nat) (q31 : Nat) (q32 : Nat) (q33 : Nat) (q34 : Nat) (q35 : Nat) (q36 : Nat) (q37 : Nat) (q38 : Nat) (q39 : Nat) (q40 : Nat) (q41 : Nat) (q42 : Nat) (q43 : Nat) (q44 : Nat) (q45 : Nat) (q46 : Nat) (q47 : Nat) (q48 : Nat) (q49 : Nat) (q50 : Nat) (q51 : Nat) (q52 : Nat) (q53 : Nat) (q54 : Nat) (q55 : Nat) (q56 : Nat) (q57 : Nat) (q58 : Nat) (q59 : Nat) (q60 : Nat) (q61 : Nat) (q62 : Nat) (q63 : Nat) (q64 : Nat) (q65 : Nat) (q66 : Nat) (q67 : Nat) (a1 a2 a3 : Int32) (ha1 : xs (Int32.toNatClampNeg 1) = a1) (ha2 : xs (Int32.toNatClampNeg 2) = a2) (ha3 : xs (Int32.toNatClampNeg 3) = a3) (hK : va_K (dC, dI) vwCl [(cI, .int), (c2, .array .int)] s) (hN : nsAll s) (H : Heap) (locs : List Loc) (hP : va_P (dC, dI) vwCl [(q1, .inr (11, [.ref q2, .ref q4, .ref q6, .ref q18, .ref q23, .ref q28, .ref q33, .ref q36, .ref q37, .ref q40, .ref q44, .ref q48, .int 0])), (q2, .inr (4, [.ref q3, .int 0, .int 0])), (q3, .inl (cI, 12, .inl (fun _ => 0))), (q4, .inr (10, [.ref q5, .int 0, .int 0])), (q5, .inl (cI, 12, .inl (fun _ => (-1)))), (q6, .inr (6, [.ref q7, .ref q10, .ref q16, .ref q17, .int 0, .int 0, .int 0, .int 0, .int 0])), (q7, .inr (3, [.ref q8, .int 0])), (q8, .inl (c2, 13, .inr (.inr (.inr (.inr (fun i => if i < 13 then some (r9 i) else none)))))), (r9 0, .inl (cI, 12, .inl (fun _ => 0))), (q10, .inr (5, [.ref q11, .ref q14, .ref q15, .int 0, .int 0, .int 0])), (q11, .inr (3, [.ref q12, .int 0])), (q12, .inl (c2, 13, .inr (.inr (.inr (.inr (fun i => if i < 13 then some (r13 i) else none)))))), (r13 0, .inl (cI, 12, .inl (fun _ => 0))), (q14, .inl (cI, 4096, .inl (fun _ => 0))), (q18, .inr (9, [.ref q19, .ref q22, .int 0, .int (-1)])), (q19, .inr (3, [.ref q20, .int 0])), (q20, .inl (c2, 13, .inr (.inr (.inr (.inr (fun i => if i < 13 then some (r21 i) else none)))))), (r21 0, .inl (cI, 12, .inl (fun _ => 0))), (q23, .inr (1, [.int 0, .ref q24, .ref q25, .ref q26, .ref q27, .int 0, .int (-1), .int (-1)])), (q28, .inr (1, [.int 1, .ref q29, .ref q30, .ref q31, .ref q32, .int 0, .int (-1), .int (-1)])), (q33, .inr (7, [.ref q34, .ref q35, .int 0, .int (-1)])), (q35, .inl (cI, 12, .inl (fun _ => 0))), (q37, .inr (2, [.ref q38, .ref q39, .int 0, .int (-1)])), (q40, .inr (0, [.ref q42, .ref q41, .ref q43, .int 0, .int 0, .int 0, .int 0, .int (-1)])), (q42, .inl (cI, 4096, .inl (fun _ => 0))), (q44, .inr (0, [.ref q46, .ref q45, .ref q47, .int 0, .int 0, .int 0, .int 0, .int (-1)])), (q46, .inl (cI, 256, .inl (fun _ => 0))), (q48, .inl (cI, 5, .inl (fun _ => 0))), (q49, .inr (12, [.int 0, .ref q50, .int 0, .ref q51, .int 0, .ref q52, .ref q53, .int 0, .ref q54, .int 0, .ref q55, .int (-9), .int 0, .int 0, .ref q56, .ref q57, .ref q58, .ref q59, .ref q60, .int 0, .ref q61, .ref q62, .ref q63, .int 0, .ref q64, .ref q65, .ref q66, .int 0, .ref q67])), (q50, .inl (cI, 5, .inl (fun _ => 0))), (q51, .inl (cI, 12, .inl (fun _ => 0))), (q52, .inl (cI, 12, .inl (fun _ => (-9)))), (q56, .inl (cI, 12, .inl (fun _ => 0))), (q57, .inl (cI, 12, .inl (fun _ => 0))), (q58, .inl (cI, 49152, .inl (fun _ => 0))), (q59, .inl (cI, 4096, .inl (fun _ => 0))), (q67, .inl (cI, 12, .inl (fun _ => 0)))] H) (hD : va_D (fun q : Nat => s.heap.size ≤ q) [(q1, .inr (11, [.ref q2, .ref q4, .ref q6, .ref q18, .ref q23, .ref q28, .ref q33, .ref q36, .ref q37, .ref q40, .ref q44, .ref q48, .int 0])), (q2, .inr (4, [.ref q3, .int 0, .int 0])), (q3, .inl (cI, 12, .inl (fun _ => 0))), (q4, .inr (10, [.ref q5, .int 0, .int 0])), (q5, .inl (cI, 12, .inl (fun _ => (-1)))), (q6, .inr (6, [.ref q7, .ref q10, .ref q16, .ref q17, .int 0, .int 0, .int 0, .int 0, .int 0])), (q7, .inr (3, [.ref q8, .int 0])), (q8, .inl (c2, 13, .inr (.inr (.inr (.inr (fun i => if i < 13 then some (r9 i) else none)))))), (r9 0, .inl (cI, 12, .inl (fun _ => 0))), (q10, .inr (5, [.ref q11, .ref q14, .ref q15, .int 0, .int 0, .int 0])), (q11, .inr (3, [.ref q12, .int 0])), (q12, .inl (c2, 13, .inr (.inr (.inr (.inr (fun i => if i < 13 then some (r13 i) else none)))))), (r13 0, .inl (cI, 12, .inl (fun _ => 0))), (q14, .inl (cI, 4096, .inl (fun _ => 0))), (q18, .inr (9, [.ref q19, .ref q22, .int 0, .int (-1)])), (q19, .inr (3, [.ref q20, .int 0])), (q20, .inl (c2, 13, .inr (.inr (.inr (.inr (fun i => if i < 13 then some (r21 i) else none)))))), (r21 0, .inl (cI, 12, .inl (fun _ => 0))), (q23, .inr (1, [.int 0, .ref q24, .ref q25, .ref q26, .ref q27, .int 0, .int (-1), .int (-1)])), (q28, .inr (1, [.int 1, .ref q29, .ref q30, .ref q31, .ref q32, .int 0, .int (-1), .int (-1)])), (q33, .inr (7, [.ref q34, .ref q35, .int 0, .int (-1)])), (q35, .inl (cI, 12, .inl (fun _ => 0))), (q37, .inr (2, [.ref q38, .ref q39, .int 0, .int (-1)])), (q40, .inr (0, [.ref q42, .ref q41, .ref q43, .int 0, .int 0, .int 0, .int 0, .int (-1)])), (q42, .inl (cI, 4096, .inl (fun _ => 0))), (q44, .inr (0, [.ref q46, .ref q45, .ref q47, .int 0, .int 0, .int 0, .int 0, .int (-1)])), (q46, .inl (cI, 256, .inl (fun _ => 0))), (q48, .inl (cI, 5, .inl (fun _ => 0))), (q49, .inr (12, [.int 0, .ref q50, .int 0, .ref q51, .int 0, .ref q52, .ref q53, .int 0, .ref q54, .int 0, .ref q55, .int (-9), .int 0, .int 0, .ref q56, .ref q57, .ref q58, .ref q59, .ref q60, .int 0, .ref q61, .ref q62, .ref q63, .int 0, .ref q64, .ref q65, .ref q66, .int 0, .ref q67])), (q50, .inl (cI, 5, .inl (fun _ => 0))), (q51, .inl (cI, 12, .inl (fun _ => 0))), (q52, .inl (cI, 12, .inl (fun _ => (-9)))), (q56, .inl (cI, 12, .inl (fun _ => 0))), (q57, .inl (cI, 12, .inl (fun _ => 0))), (q58, .inl (cI, 49152, .inl (fun _ => 0))), (q59, .inl (cI, 4096, .inl (fun _ => 0))), (q67, .inl (cI, 12, .inl (fun _ => 0)))]) (hS : va_S (fun q : Nat => s.heap.size ≤ q) s.heap H locs) (ls : Array Slot) (hl : lv_has ls 4 [(3, .int 0), (2, .ref q49), (1, .ref q1), (0, .ref b)]) : W p l e room_1 s m #[Value.ref b] below meth c H locs 128 161896 (lw_Z below #[Value.ref b] s) (F0 m 803 ls []) := by
  obtain ⟨hx, hb, hr, hml, hown0, hts0, hX, hbl, hlocks, hgv⟩ := id C0
  have hown : s.vm.findClass RL = some m.cls := hown0
  have hts : ∀ w ∈ wsL_law, w.before #[Value.ref b] s = true := fun w h => hts0 w (wsL_law_in w h)
  have hA : ∀ q : Nat, s.heap.size ≤ q → (fun q : Nat => s.heap.size ≤ q) q := fun _ h => h
  have hbA : ¬ (fun q : Nat => s.heap.size ≤ q) b := Nat.not_le.mpr hbl
  generalize hAe : (fun q : Nat => s.heap.size ≤ q) = A at hD hS hA hbA
  have a1_rg := i_rng a1
  have a2_rg := i_rng a2
  have a3_rg := i_rng a3
  obtain ⟨a1_l, a1_h⟩ := a1_rg
  obtain ⟨a2_l, a2_h⟩ := a2_rg
  obtain ⟨a3_l, a3_h⟩ := a3_rg
  refine lv_aload_n hx hb dL_law_803 rfl (lv_at hl 2 rfl) ?_
  refine lv_aload_n hx hb dL_law_804 rfl (lv_at hl 3 rfl) ?_
  refine lv_iload_n hx hb dL_law_805 rfl (lv_at hl 0 rfl) ?_
  refine lv_iconst (v := 1) hx hb dL_law_806 (by decide) ?_
  refine lv_iadd hx hb dL_law_807 (tk_i (v := 1) (by decide +kernel) ?_)
  refine va_sld hx hb hX hbl hbA hS (vin (by decide +kernel)) dL_law_808 (tk_i (v := a1) ha1 ?_)
  refine kcall_i (D := (dC, dI)) (S := Unit) (v := (-9)) (wc := [(q1, .inr (11, [.ref q2, .ref q4, .ref q6, .ref q18, .ref q23, .ref q28, .ref q33, .ref q36, .ref q37, .ref q40, .ref q44, .ref q48, .int 0])), (q37, .inr (2, [.ref q38, .ref q39, .int 0, .int (-1)])), (q2, .inr (4, [.ref q3, .int 0, .int 0]))]) (wr := [(q49, .inr (12, [.int 0, .ref q50, .int 0, .ref q51, .int 0, .ref q52, .ref q53, .int 0, .ref q54, .int 0, .ref q55, .int (-9), .int 0, .int 0, .ref q56, .ref q57, .ref q58, .ref q59, .ref q60, .int 0, .ref q61, .ref q62, .ref q63, .int 0, .ref q64, .ref q65, .ref q66, .int 0, .ref q67]))]) (w1 := fun _ => []) (fun hPc hDc => va_runV (As := [.int a1]) (rest := []) ⟨hx, hb, hml, hown, hts⟩ (kX11_far_1 l dC dI cI c2 q1 q37 q2 q4 q6 q18 q23 q28 q33 q36 q40 q44 q48 q38 q39 q3 H.size a1 (by omega) (by omega)) (cwV 1 hts gL_law_X11_far rfl rfl rfl (by decide +kernel) ⟨Nat.le_of_ble_eq_true rfl, Nat.le_of_ble_eq_true rfl⟩) (pre_V hPc hK hDc hN (ci := 11) (q0 := 0) rfl rfl) rfl rfl hl.1 rfl (lv_room (Nat.le_of_ble_eq_true rfl)) dL_law_809 ⟨Nat.le_of_ble_eq_true rfl, Nat.le_of_ble_eq_true rfl⟩) hP hD hS hA [0, 22, 1] [28] rfl rfl (by decide) (by decide) (by decide) (fun u H locs hP hD hS => ?_)
  have hP : va_P (dC, dI) vwCl [(q49, .inr (12, [.int 0, .ref q50, .int 0, .ref q51, .int 0, .ref q52, .ref q53, .int 0, .ref q54, .int 0, .ref q55, .int (-9), .int 0, .int 0, .ref q56, .ref q57, .ref q58, .ref q59, .ref q60, .int 0, .ref q61, .ref q62, .ref q63, .int 0, .ref q64, .ref q65, .ref q66, .int 0, .ref q67]))] H := hP
  have hD : va_D A [(q49, .inr (12, [.int 0, .ref q50, .int 0, .ref q51, .int 0, .ref q52, .ref q53, .int 0, .ref q54, .int 0, .ref q55, .int (-9), .int 0, .int 0, .ref q56, .ref q57, .ref q58, .ref q59, .ref q60, .int 0, .ref q61, .ref q62, .ref q63, .int 0, .ref q64, .ref q65, .ref q66, .int 0, .ref q67]))] := hD
  refine lv_aload_n hx hb dL_law_812 rfl (lv_at hl 1 rfl) ?_
  refine lv_aload_n hx hb dL_law_813 rfl (lv_at hl 3 rfl) ?_
  refine lv_iload_n hx hb dL_law_814 rfl (lv_at hl 0 rfl) ?_
  refine lv_iconst (v := 1) hx hb dL_law_815 (by decide) ?_
  refine lv_iadd hx hb dL_law_816 (tk_i (v := 1) (by decide +kernel) ?_)
  refine va_sld hx hb hX hbl hbA hS (vin (by decide +kernel)) dL_law_817 (tk_i (v := a1) ha1 ?_)
  refine kcall_i (D := (dC, dI)) (S := Unit) (v := (-9)) (wc := [(q49, .inr (12, [.int 0, .ref q50, .int 0, .ref q51, .int 0, .ref q52, .ref q53, .int 0, .ref q54, .int 0, .ref q55, .int (-9), .int 0, .int 0, .ref q56, .ref q57, .ref q58, .ref q59, .ref q60, .int 0, .ref q61, .ref q62, .ref q63, .int 0, .ref q64, .ref q65, .ref q66, .int 0, .ref q67]))]) (wr := []) (w1 := fun _ => []) (fun hPc hDc => va_runV (As := [.int a1]) (rest := [.int (-9)]) ⟨hx, hb, hml, hown, hts⟩ (kX12_far_1 l dC dI cI c2 q49 q50 q51 q52 q53 q54 q55 q56 q57 q58 q59 q60 q61 q62 q63 q64 q65 q66 q67 H.size a1 (by omega) (by omega)) (cwV 1 hts gL_law_X12_far rfl rfl rfl (by decide +kernel) ⟨Nat.le_of_ble_eq_true rfl, Nat.le_of_ble_eq_true rfl⟩) (pre_V hPc hK hDc hN (ci := 12) (q0 := 0) rfl rfl) rfl rfl hl.1 rfl (lv_room (Nat.le_of_ble_eq_true rfl)) dL_law_818 ⟨Nat.le_of_ble_eq_true rfl, Nat.le_of_ble_eq_true rfl⟩) hP hD hS hA [0] [] rfl rfl (by decide) (by decide) (by decide) (fun u H locs hP hD hS => ?_)
  have hP : va_P (dC, dI) vwCl [] H := hP
  have hD : va_D A [] := hD
  refine lv_icmp_eq (tgt := 1080) hx hb dL_law_821 (by decide) (fun _ => ?_) (fun h9 => absurd (by decide +kernel) h9)
  refine lv_iinc (v := 4) (lv' := [(3, .int 4), (2, .ref q49), (1, .ref q1), (0, .ref b)]) hx hb dL_law_1080 hl (k := 0) rfl (by decide +kernel) (by decide) rfl (fun ls hl => ?_)
  refine lv_goto (tgt := 18) hx hb dL_law_1083 (by decide) ?_
  refine lv_iload_n hx hb dL_law_18 rfl (lv_at hl 0 rfl) ?_
  refine lv_aload_n hx hb dL_law_19 rfl (lv_at hl 3 rfl) ?_
  refine va_slen hx hb hX hbl hbA hS dL_law_20 (tk_i (v := 4) (by decide +kernel) ?_)
  refine lv_iconst (v := 4) hx hb dL_law_21 (by decide) ?_
  refine lv_isub hx hb dL_law_22 (tk_i (v := 0) (by decide +kernel) ?_)
  refine lv_icmp_gt (tgt := 1086) hx hb dL_law_23 (by decide) (fun _ => ?_) (fun h9 => absurd (by decide +kernel) h9)
  refine lv_iconst (v := 1) hx hb dL_law_1086 (by decide) ?_
  refine va_forget (fun q hq => by have h9 := hS.2.2 q hq; rw [← hAe] at h9; exact h9) ?_
  refine W.widen (k := 600000) (n := 7302250) (by decide) (by decide) ?_
  exact lw_ret hx hb hr hlocks dL_law_1087
set_option maxHeartbeats 8000000 in
set_option maxRecDepth 100000 in
theorem lc_26 {p : Program} {e : Env} {s : State} {m : MethodId} {below : List Frame} {meth : Method} {c : Code} (l : Launch) {b : Nat} {xs : Nat → Int32} (C0 : lw_At p s m meth c b 4 xs) (dC : Nat → ClassId) (dI : Nat → Nat → Nat) (cI c2 : ClassId) (q1 : Nat) (q2 : Nat) (q3 : Nat) (q4 : Nat) (q5 : Nat) (q6 : Nat) (q7 : Nat) (q8 : Nat) (r9 : Nat → Nat) (q10 : Nat) (q11 : Nat) (q12 : Nat) (r13 : Nat → Nat) (q14 : Nat) (q15 : Nat) (q16 : Nat) (q17 : Nat) (q18 : Nat) (q19 : Nat) (q20 : Nat) (r21 : Nat → Nat) (q22 : Nat) (q23 : Nat) (q24 : Nat) (q25 : Nat) (q26 : Nat) (q27 : Nat) (q28 : Nat) (q29 : Nat) (q30 : Nat) (q31 : Nat) (q32 : Nat) (q33 : Nat) (q34 : Nat) (q35 : Nat) (q36 : Nat) (q37 : Nat) (q38 : Nat) (q39 : Nat) (q40 : Nat) (q41 : Nat) (q42 : Nat) (q43 : Nat) (q44 : Nat) (q45 : Nat) (q46 : Nat) (q47 : Nat) (q48 : Nat) (q49 : Nat) (q50 : Nat) (q51 : Nat) (q52 : Nat) (q53 : Nat) (q54 : Nat) (q55 : Nat) (q56 : Nat) (q57 : Nat) (q58 : Nat) (q59 : Nat) (q60 : Nat) (q61 : Nat) (q62 : Nat) (q63 : Nat) (q64 : Nat) (q65 : Nat) (q66 : Nat) (q67 : Nat) (a1 a2 a3 : Int32) (ha1 : xs (Int32.toNatClampNeg 1) = a1) (ha2 : xs (Int32.toNatClampNeg 2) = a2) (ha3 : xs (Int32.toNatClampNeg 3) = a3) (hK : va_K (dC, dI) vwCl [(cI, .int), (c2, .array .int)] s) (hN : nsAll s) (H : Heap) (locs : List Loc) (hP : va_P (dC, dI) vwCl [(q1, .inr (11, [.ref q2, .ref q4, .ref q6, .ref q18, .ref q23, .ref q28, .ref q33, .ref q36, .ref q37, .ref q40, .ref q44, .ref q48, .int 0])), (q2, .inr (4, [.ref q3, .int 0, .int 0])), (q3, .inl (cI, 12, .inl (fun _ => 0))), (q4, .inr (10, [.ref q5, .int 0, .int 0])), (q5, .inl (cI, 12, .inl (fun _ => (-1)))), (q6, .inr (6, [.ref q7, .ref q10, .ref q16, .ref q17, .int 0, .int 0, .int 0, .int 0, .int 0])), (q7, .inr (3, [.ref q8, .int 0])), (q8, .inl (c2, 13, .inr (.inr (.inr (.inr (fun i => if i < 13 then some (r9 i) else none)))))), (r9 0, .inl (cI, 12, .inl (fun _ => 0))), (q10, .inr (5, [.ref q11, .ref q14, .ref q15, .int 0, .int 0, .int 0])), (q11, .inr (3, [.ref q12, .int 0])), (q12, .inl (c2, 13, .inr (.inr (.inr (.inr (fun i => if i < 13 then some (r13 i) else none)))))), (r13 0, .inl (cI, 12, .inl (fun _ => 0))), (q14, .inl (cI, 4096, .inl (fun _ => 0))), (q18, .inr (9, [.ref q19, .ref q22, .int 0, .int (-1)])), (q19, .inr (3, [.ref q20, .int 0])), (q20, .inl (c2, 13, .inr (.inr (.inr (.inr (fun i => if i < 13 then some (r21 i) else none)))))), (r21 0, .inl (cI, 12, .inl (fun _ => 0))), (q23, .inr (1, [.int 0, .ref q24, .ref q25, .ref q26, .ref q27, .int 0, .int (-1), .int (-1)])), (q28, .inr (1, [.int 1, .ref q29, .ref q30, .ref q31, .ref q32, .int 0, .int (-1), .int (-1)])), (q33, .inr (7, [.ref q34, .ref q35, .int 0, .int (-1)])), (q35, .inl (cI, 12, .inl (fun _ => 0))), (q37, .inr (2, [.ref q38, .ref q39, .int 0, .int (-1)])), (q40, .inr (0, [.ref q42, .ref q41, .ref q43, .int 0, .int 0, .int 0, .int 0, .int (-1)])), (q42, .inl (cI, 4096, .inl (fun _ => 0))), (q44, .inr (0, [.ref q46, .ref q45, .ref q47, .int 0, .int 0, .int 0, .int 0, .int (-1)])), (q46, .inl (cI, 256, .inl (fun _ => 0))), (q48, .inl (cI, 5, .inl (fun _ => 0))), (q49, .inr (12, [.int 0, .ref q50, .int 0, .ref q51, .int 0, .ref q52, .ref q53, .int 0, .ref q54, .int 0, .ref q55, .int (-9), .int 0, .int 0, .ref q56, .ref q57, .ref q58, .ref q59, .ref q60, .int 0, .ref q61, .ref q62, .ref q63, .int 0, .ref q64, .ref q65, .ref q66, .int 0, .ref q67])), (q50, .inl (cI, 5, .inl (fun _ => 0))), (q51, .inl (cI, 12, .inl (fun _ => 0))), (q52, .inl (cI, 12, .inl (fun _ => (-9)))), (q56, .inl (cI, 12, .inl (fun _ => 0))), (q57, .inl (cI, 12, .inl (fun _ => 0))), (q58, .inl (cI, 49152, .inl (fun _ => 0))), (q59, .inl (cI, 4096, .inl (fun _ => 0))), (q67, .inl (cI, 12, .inl (fun _ => 0)))] H) (hD : va_D (fun q : Nat => s.heap.size ≤ q) [(q1, .inr (11, [.ref q2, .ref q4, .ref q6, .ref q18, .ref q23, .ref q28, .ref q33, .ref q36, .ref q37, .ref q40, .ref q44, .ref q48, .int 0])), (q2, .inr (4, [.ref q3, .int 0, .int 0])), (q3, .inl (cI, 12, .inl (fun _ => 0))), (q4, .inr (10, [.ref q5, .int 0, .int 0])), (q5, .inl (cI, 12, .inl (fun _ => (-1)))), (q6, .inr (6, [.ref q7, .ref q10, .ref q16, .ref q17, .int 0, .int 0, .int 0, .int 0, .int 0])), (q7, .inr (3, [.ref q8, .int 0])), (q8, .inl (c2, 13, .inr (.inr (.inr (.inr (fun i => if i < 13 then some (r9 i) else none)))))), (r9 0, .inl (cI, 12, .inl (fun _ => 0))), (q10, .inr (5, [.ref q11, .ref q14, .ref q15, .int 0, .int 0, .int 0])), (q11, .inr (3, [.ref q12, .int 0])), (q12, .inl (c2, 13, .inr (.inr (.inr (.inr (fun i => if i < 13 then some (r13 i) else none)))))), (r13 0, .inl (cI, 12, .inl (fun _ => 0))), (q14, .inl (cI, 4096, .inl (fun _ => 0))), (q18, .inr (9, [.ref q19, .ref q22, .int 0, .int (-1)])), (q19, .inr (3, [.ref q20, .int 0])), (q20, .inl (c2, 13, .inr (.inr (.inr (.inr (fun i => if i < 13 then some (r21 i) else none)))))), (r21 0, .inl (cI, 12, .inl (fun _ => 0))), (q23, .inr (1, [.int 0, .ref q24, .ref q25, .ref q26, .ref q27, .int 0, .int (-1), .int (-1)])), (q28, .inr (1, [.int 1, .ref q29, .ref q30, .ref q31, .ref q32, .int 0, .int (-1), .int (-1)])), (q33, .inr (7, [.ref q34, .ref q35, .int 0, .int (-1)])), (q35, .inl (cI, 12, .inl (fun _ => 0))), (q37, .inr (2, [.ref q38, .ref q39, .int 0, .int (-1)])), (q40, .inr (0, [.ref q42, .ref q41, .ref q43, .int 0, .int 0, .int 0, .int 0, .int (-1)])), (q42, .inl (cI, 4096, .inl (fun _ => 0))), (q44, .inr (0, [.ref q46, .ref q45, .ref q47, .int 0, .int 0, .int 0, .int 0, .int (-1)])), (q46, .inl (cI, 256, .inl (fun _ => 0))), (q48, .inl (cI, 5, .inl (fun _ => 0))), (q49, .inr (12, [.int 0, .ref q50, .int 0, .ref q51, .int 0, .ref q52, .ref q53, .int 0, .ref q54, .int 0, .ref q55, .int (-9), .int 0, .int 0, .ref q56, .ref q57, .ref q58, .ref q59, .ref q60, .int 0, .ref q61, .ref q62, .ref q63, .int 0, .ref q64, .ref q65, .ref q66, .int 0, .ref q67])), (q50, .inl (cI, 5, .inl (fun _ => 0))), (q51, .inl (cI, 12, .inl (fun _ => 0))), (q52, .inl (cI, 12, .inl (fun _ => (-9)))), (q56, .inl (cI, 12, .inl (fun _ => 0))), (q57, .inl (cI, 12, .inl (fun _ => 0))), (q58, .inl (cI, 49152, .inl (fun _ => 0))), (q59, .inl (cI, 4096, .inl (fun _ => 0))), (q67, .inl (cI, 12, .inl (fun _ => 0)))]) (hS : va_S (fun q : Nat => s.heap.size ≤ q) s.heap H locs) (ls : Array Slot) (hl : lv_has ls 4 [(3, .int 0), (2, .ref q49), (1, .ref q1), (0, .ref b)]) : W p l e room_1 s m #[Value.ref b] below meth c H locs 128 161896 (lw_Z below #[Value.ref b] s) (F0 m 826 ls []) := by
  obtain ⟨hx, hb, hr, hml, hown0, hts0, hX, hbl, hlocks, hgv⟩ := id C0
  have hown : s.vm.findClass RL = some m.cls := hown0
  have hts : ∀ w ∈ wsL_law, w.before #[Value.ref b] s = true := fun w h => hts0 w (wsL_law_in w h)
  have hA : ∀ q : Nat, s.heap.size ≤ q → (fun q : Nat => s.heap.size ≤ q) q := fun _ h => h
  have hbA : ¬ (fun q : Nat => s.heap.size ≤ q) b := Nat.not_le.mpr hbl
  generalize hAe : (fun q : Nat => s.heap.size ≤ q) = A at hD hS hA hbA
  have a1_rg := i_rng a1
  have a2_rg := i_rng a2
  have a3_rg := i_rng a3
  obtain ⟨a1_l, a1_h⟩ := a1_rg
  obtain ⟨a2_l, a2_h⟩ := a2_rg
  obtain ⟨a3_l, a3_h⟩ := a3_rg
  rcases (show a1.toInt ≤ 8 ∨ 9 ≤ a1.toInt by omega) with g_a1_9 | g_a1_9
  ·
    rcases (show a1.toInt ≤ (-1) ∨ 0 ≤ a1.toInt by omega) with g_a1_0 | g_a1_0
    ·
      refine lv_aload_n hx hb dL_law_826 rfl (lv_at hl 2 rfl) ?_
      refine lv_aload_n hx hb dL_law_827 rfl (lv_at hl 3 rfl) ?_
      refine lv_iload_n hx hb dL_law_828 rfl (lv_at hl 0 rfl) ?_
      refine lv_iconst (v := 1) hx hb dL_law_829 (by decide) ?_
      refine lv_iadd hx hb dL_law_830 (tk_i (v := 1) (by decide +kernel) ?_)
      refine va_sld hx hb hX hbl hbA hS (vin (by decide +kernel)) dL_law_831 (tk_i (v := a1) ha1 ?_)
      refine kcall_i (D := (dC, dI)) (S := Unit) (v := (-3)) (wc := [(q1, .inr (11, [.ref q2, .ref q4, .ref q6, .ref q18, .ref q23, .ref q28, .ref q33, .ref q36, .ref q37, .ref q40, .ref q44, .ref q48, .int 0])), (q48, .inl (cI, 5, .inl (fun _ => 0)))]) (wr := [(q49, .inr (12, [.int 0, .ref q50, .int 0, .ref q51, .int 0, .ref q52, .ref q53, .int 0, .ref q54, .int 0, .ref q55, .int (-9), .int 0, .int 0, .ref q56, .ref q57, .ref q58, .ref q59, .ref q60, .int 0, .ref q61, .ref q62, .ref q63, .int 0, .ref q64, .ref q65, .ref q66, .int 0, .ref q67])), (q50, .inl (cI, 5, .inl (fun _ => 0)))]) (w1 := fun _ => []) (fun hPc hDc => va_runV (As := [.int a1]) (rest := []) ⟨hx, hb, hml, hown, hts⟩ (kX11_columns_1 l dC dI cI c2 q1 q48 q2 q4 q6 q18 q23 q28 q33 q36 q37 q40 q44 H.size a1 (by omega) (by omega)) (cwV 1 hts gL_law_X11_columns rfl rfl rfl (by decide +kernel) ⟨Nat.le_of_ble_eq_true rfl, Nat.le_of_ble_eq_true rfl⟩) (pre_V hPc hK hDc hN (ci := 11) (q0 := 0) rfl rfl) rfl rfl hl.1 rfl (lv_room (Nat.le_of_ble_eq_true rfl)) dL_law_832 ⟨Nat.le_of_ble_eq_true rfl, Nat.le_of_ble_eq_true rfl⟩) hP hD hS hA [0, 27] [28, 29] rfl rfl (by decide) (by decide) (by decide) (fun u H locs hP hD hS => ?_)
      have hP : va_P (dC, dI) vwCl [(q49, .inr (12, [.int 0, .ref q50, .int 0, .ref q51, .int 0, .ref q52, .ref q53, .int 0, .ref q54, .int 0, .ref q55, .int (-9), .int 0, .int 0, .ref q56, .ref q57, .ref q58, .ref q59, .ref q60, .int 0, .ref q61, .ref q62, .ref q63, .int 0, .ref q64, .ref q65, .ref q66, .int 0, .ref q67])), (q50, .inl (cI, 5, .inl (fun _ => 0)))] H := hP
      have hD : va_D A [(q49, .inr (12, [.int 0, .ref q50, .int 0, .ref q51, .int 0, .ref q52, .ref q53, .int 0, .ref q54, .int 0, .ref q55, .int (-9), .int 0, .int 0, .ref q56, .ref q57, .ref q58, .ref q59, .ref q60, .int 0, .ref q61, .ref q62, .ref q63, .int 0, .ref q64, .ref q65, .ref q66, .int 0, .ref q67])), (q50, .inl (cI, 5, .inl (fun _ => 0)))] := hD
      refine lv_aload_n hx hb dL_law_835 rfl (lv_at hl 1 rfl) ?_
      refine lv_aload_n hx hb dL_law_836 rfl (lv_at hl 3 rfl) ?_
      refine lv_iload_n hx hb dL_law_837 rfl (lv_at hl 0 rfl) ?_
      refine lv_iconst (v := 1) hx hb dL_law_838 (by decide) ?_
      refine lv_iadd hx hb dL_law_839 (tk_i (v := 1) (by decide +kernel) ?_)
      refine va_sld hx hb hX hbl hbA hS (vin (by decide +kernel)) dL_law_840 (tk_i (v := a1) ha1 ?_)
      refine kcall_i (D := (dC, dI)) (S := Unit) (v := (-3)) (wc := [(q49, .inr (12, [.int 0, .ref q50, .int 0, .ref q51, .int 0, .ref q52, .ref q53, .int 0, .ref q54, .int 0, .ref q55, .int (-9), .int 0, .int 0, .ref q56, .ref q57, .ref q58, .ref q59, .ref q60, .int 0, .ref q61, .ref q62, .ref q63, .int 0, .ref q64, .ref q65, .ref q66, .int 0, .ref q67])), (q50, .inl (cI, 5, .inl (fun _ => 0)))]) (wr := []) (w1 := fun _ => []) (fun hPc hDc => va_runV (As := [.int a1]) (rest := [.int (-3)]) ⟨hx, hb, hml, hown, hts⟩ (kX12_columns_1 l dC dI cI c2 q49 q50 q51 q52 q53 q54 q55 q56 q57 q58 q59 q60 q61 q62 q63 q64 q65 q66 q67 H.size a1 (by omega) (by omega)) (cwV 1 hts gL_law_X12_columns rfl rfl rfl (by decide +kernel) ⟨Nat.le_of_ble_eq_true rfl, Nat.le_of_ble_eq_true rfl⟩) (pre_V hPc hK hDc hN (ci := 12) (q0 := 0) rfl rfl) rfl rfl hl.1 rfl (lv_room (Nat.le_of_ble_eq_true rfl)) dL_law_841 ⟨Nat.le_of_ble_eq_true rfl, Nat.le_of_ble_eq_true rfl⟩) hP hD hS hA [0, 1] [] rfl rfl (by decide) (by decide) (by decide) (fun u H locs hP hD hS => ?_)
      have hP : va_P (dC, dI) vwCl [] H := hP
      have hD : va_D A [] := hD
      refine lv_icmp_eq (tgt := 1080) hx hb dL_law_844 (by decide) (fun _ => ?_) (fun h9 => absurd (by decide +kernel) h9)
      refine lv_iinc (v := 4) (lv' := [(3, .int 4), (2, .ref q49), (1, .ref q1), (0, .ref b)]) hx hb dL_law_1080 hl (k := 0) rfl (by decide +kernel) (by decide) rfl (fun ls hl => ?_)
      refine lv_goto (tgt := 18) hx hb dL_law_1083 (by decide) ?_
      refine lv_iload_n hx hb dL_law_18 rfl (lv_at hl 0 rfl) ?_
      refine lv_aload_n hx hb dL_law_19 rfl (lv_at hl 3 rfl) ?_
      refine va_slen hx hb hX hbl hbA hS dL_law_20 (tk_i (v := 4) (by decide +kernel) ?_)
      refine lv_iconst (v := 4) hx hb dL_law_21 (by decide) ?_
      refine lv_isub hx hb dL_law_22 (tk_i (v := 0) (by decide +kernel) ?_)
      refine lv_icmp_gt (tgt := 1086) hx hb dL_law_23 (by decide) (fun _ => ?_) (fun h9 => absurd (by decide +kernel) h9)
      refine lv_iconst (v := 1) hx hb dL_law_1086 (by decide) ?_
      refine va_forget (fun q hq => by have h9 := hS.2.2 q hq; rw [← hAe] at h9; exact h9) ?_
      refine W.widen (k := 600000) (n := 7302250) (by decide) (by decide) ?_
      exact lw_ret hx hb hr hlocks dL_law_1087
    ·
      refine lv_aload_n hx hb dL_law_826 rfl (lv_at hl 2 rfl) ?_
      refine lv_aload_n hx hb dL_law_827 rfl (lv_at hl 3 rfl) ?_
      refine lv_iload_n hx hb dL_law_828 rfl (lv_at hl 0 rfl) ?_
      refine lv_iconst (v := 1) hx hb dL_law_829 (by decide) ?_
      refine lv_iadd hx hb dL_law_830 (tk_i (v := 1) (by decide +kernel) ?_)
      refine va_sld hx hb hX hbl hbA hS (vin (by decide +kernel)) dL_law_831 (tk_i (v := a1) ha1 ?_)
      refine kcall_i (D := (dC, dI)) (S := Unit) (v := a1) (wc := [(q1, .inr (11, [.ref q2, .ref q4, .ref q6, .ref q18, .ref q23, .ref q28, .ref q33, .ref q36, .ref q37, .ref q40, .ref q44, .ref q48, .int 0])), (q4, .inr (10, [.ref q5, .int 0, .int 0])), (q5, .inl (cI, 12, .inl (fun _ => (-1))))]) (wr := [(q49, .inr (12, [.int 0, .ref q50, .int 0, .ref q51, .int 0, .ref q52, .ref q53, .int 0, .ref q54, .int 0, .ref q55, .int (-9), .int 0, .int 0, .ref q56, .ref q57, .ref q58, .ref q59, .ref q60, .int 0, .ref q61, .ref q62, .ref q63, .int 0, .ref q64, .ref q65, .ref q66, .int 0, .ref q67])), (q52, .inl (cI, 12, .inl (fun _ => (-9))))]) (w1 := fun _ => []) (fun hPc hDc => va_runV (As := [.int a1]) (rest := []) ⟨hx, hb, hml, hown, hts⟩ (kX11_columns_2 l dC dI cI c2 q1 q4 q5 q2 q6 q18 q23 q28 q33 q36 q37 q40 q44 q48 H.size a1 (by omega) (by omega)) (cwV 1 hts gL_law_X11_columns rfl rfl rfl (by decide +kernel) ⟨Nat.le_of_ble_eq_true rfl, Nat.le_of_ble_eq_true rfl⟩) (pre_V hPc hK hDc hN (ci := 11) (q0 := 0) rfl rfl) rfl rfl hl.1 rfl (lv_room (Nat.le_of_ble_eq_true rfl)) dL_law_832 ⟨Nat.le_of_ble_eq_true rfl, Nat.le_of_ble_eq_true rfl⟩) hP hD hS hA [0, 3, 4] [28, 31] rfl rfl (by decide) (by decide) (by decide) (fun u H locs hP hD hS => ?_)
      have hP : va_P (dC, dI) vwCl [(q49, .inr (12, [.int 0, .ref q50, .int 0, .ref q51, .int 0, .ref q52, .ref q53, .int 0, .ref q54, .int 0, .ref q55, .int (-9), .int 0, .int 0, .ref q56, .ref q57, .ref q58, .ref q59, .ref q60, .int 0, .ref q61, .ref q62, .ref q63, .int 0, .ref q64, .ref q65, .ref q66, .int 0, .ref q67])), (q52, .inl (cI, 12, .inl (fun _ => (-9))))] H := hP
      have hD : va_D A [(q49, .inr (12, [.int 0, .ref q50, .int 0, .ref q51, .int 0, .ref q52, .ref q53, .int 0, .ref q54, .int 0, .ref q55, .int (-9), .int 0, .int 0, .ref q56, .ref q57, .ref q58, .ref q59, .ref q60, .int 0, .ref q61, .ref q62, .ref q63, .int 0, .ref q64, .ref q65, .ref q66, .int 0, .ref q67])), (q52, .inl (cI, 12, .inl (fun _ => (-9))))] := hD
      refine lv_aload_n hx hb dL_law_835 rfl (lv_at hl 1 rfl) ?_
      refine lv_aload_n hx hb dL_law_836 rfl (lv_at hl 3 rfl) ?_
      refine lv_iload_n hx hb dL_law_837 rfl (lv_at hl 0 rfl) ?_
      refine lv_iconst (v := 1) hx hb dL_law_838 (by decide) ?_
      refine lv_iadd hx hb dL_law_839 (tk_i (v := 1) (by decide +kernel) ?_)
      refine va_sld hx hb hX hbl hbA hS (vin (by decide +kernel)) dL_law_840 (tk_i (v := a1) ha1 ?_)
      refine kcall_i (D := (dC, dI)) (S := Unit) (v := a1) (wc := [(q49, .inr (12, [.int 0, .ref q50, .int 0, .ref q51, .int 0, .ref q52, .ref q53, .int 0, .ref q54, .int 0, .ref q55, .int (-9), .int 0, .int 0, .ref q56, .ref q57, .ref q58, .ref q59, .ref q60, .int 0, .ref q61, .ref q62, .ref q63, .int 0, .ref q64, .ref q65, .ref q66, .int 0, .ref q67])), (q52, .inl (cI, 12, .inl (fun _ => (-9))))]) (wr := []) (w1 := fun _ => []) (fun hPc hDc => va_runV (As := [.int a1]) (rest := [.int a1]) ⟨hx, hb, hml, hown, hts⟩ (kX12_columns_2 l dC dI cI c2 q49 q52 q50 q51 q53 q54 q55 q56 q57 q58 q59 q60 q61 q62 q63 q64 q65 q66 q67 H.size a1 (by omega) (by omega)) (cwV 1 hts gL_law_X12_columns rfl rfl rfl (by decide +kernel) ⟨Nat.le_of_ble_eq_true rfl, Nat.le_of_ble_eq_true rfl⟩) (pre_V hPc hK hDc hN (ci := 12) (q0 := 0) rfl rfl) rfl rfl hl.1 rfl (lv_room (Nat.le_of_ble_eq_true rfl)) dL_law_841 ⟨Nat.le_of_ble_eq_true rfl, Nat.le_of_ble_eq_true rfl⟩) hP hD hS hA [0, 1] [] rfl rfl (by decide) (by decide) (by decide) (fun u H locs hP hD hS => ?_)
      have hP : va_P (dC, dI) vwCl [] H := hP
      have hD : va_D A [] := hD
      refine lv_icmp_eq (tgt := 1080) hx hb dL_law_844 (by decide) (fun _ => ?_) (fun h9 => absurd rfl h9)
      refine lv_iinc (v := 4) (lv' := [(3, .int 4), (2, .ref q49), (1, .ref q1), (0, .ref b)]) hx hb dL_law_1080 hl (k := 0) rfl (by decide +kernel) (by decide) rfl (fun ls hl => ?_)
      refine lv_goto (tgt := 18) hx hb dL_law_1083 (by decide) ?_
      refine lv_iload_n hx hb dL_law_18 rfl (lv_at hl 0 rfl) ?_
      refine lv_aload_n hx hb dL_law_19 rfl (lv_at hl 3 rfl) ?_
      refine va_slen hx hb hX hbl hbA hS dL_law_20 (tk_i (v := 4) (by decide +kernel) ?_)
      refine lv_iconst (v := 4) hx hb dL_law_21 (by decide) ?_
      refine lv_isub hx hb dL_law_22 (tk_i (v := 0) (by decide +kernel) ?_)
      refine lv_icmp_gt (tgt := 1086) hx hb dL_law_23 (by decide) (fun _ => ?_) (fun h9 => absurd (by decide +kernel) h9)
      refine lv_iconst (v := 1) hx hb dL_law_1086 (by decide) ?_
      refine va_forget (fun q hq => by have h9 := hS.2.2 q hq; rw [← hAe] at h9; exact h9) ?_
      refine W.widen (k := 600000) (n := 7302250) (by decide) (by decide) ?_
      exact lw_ret hx hb hr hlocks dL_law_1087
  ·
    refine lv_aload_n hx hb dL_law_826 rfl (lv_at hl 2 rfl) ?_
    refine lv_aload_n hx hb dL_law_827 rfl (lv_at hl 3 rfl) ?_
    refine lv_iload_n hx hb dL_law_828 rfl (lv_at hl 0 rfl) ?_
    refine lv_iconst (v := 1) hx hb dL_law_829 (by decide) ?_
    refine lv_iadd hx hb dL_law_830 (tk_i (v := 1) (by decide +kernel) ?_)
    refine va_sld hx hb hX hbl hbA hS (vin (by decide +kernel)) dL_law_831 (tk_i (v := a1) ha1 ?_)
    refine kcall_i (D := (dC, dI)) (S := Unit) (v := (-1)) (wc := [(q1, .inr (11, [.ref q2, .ref q4, .ref q6, .ref q18, .ref q23, .ref q28, .ref q33, .ref q36, .ref q37, .ref q40, .ref q44, .ref q48, .int 0]))]) (wr := [(q49, .inr (12, [.int 0, .ref q50, .int 0, .ref q51, .int 0, .ref q52, .ref q53, .int 0, .ref q54, .int 0, .ref q55, .int (-9), .int 0, .int 0, .ref q56, .ref q57, .ref q58, .ref q59, .ref q60, .int 0, .ref q61, .ref q62, .ref q63, .int 0, .ref q64, .ref q65, .ref q66, .int 0, .ref q67]))]) (w1 := fun _ => []) (fun hPc hDc => va_runV (As := [.int a1]) (rest := []) ⟨hx, hb, hml, hown, hts⟩ (kX11_columns_3 l dC dI cI c2 q1 q2 q4 q6 q18 q23 q28 q33 q36 q37 q40 q44 q48 H.size a1 (by omega) (by omega)) (cwV 1 hts gL_law_X11_columns rfl rfl rfl (by decide +kernel) ⟨Nat.le_of_ble_eq_true rfl, Nat.le_of_ble_eq_true rfl⟩) (pre_V hPc hK hDc hN (ci := 11) (q0 := 0) rfl rfl) rfl rfl hl.1 rfl (lv_room (Nat.le_of_ble_eq_true rfl)) dL_law_832 ⟨Nat.le_of_ble_eq_true rfl, Nat.le_of_ble_eq_true rfl⟩) hP hD hS hA [0] [28] rfl rfl (by decide) (by decide) (by decide) (fun u H locs hP hD hS => ?_)
    have hP : va_P (dC, dI) vwCl [(q49, .inr (12, [.int 0, .ref q50, .int 0, .ref q51, .int 0, .ref q52, .ref q53, .int 0, .ref q54, .int 0, .ref q55, .int (-9), .int 0, .int 0, .ref q56, .ref q57, .ref q58, .ref q59, .ref q60, .int 0, .ref q61, .ref q62, .ref q63, .int 0, .ref q64, .ref q65, .ref q66, .int 0, .ref q67]))] H := hP
    have hD : va_D A [(q49, .inr (12, [.int 0, .ref q50, .int 0, .ref q51, .int 0, .ref q52, .ref q53, .int 0, .ref q54, .int 0, .ref q55, .int (-9), .int 0, .int 0, .ref q56, .ref q57, .ref q58, .ref q59, .ref q60, .int 0, .ref q61, .ref q62, .ref q63, .int 0, .ref q64, .ref q65, .ref q66, .int 0, .ref q67]))] := hD
    refine lv_aload_n hx hb dL_law_835 rfl (lv_at hl 1 rfl) ?_
    refine lv_aload_n hx hb dL_law_836 rfl (lv_at hl 3 rfl) ?_
    refine lv_iload_n hx hb dL_law_837 rfl (lv_at hl 0 rfl) ?_
    refine lv_iconst (v := 1) hx hb dL_law_838 (by decide) ?_
    refine lv_iadd hx hb dL_law_839 (tk_i (v := 1) (by decide +kernel) ?_)
    refine va_sld hx hb hX hbl hbA hS (vin (by decide +kernel)) dL_law_840 (tk_i (v := a1) ha1 ?_)
    refine kcall_i (D := (dC, dI)) (S := Unit) (v := (-1)) (wc := [(q49, .inr (12, [.int 0, .ref q50, .int 0, .ref q51, .int 0, .ref q52, .ref q53, .int 0, .ref q54, .int 0, .ref q55, .int (-9), .int 0, .int 0, .ref q56, .ref q57, .ref q58, .ref q59, .ref q60, .int 0, .ref q61, .ref q62, .ref q63, .int 0, .ref q64, .ref q65, .ref q66, .int 0, .ref q67]))]) (wr := []) (w1 := fun _ => []) (fun hPc hDc => va_runV (As := [.int a1]) (rest := [.int (-1)]) ⟨hx, hb, hml, hown, hts⟩ (kX12_columns_3 l dC dI cI c2 q49 q50 q51 q52 q53 q54 q55 q56 q57 q58 q59 q60 q61 q62 q63 q64 q65 q66 q67 H.size a1 (by omega) (by omega)) (cwV 1 hts gL_law_X12_columns rfl rfl rfl (by decide +kernel) ⟨Nat.le_of_ble_eq_true rfl, Nat.le_of_ble_eq_true rfl⟩) (pre_V hPc hK hDc hN (ci := 12) (q0 := 0) rfl rfl) rfl rfl hl.1 rfl (lv_room (Nat.le_of_ble_eq_true rfl)) dL_law_841 ⟨Nat.le_of_ble_eq_true rfl, Nat.le_of_ble_eq_true rfl⟩) hP hD hS hA [0] [] rfl rfl (by decide) (by decide) (by decide) (fun u H locs hP hD hS => ?_)
    have hP : va_P (dC, dI) vwCl [] H := hP
    have hD : va_D A [] := hD
    refine lv_icmp_eq (tgt := 1080) hx hb dL_law_844 (by decide) (fun _ => ?_) (fun h9 => absurd (by decide +kernel) h9)
    refine lv_iinc (v := 4) (lv' := [(3, .int 4), (2, .ref q49), (1, .ref q1), (0, .ref b)]) hx hb dL_law_1080 hl (k := 0) rfl (by decide +kernel) (by decide) rfl (fun ls hl => ?_)
    refine lv_goto (tgt := 18) hx hb dL_law_1083 (by decide) ?_
    refine lv_iload_n hx hb dL_law_18 rfl (lv_at hl 0 rfl) ?_
    refine lv_aload_n hx hb dL_law_19 rfl (lv_at hl 3 rfl) ?_
    refine va_slen hx hb hX hbl hbA hS dL_law_20 (tk_i (v := 4) (by decide +kernel) ?_)
    refine lv_iconst (v := 4) hx hb dL_law_21 (by decide) ?_
    refine lv_isub hx hb dL_law_22 (tk_i (v := 0) (by decide +kernel) ?_)
    refine lv_icmp_gt (tgt := 1086) hx hb dL_law_23 (by decide) (fun _ => ?_) (fun h9 => absurd (by decide +kernel) h9)
    refine lv_iconst (v := 1) hx hb dL_law_1086 (by decide) ?_
    refine va_forget (fun q hq => by have h9 := hS.2.2 q hq; rw [← hAe] at h9; exact h9) ?_
    refine W.widen (k := 600000) (n := 7302250) (by decide) (by decide) ?_
    exact lw_ret hx hb hr hlocks dL_law_1087
