set_option maxHeartbeats 8000000 in
set_option maxRecDepth 100000 in
theorem lc_27 {p : Program} {e : Env} {s : State} {m : MethodId} {below : List Frame} {meth : Method} {c : Code} (l : Launch) {b : Nat} {xs : Nat → Int32} (C0 : lw_At p s m meth c b 4 xs) (dC : Nat → ClassId) (dI : Nat → Nat → Nat) (cI c2 : ClassId) (q1 : Nat) (q2 : Nat) (q3 : Nat) (q4 : Nat) (q5 : Nat) (q6 : Nat) (q7 : Nat) (q8 : Nat) (r9 : Nat → Nat) (q10 : Nat) (q11 : Nat) (q12 : Nat) (r13 : Nat → Nat) (q14 : Nat) (q15 : Nat) (q16 : Nat) (q17 : Nat) (q18 : Nat) (q19 : Nat) (q20 : Nat) (r21 : Nat → Nat) (q22 : Nat) (q23 : Nat) (q24 : Nat) (q25 : Nat) (q26 : Nat) (q27 : Nat) (q28 : Nat) (q29 : Nat) (q30 : Nat) (q31 : Nat) (q32 : Nat) (q33 : Nat) (q34 : Nat) (q35 : Nat) (q36 : Nat) (q37 : Nat) (q38 : Nat) (q39 : Nat) (q40 : Nat) (q41 : Nat) (q42 : Nat) (q43 : Nat) (q44 : Nat) (q45 : Nat) (q46 : Nat) (q47 : Nat) (q48 : Nat) (q49 : Nat) (q50 : Nat) (q51 : Nat) (q52 : Nat) (q53 : Nat) (q54 : Nat) (q55 : Nat) (q56 : Nat) (q57 : Nat) (q58 : Nat) (q59 : Nat) (q60 : Nat) (q61 : Nat) (q62 : Nat) (q63 : Nat) (q64 : Nat) (q65 : Nat) (q66 : Nat) (q67 : Nat) (a1 a2 a3 : Int32) (ha1 : xs (Int32.toNatClampNeg 1) = a1) (ha2 : xs (Int32.toNatClampNeg 2) = a2) (ha3 : xs (Int32.toNatClampNeg 3) = a3) (hK : va_K (dC, dI) vwCl [(cI, .int), (c2, .array .int)] s) (hN : nsAll s) (H : Heap) (locs : List Loc) (hP : va_P (dC, dI) vwCl [(q1, .inr (11, [.ref q2, .ref q4, .ref q6, .ref q18, .ref q23, .ref q28, .ref q33, .ref q36, .ref q37, .ref q40, .ref q44, .ref q48, .int 0])), (q2, .inr (4, [.ref q3, .int 0, .int 0])), (q3, .inl (cI, 12, .inl (fun _ => 0))), (q4, .inr (10, [.ref q5, .int 0, .int 0])), (q5, .inl (cI, 12, .inl (fun _ => (-1)))), (q6, .inr (6, [.ref q7, .ref q10, .ref q16, .ref q17, .int 0, .int 0, .int 0, .int 0, .int 0])), (q7, .inr (3, [.ref q8, .int 0])), (q8, .inl (c2, 13, .inr (.inr (.inr (.inr (fun i => if i < 13 then some (r9 i) else none)))))), (r9 0, .inl (cI, 12, .inl (fun _ => 0))), (q10, .inr (5, [.ref q11, .ref q14, .ref q15, .int 0, .int 0, .int 0])), (q11, .inr (3, [.ref q12, .int 0])), (q12, .inl (c2, 13, .inr (.inr (.inr (.inr (fun i => if i < 13 then some (r13 i) else none)))))), (r13 0, .inl (cI, 12, .inl (fun _ => 0))), (q14, .inl (cI, 4096, .inl (fun _ => 0))), (q18, .inr (9, [.ref q19, .ref q22, .int 0, .int (-1)])), (q19, .inr (3, [.ref q20, .int 0])), (q20, .inl (c2, 13, .inr (.inr (.inr (.inr (fun i => if i < 13 then some (r21 i) else none)))))), (r21 0, .inl (cI, 12, .inl (fun _ => 0))), (q23, .inr (1, [.int 0, .ref q24, .ref q25, .ref q26, .ref q27, .int 0, .int (-1), .int (-1)])), (q28, .inr (1, [.int 1, .ref q29, .ref q30, .ref q31, .ref q32, .int 0, .int (-1), .int (-1)])), (q33, .inr (7, [.ref q34, .ref q35, .int 0, .int (-1)])), (q35, .inl (cI, 12, .inl (fun _ => 0))), (q37, .inr (2, [.ref q38, .ref q39, .int 0, .int (-1)])), (q40, .inr (0, [.ref q42, .ref q41, .ref q43, .int 0, .int 0, .int 0, .int 0, .int (-1)])), (q42, .inl (cI, 4096, .inl (fun _ => 0))), (q44, .inr (0, [.ref q46, .ref q45, .ref q47, .int 0, .int 0, .int 0, .int 0, .int (-1)])), (q46, .inl (cI, 256, .inl (fun _ => 0))), (q48, .inl (cI, 5, .inl (fun _ => 0))), (q49, .inr (12, [.int 0, .ref q50, .int 0, .ref q51, .int 0, .ref q52, .ref q53, .int 0, .ref q54, .int 0, .ref q55, .int (-9), .int 0, .int 0, .ref q56, .ref q57, .ref q58, .ref q59, .ref q60, .int 0, .ref q61, .ref q62, .ref q63, .int 0, .ref q64, .ref q65, .ref q66, .int 0, .ref q67])), (q50, .inl (cI, 5, .inl (fun _ => 0))), (q51, .inl (cI, 12, .inl (fun _ => 0))), (q52, .inl (cI, 12, .inl (fun _ => (-9)))), (q56, .inl (cI, 12, .inl (fun _ => 0))), (q57, .inl (cI, 12, .inl (fun _ => 0))), (q58, .inl (cI, 49152, .inl (fun _ => 0))), (q59, .inl (cI, 4096, .inl (fun _ => 0))), (q67, .inl (cI, 12, .inl (fun _ => 0)))] H) (hD : va_D (fun q : Nat => s.heap.size ≤ q) [(q1, .inr (11, [.ref q2, .ref q4, .ref q6, .ref q18, .ref q23, .ref q28, .ref q33, .ref q36, .ref q37, .ref q40, .ref q44, .ref q48, .int 0])), (q2, .inr (4, [.ref q3, .int 0, .int 0])), (q3, .inl (cI, 12, .inl (fun _ => 0))), (q4, .inr (10, [.ref q5, .int 0, .int 0])), (q5, .inl (cI, 12, .inl (fun _ => (-1)))), (q6, .inr (6, [.ref q7, .ref q10, .ref q16, .ref q17, .int 0, .int 0, .int 0, .int 0, .int 0])), (q7, .inr (3, [.ref q8, .int 0])), (q8, .inl (c2, 13, .inr (.inr (.inr (.inr (fun i => if i < 13 then some (r9 i) else none)))))), (r9 0, .inl (cI, 12, .inl (fun _ => 0))), (q10, .inr (5, [.ref q11, .ref q14, .ref q15, .int 0, .int 0, .int 0])), (q11, .inr (3, [.ref q12, .int 0])), (q12, .inl (c2, 13, .inr (.inr (.inr (.inr (fun i => if i < 13 then some (r13 i) else none)))))), (r13 0, .inl (cI, 12, .inl (fun _ => 0))), (q14, .inl (cI, 4096, .inl (fun _ => 0))), (q18, .inr (9, [.ref q19, .ref q22, .int 0, .int (-1)])), (q19, .inr (3, [.ref q20, .int 0])), (q20, .inl (c2, 13, .inr (.inr (.inr (.inr (fun i => if i < 13 then some (r21 i) else none)))))), (r21 0, .inl (cI, 12, .inl (fun _ => 0))), (q23, .inr (1, [.int 0, .ref q24, .ref q25, .ref q26, .ref q27, .int 0, .int (-1), .int (-1)])), (q28, .inr (1, [.int 1, .ref q29, .ref q30, .ref q31, .ref q32, .int 0, .int (-1), .int (-1)])), (q33, .inr (7, [.ref q34, .ref q35, .int 0, .int (-1)])), (q35, .inl (cI, 12, .inl (fun _ => 0))), (q37, .inr (2, [.ref q38, .ref q39, .int 0, .int (-1)])), (q40, .inr (0, [.ref q42, .ref q41, .ref q43, .int 0, .int 0, .int 0, .int 0, .int (-1)])), (q42, .inl (cI, 4096, .inl (fun _ => 0))), (q44, .inr (0, [.ref q46, .ref q45, .ref q47, .int 0, .int 0, .int 0, .int 0, .int (-1)])), (q46, .inl (cI, 256, .inl (fun _ => 0))), (q48, .inl (cI, 5, .inl (fun _ => 0))), (q49, .inr (12, [.int 0, .ref q50, .int 0, .ref q51, .int 0, .ref q52, .ref q53, .int 0, .ref q54, .int 0, .ref q55, .int (-9), .int 0, .int 0, .ref q56, .ref q57, .ref q58, .ref q59, .ref q60, .int 0, .ref q61, .ref q62, .ref q63, .int 0, .ref q64, .ref q65, .ref q66, .int 0, .ref q67])), (q50, .inl (cI, 5, .inl (fun _ => 0))), (q51, .inl (cI, 12, .inl (fun _ => 0))), (q52, .inl (cI, 12, .inl (fun _ => (-9)))), (q56, .inl (cI, 12, .inl (fun _ => 0))), (q57, .inl (cI, 12, .inl (fun _ => 0))), (q58, .inl (cI, 49152, .inl (fun _ => 0))), (q59, .inl (cI, 4096, .inl (fun _ => 0))), (q67, .inl (cI, 12, .inl (fun _ => 0)))]) (hS : va_S (fun q : Nat => s.heap.size ≤ q) s.heap H locs) (ls : Array Slot) (hl : lv_has ls 4 [(3, .int 0), (2, .ref q49), (1, .ref q1), (0, .ref b)]) : W p l e room_1 s m #[Value.ref b] below meth c H locs 128 161896 (lw_Z below #[Value.ref b] s) (F0 m 849 ls []) := by
  obtain ⟨hx, hb, hr, hml, hown0, hts0, hX, hbl, hlocks, hgv⟩ := id C0
  have hown : s.vm.findClass RL = some m.cls := hown0
  have hts : ∀ w ∈ wsL_law, w.before #[Value.ref b] s = true := fun w h => hts0 w (wsL_law_in w h)
  have hA : ∀ q : Nat, s.heap.size ≤ q → (fun q : Nat => s.heap.size ≤ q) q := fun _ h => h
  have hbA : ¬ (fun q : Nat => s.heap.size ≤ q) b := Nat.not_le.mpr hbl
  generalize hAe : (fun q : Nat => s.heap.size ≤ q) = A at hD hS hA hbA
  have a1_rg := i_rng a1
  have a2_rg := i_rng a2
  have a3_rg := i_rng a3
  obtain ⟨a1_l, a1_h⟩ := a1_rg
  obtain ⟨a2_l, a2_h⟩ := a2_rg
  obtain ⟨a3_l, a3_h⟩ := a3_rg
  rcases (show a2.toInt ≤ (-1) ∨ 0 ≤ a2.toInt by omega) with g_a2_0 | g_a2_0
  ·
    refine lv_aload_n hx hb dL_law_849 rfl (lv_at hl 2 rfl) ?_
    refine lv_aload_n hx hb dL_law_850 rfl (lv_at hl 3 rfl) ?_
    refine lv_iload_n hx hb dL_law_851 rfl (lv_at hl 0 rfl) ?_
    refine lv_iconst (v := 1) hx hb dL_law_852 (by decide) ?_
    refine lv_iadd hx hb dL_law_853 (tk_i (v := 1) (by decide +kernel) ?_)
    refine va_sld hx hb hX hbl hbA hS (vin (by decide +kernel)) dL_law_854 (tk_i (v := a1) ha1 ?_)
    refine lv_aload_n hx hb dL_law_855 rfl (lv_at hl 3 rfl) ?_
    refine lv_iload_n hx hb dL_law_856 rfl (lv_at hl 0 rfl) ?_
    refine lv_iconst (v := 2) hx hb dL_law_857 (by decide) ?_
    refine lv_iadd hx hb dL_law_858 (tk_i (v := 2) (by decide +kernel) ?_)
    refine va_sld hx hb hX hbl hbA hS (vin (by decide +kernel)) dL_law_859 (tk_i (v := a2) ha2 ?_)
    refine kcall_i (D := (dC, dI)) (S := Unit) (v := (-1)) (wc := [(q1, .inr (11, [.ref q2, .ref q4, .ref q6, .ref q18, .ref q23, .ref q28, .ref q33, .ref q36, .ref q37, .ref q40, .ref q44, .ref q48, .int 0]))]) (wr := [(q49, .inr (12, [.int 0, .ref q50, .int 0, .ref q51, .int 0, .ref q52, .ref q53, .int 0, .ref q54, .int 0, .ref q55, .int (-9), .int 0, .int 0, .ref q56, .ref q57, .ref q58, .ref q59, .ref q60, .int 0, .ref q61, .ref q62, .ref q63, .int 0, .ref q64, .ref q65, .ref q66, .int 0, .ref q67]))]) (w1 := fun _ => []) (fun hPc hDc => va_runV (As := [.int a1, .int a2]) (rest := []) ⟨hx, hb, hml, hown, hts⟩ (kX11_row_1 l dC dI cI c2 q1 q2 q4 q6 q18 q23 q28 q33 q36 q37 q40 q44 q48 H.size a1 a2 (by omega) (by omega) (by omega) (by omega)) (cwV 2 hts gL_law_X11_row rfl rfl rfl (by decide +kernel) ⟨Nat.le_of_ble_eq_true rfl, Nat.le_of_ble_eq_true rfl⟩) (pre_V hPc hK hDc hN (ci := 11) (q0 := 0) rfl rfl) rfl rfl hl.1 rfl (lv_room (Nat.le_of_ble_eq_true rfl)) dL_law_860 ⟨Nat.le_of_ble_eq_true rfl, Nat.le_of_ble_eq_true rfl⟩) hP hD hS hA [0] [28] rfl rfl (by decide) (by decide) (by decide) (fun u H locs hP hD hS => ?_)
    have hP : va_P (dC, dI) vwCl [(q49, .inr (12, [.int 0, .ref q50, .int 0, .ref q51, .int 0, .ref q52, .ref q53, .int 0, .ref q54, .int 0, .ref q55, .int (-9), .int 0, .int 0, .ref q56, .ref q57, .ref q58, .ref q59, .ref q60, .int 0, .ref q61, .ref q62, .ref q63, .int 0, .ref q64, .ref q65, .ref q66, .int 0, .ref q67]))] H := hP
    have hD : va_D A [(q49, .inr (12, [.int 0, .ref q50, .int 0, .ref q51, .int 0, .ref q52, .ref q53, .int 0, .ref q54, .int 0, .ref q55, .int (-9), .int 0, .int 0, .ref q56, .ref q57, .ref q58, .ref q59, .ref q60, .int 0, .ref q61, .ref q62, .ref q63, .int 0, .ref q64, .ref q65, .ref q66, .int 0, .ref q67]))] := hD
    refine lv_aload_n hx hb dL_law_863 rfl (lv_at hl 1 rfl) ?_
    refine lv_aload_n hx hb dL_law_864 rfl (lv_at hl 3 rfl) ?_
    refine lv_iload_n hx hb dL_law_865 rfl (lv_at hl 0 rfl) ?_
    refine lv_iconst (v := 1) hx hb dL_law_866 (by decide) ?_
    refine lv_iadd hx hb dL_law_867 (tk_i (v := 1) (by decide +kernel) ?_)
    refine va_sld hx hb hX hbl hbA hS (vin (by decide +kernel)) dL_law_868 (tk_i (v := a1) ha1 ?_)
    refine lv_aload_n hx hb dL_law_869 rfl (lv_at hl 3 rfl) ?_
    refine lv_iload_n hx hb dL_law_870 rfl (lv_at hl 0 rfl) ?_
    refine lv_iconst (v := 2) hx hb dL_law_871 (by decide) ?_
    refine lv_iadd hx hb dL_law_872 (tk_i (v := 2) (by decide +kernel) ?_)
    refine va_sld hx hb hX hbl hbA hS (vin (by decide +kernel)) dL_law_873 (tk_i (v := a2) ha2 ?_)
    refine kcall_i (D := (dC, dI)) (S := Unit) (v := (-1)) (wc := [(q49, .inr (12, [.int 0, .ref q50, .int 0, .ref q51, .int 0, .ref q52, .ref q53, .int 0, .ref q54, .int 0, .ref q55, .int (-9), .int 0, .int 0, .ref q56, .ref q57, .ref q58, .ref q59, .ref q60, .int 0, .ref q61, .ref q62, .ref q63, .int 0, .ref q64, .ref q65, .ref q66, .int 0, .ref q67]))]) (wr := []) (w1 := fun _ => []) (fun hPc hDc => va_runV (As := [.int a1, .int a2]) (rest := [.int (-1)]) ⟨hx, hb, hml, hown, hts⟩ (kX12_row_1 l dC dI cI c2 q49 q50 q51 q52 q53 q54 q55 q56 q57 q58 q59 q60 q61 q62 q63 q64 q65 q66 q67 H.size a1 a2 (by omega) (by omega) (by omega) (by omega)) (cwV 2 hts gL_law_X12_row rfl rfl rfl (by decide +kernel) ⟨Nat.le_of_ble_eq_true rfl, Nat.le_of_ble_eq_true rfl⟩) (pre_V hPc hK hDc hN (ci := 12) (q0 := 0) rfl rfl) rfl rfl hl.1 rfl (lv_room (Nat.le_of_ble_eq_true rfl)) dL_law_874 ⟨Nat.le_of_ble_eq_true rfl, Nat.le_of_ble_eq_true rfl⟩) hP hD hS hA [0] [] rfl rfl (by decide) (by decide) (by decide) (fun u H locs hP hD hS => ?_)
    have hP : va_P (dC, dI) vwCl [] H := hP
    have hD : va_D A [] := hD
    refine lv_icmp_eq (tgt := 1080) hx hb dL_law_877 (by decide) (fun _ => ?_) (fun h9 => absurd (by decide +kernel) h9)
    refine lv_iinc (v := 4) (lv' := [(3, .int 4), (2, .ref q49), (1, .ref q1), (0, .ref b)]) hx hb dL_law_1080 hl (k := 0) rfl (by decide +kernel) (by decide) rfl (fun ls hl => ?_)
    refine lv_goto (tgt := 18) hx hb dL_law_1083 (by decide) ?_
    refine lv_iload_n hx hb dL_law_18 rfl (lv_at hl 0 rfl) ?_
    refine lv_aload_n hx hb dL_law_19 rfl (lv_at hl 3 rfl) ?_
    refine va_slen hx hb hX hbl hbA hS dL_law_20 (tk_i (v := 4) (by decide +kernel) ?_)
    refine lv_iconst (v := 4) hx hb dL_law_21 (by decide) ?_
    refine lv_isub hx hb dL_law_22 (tk_i (v := 0) (by decide +kernel) ?_)
    refine lv_icmp_gt (tgt := 1086) hx hb dL_law_23 (by decide) (fun _ => ?_) (fun h9 => absurd (by decide +kernel) h9)
    refine lv_iconst (v := 1) hx hb dL_law_1086 (by decide) ?_
    refine va_forget (fun q hq => by have h9 := hS.2.2 q hq; rw [← hAe] at h9; exact h9) ?_
    refine W.widen (k := 600000) (n := 7302250) (by decide) (by decide) ?_
    exact lw_ret hx hb hr hlocks dL_law_1087
  ·
    rcases (show a2.toInt ≤ 0 ∨ 1 ≤ a2.toInt by omega) with g_a2_1 | g_a2_1
    ·
      rcases (show a1.toInt ≤ (-1) ∨ 0 ≤ a1.toInt by omega) with g_a1_0 | g_a1_0
      ·
        have e_a2 : a2 = 0 := ib_eq (X := 0) (by omega) (by decide +kernel)
        subst e_a2
        refine lv_aload_n hx hb dL_law_849 rfl (lv_at hl 2 rfl) ?_
        refine lv_aload_n hx hb dL_law_850 rfl (lv_at hl 3 rfl) ?_
        refine lv_iload_n hx hb dL_law_851 rfl (lv_at hl 0 rfl) ?_
        refine lv_iconst (v := 1) hx hb dL_law_852 (by decide) ?_
        refine lv_iadd hx hb dL_law_853 (tk_i (v := 1) (by decide +kernel) ?_)
        refine va_sld hx hb hX hbl hbA hS (vin (by decide +kernel)) dL_law_854 (tk_i (v := a1) ha1 ?_)
        refine lv_aload_n hx hb dL_law_855 rfl (lv_at hl 3 rfl) ?_
        refine lv_iload_n hx hb dL_law_856 rfl (lv_at hl 0 rfl) ?_
        refine lv_iconst (v := 2) hx hb dL_law_857 (by decide) ?_
        refine lv_iadd hx hb dL_law_858 (tk_i (v := 2) (by decide +kernel) ?_)
        refine va_sld hx hb hX hbl hbA hS (vin (by decide +kernel)) dL_law_859 (tk_i (v := 0) ha2 ?_)
        refine kcall_i (D := (dC, dI)) (S := Unit) (v := (-3)) (wc := [(q1, .inr (11, [.ref q2, .ref q4, .ref q6, .ref q18, .ref q23, .ref q28, .ref q33, .ref q36, .ref q37, .ref q40, .ref q44, .ref q48, .int 0])), (q4, .inr (10, [.ref q5, .int 0, .int 0])), (q48, .inl (cI, 5, .inl (fun _ => 0)))]) (wr := [(q49, .inr (12, [.int 0, .ref q50, .int 0, .ref q51, .int 0, .ref q52, .ref q53, .int 0, .ref q54, .int 0, .ref q55, .int (-9), .int 0, .int 0, .ref q56, .ref q57, .ref q58, .ref q59, .ref q60, .int 0, .ref q61, .ref q62, .ref q63, .int 0, .ref q64, .ref q65, .ref q66, .int 0, .ref q67])), (q50, .inl (cI, 5, .inl (fun _ => 0)))]) (w1 := fun _ => []) (fun hPc hDc => va_runV (As := [.int a1, .int 0]) (rest := []) ⟨hx, hb, hml, hown, hts⟩ (kX11_row_2 l dC dI cI c2 q1 q4 q48 q2 q6 q18 q23 q28 q33 q36 q37 q40 q44 q5 H.size a1 (by omega) (by omega)) (cwV 2 hts gL_law_X11_row rfl rfl rfl (by decide +kernel) ⟨Nat.le_of_ble_eq_true rfl, Nat.le_of_ble_eq_true rfl⟩) (pre_V hPc hK hDc hN (ci := 11) (q0 := 0) rfl rfl) rfl rfl hl.1 rfl (lv_room (Nat.le_of_ble_eq_true rfl)) dL_law_860 ⟨Nat.le_of_ble_eq_true rfl, Nat.le_of_ble_eq_true rfl⟩) hP hD hS hA [0, 3, 27] [28, 29] rfl rfl (by decide) (by decide) (by decide) (fun u H locs hP hD hS => ?_)
        have hP : va_P (dC, dI) vwCl [(q49, .inr (12, [.int 0, .ref q50, .int 0, .ref q51, .int 0, .ref q52, .ref q53, .int 0, .ref q54, .int 0, .ref q55, .int (-9), .int 0, .int 0, .ref q56, .ref q57, .ref q58, .ref q59, .ref q60, .int 0, .ref q61, .ref q62, .ref q63, .int 0, .ref q64, .ref q65, .ref q66, .int 0, .ref q67])), (q50, .inl (cI, 5, .inl (fun _ => 0)))] H := hP
        have hD : va_D A [(q49, .inr (12, [.int 0, .ref q50, .int 0, .ref q51, .int 0, .ref q52, .ref q53, .int 0, .ref q54, .int 0, .ref q55, .int (-9), .int 0, .int 0, .ref q56, .ref q57, .ref q58, .ref q59, .ref q60, .int 0, .ref q61, .ref q62, .ref q63, .int 0, .ref q64, .ref q65, .ref q66, .int 0, .ref q67])), (q50, .inl (cI, 5, .inl (fun _ => 0)))] := hD
        refine lv_aload_n hx hb dL_law_863 rfl (lv_at hl 1 rfl) ?_
        refine lv_aload_n hx hb dL_law_864 rfl (lv_at hl 3 rfl) ?_
        refine lv_iload_n hx hb dL_law_865 rfl (lv_at hl 0 rfl) ?_
        refine lv_iconst (v := 1) hx hb dL_law_866 (by decide) ?_
        refine lv_iadd hx hb dL_law_867 (tk_i (v := 1) (by decide +kernel) ?_)
        refine va_sld hx hb hX hbl hbA hS (vin (by decide +kernel)) dL_law_868 (tk_i (v := a1) ha1 ?_)
        refine lv_aload_n hx hb dL_law_869 rfl (lv_at hl 3 rfl) ?_
        refine lv_iload_n hx hb dL_law_870 rfl (lv_at hl 0 rfl) ?_
        refine lv_iconst (v := 2) hx hb dL_law_871 (by decide) ?_
        refine lv_iadd hx hb dL_law_872 (tk_i (v := 2) (by decide +kernel) ?_)
        refine va_sld hx hb hX hbl hbA hS (vin (by decide +kernel)) dL_law_873 (tk_i (v := 0) ha2 ?_)
        refine kcall_i (D := (dC, dI)) (S := Unit) (v := (-3)) (wc := [(q49, .inr (12, [.int 0, .ref q50, .int 0, .ref q51, .int 0, .ref q52, .ref q53, .int 0, .ref q54, .int 0, .ref q55, .int (-9), .int 0, .int 0, .ref q56, .ref q57, .ref q58, .ref q59, .ref q60, .int 0, .ref q61, .ref q62, .ref q63, .int 0, .ref q64, .ref q65, .ref q66, .int 0, .ref q67])), (q50, .inl (cI, 5, .inl (fun _ => 0)))]) (wr := []) (w1 := fun _ => []) (fun hPc hDc => va_runV (As := [.int a1, .int 0]) (rest := [.int (-3)]) ⟨hx, hb, hml, hown, hts⟩ (kX12_row_2 l dC dI cI c2 q49 q50 q51 q52 q53 q54 q55 q56 q57 q58 q59 q60 q61 q62 q63 q64 q65 q66 q67 H.size a1 (by omega) (by omega)) (cwV 2 hts gL_law_X12_row rfl rfl rfl (by decide +kernel) ⟨Nat.le_of_ble_eq_true rfl, Nat.le_of_ble_eq_true rfl⟩) (pre_V hPc hK hDc hN (ci := 12) (q0 := 0) rfl rfl) rfl rfl hl.1 rfl (lv_room (Nat.le_of_ble_eq_true rfl)) dL_law_874 ⟨Nat.le_of_ble_eq_true rfl, Nat.le_of_ble_eq_true rfl⟩) hP hD hS hA [0, 1] [] rfl rfl (by decide) (by decide) (by decide) (fun u H locs hP hD hS => ?_)
        have hP : va_P (dC, dI) vwCl [] H := hP
        have hD : va_D A [] := hD
        refine lv_icmp_eq (tgt := 1080) hx hb dL_law_877 (by decide) (fun _ => ?_) (fun h9 => absurd (by decide +kernel) h9)
        refine lv_iinc (v := 4) (lv' := [(3, .int 4), (2, .ref q49), (1, .ref q1), (0, .ref b)]) hx hb dL_law_1080 hl (k := 0) rfl (by decide +kernel) (by decide) rfl (fun ls hl => ?_)
        refine lv_goto (tgt := 18) hx hb dL_law_1083 (by decide) ?_
        refine lv_iload_n hx hb dL_law_18 rfl (lv_at hl 0 rfl) ?_
        refine lv_aload_n hx hb dL_law_19 rfl (lv_at hl 3 rfl) ?_
        refine va_slen hx hb hX hbl hbA hS dL_law_20 (tk_i (v := 4) (by decide +kernel) ?_)
        refine lv_iconst (v := 4) hx hb dL_law_21 (by decide) ?_
        refine lv_isub hx hb dL_law_22 (tk_i (v := 0) (by decide +kernel) ?_)
        refine lv_icmp_gt (tgt := 1086) hx hb dL_law_23 (by decide) (fun _ => ?_) (fun h9 => absurd (by decide +kernel) h9)
        refine lv_iconst (v := 1) hx hb dL_law_1086 (by decide) ?_
        refine va_forget (fun q hq => by have h9 := hS.2.2 q hq; rw [← hAe] at h9; exact h9) ?_
        refine W.widen (k := 600000) (n := 7302250) (by decide) (by decide) ?_
        exact lw_ret hx hb hr hlocks dL_law_1087
      ·
        rcases (show a1.toInt ≤ 11 ∨ 12 ≤ a1.toInt by omega) with g_a1_12 | g_a1_12
        ·
          have e_a2 : a2 = 0 := ib_eq (X := 0) (by omega) (by decide +kernel)
          subst e_a2
          refine lv_aload_n hx hb dL_law_849 rfl (lv_at hl 2 rfl) ?_
          refine lv_aload_n hx hb dL_law_850 rfl (lv_at hl 3 rfl) ?_
          refine lv_iload_n hx hb dL_law_851 rfl (lv_at hl 0 rfl) ?_
          refine lv_iconst (v := 1) hx hb dL_law_852 (by decide) ?_
          refine lv_iadd hx hb dL_law_853 (tk_i (v := 1) (by decide +kernel) ?_)
          refine va_sld hx hb hX hbl hbA hS (vin (by decide +kernel)) dL_law_854 (tk_i (v := a1) ha1 ?_)
          refine lv_aload_n hx hb dL_law_855 rfl (lv_at hl 3 rfl) ?_
          refine lv_iload_n hx hb dL_law_856 rfl (lv_at hl 0 rfl) ?_
          refine lv_iconst (v := 2) hx hb dL_law_857 (by decide) ?_
          refine lv_iadd hx hb dL_law_858 (tk_i (v := 2) (by decide +kernel) ?_)
          refine va_sld hx hb hX hbl hbA hS (vin (by decide +kernel)) dL_law_859 (tk_i (v := 0) ha2 ?_)
          refine kcall_i (D := (dC, dI)) (S := Unit) (v := 1) (wc := [(q1, .inr (11, [.ref q2, .ref q4, .ref q6, .ref q18, .ref q23, .ref q28, .ref q33, .ref q36, .ref q37, .ref q40, .ref q44, .ref q48, .int 0])), (q4, .inr (10, [.ref q5, .int 0, .int 0])), (q5, .inl (cI, 12, .inl (fun _ => (-1))))]) (wr := [(q49, .inr (12, [.int 0, .ref q50, .int 0, .ref q51, .int 0, .ref q52, .ref q53, .int 0, .ref q54, .int 0, .ref q55, .int (-9), .int 0, .int 0, .ref q56, .ref q57, .ref q58, .ref q59, .ref q60, .int 0, .ref q61, .ref q62, .ref q63, .int 0, .ref q64, .ref q65, .ref q66, .int 0, .ref q67])), (q52, .inl (cI, 12, .inl (fun _ => (-9))))]) (w1 := fun _ => []) (fun hPc hDc => va_runV (As := [.int a1, .int 0]) (rest := []) ⟨hx, hb, hml, hown, hts⟩ (kX11_row_3 l dC dI cI c2 q1 q4 q5 q2 q6 q18 q23 q28 q33 q36 q37 q40 q44 q48 H.size a1 (by omega) (by omega)) (cwV 2 hts gL_law_X11_row rfl rfl rfl (by decide +kernel) ⟨Nat.le_of_ble_eq_true rfl, Nat.le_of_ble_eq_true rfl⟩) (pre_V hPc hK hDc hN (ci := 11) (q0 := 0) rfl rfl) rfl rfl hl.1 rfl (lv_room (Nat.le_of_ble_eq_true rfl)) dL_law_860 ⟨Nat.le_of_ble_eq_true rfl, Nat.le_of_ble_eq_true rfl⟩) hP hD hS hA [0, 3, 4] [28, 31] rfl rfl (by decide) (by decide) (by decide) (fun u H locs hP hD hS => ?_)
          have hP : va_P (dC, dI) vwCl [(q49, .inr (12, [.int 0, .ref q50, .int 0, .ref q51, .int 0, .ref q52, .ref q53, .int 0, .ref q54, .int 0, .ref q55, .int (-9), .int 0, .int 0, .ref q56, .ref q57, .ref q58, .ref q59, .ref q60, .int 0, .ref q61, .ref q62, .ref q63, .int 0, .ref q64, .ref q65, .ref q66, .int 0, .ref q67])), (q52, .inl (cI, 12, .inl (fun _ => (-9))))] H := hP
          have hD : va_D A [(q49, .inr (12, [.int 0, .ref q50, .int 0, .ref q51, .int 0, .ref q52, .ref q53, .int 0, .ref q54, .int 0, .ref q55, .int (-9), .int 0, .int 0, .ref q56, .ref q57, .ref q58, .ref q59, .ref q60, .int 0, .ref q61, .ref q62, .ref q63, .int 0, .ref q64, .ref q65, .ref q66, .int 0, .ref q67])), (q52, .inl (cI, 12, .inl (fun _ => (-9))))] := hD
          refine lv_aload_n hx hb dL_law_863 rfl (lv_at hl 1 rfl) ?_
          refine lv_aload_n hx hb dL_law_864 rfl (lv_at hl 3 rfl) ?_
          refine lv_iload_n hx hb dL_law_865 rfl (lv_at hl 0 rfl) ?_
          refine lv_iconst (v := 1) hx hb dL_law_866 (by decide) ?_
          refine lv_iadd hx hb dL_law_867 (tk_i (v := 1) (by decide +kernel) ?_)
          refine va_sld hx hb hX hbl hbA hS (vin (by decide +kernel)) dL_law_868 (tk_i (v := a1) ha1 ?_)
          refine lv_aload_n hx hb dL_law_869 rfl (lv_at hl 3 rfl) ?_
          refine lv_iload_n hx hb dL_law_870 rfl (lv_at hl 0 rfl) ?_
          refine lv_iconst (v := 2) hx hb dL_law_871 (by decide) ?_
          refine lv_iadd hx hb dL_law_872 (tk_i (v := 2) (by decide +kernel) ?_)
          refine va_sld hx hb hX hbl hbA hS (vin (by decide +kernel)) dL_law_873 (tk_i (v := 0) ha2 ?_)
          refine kcall_i (D := (dC, dI)) (S := Unit) (v := 1) (wc := [(q49, .inr (12, [.int 0, .ref q50, .int 0, .ref q51, .int 0, .ref q52, .ref q53, .int 0, .ref q54, .int 0, .ref q55, .int (-9), .int 0, .int 0, .ref q56, .ref q57, .ref q58, .ref q59, .ref q60, .int 0, .ref q61, .ref q62, .ref q63, .int 0, .ref q64, .ref q65, .ref q66, .int 0, .ref q67])), (q52, .inl (cI, 12, .inl (fun _ => (-9))))]) (wr := []) (w1 := fun _ => []) (fun hPc hDc => va_runV (As := [.int a1, .int 0]) (rest := [.int 1]) ⟨hx, hb, hml, hown, hts⟩ (kX12_row_3 l dC dI cI c2 q49 q52 q50 q51 q53 q54 q55 q56 q57 q58 q59 q60 q61 q62 q63 q64 q65 q66 q67 H.size a1 (by omega) (by omega)) (cwV 2 hts gL_law_X12_row rfl rfl rfl (by decide +kernel) ⟨Nat.le_of_ble_eq_true rfl, Nat.le_of_ble_eq_true rfl⟩) (pre_V hPc hK hDc hN (ci := 12) (q0 := 0) rfl rfl) rfl rfl hl.1 rfl (lv_room (Nat.le_of_ble_eq_true rfl)) dL_law_874 ⟨Nat.le_of_ble_eq_true rfl, Nat.le_of_ble_eq_true rfl⟩) hP hD hS hA [0, 1] [] rfl rfl (by decide) (by decide) (by decide) (fun u H locs hP hD hS => ?_)
          have hP : va_P (dC, dI) vwCl [] H := hP
          have hD : va_D A [] := hD
          refine lv_icmp_eq (tgt := 1080) hx hb dL_law_877 (by decide) (fun _ => ?_) (fun h9 => absurd (by decide +kernel) h9)
          refine lv_iinc (v := 4) (lv' := [(3, .int 4), (2, .ref q49), (1, .ref q1), (0, .ref b)]) hx hb dL_law_1080 hl (k := 0) rfl (by decide +kernel) (by decide) rfl (fun ls hl => ?_)
          refine lv_goto (tgt := 18) hx hb dL_law_1083 (by decide) ?_
          refine lv_iload_n hx hb dL_law_18 rfl (lv_at hl 0 rfl) ?_
          refine lv_aload_n hx hb dL_law_19 rfl (lv_at hl 3 rfl) ?_
          refine va_slen hx hb hX hbl hbA hS dL_law_20 (tk_i (v := 4) (by decide +kernel) ?_)
          refine lv_iconst (v := 4) hx hb dL_law_21 (by decide) ?_
          refine lv_isub hx hb dL_law_22 (tk_i (v := 0) (by decide +kernel) ?_)
          refine lv_icmp_gt (tgt := 1086) hx hb dL_law_23 (by decide) (fun _ => ?_) (fun h9 => absurd (by decide +kernel) h9)
          refine lv_iconst (v := 1) hx hb dL_law_1086 (by decide) ?_
          refine va_forget (fun q hq => by have h9 := hS.2.2 q hq; rw [← hAe] at h9; exact h9) ?_
          refine W.widen (k := 600000) (n := 7302250) (by decide) (by decide) ?_
          exact lw_ret hx hb hr hlocks dL_law_1087
        ·
          have e_a2 : a2 = 0 := ib_eq (X := 0) (by omega) (by decide +kernel)
          subst e_a2
          refine lv_aload_n hx hb dL_law_849 rfl (lv_at hl 2 rfl) ?_
          refine lv_aload_n hx hb dL_law_850 rfl (lv_at hl 3 rfl) ?_
          refine lv_iload_n hx hb dL_law_851 rfl (lv_at hl 0 rfl) ?_
          refine lv_iconst (v := 1) hx hb dL_law_852 (by decide) ?_
          refine lv_iadd hx hb dL_law_853 (tk_i (v := 1) (by decide +kernel) ?_)
          refine va_sld hx hb hX hbl hbA hS (vin (by decide +kernel)) dL_law_854 (tk_i (v := a1) ha1 ?_)
          refine lv_aload_n hx hb dL_law_855 rfl (lv_at hl 3 rfl) ?_
          refine lv_iload_n hx hb dL_law_856 rfl (lv_at hl 0 rfl) ?_
          refine lv_iconst (v := 2) hx hb dL_law_857 (by decide) ?_
          refine lv_iadd hx hb dL_law_858 (tk_i (v := 2) (by decide +kernel) ?_)
          refine va_sld hx hb hX hbl hbA hS (vin (by decide +kernel)) dL_law_859 (tk_i (v := 0) ha2 ?_)
          refine kcall_i (D := (dC, dI)) (S := Unit) (v := (-3)) (wc := [(q1, .inr (11, [.ref q2, .ref q4, .ref q6, .ref q18, .ref q23, .ref q28, .ref q33, .ref q36, .ref q37, .ref q40, .ref q44, .ref q48, .int 0])), (q4, .inr (10, [.ref q5, .int 0, .int 0])), (q48, .inl (cI, 5, .inl (fun _ => 0)))]) (wr := [(q49, .inr (12, [.int 0, .ref q50, .int 0, .ref q51, .int 0, .ref q52, .ref q53, .int 0, .ref q54, .int 0, .ref q55, .int (-9), .int 0, .int 0, .ref q56, .ref q57, .ref q58, .ref q59, .ref q60, .int 0, .ref q61, .ref q62, .ref q63, .int 0, .ref q64, .ref q65, .ref q66, .int 0, .ref q67])), (q50, .inl (cI, 5, .inl (fun _ => 0)))]) (w1 := fun _ => []) (fun hPc hDc => va_runV (As := [.int a1, .int 0]) (rest := []) ⟨hx, hb, hml, hown, hts⟩ (kX11_row_4 l dC dI cI c2 q1 q4 q48 q2 q6 q18 q23 q28 q33 q36 q37 q40 q44 q5 H.size a1 (by omega) (by omega)) (cwV 2 hts gL_law_X11_row rfl rfl rfl (by decide +kernel) ⟨Nat.le_of_ble_eq_true rfl, Nat.le_of_ble_eq_true rfl⟩) (pre_V hPc hK hDc hN (ci := 11) (q0 := 0) rfl rfl) rfl rfl hl.1 rfl (lv_room (Nat.le_of_ble_eq_true rfl)) dL_law_860 ⟨Nat.le_of_ble_eq_true rfl, Nat.le_of_ble_eq_true rfl⟩) hP hD hS hA [0, 3, 27] [28, 29] rfl rfl (by decide) (by decide) (by decide) (fun u H locs hP hD hS => ?_)
          have hP : va_P (dC, dI) vwCl [(q49, .inr (12, [.int 0, .ref q50, .int 0, .ref q51, .int 0, .ref q52, .ref q53, .int 0, .ref q54, .int 0, .ref q55, .int (-9), .int 0, .int 0, .ref q56, .ref q57, .ref q58, .ref q59, .ref q60, .int 0, .ref q61, .ref q62, .ref q63, .int 0, .ref q64, .ref q65, .ref q66, .int 0, .ref q67])), (q50, .inl (cI, 5, .inl (fun _ => 0)))] H := hP
          have hD : va_D A [(q49, .inr (12, [.int 0, .ref q50, .int 0, .ref q51, .int 0, .ref q52, .ref q53, .int 0, .ref q54, .int 0, .ref q55, .int (-9), .int 0, .int 0, .ref q56, .ref q57, .ref q58, .ref q59, .ref q60, .int 0, .ref q61, .ref q62, .ref q63, .int 0, .ref q64, .ref q65, .ref q66, .int 0, .ref q67])), (q50, .inl (cI, 5, .inl (fun _ => 0)))] := hD
          refine lv_aload_n hx hb dL_law_863 rfl (lv_at hl 1 rfl) ?_
          refine lv_aload_n hx hb dL_law_864 rfl (lv_at hl 3 rfl) ?_
          refine lv_iload_n hx hb dL_law_865 rfl (lv_at hl 0 rfl) ?_
          refine lv_iconst (v := 1) hx hb dL_law_866 (by decide) ?_
          refine lv_iadd hx hb dL_law_867 (tk_i (v := 1) (by decide +kernel) ?_)
          refine va_sld hx hb hX hbl hbA hS (vin (by decide +kernel)) dL_law_868 (tk_i (v := a1) ha1 ?_)
          refine lv_aload_n hx hb dL_law_869 rfl (lv_at hl 3 rfl) ?_
          refine lv_iload_n hx hb dL_law_870 rfl (lv_at hl 0 rfl) ?_
          refine lv_iconst (v := 2) hx hb dL_law_871 (by decide) ?_
          refine lv_iadd hx hb dL_law_872 (tk_i (v := 2) (by decide +kernel) ?_)
          refine va_sld hx hb hX hbl hbA hS (vin (by decide +kernel)) dL_law_873 (tk_i (v := 0) ha2 ?_)
          refine kcall_i (D := (dC, dI)) (S := Unit) (v := (-3)) (wc := [(q49, .inr (12, [.int 0, .ref q50, .int 0, .ref q51, .int 0, .ref q52, .ref q53, .int 0, .ref q54, .int 0, .ref q55, .int (-9), .int 0, .int 0, .ref q56, .ref q57, .ref q58, .ref q59, .ref q60, .int 0, .ref q61, .ref q62, .ref q63, .int 0, .ref q64, .ref q65, .ref q66, .int 0, .ref q67])), (q50, .inl (cI, 5, .inl (fun _ => 0)))]) (wr := []) (w1 := fun _ => []) (fun hPc hDc => va_runV (As := [.int a1, .int 0]) (rest := [.int (-3)]) ⟨hx, hb, hml, hown, hts⟩ (kX12_row_4 l dC dI cI c2 q49 q50 q51 q52 q53 q54 q55 q56 q57 q58 q59 q60 q61 q62 q63 q64 q65 q66 q67 H.size a1 (by omega) (by omega)) (cwV 2 hts gL_law_X12_row rfl rfl rfl (by decide +kernel) ⟨Nat.le_of_ble_eq_true rfl, Nat.le_of_ble_eq_true rfl⟩) (pre_V hPc hK hDc hN (ci := 12) (q0 := 0) rfl rfl) rfl rfl hl.1 rfl (lv_room (Nat.le_of_ble_eq_true rfl)) dL_law_874 ⟨Nat.le_of_ble_eq_true rfl, Nat.le_of_ble_eq_true rfl⟩) hP hD hS hA [0, 1] [] rfl rfl (by decide) (by decide) (by decide) (fun u H locs hP hD hS => ?_)
          have hP : va_P (dC, dI) vwCl [] H := hP
          have hD : va_D A [] := hD
          refine lv_icmp_eq (tgt := 1080) hx hb dL_law_877 (by decide) (fun _ => ?_) (fun h9 => absurd (by decide +kernel) h9)
          refine lv_iinc (v := 4) (lv' := [(3, .int 4), (2, .ref q49), (1, .ref q1), (0, .ref b)]) hx hb dL_law_1080 hl (k := 0) rfl (by decide +kernel) (by decide) rfl (fun ls hl => ?_)
          refine lv_goto (tgt := 18) hx hb dL_law_1083 (by decide) ?_
          refine lv_iload_n hx hb dL_law_18 rfl (lv_at hl 0 rfl) ?_
          refine lv_aload_n hx hb dL_law_19 rfl (lv_at hl 3 rfl) ?_
          refine va_slen hx hb hX hbl hbA hS dL_law_20 (tk_i (v := 4) (by decide +kernel) ?_)
          refine lv_iconst (v := 4) hx hb dL_law_21 (by decide) ?_
          refine lv_isub hx hb dL_law_22 (tk_i (v := 0) (by decide +kernel) ?_)
          refine lv_icmp_gt (tgt := 1086) hx hb dL_law_23 (by decide) (fun _ => ?_) (fun h9 => absurd (by decide +kernel) h9)
          refine lv_iconst (v := 1) hx hb dL_law_1086 (by decide) ?_
          refine va_forget (fun q hq => by have h9 := hS.2.2 q hq; rw [← hAe] at h9; exact h9) ?_
          refine W.widen (k := 600000) (n := 7302250) (by decide) (by decide) ?_
          exact lw_ret hx hb hr hlocks dL_law_1087
    ·
      refine lv_aload_n hx hb dL_law_849 rfl (lv_at hl 2 rfl) ?_
      refine lv_aload_n hx hb dL_law_850 rfl (lv_at hl 3 rfl) ?_
      refine lv_iload_n hx hb dL_law_851 rfl (lv_at hl 0 rfl) ?_
      refine lv_iconst (v := 1) hx hb dL_law_852 (by decide) ?_
      refine lv_iadd hx hb dL_law_853 (tk_i (v := 1) (by decide +kernel) ?_)
      refine va_sld hx hb hX hbl hbA hS (vin (by decide +kernel)) dL_law_854 (tk_i (v := a1) ha1 ?_)
      refine lv_aload_n hx hb dL_law_855 rfl (lv_at hl 3 rfl) ?_
      refine lv_iload_n hx hb dL_law_856 rfl (lv_at hl 0 rfl) ?_
      refine lv_iconst (v := 2) hx hb dL_law_857 (by decide) ?_
      refine lv_iadd hx hb dL_law_858 (tk_i (v := 2) (by decide +kernel) ?_)
      refine va_sld hx hb hX hbl hbA hS (vin (by decide +kernel)) dL_law_859 (tk_i (v := a2) ha2 ?_)
      refine kcall_i (D := (dC, dI)) (S := Unit) (v := (-1)) (wc := [(q1, .inr (11, [.ref q2, .ref q4, .ref q6, .ref q18, .ref q23, .ref q28, .ref q33, .ref q36, .ref q37, .ref q40, .ref q44, .ref q48, .int 0])), (q4, .inr (10, [.ref q5, .int 0, .int 0]))]) (wr := [(q49, .inr (12, [.int 0, .ref q50, .int 0, .ref q51, .int 0, .ref q52, .ref q53, .int 0, .ref q54, .int 0, .ref q55, .int (-9), .int 0, .int 0, .ref q56, .ref q57, .ref q58, .ref q59, .ref q60, .int 0, .ref q61, .ref q62, .ref q63, .int 0, .ref q64, .ref q65, .ref q66, .int 0, .ref q67]))]) (w1 := fun _ => []) (fun hPc hDc => va_runV (As := [.int a1, .int a2]) (rest := []) ⟨hx, hb, hml, hown, hts⟩ (kX11_row_5 l dC dI cI c2 q1 q4 q2 q6 q18 q23 q28 q33 q36 q37 q40 q44 q48 q5 H.size a1 a2 (by omega) (by omega) (by omega) (by omega)) (cwV 2 hts gL_law_X11_row rfl rfl rfl (by decide +kernel) ⟨Nat.le_of_ble_eq_true rfl, Nat.le_of_ble_eq_true rfl⟩) (pre_V hPc hK hDc hN (ci := 11) (q0 := 0) rfl rfl) rfl rfl hl.1 rfl (lv_room (Nat.le_of_ble_eq_true rfl)) dL_law_860 ⟨Nat.le_of_ble_eq_true rfl, Nat.le_of_ble_eq_true rfl⟩) hP hD hS hA [0, 3] [28] rfl rfl (by decide) (by decide) (by decide) (fun u H locs hP hD hS => ?_)
      have hP : va_P (dC, dI) vwCl [(q49, .inr (12, [.int 0, .ref q50, .int 0, .ref q51, .int 0, .ref q52, .ref q53, .int 0, .ref q54, .int 0, .ref q55, .int (-9), .int 0, .int 0, .ref q56, .ref q57, .ref q58, .ref q59, .ref q60, .int 0, .ref q61, .ref q62, .ref q63, .int 0, .ref q64, .ref q65, .ref q66, .int 0, .ref q67]))] H := hP
      have hD : va_D A [(q49, .inr (12, [.int 0, .ref q50, .int 0, .ref q51, .int 0, .ref q52, .ref q53, .int 0, .ref q54, .int 0, .ref q55, .int (-9), .int 0, .int 0, .ref q56, .ref q57, .ref q58, .ref q59, .ref q60, .int 0, .ref q61, .ref q62, .ref q63, .int 0, .ref q64, .ref q65, .ref q66, .int 0, .ref q67]))] := hD
      refine lv_aload_n hx hb dL_law_863 rfl (lv_at hl 1 rfl) ?_
      refine lv_aload_n hx hb dL_law_864 rfl (lv_at hl 3 rfl) ?_
      refine lv_iload_n hx hb dL_law_865 rfl (lv_at hl 0 rfl) ?_
      refine lv_iconst (v := 1) hx hb dL_law_866 (by decide) ?_
      refine lv_iadd hx hb dL_law_867 (tk_i (v := 1) (by decide +kernel) ?_)
      refine va_sld hx hb hX hbl hbA hS (vin (by decide +kernel)) dL_law_868 (tk_i (v := a1) ha1 ?_)
      refine lv_aload_n hx hb dL_law_869 rfl (lv_at hl 3 rfl) ?_
      refine lv_iload_n hx hb dL_law_870 rfl (lv_at hl 0 rfl) ?_
      refine lv_iconst (v := 2) hx hb dL_law_871 (by decide) ?_
      refine lv_iadd hx hb dL_law_872 (tk_i (v := 2) (by decide +kernel) ?_)
      refine va_sld hx hb hX hbl hbA hS (vin (by decide +kernel)) dL_law_873 (tk_i (v := a2) ha2 ?_)
      refine kcall_i (D := (dC, dI)) (S := Unit) (v := (-1)) (wc := [(q49, .inr (12, [.int 0, .ref q50, .int 0, .ref q51, .int 0, .ref q52, .ref q53, .int 0, .ref q54, .int 0, .ref q55, .int (-9), .int 0, .int 0, .ref q56, .ref q57, .ref q58, .ref q59, .ref q60, .int 0, .ref q61, .ref q62, .ref q63, .int 0, .ref q64, .ref q65, .ref q66, .int 0, .ref q67]))]) (wr := []) (w1 := fun _ => []) (fun hPc hDc => va_runV (As := [.int a1, .int a2]) (rest := [.int (-1)]) ⟨hx, hb, hml, hown, hts⟩ (kX12_row_5 l dC dI cI c2 q49 q50 q51 q52 q53 q54 q55 q56 q57 q58 q59 q60 q61 q62 q63 q64 q65 q66 q67 H.size a1 a2 (by omega) (by omega) (by omega) (by omega)) (cwV 2 hts gL_law_X12_row rfl rfl rfl (by decide +kernel) ⟨Nat.le_of_ble_eq_true rfl, Nat.le_of_ble_eq_true rfl⟩) (pre_V hPc hK hDc hN (ci := 12) (q0 := 0) rfl rfl) rfl rfl hl.1 rfl (lv_room (Nat.le_of_ble_eq_true rfl)) dL_law_874 ⟨Nat.le_of_ble_eq_true rfl, Nat.le_of_ble_eq_true rfl⟩) hP hD hS hA [0] [] rfl rfl (by decide) (by decide) (by decide) (fun u H locs hP hD hS => ?_)
      have hP : va_P (dC, dI) vwCl [] H := hP
      have hD : va_D A [] := hD
      refine lv_icmp_eq (tgt := 1080) hx hb dL_law_877 (by decide) (fun _ => ?_) (fun h9 => absurd (by decide +kernel) h9)
      refine lv_iinc (v := 4) (lv' := [(3, .int 4), (2, .ref q49), (1, .ref q1), (0, .ref b)]) hx hb dL_law_1080 hl (k := 0) rfl (by decide +kernel) (by decide) rfl (fun ls hl => ?_)
      refine lv_goto (tgt := 18) hx hb dL_law_1083 (by decide) ?_
      refine lv_iload_n hx hb dL_law_18 rfl (lv_at hl 0 rfl) ?_
      refine lv_aload_n hx hb dL_law_19 rfl (lv_at hl 3 rfl) ?_
      refine va_slen hx hb hX hbl hbA hS dL_law_20 (tk_i (v := 4) (by decide +kernel) ?_)
      refine lv_iconst (v := 4) hx hb dL_law_21 (by decide) ?_
      refine lv_isub hx hb dL_law_22 (tk_i (v := 0) (by decide +kernel) ?_)
      refine lv_icmp_gt (tgt := 1086) hx hb dL_law_23 (by decide) (fun _ => ?_) (fun h9 => absurd (by decide +kernel) h9)
      refine lv_iconst (v := 1) hx hb dL_law_1086 (by decide) ?_
      refine va_forget (fun q hq => by have h9 := hS.2.2 q hq; rw [← hAe] at h9; exact h9) ?_
      refine W.widen (k := 600000) (n := 7302250) (by decide) (by decide) ?_
      exact lw_ret hx hb hr hlocks dL_law_1087
set_option maxHeartbeats 8000000 in
set_option maxRecDepth 100000 in
theorem lc_28 {p : Program} {e : Env} {s : State} {m : MethodId} {below : List Frame} {meth : Method} {c : Code} (l : Launch) {b : Nat} {xs : Nat → Int32} (C0 : lw_At p s m meth c b 4 xs) (dC : Nat → ClassId) (dI : Nat → Nat → Nat) (cI c2 : ClassId) (q1 : Nat) (q2 : Nat) (q3 : Nat) (q4 : Nat) (q5 : Nat) (q6 : Nat) (q7 : Nat) (q8 : Nat) (r9 : Nat → Nat) (q10 : Nat) (q11 : Nat) (q12 : Nat) (r13 : Nat → Nat) (q14 : Nat) (q15 : Nat) (q16 : Nat) (q17 : Nat) (q18 : Nat) (q19 : Nat) (q20 : Nat) (r21 : Nat → Nat) (q22 : Nat) (q23 : Nat) (q24 : Nat) (q25 : Nat) (q26 : Nat) (q27 : Nat) (q28 : Nat) (q29 : Nat) (q30 : Nat) (q31 : Nat) (q32 : Nat) (q33 : Nat) (q34 : Nat) (q35 : Nat) (q36 : Nat) (q37 : Nat) (q38 : Nat) (q39 : Nat) (q40 : Nat) (q41 : Nat) (q42 : Nat) (q43 : Nat) (q44 : Nat) (q45 : Nat) (q46 : Nat) (q47 : Nat) (q48 : Nat) (q49 : Nat) (q50 : Nat) (q51 : Nat) (q52 : Nat) (q53 : Nat) (q54 : Nat) (q55 : Nat) (q56 : Nat) (q57 : Nat) (q58 : Nat) (q59 : Nat) (q60 : Nat) (q61 : Nat) (q62 : Nat) (q63 : Nat) (q64 : Nat) (q65 : Nat) (q66 : Nat) (q67 : Nat) (a1 a2 a3 : Int32) (ha1 : xs (Int32.toNatClampNeg 1) = a1) (ha2 : xs (Int32.toNatClampNeg 2) = a2) (ha3 : xs (Int32.toNatClampNeg 3) = a3) (hK : va_K (dC, dI) vwCl [(cI, .int), (c2, .array .int)] s) (hN : nsAll s) (H : Heap) (locs : List Loc) (hP : va_P (dC, dI) vwCl [(q1, .inr (11, [.ref q2, .ref q4, .ref q6, .ref q18, .ref q23, .ref q28, .ref q33, .ref q36, .ref q37, .ref q40, .ref q44, .ref q48, .int 0])), (q2, .inr (4, [.ref q3, .int 0, .int 0])), (q3, .inl (cI, 12, .inl (fun _ => 0))), (q4, .inr (10, [.ref q5, .int 0, .int 0])), (q5, .inl (cI, 12, .inl (fun _ => (-1)))), (q6, .inr (6, [.ref q7, .ref q10, .ref q16, .ref q17, .int 0, .int 0, .int 0, .int 0, .int 0])), (q7, .inr (3, [.ref q8, .int 0])), (q8, .inl (c2, 13, .inr (.inr (.inr (.inr (fun i => if i < 13 then some (r9 i) else none)))))), (r9 0, .inl (cI, 12, .inl (fun _ => 0))), (q10, .inr (5, [.ref q11, .ref q14, .ref q15, .int 0, .int 0, .int 0])), (q11, .inr (3, [.ref q12, .int 0])), (q12, .inl (c2, 13, .inr (.inr (.inr (.inr (fun i => if i < 13 then some (r13 i) else none)))))), (r13 0, .inl (cI, 12, .inl (fun _ => 0))), (q14, .inl (cI, 4096, .inl (fun _ => 0))), (q18, .inr (9, [.ref q19, .ref q22, .int 0, .int (-1)])), (q19, .inr (3, [.ref q20, .int 0])), (q20, .inl (c2, 13, .inr (.inr (.inr (.inr (fun i => if i < 13 then some (r21 i) else none)))))), (r21 0, .inl (cI, 12, .inl (fun _ => 0))), (q23, .inr (1, [.int 0, .ref q24, .ref q25, .ref q26, .ref q27, .int 0, .int (-1), .int (-1)])), (q28, .inr (1, [.int 1, .ref q29, .ref q30, .ref q31, .ref q32, .int 0, .int (-1), .int (-1)])), (q33, .inr (7, [.ref q34, .ref q35, .int 0, .int (-1)])), (q35, .inl (cI, 12, .inl (fun _ => 0))), (q37, .inr (2, [.ref q38, .ref q39, .int 0, .int (-1)])), (q40, .inr (0, [.ref q42, .ref q41, .ref q43, .int 0, .int 0, .int 0, .int 0, .int (-1)])), (q42, .inl (cI, 4096, .inl (fun _ => 0))), (q44, .inr (0, [.ref q46, .ref q45, .ref q47, .int 0, .int 0, .int 0, .int 0, .int (-1)])), (q46, .inl (cI, 256, .inl (fun _ => 0))), (q48, .inl (cI, 5, .inl (fun _ => 0))), (q49, .inr (12, [.int 0, .ref q50, .int 0, .ref q51, .int 0, .ref q52, .ref q53, .int 0, .ref q54, .int 0, .ref q55, .int (-9), .int 0, .int 0, .ref q56, .ref q57, .ref q58, .ref q59, .ref q60, .int 0, .ref q61, .ref q62, .ref q63, .int 0, .ref q64, .ref q65, .ref q66, .int 0, .ref q67])), (q50, .inl (cI, 5, .inl (fun _ => 0))), (q51, .inl (cI, 12, .inl (fun _ => 0))), (q52, .inl (cI, 12, .inl (fun _ => (-9)))), (q56, .inl (cI, 12, .inl (fun _ => 0))), (q57, .inl (cI, 12, .inl (fun _ => 0))), (q58, .inl (cI, 49152, .inl (fun _ => 0))), (q59, .inl (cI, 4096, .inl (fun _ => 0))), (q67, .inl (cI, 12, .inl (fun _ => 0)))] H) (hD : va_D (fun q : Nat => s.heap.size ≤ q) [(q1, .inr (11, [.ref q2, .ref q4, .ref q6, .ref q18, .ref q23, .ref q28, .ref q33, .ref q36, .ref q37, .ref q40, .ref q44, .ref q48, .int 0])), (q2, .inr (4, [.ref q3, .int 0, .int 0])), (q3, .inl (cI, 12, .inl (fun _ => 0))), (q4, .inr (10, [.ref q5, .int 0, .int 0])), (q5, .inl (cI, 12, .inl (fun _ => (-1)))), (q6, .inr (6, [.ref q7, .ref q10, .ref q16, .ref q17, .int 0, .int 0, .int 0, .int 0, .int 0])), (q7, .inr (3, [.ref q8, .int 0])), (q8, .inl (c2, 13, .inr (.inr (.inr (.inr (fun i => if i < 13 then some (r9 i) else none)))))), (r9 0, .inl (cI, 12, .inl (fun _ => 0))), (q10, .inr (5, [.ref q11, .ref q14, .ref q15, .int 0, .int 0, .int 0])), (q11, .inr (3, [.ref q12, .int 0])), (q12, .inl (c2, 13, .inr (.inr (.inr (.inr (fun i => if i < 13 then some (r13 i) else none)))))), (r13 0, .inl (cI, 12, .inl (fun _ => 0))), (q14, .inl (cI, 4096, .inl (fun _ => 0))), (q18, .inr (9, [.ref q19, .ref q22, .int 0, .int (-1)])), (q19, .inr (3, [.ref q20, .int 0])), (q20, .inl (c2, 13, .inr (.inr (.inr (.inr (fun i => if i < 13 then some (r21 i) else none)))))), (r21 0, .inl (cI, 12, .inl (fun _ => 0))), (q23, .inr (1, [.int 0, .ref q24, .ref q25, .ref q26, .ref q27, .int 0, .int (-1), .int (-1)])), (q28, .inr (1, [.int 1, .ref q29, .ref q30, .ref q31, .ref q32, .int 0, .int (-1), .int (-1)])), (q33, .inr (7, [.ref q34, .ref q35, .int 0, .int (-1)])), (q35, .inl (cI, 12, .inl (fun _ => 0))), (q37, .inr (2, [.ref q38, .ref q39, .int 0, .int (-1)])), (q40, .inr (0, [.ref q42, .ref q41, .ref q43, .int 0, .int 0, .int 0, .int 0, .int (-1)])), (q42, .inl (cI, 4096, .inl (fun _ => 0))), (q44, .inr (0, [.ref q46, .ref q45, .ref q47, .int 0, .int 0, .int 0, .int 0, .int (-1)])), (q46, .inl (cI, 256, .inl (fun _ => 0))), (q48, .inl (cI, 5, .inl (fun _ => 0))), (q49, .inr (12, [.int 0, .ref q50, .int 0, .ref q51, .int 0, .ref q52, .ref q53, .int 0, .ref q54, .int 0, .ref q55, .int (-9), .int 0, .int 0, .ref q56, .ref q57, .ref q58, .ref q59, .ref q60, .int 0, .ref q61, .ref q62, .ref q63, .int 0, .ref q64, .ref q65, .ref q66, .int 0, .ref q67])), (q50, .inl (cI, 5, .inl (fun _ => 0))), (q51, .inl (cI, 12, .inl (fun _ => 0))), (q52, .inl (cI, 12, .inl (fun _ => (-9)))), (q56, .inl (cI, 12, .inl (fun _ => 0))), (q57, .inl (cI, 12, .inl (fun _ => 0))), (q58, .inl (cI, 49152, .inl (fun _ => 0))), (q59, .inl (cI, 4096, .inl (fun _ => 0))), (q67, .inl (cI, 12, .inl (fun _ => 0)))]) (hS : va_S (fun q : Nat => s.heap.size ≤ q) s.heap H locs) (ls : Array Slot) (hl : lv_has ls 4 [(3, .int 0), (2, .ref q49), (1, .ref q1), (0, .ref b)]) : W p l e room_1 s m #[Value.ref b] below meth c H locs 128 161896 (lw_Z below #[Value.ref b] s) (F0 m 882 ls []) := by
  obtain ⟨hx, hb, hr, hml, hown0, hts0, hX, hbl, hlocks, hgv⟩ := id C0
  have hown : s.vm.findClass RL = some m.cls := hown0
  have hts : ∀ w ∈ wsL_law, w.before #[Value.ref b] s = true := fun w h => hts0 w (wsL_law_in w h)
  have hA : ∀ q : Nat, s.heap.size ≤ q → (fun q : Nat => s.heap.size ≤ q) q := fun _ h => h
  have hbA : ¬ (fun q : Nat => s.heap.size ≤ q) b := Nat.not_le.mpr hbl
  generalize hAe : (fun q : Nat => s.heap.size ≤ q) = A at hD hS hA hbA
  have a1_rg := i_rng a1
  have a2_rg := i_rng a2
  have a3_rg := i_rng a3
  obtain ⟨a1_l, a1_h⟩ := a1_rg
  obtain ⟨a2_l, a2_h⟩ := a2_rg
  obtain ⟨a3_l, a3_h⟩ := a3_rg
  rcases (show a1.toInt ≤ (-1) ∨ 0 ≤ a1.toInt by omega) with g_a1_0 | g_a1_0
  ·
    refine lv_aload_n hx hb dL_law_882 rfl (lv_at hl 2 rfl) ?_
    refine lv_aload_n hx hb dL_law_883 rfl (lv_at hl 3 rfl) ?_
    refine lv_iload_n hx hb dL_law_884 rfl (lv_at hl 0 rfl) ?_
    refine lv_iconst (v := 1) hx hb dL_law_885 (by decide) ?_
    refine lv_iadd hx hb dL_law_886 (tk_i (v := 1) (by decide +kernel) ?_)
    refine va_sld hx hb hX hbl hbA hS (vin (by decide +kernel)) dL_law_887 (tk_i (v := a1) ha1 ?_)
    refine kcall_i (D := (dC, dI)) (S := Unit) (v := (-3)) (wc := [(q1, .inr (11, [.ref q2, .ref q4, .ref q6, .ref q18, .ref q23, .ref q28, .ref q33, .ref q36, .ref q37, .ref q40, .ref q44, .ref q48, .int 0])), (q4, .inr (10, [.ref q5, .int 0, .int 0])), (q48, .inl (cI, 5, .inl (fun _ => 0)))]) (wr := [(q49, .inr (12, [.int 0, .ref q50, .int 0, .ref q51, .int 0, .ref q52, .ref q53, .int 0, .ref q54, .int 0, .ref q55, .int (-9), .int 0, .int 0, .ref q56, .ref q57, .ref q58, .ref q59, .ref q60, .int 0, .ref q61, .ref q62, .ref q63, .int 0, .ref q64, .ref q65, .ref q66, .int 0, .ref q67])), (q50, .inl (cI, 5, .inl (fun _ => 0)))]) (w1 := fun _ => []) (fun hPc hDc => va_runV (As := [.int a1]) (rest := []) ⟨hx, hb, hml, hown, hts⟩ (kX11_told_1 l dC dI cI c2 q1 q4 q48 q2 q6 q18 q23 q28 q33 q36 q37 q40 q44 q5 H.size a1 (by omega) (by omega)) (cwV 1 hts gL_law_X11_told rfl rfl rfl (by decide +kernel) ⟨Nat.le_of_ble_eq_true rfl, Nat.le_of_ble_eq_true rfl⟩) (pre_V hPc hK hDc hN (ci := 11) (q0 := 0) rfl rfl) rfl rfl hl.1 rfl (lv_room (Nat.le_of_ble_eq_true rfl)) dL_law_888 ⟨Nat.le_of_ble_eq_true rfl, Nat.le_of_ble_eq_true rfl⟩) hP hD hS hA [0, 3, 27] [28, 29] rfl rfl (by decide) (by decide) (by decide) (fun u H locs hP hD hS => ?_)
    have hP : va_P (dC, dI) vwCl [(q49, .inr (12, [.int 0, .ref q50, .int 0, .ref q51, .int 0, .ref q52, .ref q53, .int 0, .ref q54, .int 0, .ref q55, .int (-9), .int 0, .int 0, .ref q56, .ref q57, .ref q58, .ref q59, .ref q60, .int 0, .ref q61, .ref q62, .ref q63, .int 0, .ref q64, .ref q65, .ref q66, .int 0, .ref q67])), (q50, .inl (cI, 5, .inl (fun _ => 0)))] H := hP
    have hD : va_D A [(q49, .inr (12, [.int 0, .ref q50, .int 0, .ref q51, .int 0, .ref q52, .ref q53, .int 0, .ref q54, .int 0, .ref q55, .int (-9), .int 0, .int 0, .ref q56, .ref q57, .ref q58, .ref q59, .ref q60, .int 0, .ref q61, .ref q62, .ref q63, .int 0, .ref q64, .ref q65, .ref q66, .int 0, .ref q67])), (q50, .inl (cI, 5, .inl (fun _ => 0)))] := hD
    refine lv_aload_n hx hb dL_law_891 rfl (lv_at hl 1 rfl) ?_
    refine lv_aload_n hx hb dL_law_892 rfl (lv_at hl 3 rfl) ?_
    refine lv_iload_n hx hb dL_law_893 rfl (lv_at hl 0 rfl) ?_
    refine lv_iconst (v := 1) hx hb dL_law_894 (by decide) ?_
    refine lv_iadd hx hb dL_law_895 (tk_i (v := 1) (by decide +kernel) ?_)
    refine va_sld hx hb hX hbl hbA hS (vin (by decide +kernel)) dL_law_896 (tk_i (v := a1) ha1 ?_)
    refine kcall_i (D := (dC, dI)) (S := Unit) (v := (-3)) (wc := [(q49, .inr (12, [.int 0, .ref q50, .int 0, .ref q51, .int 0, .ref q52, .ref q53, .int 0, .ref q54, .int 0, .ref q55, .int (-9), .int 0, .int 0, .ref q56, .ref q57, .ref q58, .ref q59, .ref q60, .int 0, .ref q61, .ref q62, .ref q63, .int 0, .ref q64, .ref q65, .ref q66, .int 0, .ref q67])), (q50, .inl (cI, 5, .inl (fun _ => 0)))]) (wr := []) (w1 := fun _ => []) (fun hPc hDc => va_runV (As := [.int a1]) (rest := [.int (-3)]) ⟨hx, hb, hml, hown, hts⟩ (kX12_told_1 l dC dI cI c2 q49 q50 q51 q52 q53 q54 q55 q56 q57 q58 q59 q60 q61 q62 q63 q64 q65 q66 q67 H.size a1 (by omega) (by omega)) (cwV 1 hts gL_law_X12_told rfl rfl rfl (by decide +kernel) ⟨Nat.le_of_ble_eq_true rfl, Nat.le_of_ble_eq_true rfl⟩) (pre_V hPc hK hDc hN (ci := 12) (q0 := 0) rfl rfl) rfl rfl hl.1 rfl (lv_room (Nat.le_of_ble_eq_true rfl)) dL_law_897 ⟨Nat.le_of_ble_eq_true rfl, Nat.le_of_ble_eq_true rfl⟩) hP hD hS hA [0, 1] [] rfl rfl (by decide) (by decide) (by decide) (fun u H locs hP hD hS => ?_)
    have hP : va_P (dC, dI) vwCl [] H := hP
    have hD : va_D A [] := hD
    refine lv_icmp_eq (tgt := 1080) hx hb dL_law_900 (by decide) (fun _ => ?_) (fun h9 => absurd (by decide +kernel) h9)
    refine lv_iinc (v := 4) (lv' := [(3, .int 4), (2, .ref q49), (1, .ref q1), (0, .ref b)]) hx hb dL_law_1080 hl (k := 0) rfl (by decide +kernel) (by decide) rfl (fun ls hl => ?_)
    refine lv_goto (tgt := 18) hx hb dL_law_1083 (by decide) ?_
    refine lv_iload_n hx hb dL_law_18 rfl (lv_at hl 0 rfl) ?_
    refine lv_aload_n hx hb dL_law_19 rfl (lv_at hl 3 rfl) ?_
    refine va_slen hx hb hX hbl hbA hS dL_law_20 (tk_i (v := 4) (by decide +kernel) ?_)
    refine lv_iconst (v := 4) hx hb dL_law_21 (by decide) ?_
    refine lv_isub hx hb dL_law_22 (tk_i (v := 0) (by decide +kernel) ?_)
    refine lv_icmp_gt (tgt := 1086) hx hb dL_law_23 (by decide) (fun _ => ?_) (fun h9 => absurd (by decide +kernel) h9)
    refine lv_iconst (v := 1) hx hb dL_law_1086 (by decide) ?_
    refine va_forget (fun q hq => by have h9 := hS.2.2 q hq; rw [← hAe] at h9; exact h9) ?_
    refine W.widen (k := 600000) (n := 7302250) (by decide) (by decide) ?_
    exact lw_ret hx hb hr hlocks dL_law_1087
  ·
    rcases (show a1.toInt ≤ 11 ∨ 12 ≤ a1.toInt by omega) with g_a1_12 | g_a1_12
    ·
      refine lv_aload_n hx hb dL_law_882 rfl (lv_at hl 2 rfl) ?_
      refine lv_aload_n hx hb dL_law_883 rfl (lv_at hl 3 rfl) ?_
      refine lv_iload_n hx hb dL_law_884 rfl (lv_at hl 0 rfl) ?_
      refine lv_iconst (v := 1) hx hb dL_law_885 (by decide) ?_
      refine lv_iadd hx hb dL_law_886 (tk_i (v := 1) (by decide +kernel) ?_)
      refine va_sld hx hb hX hbl hbA hS (vin (by decide +kernel)) dL_law_887 (tk_i (v := a1) ha1 ?_)
      refine kcall_i (D := (dC, dI)) (S := Unit) (v := (-3)) (wc := [(q1, .inr (11, [.ref q2, .ref q4, .ref q6, .ref q18, .ref q23, .ref q28, .ref q33, .ref q36, .ref q37, .ref q40, .ref q44, .ref q48, .int 0])), (q4, .inr (10, [.ref q5, .int 0, .int 0])), (q5, .inl (cI, 12, .inl (fun _ => (-1)))), (q48, .inl (cI, 5, .inl (fun _ => 0)))]) (wr := [(q49, .inr (12, [.int 0, .ref q50, .int 0, .ref q51, .int 0, .ref q52, .ref q53, .int 0, .ref q54, .int 0, .ref q55, .int (-9), .int 0, .int 0, .ref q56, .ref q57, .ref q58, .ref q59, .ref q60, .int 0, .ref q61, .ref q62, .ref q63, .int 0, .ref q64, .ref q65, .ref q66, .int 0, .ref q67])), (q50, .inl (cI, 5, .inl (fun _ => 0))), (q52, .inl (cI, 12, .inl (fun _ => (-9))))]) (w1 := fun _ => []) (fun hPc hDc => va_runV (As := [.int a1]) (rest := []) ⟨hx, hb, hml, hown, hts⟩ (kX11_told_2 l dC dI cI c2 q1 q4 q5 q48 q2 q6 q18 q23 q28 q33 q36 q37 q40 q44 H.size a1 (by omega) (by omega)) (cwV 1 hts gL_law_X11_told rfl rfl rfl (by decide +kernel) ⟨Nat.le_of_ble_eq_true rfl, Nat.le_of_ble_eq_true rfl⟩) (pre_V hPc hK hDc hN (ci := 11) (q0 := 0) rfl rfl) rfl rfl hl.1 rfl (lv_room (Nat.le_of_ble_eq_true rfl)) dL_law_888 ⟨Nat.le_of_ble_eq_true rfl, Nat.le_of_ble_eq_true rfl⟩) hP hD hS hA [0, 3, 4, 27] [28, 29, 31] rfl rfl (by decide) (by decide) (by decide) (fun u H locs hP hD hS => ?_)
      have hP : va_P (dC, dI) vwCl [(q49, .inr (12, [.int 0, .ref q50, .int 0, .ref q51, .int 0, .ref q52, .ref q53, .int 0, .ref q54, .int 0, .ref q55, .int (-9), .int 0, .int 0, .ref q56, .ref q57, .ref q58, .ref q59, .ref q60, .int 0, .ref q61, .ref q62, .ref q63, .int 0, .ref q64, .ref q65, .ref q66, .int 0, .ref q67])), (q50, .inl (cI, 5, .inl (fun _ => 0))), (q52, .inl (cI, 12, .inl (fun _ => (-9))))] H := hP
      have hD : va_D A [(q49, .inr (12, [.int 0, .ref q50, .int 0, .ref q51, .int 0, .ref q52, .ref q53, .int 0, .ref q54, .int 0, .ref q55, .int (-9), .int 0, .int 0, .ref q56, .ref q57, .ref q58, .ref q59, .ref q60, .int 0, .ref q61, .ref q62, .ref q63, .int 0, .ref q64, .ref q65, .ref q66, .int 0, .ref q67])), (q50, .inl (cI, 5, .inl (fun _ => 0))), (q52, .inl (cI, 12, .inl (fun _ => (-9))))] := hD
      refine lv_aload_n hx hb dL_law_891 rfl (lv_at hl 1 rfl) ?_
      refine lv_aload_n hx hb dL_law_892 rfl (lv_at hl 3 rfl) ?_
      refine lv_iload_n hx hb dL_law_893 rfl (lv_at hl 0 rfl) ?_
      refine lv_iconst (v := 1) hx hb dL_law_894 (by decide) ?_
      refine lv_iadd hx hb dL_law_895 (tk_i (v := 1) (by decide +kernel) ?_)
      refine va_sld hx hb hX hbl hbA hS (vin (by decide +kernel)) dL_law_896 (tk_i (v := a1) ha1 ?_)
      refine kcall_i (D := (dC, dI)) (S := Unit) (v := (-3)) (wc := [(q49, .inr (12, [.int 0, .ref q50, .int 0, .ref q51, .int 0, .ref q52, .ref q53, .int 0, .ref q54, .int 0, .ref q55, .int (-9), .int 0, .int 0, .ref q56, .ref q57, .ref q58, .ref q59, .ref q60, .int 0, .ref q61, .ref q62, .ref q63, .int 0, .ref q64, .ref q65, .ref q66, .int 0, .ref q67])), (q52, .inl (cI, 12, .inl (fun _ => (-9)))), (q50, .inl (cI, 5, .inl (fun _ => 0)))]) (wr := []) (w1 := fun _ => []) (fun hPc hDc => va_runV (As := [.int a1]) (rest := [.int (-3)]) ⟨hx, hb, hml, hown, hts⟩ (kX12_told_2 l dC dI cI c2 q49 q52 q50 q51 q53 q54 q55 q56 q57 q58 q59 q60 q61 q62 q63 q64 q65 q66 q67 H.size a1 (by omega) (by omega)) (cwV 1 hts gL_law_X12_told rfl rfl rfl (by decide +kernel) ⟨Nat.le_of_ble_eq_true rfl, Nat.le_of_ble_eq_true rfl⟩) (pre_V hPc hK hDc hN (ci := 12) (q0 := 0) rfl rfl) rfl rfl hl.1 rfl (lv_room (Nat.le_of_ble_eq_true rfl)) dL_law_897 ⟨Nat.le_of_ble_eq_true rfl, Nat.le_of_ble_eq_true rfl⟩) hP hD hS hA [0, 2, 1] [] rfl rfl (by decide) (by decide) (by decide) (fun u H locs hP hD hS => ?_)
      have hP : va_P (dC, dI) vwCl [] H := hP
      have hD : va_D A [] := hD
      refine lv_icmp_eq (tgt := 1080) hx hb dL_law_900 (by decide) (fun _ => ?_) (fun h9 => absurd (by decide +kernel) h9)
      refine lv_iinc (v := 4) (lv' := [(3, .int 4), (2, .ref q49), (1, .ref q1), (0, .ref b)]) hx hb dL_law_1080 hl (k := 0) rfl (by decide +kernel) (by decide) rfl (fun ls hl => ?_)
      refine lv_goto (tgt := 18) hx hb dL_law_1083 (by decide) ?_
      refine lv_iload_n hx hb dL_law_18 rfl (lv_at hl 0 rfl) ?_
      refine lv_aload_n hx hb dL_law_19 rfl (lv_at hl 3 rfl) ?_
      refine va_slen hx hb hX hbl hbA hS dL_law_20 (tk_i (v := 4) (by decide +kernel) ?_)
      refine lv_iconst (v := 4) hx hb dL_law_21 (by decide) ?_
      refine lv_isub hx hb dL_law_22 (tk_i (v := 0) (by decide +kernel) ?_)
      refine lv_icmp_gt (tgt := 1086) hx hb dL_law_23 (by decide) (fun _ => ?_) (fun h9 => absurd (by decide +kernel) h9)
      refine lv_iconst (v := 1) hx hb dL_law_1086 (by decide) ?_
      refine va_forget (fun q hq => by have h9 := hS.2.2 q hq; rw [← hAe] at h9; exact h9) ?_
      refine W.widen (k := 600000) (n := 7302250) (by decide) (by decide) ?_
      exact lw_ret hx hb hr hlocks dL_law_1087
    ·
      refine lv_aload_n hx hb dL_law_882 rfl (lv_at hl 2 rfl) ?_
      refine lv_aload_n hx hb dL_law_883 rfl (lv_at hl 3 rfl) ?_
      refine lv_iload_n hx hb dL_law_884 rfl (lv_at hl 0 rfl) ?_
      refine lv_iconst (v := 1) hx hb dL_law_885 (by decide) ?_
      refine lv_iadd hx hb dL_law_886 (tk_i (v := 1) (by decide +kernel) ?_)
      refine va_sld hx hb hX hbl hbA hS (vin (by decide +kernel)) dL_law_887 (tk_i (v := a1) ha1 ?_)
      refine kcall_i (D := (dC, dI)) (S := Unit) (v := (-3)) (wc := [(q1, .inr (11, [.ref q2, .ref q4, .ref q6, .ref q18, .ref q23, .ref q28, .ref q33, .ref q36, .ref q37, .ref q40, .ref q44, .ref q48, .int 0])), (q4, .inr (10, [.ref q5, .int 0, .int 0])), (q48, .inl (cI, 5, .inl (fun _ => 0)))]) (wr := [(q49, .inr (12, [.int 0, .ref q50, .int 0, .ref q51, .int 0, .ref q52, .ref q53, .int 0, .ref q54, .int 0, .ref q55, .int (-9), .int 0, .int 0, .ref q56, .ref q57, .ref q58, .ref q59, .ref q60, .int 0, .ref q61, .ref q62, .ref q63, .int 0, .ref q64, .ref q65, .ref q66, .int 0, .ref q67])), (q50, .inl (cI, 5, .inl (fun _ => 0)))]) (w1 := fun _ => []) (fun hPc hDc => va_runV (As := [.int a1]) (rest := []) ⟨hx, hb, hml, hown, hts⟩ (kX11_told_3 l dC dI cI c2 q1 q4 q48 q2 q6 q18 q23 q28 q33 q36 q37 q40 q44 q5 H.size a1 (by omega) (by omega)) (cwV 1 hts gL_law_X11_told rfl rfl rfl (by decide +kernel) ⟨Nat.le_of_ble_eq_true rfl, Nat.le_of_ble_eq_true rfl⟩) (pre_V hPc hK hDc hN (ci := 11) (q0 := 0) rfl rfl) rfl rfl hl.1 rfl (lv_room (Nat.le_of_ble_eq_true rfl)) dL_law_888 ⟨Nat.le_of_ble_eq_true rfl, Nat.le_of_ble_eq_true rfl⟩) hP hD hS hA [0, 3, 27] [28, 29] rfl rfl (by decide) (by decide) (by decide) (fun u H locs hP hD hS => ?_)
      have hP : va_P (dC, dI) vwCl [(q49, .inr (12, [.int 0, .ref q50, .int 0, .ref q51, .int 0, .ref q52, .ref q53, .int 0, .ref q54, .int 0, .ref q55, .int (-9), .int 0, .int 0, .ref q56, .ref q57, .ref q58, .ref q59, .ref q60, .int 0, .ref q61, .ref q62, .ref q63, .int 0, .ref q64, .ref q65, .ref q66, .int 0, .ref q67])), (q50, .inl (cI, 5, .inl (fun _ => 0)))] H := hP
      have hD : va_D A [(q49, .inr (12, [.int 0, .ref q50, .int 0, .ref q51, .int 0, .ref q52, .ref q53, .int 0, .ref q54, .int 0, .ref q55, .int (-9), .int 0, .int 0, .ref q56, .ref q57, .ref q58, .ref q59, .ref q60, .int 0, .ref q61, .ref q62, .ref q63, .int 0, .ref q64, .ref q65, .ref q66, .int 0, .ref q67])), (q50, .inl (cI, 5, .inl (fun _ => 0)))] := hD
      refine lv_aload_n hx hb dL_law_891 rfl (lv_at hl 1 rfl) ?_
      refine lv_aload_n hx hb dL_law_892 rfl (lv_at hl 3 rfl) ?_
      refine lv_iload_n hx hb dL_law_893 rfl (lv_at hl 0 rfl) ?_
      refine lv_iconst (v := 1) hx hb dL_law_894 (by decide) ?_
      refine lv_iadd hx hb dL_law_895 (tk_i (v := 1) (by decide +kernel) ?_)
      refine va_sld hx hb hX hbl hbA hS (vin (by decide +kernel)) dL_law_896 (tk_i (v := a1) ha1 ?_)
      refine kcall_i (D := (dC, dI)) (S := Unit) (v := (-3)) (wc := [(q49, .inr (12, [.int 0, .ref q50, .int 0, .ref q51, .int 0, .ref q52, .ref q53, .int 0, .ref q54, .int 0, .ref q55, .int (-9), .int 0, .int 0, .ref q56, .ref q57, .ref q58, .ref q59, .ref q60, .int 0, .ref q61, .ref q62, .ref q63, .int 0, .ref q64, .ref q65, .ref q66, .int 0, .ref q67])), (q50, .inl (cI, 5, .inl (fun _ => 0)))]) (wr := []) (w1 := fun _ => []) (fun hPc hDc => va_runV (As := [.int a1]) (rest := [.int (-3)]) ⟨hx, hb, hml, hown, hts⟩ (kX12_told_3 l dC dI cI c2 q49 q50 q51 q52 q53 q54 q55 q56 q57 q58 q59 q60 q61 q62 q63 q64 q65 q66 q67 H.size a1 (by omega) (by omega)) (cwV 1 hts gL_law_X12_told rfl rfl rfl (by decide +kernel) ⟨Nat.le_of_ble_eq_true rfl, Nat.le_of_ble_eq_true rfl⟩) (pre_V hPc hK hDc hN (ci := 12) (q0 := 0) rfl rfl) rfl rfl hl.1 rfl (lv_room (Nat.le_of_ble_eq_true rfl)) dL_law_897 ⟨Nat.le_of_ble_eq_true rfl, Nat.le_of_ble_eq_true rfl⟩) hP hD hS hA [0, 1] [] rfl rfl (by decide) (by decide) (by decide) (fun u H locs hP hD hS => ?_)
      have hP : va_P (dC, dI) vwCl [] H := hP
      have hD : va_D A [] := hD
      refine lv_icmp_eq (tgt := 1080) hx hb dL_law_900 (by decide) (fun _ => ?_) (fun h9 => absurd (by decide +kernel) h9)
      refine lv_iinc (v := 4) (lv' := [(3, .int 4), (2, .ref q49), (1, .ref q1), (0, .ref b)]) hx hb dL_law_1080 hl (k := 0) rfl (by decide +kernel) (by decide) rfl (fun ls hl => ?_)
      refine lv_goto (tgt := 18) hx hb dL_law_1083 (by decide) ?_
      refine lv_iload_n hx hb dL_law_18 rfl (lv_at hl 0 rfl) ?_
      refine lv_aload_n hx hb dL_law_19 rfl (lv_at hl 3 rfl) ?_
      refine va_slen hx hb hX hbl hbA hS dL_law_20 (tk_i (v := 4) (by decide +kernel) ?_)
      refine lv_iconst (v := 4) hx hb dL_law_21 (by decide) ?_
      refine lv_isub hx hb dL_law_22 (tk_i (v := 0) (by decide +kernel) ?_)
      refine lv_icmp_gt (tgt := 1086) hx hb dL_law_23 (by decide) (fun _ => ?_) (fun h9 => absurd (by decide +kernel) h9)
      refine lv_iconst (v := 1) hx hb dL_law_1086 (by decide) ?_
      refine va_forget (fun q hq => by have h9 := hS.2.2 q hq; rw [← hAe] at h9; exact h9) ?_
      refine W.widen (k := 600000) (n := 7302250) (by decide) (by decide) ?_
      exact lw_ret hx hb hr hlocks dL_law_1087
set_option maxHeartbeats 8000000 in
set_option maxRecDepth 100000 in
theorem lc_29 {p : Program} {e : Env} {s : State} {m : MethodId} {below : List Frame} {meth : Method} {c : Code} (l : Launch) {b : Nat} {xs : Nat → Int32} (C0 : lw_At p s m meth c b 4 xs) (dC : Nat → ClassId) (dI : Nat → Nat → Nat) (cI c2 : ClassId) (q1 : Nat) (q2 : Nat) (q3 : Nat) (q4 : Nat) (q5 : Nat) (q6 : Nat) (q7 : Nat) (q8 : Nat) (r9 : Nat → Nat) (q10 : Nat) (q11 : Nat) (q12 : Nat) (r13 : Nat → Nat) (q14 : Nat) (q15 : Nat) (q16 : Nat) (q17 : Nat) (q18 : Nat) (q19 : Nat) (q20 : Nat) (r21 : Nat → Nat) (q22 : Nat) (q23 : Nat) (q24 : Nat) (q25 : Nat) (q26 : Nat) (q27 : Nat) (q28 : Nat) (q29 : Nat) (q30 : Nat) (q31 : Nat) (q32 : Nat) (q33 : Nat) (q34 : Nat) (q35 : Nat) (q36 : Nat) (q37 : Nat) (q38 : Nat) (q39 : Nat) (q40 : Nat) (q41 : Nat) (q42 : Nat) (q43 : Nat) (q44 : Nat) (q45 : Nat) (q46 : Nat) (q47 : Nat) (q48 : Nat) (q49 : Nat) (q50 : Nat) (q51 : Nat) (q52 : Nat) (q53 : Nat) (q54 : Nat) (q55 : Nat) (q56 : Nat) (q57 : Nat) (q58 : Nat) (q59 : Nat) (q60 : Nat) (q61 : Nat) (q62 : Nat) (q63 : Nat) (q64 : Nat) (q65 : Nat) (q66 : Nat) (q67 : Nat) (a1 a2 a3 : Int32) (ha1 : xs (Int32.toNatClampNeg 1) = a1) (ha2 : xs (Int32.toNatClampNeg 2) = a2) (ha3 : xs (Int32.toNatClampNeg 3) = a3) (hK : va_K (dC, dI) vwCl [(cI, .int), (c2, .array .int)] s) (hN : nsAll s) (H : Heap) (locs : List Loc) (hP : va_P (dC, dI) vwCl [(q1, .inr (11, [.ref q2, .ref q4, .ref q6, .ref q18, .ref q23, .ref q28, .ref q33, .ref q36, .ref q37, .ref q40, .ref q44, .ref q48, .int 0])), (q2, .inr (4, [.ref q3, .int 0, .int 0])), (q3, .inl (cI, 12, .inl (fun _ => 0))), (q4, .inr (10, [.ref q5, .int 0, .int 0])), (q5, .inl (cI, 12, .inl (fun _ => (-1)))), (q6, .inr (6, [.ref q7, .ref q10, .ref q16, .ref q17, .int 0, .int 0, .int 0, .int 0, .int 0])), (q7, .inr (3, [.ref q8, .int 0])), (q8, .inl (c2, 13, .inr (.inr (.inr (.inr (fun i => if i < 13 then some (r9 i) else none)))))), (r9 0, .inl (cI, 12, .inl (fun _ => 0))), (q10, .inr (5, [.ref q11, .ref q14, .ref q15, .int 0, .int 0, .int 0])), (q11, .inr (3, [.ref q12, .int 0])), (q12, .inl (c2, 13, .inr (.inr (.inr (.inr (fun i => if i < 13 then some (r13 i) else none)))))), (r13 0, .inl (cI, 12, .inl (fun _ => 0))), (q14, .inl (cI, 4096, .inl (fun _ => 0))), (q18, .inr (9, [.ref q19, .ref q22, .int 0, .int (-1)])), (q19, .inr (3, [.ref q20, .int 0])), (q20, .inl (c2, 13, .inr (.inr (.inr (.inr (fun i => if i < 13 then some (r21 i) else none)))))), (r21 0, .inl (cI, 12, .inl (fun _ => 0))), (q23, .inr (1, [.int 0, .ref q24, .ref q25, .ref q26, .ref q27, .int 0, .int (-1), .int (-1)])), (q28, .inr (1, [.int 1, .ref q29, .ref q30, .ref q31, .ref q32, .int 0, .int (-1), .int (-1)])), (q33, .inr (7, [.ref q34, .ref q35, .int 0, .int (-1)])), (q35, .inl (cI, 12, .inl (fun _ => 0))), (q37, .inr (2, [.ref q38, .ref q39, .int 0, .int (-1)])), (q40, .inr (0, [.ref q42, .ref q41, .ref q43, .int 0, .int 0, .int 0, .int 0, .int (-1)])), (q42, .inl (cI, 4096, .inl (fun _ => 0))), (q44, .inr (0, [.ref q46, .ref q45, .ref q47, .int 0, .int 0, .int 0, .int 0, .int (-1)])), (q46, .inl (cI, 256, .inl (fun _ => 0))), (q48, .inl (cI, 5, .inl (fun _ => 0))), (q49, .inr (12, [.int 0, .ref q50, .int 0, .ref q51, .int 0, .ref q52, .ref q53, .int 0, .ref q54, .int 0, .ref q55, .int (-9), .int 0, .int 0, .ref q56, .ref q57, .ref q58, .ref q59, .ref q60, .int 0, .ref q61, .ref q62, .ref q63, .int 0, .ref q64, .ref q65, .ref q66, .int 0, .ref q67])), (q50, .inl (cI, 5, .inl (fun _ => 0))), (q51, .inl (cI, 12, .inl (fun _ => 0))), (q52, .inl (cI, 12, .inl (fun _ => (-9)))), (q56, .inl (cI, 12, .inl (fun _ => 0))), (q57, .inl (cI, 12, .inl (fun _ => 0))), (q58, .inl (cI, 49152, .inl (fun _ => 0))), (q59, .inl (cI, 4096, .inl (fun _ => 0))), (q67, .inl (cI, 12, .inl (fun _ => 0)))] H) (hD : va_D (fun q : Nat => s.heap.size ≤ q) [(q1, .inr (11, [.ref q2, .ref q4, .ref q6, .ref q18, .ref q23, .ref q28, .ref q33, .ref q36, .ref q37, .ref q40, .ref q44, .ref q48, .int 0])), (q2, .inr (4, [.ref q3, .int 0, .int 0])), (q3, .inl (cI, 12, .inl (fun _ => 0))), (q4, .inr (10, [.ref q5, .int 0, .int 0])), (q5, .inl (cI, 12, .inl (fun _ => (-1)))), (q6, .inr (6, [.ref q7, .ref q10, .ref q16, .ref q17, .int 0, .int 0, .int 0, .int 0, .int 0])), (q7, .inr (3, [.ref q8, .int 0])), (q8, .inl (c2, 13, .inr (.inr (.inr (.inr (fun i => if i < 13 then some (r9 i) else none)))))), (r9 0, .inl (cI, 12, .inl (fun _ => 0))), (q10, .inr (5, [.ref q11, .ref q14, .ref q15, .int 0, .int 0, .int 0])), (q11, .inr (3, [.ref q12, .int 0])), (q12, .inl (c2, 13, .inr (.inr (.inr (.inr (fun i => if i < 13 then some (r13 i) else none)))))), (r13 0, .inl (cI, 12, .inl (fun _ => 0))), (q14, .inl (cI, 4096, .inl (fun _ => 0))), (q18, .inr (9, [.ref q19, .ref q22, .int 0, .int (-1)])), (q19, .inr (3, [.ref q20, .int 0])), (q20, .inl (c2, 13, .inr (.inr (.inr (.inr (fun i => if i < 13 then some (r21 i) else none)))))), (r21 0, .inl (cI, 12, .inl (fun _ => 0))), (q23, .inr (1, [.int 0, .ref q24, .ref q25, .ref q26, .ref q27, .int 0, .int (-1), .int (-1)])), (q28, .inr (1, [.int 1, .ref q29, .ref q30, .ref q31, .ref q32, .int 0, .int (-1), .int (-1)])), (q33, .inr (7, [.ref q34, .ref q35, .int 0, .int (-1)])), (q35, .inl (cI, 12, .inl (fun _ => 0))), (q37, .inr (2, [.ref q38, .ref q39, .int 0, .int (-1)])), (q40, .inr (0, [.ref q42, .ref q41, .ref q43, .int 0, .int 0, .int 0, .int 0, .int (-1)])), (q42, .inl (cI, 4096, .inl (fun _ => 0))), (q44, .inr (0, [.ref q46, .ref q45, .ref q47, .int 0, .int 0, .int 0, .int 0, .int (-1)])), (q46, .inl (cI, 256, .inl (fun _ => 0))), (q48, .inl (cI, 5, .inl (fun _ => 0))), (q49, .inr (12, [.int 0, .ref q50, .int 0, .ref q51, .int 0, .ref q52, .ref q53, .int 0, .ref q54, .int 0, .ref q55, .int (-9), .int 0, .int 0, .ref q56, .ref q57, .ref q58, .ref q59, .ref q60, .int 0, .ref q61, .ref q62, .ref q63, .int 0, .ref q64, .ref q65, .ref q66, .int 0, .ref q67])), (q50, .inl (cI, 5, .inl (fun _ => 0))), (q51, .inl (cI, 12, .inl (fun _ => 0))), (q52, .inl (cI, 12, .inl (fun _ => (-9)))), (q56, .inl (cI, 12, .inl (fun _ => 0))), (q57, .inl (cI, 12, .inl (fun _ => 0))), (q58, .inl (cI, 49152, .inl (fun _ => 0))), (q59, .inl (cI, 4096, .inl (fun _ => 0))), (q67, .inl (cI, 12, .inl (fun _ => 0)))]) (hS : va_S (fun q : Nat => s.heap.size ≤ q) s.heap H locs) (ls : Array Slot) (hl : lv_has ls 4 [(3, .int 0), (2, .ref q49), (1, .ref q1), (0, .ref b)]) : W p l e room_1 s m #[Value.ref b] below meth c H locs 128 161896 (lw_Z below #[Value.ref b] s) (F0 m 905 ls []) := by
  obtain ⟨hx, hb, hr, hml, hown0, hts0, hX, hbl, hlocks, hgv⟩ := id C0
  have hown : s.vm.findClass RL = some m.cls := hown0
  have hts : ∀ w ∈ wsL_law, w.before #[Value.ref b] s = true := fun w h => hts0 w (wsL_law_in w h)
  have hA : ∀ q : Nat, s.heap.size ≤ q → (fun q : Nat => s.heap.size ≤ q) q := fun _ h => h
  have hbA : ¬ (fun q : Nat => s.heap.size ≤ q) b := Nat.not_le.mpr hbl
  generalize hAe : (fun q : Nat => s.heap.size ≤ q) = A at hD hS hA hbA
  have a1_rg := i_rng a1
  have a2_rg := i_rng a2
  have a3_rg := i_rng a3
  obtain ⟨a1_l, a1_h⟩ := a1_rg
  obtain ⟨a2_l, a2_h⟩ := a2_rg
  obtain ⟨a3_l, a3_h⟩ := a3_rg
  rcases (show a1.toInt ≤ (-1) ∨ 0 ≤ a1.toInt by omega) with g_a1_0 | g_a1_0
  ·
    refine lv_aload_n hx hb dL_law_905 rfl (lv_at hl 2 rfl) ?_
    refine lv_aload_n hx hb dL_law_906 rfl (lv_at hl 3 rfl) ?_
    refine lv_iload_n hx hb dL_law_907 rfl (lv_at hl 0 rfl) ?_
    refine lv_iconst (v := 1) hx hb dL_law_908 (by decide) ?_
    refine lv_iadd hx hb dL_law_909 (tk_i (v := 1) (by decide +kernel) ?_)
    refine va_sld hx hb hX hbl hbA hS (vin (by decide +kernel)) dL_law_910 (tk_i (v := a1) ha1 ?_)
    refine kcall_i (D := (dC, dI)) (S := Unit) (v := (-3)) (wc := [(q1, .inr (11, [.ref q2, .ref q4, .ref q6, .ref q18, .ref q23, .ref q28, .ref q33, .ref q36, .ref q37, .ref q40, .ref q44, .ref q48, .int 0])), (q4, .inr (10, [.ref q5, .int 0, .int 0])), (q48, .inl (cI, 5, .inl (fun _ => 0)))]) (wr := [(q49, .inr (12, [.int 0, .ref q50, .int 0, .ref q51, .int 0, .ref q52, .ref q53, .int 0, .ref q54, .int 0, .ref q55, .int (-9), .int 0, .int 0, .ref q56, .ref q57, .ref q58, .ref q59, .ref q60, .int 0, .ref q61, .ref q62, .ref q63, .int 0, .ref q64, .ref q65, .ref q66, .int 0, .ref q67])), (q50, .inl (cI, 5, .inl (fun _ => 0)))]) (w1 := fun _ => []) (fun hPc hDc => va_runV (As := [.int a1]) (rest := []) ⟨hx, hb, hml, hown, hts⟩ (kX11_tear_1 l dC dI cI c2 q1 q4 q48 q2 q6 q18 q23 q28 q33 q36 q37 q40 q44 q5 H.size a1 (by omega) (by omega)) (cwV 1 hts gL_law_X11_tear rfl rfl rfl (by decide +kernel) ⟨Nat.le_of_ble_eq_true rfl, Nat.le_of_ble_eq_true rfl⟩) (pre_V hPc hK hDc hN (ci := 11) (q0 := 0) rfl rfl) rfl rfl hl.1 rfl (lv_room (Nat.le_of_ble_eq_true rfl)) dL_law_911 ⟨Nat.le_of_ble_eq_true rfl, Nat.le_of_ble_eq_true rfl⟩) hP hD hS hA [0, 3, 27] [28, 29] rfl rfl (by decide) (by decide) (by decide) (fun u H locs hP hD hS => ?_)
    have hP : va_P (dC, dI) vwCl [(q49, .inr (12, [.int 0, .ref q50, .int 0, .ref q51, .int 0, .ref q52, .ref q53, .int 0, .ref q54, .int 0, .ref q55, .int (-9), .int 0, .int 0, .ref q56, .ref q57, .ref q58, .ref q59, .ref q60, .int 0, .ref q61, .ref q62, .ref q63, .int 0, .ref q64, .ref q65, .ref q66, .int 0, .ref q67])), (q50, .inl (cI, 5, .inl (fun _ => 0)))] H := hP
    have hD : va_D A [(q49, .inr (12, [.int 0, .ref q50, .int 0, .ref q51, .int 0, .ref q52, .ref q53, .int 0, .ref q54, .int 0, .ref q55, .int (-9), .int 0, .int 0, .ref q56, .ref q57, .ref q58, .ref q59, .ref q60, .int 0, .ref q61, .ref q62, .ref q63, .int 0, .ref q64, .ref q65, .ref q66, .int 0, .ref q67])), (q50, .inl (cI, 5, .inl (fun _ => 0)))] := hD
    refine lv_aload_n hx hb dL_law_914 rfl (lv_at hl 1 rfl) ?_
    refine lv_aload_n hx hb dL_law_915 rfl (lv_at hl 3 rfl) ?_
    refine lv_iload_n hx hb dL_law_916 rfl (lv_at hl 0 rfl) ?_
    refine lv_iconst (v := 1) hx hb dL_law_917 (by decide) ?_
    refine lv_iadd hx hb dL_law_918 (tk_i (v := 1) (by decide +kernel) ?_)
    refine va_sld hx hb hX hbl hbA hS (vin (by decide +kernel)) dL_law_919 (tk_i (v := a1) ha1 ?_)
    refine kcall_i (D := (dC, dI)) (S := Unit) (v := (-3)) (wc := [(q49, .inr (12, [.int 0, .ref q50, .int 0, .ref q51, .int 0, .ref q52, .ref q53, .int 0, .ref q54, .int 0, .ref q55, .int (-9), .int 0, .int 0, .ref q56, .ref q57, .ref q58, .ref q59, .ref q60, .int 0, .ref q61, .ref q62, .ref q63, .int 0, .ref q64, .ref q65, .ref q66, .int 0, .ref q67])), (q50, .inl (cI, 5, .inl (fun _ => 0)))]) (wr := []) (w1 := fun _ => []) (fun hPc hDc => va_runV (As := [.int a1]) (rest := [.int (-3)]) ⟨hx, hb, hml, hown, hts⟩ (kX12_tear_1 l dC dI cI c2 q49 q50 q51 q52 q53 q54 q55 q56 q57 q58 q59 q60 q61 q62 q63 q64 q65 q66 q67 H.size a1 (by omega) (by omega)) (cwV 1 hts gL_law_X12_tear rfl rfl rfl (by decide +kernel) ⟨Nat.le_of_ble_eq_true rfl, Nat.le_of_ble_eq_true rfl⟩) (pre_V hPc hK hDc hN (ci := 12) (q0 := 0) rfl rfl) rfl rfl hl.1 rfl (lv_room (Nat.le_of_ble_eq_true rfl)) dL_law_920 ⟨Nat.le_of_ble_eq_true rfl, Nat.le_of_ble_eq_true rfl⟩) hP hD hS hA [0, 1] [] rfl rfl (by decide) (by decide) (by decide) (fun u H locs hP hD hS => ?_)
    have hP : va_P (dC, dI) vwCl [] H := hP
    have hD : va_D A [] := hD
    refine lv_icmp_eq (tgt := 1080) hx hb dL_law_923 (by decide) (fun _ => ?_) (fun h9 => absurd (by decide +kernel) h9)
    refine lv_iinc (v := 4) (lv' := [(3, .int 4), (2, .ref q49), (1, .ref q1), (0, .ref b)]) hx hb dL_law_1080 hl (k := 0) rfl (by decide +kernel) (by decide) rfl (fun ls hl => ?_)
    refine lv_goto (tgt := 18) hx hb dL_law_1083 (by decide) ?_
    refine lv_iload_n hx hb dL_law_18 rfl (lv_at hl 0 rfl) ?_
    refine lv_aload_n hx hb dL_law_19 rfl (lv_at hl 3 rfl) ?_
    refine va_slen hx hb hX hbl hbA hS dL_law_20 (tk_i (v := 4) (by decide +kernel) ?_)
    refine lv_iconst (v := 4) hx hb dL_law_21 (by decide) ?_
    refine lv_isub hx hb dL_law_22 (tk_i (v := 0) (by decide +kernel) ?_)
    refine lv_icmp_gt (tgt := 1086) hx hb dL_law_23 (by decide) (fun _ => ?_) (fun h9 => absurd (by decide +kernel) h9)
    refine lv_iconst (v := 1) hx hb dL_law_1086 (by decide) ?_
    refine va_forget (fun q hq => by have h9 := hS.2.2 q hq; rw [← hAe] at h9; exact h9) ?_
    refine W.widen (k := 600000) (n := 7302250) (by decide) (by decide) ?_
    exact lw_ret hx hb hr hlocks dL_law_1087
  ·
    rcases (show a1.toInt ≤ 11 ∨ 12 ≤ a1.toInt by omega) with g_a1_12 | g_a1_12
    ·
      refine lv_aload_n hx hb dL_law_905 rfl (lv_at hl 2 rfl) ?_
      refine lv_aload_n hx hb dL_law_906 rfl (lv_at hl 3 rfl) ?_
      refine lv_iload_n hx hb dL_law_907 rfl (lv_at hl 0 rfl) ?_
      refine lv_iconst (v := 1) hx hb dL_law_908 (by decide) ?_
      refine lv_iadd hx hb dL_law_909 (tk_i (v := 1) (by decide +kernel) ?_)
      refine va_sld hx hb hX hbl hbA hS (vin (by decide +kernel)) dL_law_910 (tk_i (v := a1) ha1 ?_)
      refine kcall_i (D := (dC, dI)) (S := Unit) (v := (-3)) (wc := [(q1, .inr (11, [.ref q2, .ref q4, .ref q6, .ref q18, .ref q23, .ref q28, .ref q33, .ref q36, .ref q37, .ref q40, .ref q44, .ref q48, .int 0])), (q4, .inr (10, [.ref q5, .int 0, .int 0])), (q5, .inl (cI, 12, .inl (fun _ => (-1)))), (q48, .inl (cI, 5, .inl (fun _ => 0)))]) (wr := [(q49, .inr (12, [.int 0, .ref q50, .int 0, .ref q51, .int 0, .ref q52, .ref q53, .int 0, .ref q54, .int 0, .ref q55, .int (-9), .int 0, .int 0, .ref q56, .ref q57, .ref q58, .ref q59, .ref q60, .int 0, .ref q61, .ref q62, .ref q63, .int 0, .ref q64, .ref q65, .ref q66, .int 0, .ref q67])), (q50, .inl (cI, 5, .inl (fun _ => 0))), (q52, .inl (cI, 12, .inl (fun _ => (-9))))]) (w1 := fun _ => []) (fun hPc hDc => va_runV (As := [.int a1]) (rest := []) ⟨hx, hb, hml, hown, hts⟩ (kX11_tear_2 l dC dI cI c2 q1 q4 q5 q48 q2 q6 q18 q23 q28 q33 q36 q37 q40 q44 H.size a1 (by omega) (by omega)) (cwV 1 hts gL_law_X11_tear rfl rfl rfl (by decide +kernel) ⟨Nat.le_of_ble_eq_true rfl, Nat.le_of_ble_eq_true rfl⟩) (pre_V hPc hK hDc hN (ci := 11) (q0 := 0) rfl rfl) rfl rfl hl.1 rfl (lv_room (Nat.le_of_ble_eq_true rfl)) dL_law_911 ⟨Nat.le_of_ble_eq_true rfl, Nat.le_of_ble_eq_true rfl⟩) hP hD hS hA [0, 3, 4, 27] [28, 29, 31] rfl rfl (by decide) (by decide) (by decide) (fun u H locs hP hD hS => ?_)
      have hP : va_P (dC, dI) vwCl [(q49, .inr (12, [.int 0, .ref q50, .int 0, .ref q51, .int 0, .ref q52, .ref q53, .int 0, .ref q54, .int 0, .ref q55, .int (-9), .int 0, .int 0, .ref q56, .ref q57, .ref q58, .ref q59, .ref q60, .int 0, .ref q61, .ref q62, .ref q63, .int 0, .ref q64, .ref q65, .ref q66, .int 0, .ref q67])), (q50, .inl (cI, 5, .inl (fun _ => 0))), (q52, .inl (cI, 12, .inl (fun _ => (-9))))] H := hP
      have hD : va_D A [(q49, .inr (12, [.int 0, .ref q50, .int 0, .ref q51, .int 0, .ref q52, .ref q53, .int 0, .ref q54, .int 0, .ref q55, .int (-9), .int 0, .int 0, .ref q56, .ref q57, .ref q58, .ref q59, .ref q60, .int 0, .ref q61, .ref q62, .ref q63, .int 0, .ref q64, .ref q65, .ref q66, .int 0, .ref q67])), (q50, .inl (cI, 5, .inl (fun _ => 0))), (q52, .inl (cI, 12, .inl (fun _ => (-9))))] := hD
      refine lv_aload_n hx hb dL_law_914 rfl (lv_at hl 1 rfl) ?_
      refine lv_aload_n hx hb dL_law_915 rfl (lv_at hl 3 rfl) ?_
      refine lv_iload_n hx hb dL_law_916 rfl (lv_at hl 0 rfl) ?_
      refine lv_iconst (v := 1) hx hb dL_law_917 (by decide) ?_
      refine lv_iadd hx hb dL_law_918 (tk_i (v := 1) (by decide +kernel) ?_)
      refine va_sld hx hb hX hbl hbA hS (vin (by decide +kernel)) dL_law_919 (tk_i (v := a1) ha1 ?_)
      refine kcall_i (D := (dC, dI)) (S := Unit) (v := (-3)) (wc := [(q49, .inr (12, [.int 0, .ref q50, .int 0, .ref q51, .int 0, .ref q52, .ref q53, .int 0, .ref q54, .int 0, .ref q55, .int (-9), .int 0, .int 0, .ref q56, .ref q57, .ref q58, .ref q59, .ref q60, .int 0, .ref q61, .ref q62, .ref q63, .int 0, .ref q64, .ref q65, .ref q66, .int 0, .ref q67])), (q52, .inl (cI, 12, .inl (fun _ => (-9)))), (q50, .inl (cI, 5, .inl (fun _ => 0)))]) (wr := []) (w1 := fun _ => []) (fun hPc hDc => va_runV (As := [.int a1]) (rest := [.int (-3)]) ⟨hx, hb, hml, hown, hts⟩ (kX12_tear_2 l dC dI cI c2 q49 q52 q50 q51 q53 q54 q55 q56 q57 q58 q59 q60 q61 q62 q63 q64 q65 q66 q67 H.size a1 (by omega) (by omega)) (cwV 1 hts gL_law_X12_tear rfl rfl rfl (by decide +kernel) ⟨Nat.le_of_ble_eq_true rfl, Nat.le_of_ble_eq_true rfl⟩) (pre_V hPc hK hDc hN (ci := 12) (q0 := 0) rfl rfl) rfl rfl hl.1 rfl (lv_room (Nat.le_of_ble_eq_true rfl)) dL_law_920 ⟨Nat.le_of_ble_eq_true rfl, Nat.le_of_ble_eq_true rfl⟩) hP hD hS hA [0, 2, 1] [] rfl rfl (by decide) (by decide) (by decide) (fun u H locs hP hD hS => ?_)
      have hP : va_P (dC, dI) vwCl [] H := hP
      have hD : va_D A [] := hD
      refine lv_icmp_eq (tgt := 1080) hx hb dL_law_923 (by decide) (fun _ => ?_) (fun h9 => absurd (by decide +kernel) h9)
      refine lv_iinc (v := 4) (lv' := [(3, .int 4), (2, .ref q49), (1, .ref q1), (0, .ref b)]) hx hb dL_law_1080 hl (k := 0) rfl (by decide +kernel) (by decide) rfl (fun ls hl => ?_)
      refine lv_goto (tgt := 18) hx hb dL_law_1083 (by decide) ?_
      refine lv_iload_n hx hb dL_law_18 rfl (lv_at hl 0 rfl) ?_
      refine lv_aload_n hx hb dL_law_19 rfl (lv_at hl 3 rfl) ?_
      refine va_slen hx hb hX hbl hbA hS dL_law_20 (tk_i (v := 4) (by decide +kernel) ?_)
      refine lv_iconst (v := 4) hx hb dL_law_21 (by decide) ?_
      refine lv_isub hx hb dL_law_22 (tk_i (v := 0) (by decide +kernel) ?_)
      refine lv_icmp_gt (tgt := 1086) hx hb dL_law_23 (by decide) (fun _ => ?_) (fun h9 => absurd (by decide +kernel) h9)
      refine lv_iconst (v := 1) hx hb dL_law_1086 (by decide) ?_
      refine va_forget (fun q hq => by have h9 := hS.2.2 q hq; rw [← hAe] at h9; exact h9) ?_
      refine W.widen (k := 600000) (n := 7302250) (by decide) (by decide) ?_
      exact lw_ret hx hb hr hlocks dL_law_1087
    ·
      refine lv_aload_n hx hb dL_law_905 rfl (lv_at hl 2 rfl) ?_
      refine lv_aload_n hx hb dL_law_906 rfl (lv_at hl 3 rfl) ?_
      refine lv_iload_n hx hb dL_law_907 rfl (lv_at hl 0 rfl) ?_
      refine lv_iconst (v := 1) hx hb dL_law_908 (by decide) ?_
      refine lv_iadd hx hb dL_law_909 (tk_i (v := 1) (by decide +kernel) ?_)
      refine va_sld hx hb hX hbl hbA hS (vin (by decide +kernel)) dL_law_910 (tk_i (v := a1) ha1 ?_)
      refine kcall_i (D := (dC, dI)) (S := Unit) (v := (-3)) (wc := [(q1, .inr (11, [.ref q2, .ref q4, .ref q6, .ref q18, .ref q23, .ref q28, .ref q33, .ref q36, .ref q37, .ref q40, .ref q44, .ref q48, .int 0])), (q4, .inr (10, [.ref q5, .int 0, .int 0])), (q48, .inl (cI, 5, .inl (fun _ => 0)))]) (wr := [(q49, .inr (12, [.int 0, .ref q50, .int 0, .ref q51, .int 0, .ref q52, .ref q53, .int 0, .ref q54, .int 0, .ref q55, .int (-9), .int 0, .int 0, .ref q56, .ref q57, .ref q58, .ref q59, .ref q60, .int 0, .ref q61, .ref q62, .ref q63, .int 0, .ref q64, .ref q65, .ref q66, .int 0, .ref q67])), (q50, .inl (cI, 5, .inl (fun _ => 0)))]) (w1 := fun _ => []) (fun hPc hDc => va_runV (As := [.int a1]) (rest := []) ⟨hx, hb, hml, hown, hts⟩ (kX11_tear_3 l dC dI cI c2 q1 q4 q48 q2 q6 q18 q23 q28 q33 q36 q37 q40 q44 q5 H.size a1 (by omega) (by omega)) (cwV 1 hts gL_law_X11_tear rfl rfl rfl (by decide +kernel) ⟨Nat.le_of_ble_eq_true rfl, Nat.le_of_ble_eq_true rfl⟩) (pre_V hPc hK hDc hN (ci := 11) (q0 := 0) rfl rfl) rfl rfl hl.1 rfl (lv_room (Nat.le_of_ble_eq_true rfl)) dL_law_911 ⟨Nat.le_of_ble_eq_true rfl, Nat.le_of_ble_eq_true rfl⟩) hP hD hS hA [0, 3, 27] [28, 29] rfl rfl (by decide) (by decide) (by decide) (fun u H locs hP hD hS => ?_)
      have hP : va_P (dC, dI) vwCl [(q49, .inr (12, [.int 0, .ref q50, .int 0, .ref q51, .int 0, .ref q52, .ref q53, .int 0, .ref q54, .int 0, .ref q55, .int (-9), .int 0, .int 0, .ref q56, .ref q57, .ref q58, .ref q59, .ref q60, .int 0, .ref q61, .ref q62, .ref q63, .int 0, .ref q64, .ref q65, .ref q66, .int 0, .ref q67])), (q50, .inl (cI, 5, .inl (fun _ => 0)))] H := hP
      have hD : va_D A [(q49, .inr (12, [.int 0, .ref q50, .int 0, .ref q51, .int 0, .ref q52, .ref q53, .int 0, .ref q54, .int 0, .ref q55, .int (-9), .int 0, .int 0, .ref q56, .ref q57, .ref q58, .ref q59, .ref q60, .int 0, .ref q61, .ref q62, .ref q63, .int 0, .ref q64, .ref q65, .ref q66, .int 0, .ref q67])), (q50, .inl (cI, 5, .inl (fun _ => 0)))] := hD
      refine lv_aload_n hx hb dL_law_914 rfl (lv_at hl 1 rfl) ?_
      refine lv_aload_n hx hb dL_law_915 rfl (lv_at hl 3 rfl) ?_
      refine lv_iload_n hx hb dL_law_916 rfl (lv_at hl 0 rfl) ?_
      refine lv_iconst (v := 1) hx hb dL_law_917 (by decide) ?_
      refine lv_iadd hx hb dL_law_918 (tk_i (v := 1) (by decide +kernel) ?_)
      refine va_sld hx hb hX hbl hbA hS (vin (by decide +kernel)) dL_law_919 (tk_i (v := a1) ha1 ?_)
      refine kcall_i (D := (dC, dI)) (S := Unit) (v := (-3)) (wc := [(q49, .inr (12, [.int 0, .ref q50, .int 0, .ref q51, .int 0, .ref q52, .ref q53, .int 0, .ref q54, .int 0, .ref q55, .int (-9), .int 0, .int 0, .ref q56, .ref q57, .ref q58, .ref q59, .ref q60, .int 0, .ref q61, .ref q62, .ref q63, .int 0, .ref q64, .ref q65, .ref q66, .int 0, .ref q67])), (q50, .inl (cI, 5, .inl (fun _ => 0)))]) (wr := []) (w1 := fun _ => []) (fun hPc hDc => va_runV (As := [.int a1]) (rest := [.int (-3)]) ⟨hx, hb, hml, hown, hts⟩ (kX12_tear_3 l dC dI cI c2 q49 q50 q51 q52 q53 q54 q55 q56 q57 q58 q59 q60 q61 q62 q63 q64 q65 q66 q67 H.size a1 (by omega) (by omega)) (cwV 1 hts gL_law_X12_tear rfl rfl rfl (by decide +kernel) ⟨Nat.le_of_ble_eq_true rfl, Nat.le_of_ble_eq_true rfl⟩) (pre_V hPc hK hDc hN (ci := 12) (q0 := 0) rfl rfl) rfl rfl hl.1 rfl (lv_room (Nat.le_of_ble_eq_true rfl)) dL_law_920 ⟨Nat.le_of_ble_eq_true rfl, Nat.le_of_ble_eq_true rfl⟩) hP hD hS hA [0, 1] [] rfl rfl (by decide) (by decide) (by decide) (fun u H locs hP hD hS => ?_)
      have hP : va_P (dC, dI) vwCl [] H := hP
      have hD : va_D A [] := hD
      refine lv_icmp_eq (tgt := 1080) hx hb dL_law_923 (by decide) (fun _ => ?_) (fun h9 => absurd (by decide +kernel) h9)
      refine lv_iinc (v := 4) (lv' := [(3, .int 4), (2, .ref q49), (1, .ref q1), (0, .ref b)]) hx hb dL_law_1080 hl (k := 0) rfl (by decide +kernel) (by decide) rfl (fun ls hl => ?_)
      refine lv_goto (tgt := 18) hx hb dL_law_1083 (by decide) ?_
      refine lv_iload_n hx hb dL_law_18 rfl (lv_at hl 0 rfl) ?_
      refine lv_aload_n hx hb dL_law_19 rfl (lv_at hl 3 rfl) ?_
      refine va_slen hx hb hX hbl hbA hS dL_law_20 (tk_i (v := 4) (by decide +kernel) ?_)
      refine lv_iconst (v := 4) hx hb dL_law_21 (by decide) ?_
      refine lv_isub hx hb dL_law_22 (tk_i (v := 0) (by decide +kernel) ?_)
      refine lv_icmp_gt (tgt := 1086) hx hb dL_law_23 (by decide) (fun _ => ?_) (fun h9 => absurd (by decide +kernel) h9)
      refine lv_iconst (v := 1) hx hb dL_law_1086 (by decide) ?_
      refine va_forget (fun q hq => by have h9 := hS.2.2 q hq; rw [← hAe] at h9; exact h9) ?_
      refine W.widen (k := 600000) (n := 7302250) (by decide) (by decide) ?_
      exact lw_ret hx hb hr hlocks dL_law_1087
set_option maxHeartbeats 8000000 in
set_option maxRecDepth 100000 in
theorem lc_30 {p : Program} {e : Env} {s : State} {m : MethodId} {below : List Frame} {meth : Method} {c : Code} (l : Launch) {b : Nat} {xs : Nat → Int32} (C0 : lw_At p s m meth c b 4 xs) (dC : Nat → ClassId) (dI : Nat → Nat → Nat) (cI c2 : ClassId) (q1 : Nat) (q2 : Nat) (q3 : Nat) (q4 : Nat) (q5 : Nat) (q6 : Nat) (q7 : Nat) (q8 : Nat) (r9 : Nat → Nat) (q10 : Nat) (q11 : Nat) (q12 : Nat) (r13 : Nat → Nat) (q14 : Nat) (q15 : Nat) (q16 : Nat) (q17 : Nat) (q18 : Nat) (q19 : Nat) (q20 : Nat) (r21 : Nat → Nat) (q22 : Nat) (q23 : Nat) (q24 : Nat) (q25 : Nat) (q26 : Nat) (q27 : Nat) (q28 : Nat) (q29 : Nat) (q30 : Nat) (q31 : Nat) (q32 : Nat) (q33 : Nat) (q34 : Nat) (q35 : Nat) (q36 : Nat) (q37 : Nat) (q38 : Nat) (q39 : Nat) (q40 : Nat) (q41 : Nat) (q42 : Nat) (q43 : Nat) (q44 : Nat) (q45 : Nat) (q46 : Nat) (q47 : Nat) (q48 : Nat) (q49 : Nat) (q50 : Nat) (q51 : Nat) (q52 : Nat) (q53 : Nat) (q54 : Nat) (q55 : Nat) (q56 : Nat) (q57 : Nat) (q58 : Nat) (q59 : Nat) (q60 : Nat) (q61 : Nat) (q62 : Nat) (q63 : Nat) (q64 : Nat) (q65 : Nat) (q66 : Nat) (q67 : Nat) (a1 a2 a3 : Int32) (ha1 : xs (Int32.toNatClampNeg 1) = a1) (ha2 : xs (Int32.toNatClampNeg 2) = a2) (ha3 : xs (Int32.toNatClampNeg 3) = a3) (hK : va_K (dC, dI) vwCl [(cI, .int), (c2, .array .int)] s) (hN : nsAll s) (H : Heap) (locs : List Loc) (hP : va_P (dC, dI) vwCl [(q1, .inr (11, [.ref q2, .ref q4, .ref q6, .ref q18, .ref q23, .ref q28, .ref q33, .ref q36, .ref q37, .ref q40, .ref q44, .ref q48, .int 0])), (q2, .inr (4, [.ref q3, .int 0, .int 0])), (q3, .inl (cI, 12, .inl (fun _ => 0))), (q4, .inr (10, [.ref q5, .int 0, .int 0])), (q5, .inl (cI, 12, .inl (fun _ => (-1)))), (q6, .inr (6, [.ref q7, .ref q10, .ref q16, .ref q17, .int 0, .int 0, .int 0, .int 0, .int 0])), (q7, .inr (3, [.ref q8, .int 0])), (q8, .inl (c2, 13, .inr (.inr (.inr (.inr (fun i => if i < 13 then some (r9 i) else none)))))), (r9 0, .inl (cI, 12, .inl (fun _ => 0))), (q10, .inr (5, [.ref q11, .ref q14, .ref q15, .int 0, .int 0, .int 0])), (q11, .inr (3, [.ref q12, .int 0])), (q12, .inl (c2, 13, .inr (.inr (.inr (.inr (fun i => if i < 13 then some (r13 i) else none)))))), (r13 0, .inl (cI, 12, .inl (fun _ => 0))), (q14, .inl (cI, 4096, .inl (fun _ => 0))), (q18, .inr (9, [.ref q19, .ref q22, .int 0, .int (-1)])), (q19, .inr (3, [.ref q20, .int 0])), (q20, .inl (c2, 13, .inr (.inr (.inr (.inr (fun i => if i < 13 then some (r21 i) else none)))))), (r21 0, .inl (cI, 12, .inl (fun _ => 0))), (q23, .inr (1, [.int 0, .ref q24, .ref q25, .ref q26, .ref q27, .int 0, .int (-1), .int (-1)])), (q28, .inr (1, [.int 1, .ref q29, .ref q30, .ref q31, .ref q32, .int 0, .int (-1), .int (-1)])), (q33, .inr (7, [.ref q34, .ref q35, .int 0, .int (-1)])), (q35, .inl (cI, 12, .inl (fun _ => 0))), (q37, .inr (2, [.ref q38, .ref q39, .int 0, .int (-1)])), (q40, .inr (0, [.ref q42, .ref q41, .ref q43, .int 0, .int 0, .int 0, .int 0, .int (-1)])), (q42, .inl (cI, 4096, .inl (fun _ => 0))), (q44, .inr (0, [.ref q46, .ref q45, .ref q47, .int 0, .int 0, .int 0, .int 0, .int (-1)])), (q46, .inl (cI, 256, .inl (fun _ => 0))), (q48, .inl (cI, 5, .inl (fun _ => 0))), (q49, .inr (12, [.int 0, .ref q50, .int 0, .ref q51, .int 0, .ref q52, .ref q53, .int 0, .ref q54, .int 0, .ref q55, .int (-9), .int 0, .int 0, .ref q56, .ref q57, .ref q58, .ref q59, .ref q60, .int 0, .ref q61, .ref q62, .ref q63, .int 0, .ref q64, .ref q65, .ref q66, .int 0, .ref q67])), (q50, .inl (cI, 5, .inl (fun _ => 0))), (q51, .inl (cI, 12, .inl (fun _ => 0))), (q52, .inl (cI, 12, .inl (fun _ => (-9)))), (q56, .inl (cI, 12, .inl (fun _ => 0))), (q57, .inl (cI, 12, .inl (fun _ => 0))), (q58, .inl (cI, 49152, .inl (fun _ => 0))), (q59, .inl (cI, 4096, .inl (fun _ => 0))), (q67, .inl (cI, 12, .inl (fun _ => 0)))] H) (hD : va_D (fun q : Nat => s.heap.size ≤ q) [(q1, .inr (11, [.ref q2, .ref q4, .ref q6, .ref q18, .ref q23, .ref q28, .ref q33, .ref q36, .ref q37, .ref q40, .ref q44, .ref q48, .int 0])), (q2, .inr (4, [.ref q3, .int 0, .int 0])), (q3, .inl (cI, 12, .inl (fun _ => 0))), (q4, .inr (10, [.ref q5, .int 0, .int 0])), (q5, .inl (cI, 12, .inl (fun _ => (-1)))), (q6, .inr (6, [.ref q7, .ref q10, .ref q16, .ref q17, .int 0, .int 0, .int 0, .int 0, .int 0])), (q7, .inr (3, [.ref q8, .int 0])), (q8, .inl (c2, 13, .inr (.inr (.inr (.inr (fun i => if i < 13 then some (r9 i) else none)))))), (r9 0, .inl (cI, 12, .inl (fun _ => 0))), (q10, .inr (5, [.ref q11, .ref q14, .ref q15, .int 0, .int 0, .int 0])), (q11, .inr (3, [.ref q12, .int 0])), (q12, .inl (c2, 13, .inr (.inr (.inr (.inr (fun i => if i < 13 then some (r13 i) else none)))))), (r13 0, .inl (cI, 12, .inl (fun _ => 0))), (q14, .inl (cI, 4096, .inl (fun _ => 0))), (q18, .inr (9, [.ref q19, .ref q22, .int 0, .int (-1)])), (q19, .inr (3, [.ref q20, .int 0])), (q20, .inl (c2, 13, .inr (.inr (.inr (.inr (fun i => if i < 13 then some (r21 i) else none)))))), (r21 0, .inl (cI, 12, .inl (fun _ => 0))), (q23, .inr (1, [.int 0, .ref q24, .ref q25, .ref q26, .ref q27, .int 0, .int (-1), .int (-1)])), (q28, .inr (1, [.int 1, .ref q29, .ref q30, .ref q31, .ref q32, .int 0, .int (-1), .int (-1)])), (q33, .inr (7, [.ref q34, .ref q35, .int 0, .int (-1)])), (q35, .inl (cI, 12, .inl (fun _ => 0))), (q37, .inr (2, [.ref q38, .ref q39, .int 0, .int (-1)])), (q40, .inr (0, [.ref q42, .ref q41, .ref q43, .int 0, .int 0, .int 0, .int 0, .int (-1)])), (q42, .inl (cI, 4096, .inl (fun _ => 0))), (q44, .inr (0, [.ref q46, .ref q45, .ref q47, .int 0, .int 0, .int 0, .int 0, .int (-1)])), (q46, .inl (cI, 256, .inl (fun _ => 0))), (q48, .inl (cI, 5, .inl (fun _ => 0))), (q49, .inr (12, [.int 0, .ref q50, .int 0, .ref q51, .int 0, .ref q52, .ref q53, .int 0, .ref q54, .int 0, .ref q55, .int (-9), .int 0, .int 0, .ref q56, .ref q57, .ref q58, .ref q59, .ref q60, .int 0, .ref q61, .ref q62, .ref q63, .int 0, .ref q64, .ref q65, .ref q66, .int 0, .ref q67])), (q50, .inl (cI, 5, .inl (fun _ => 0))), (q51, .inl (cI, 12, .inl (fun _ => 0))), (q52, .inl (cI, 12, .inl (fun _ => (-9)))), (q56, .inl (cI, 12, .inl (fun _ => 0))), (q57, .inl (cI, 12, .inl (fun _ => 0))), (q58, .inl (cI, 49152, .inl (fun _ => 0))), (q59, .inl (cI, 4096, .inl (fun _ => 0))), (q67, .inl (cI, 12, .inl (fun _ => 0)))]) (hS : va_S (fun q : Nat => s.heap.size ≤ q) s.heap H locs) (ls : Array Slot) (hl : lv_has ls 4 [(3, .int 0), (2, .ref q49), (1, .ref q1), (0, .ref b)]) : W p l e room_1 s m #[Value.ref b] below meth c H locs 128 161896 (lw_Z below #[Value.ref b] s) (F0 m 928 ls []) := by
  obtain ⟨hx, hb, hr, hml, hown0, hts0, hX, hbl, hlocks, hgv⟩ := id C0
  have hown : s.vm.findClass RL = some m.cls := hown0
  have hts : ∀ w ∈ wsL_law, w.before #[Value.ref b] s = true := fun w h => hts0 w (wsL_law_in w h)
  have hA : ∀ q : Nat, s.heap.size ≤ q → (fun q : Nat => s.heap.size ≤ q) q := fun _ h => h
  have hbA : ¬ (fun q : Nat => s.heap.size ≤ q) b := Nat.not_le.mpr hbl
  generalize hAe : (fun q : Nat => s.heap.size ≤ q) = A at hD hS hA hbA
  have a1_rg := i_rng a1
  have a2_rg := i_rng a2
  have a3_rg := i_rng a3
  obtain ⟨a1_l, a1_h⟩ := a1_rg
  obtain ⟨a2_l, a2_h⟩ := a2_rg
  obtain ⟨a3_l, a3_h⟩ := a3_rg
  rcases (show a1.toInt ≤ (-1) ∨ 0 ≤ a1.toInt by omega) with g_a1_0 | g_a1_0
  ·
    refine lv_aload_n hx hb dL_law_928 rfl (lv_at hl 2 rfl) ?_
    refine lv_aload_n hx hb dL_law_929 rfl (lv_at hl 3 rfl) ?_
    refine lv_iload_n hx hb dL_law_930 rfl (lv_at hl 0 rfl) ?_
    refine lv_iconst (v := 1) hx hb dL_law_931 (by decide) ?_
    refine lv_iadd hx hb dL_law_932 (tk_i (v := 1) (by decide +kernel) ?_)
    refine va_sld hx hb hX hbl hbA hS (vin (by decide +kernel)) dL_law_933 (tk_i (v := a1) ha1 ?_)
    refine lv_aload_n hx hb dL_law_934 rfl (lv_at hl 3 rfl) ?_
    refine lv_iload_n hx hb dL_law_935 rfl (lv_at hl 0 rfl) ?_
    refine lv_iconst (v := 2) hx hb dL_law_936 (by decide) ?_
    refine lv_iadd hx hb dL_law_937 (tk_i (v := 2) (by decide +kernel) ?_)
    refine va_sld hx hb hX hbl hbA hS (vin (by decide +kernel)) dL_law_938 (tk_i (v := a2) ha2 ?_)
    refine lv_aload_n hx hb dL_law_939 rfl (lv_at hl 3 rfl) ?_
    refine lv_iload_n hx hb dL_law_940 rfl (lv_at hl 0 rfl) ?_
    refine lv_iconst (v := 3) hx hb dL_law_941 (by decide) ?_
    refine lv_iadd hx hb dL_law_942 (tk_i (v := 3) (by decide +kernel) ?_)
    refine va_sld hx hb hX hbl hbA hS (vin (by decide +kernel)) dL_law_943 (tk_i (v := a3) ha3 ?_)
    refine kcall_i (D := (dC, dI)) (S := Unit) (v := (-3)) (wc := [(q1, .inr (11, [.ref q2, .ref q4, .ref q6, .ref q18, .ref q23, .ref q28, .ref q33, .ref q36, .ref q37, .ref q40, .ref q44, .ref q48, .int 0])), (q4, .inr (10, [.ref q5, .int 0, .int 0])), (q48, .inl (cI, 5, .inl (fun _ => 0)))]) (wr := [(q49, .inr (12, [.int 0, .ref q50, .int 0, .ref q51, .int 0, .ref q52, .ref q53, .int 0, .ref q54, .int 0, .ref q55, .int (-9), .int 0, .int 0, .ref q56, .ref q57, .ref q58, .ref q59, .ref q60, .int 0, .ref q61, .ref q62, .ref q63, .int 0, .ref q64, .ref q65, .ref q66, .int 0, .ref q67])), (q50, .inl (cI, 5, .inl (fun _ => 0)))]) (w1 := fun _ => []) (fun hPc hDc => va_runV (As := [.int a1, .int a2, .int a3]) (rest := []) ⟨hx, hb, hml, hown, hts⟩ (kX11_copy_1 l dC dI cI c2 q1 q4 q48 q2 q6 q18 q23 q28 q33 q36 q37 q40 q44 q5 H.size a1 a2 a3 (by omega) (by omega) (by omega) (by omega) (by omega) (by omega)) (cwV 3 hts gL_law_X11_copy rfl rfl rfl (by decide +kernel) ⟨Nat.le_of_ble_eq_true rfl, Nat.le_of_ble_eq_true rfl⟩) (pre_V hPc hK hDc hN (ci := 11) (q0 := 0) rfl rfl) rfl rfl hl.1 rfl (lv_room (Nat.le_of_ble_eq_true rfl)) dL_law_944 ⟨Nat.le_of_ble_eq_true rfl, Nat.le_of_ble_eq_true rfl⟩) hP hD hS hA [0, 3, 27] [28, 29] rfl rfl (by decide) (by decide) (by decide) (fun u H locs hP hD hS => ?_)
    have hP : va_P (dC, dI) vwCl [(q49, .inr (12, [.int 0, .ref q50, .int 0, .ref q51, .int 0, .ref q52, .ref q53, .int 0, .ref q54, .int 0, .ref q55, .int (-9), .int 0, .int 0, .ref q56, .ref q57, .ref q58, .ref q59, .ref q60, .int 0, .ref q61, .ref q62, .ref q63, .int 0, .ref q64, .ref q65, .ref q66, .int 0, .ref q67])), (q50, .inl (cI, 5, .inl (fun _ => 0)))] H := hP
    have hD : va_D A [(q49, .inr (12, [.int 0, .ref q50, .int 0, .ref q51, .int 0, .ref q52, .ref q53, .int 0, .ref q54, .int 0, .ref q55, .int (-9), .int 0, .int 0, .ref q56, .ref q57, .ref q58, .ref q59, .ref q60, .int 0, .ref q61, .ref q62, .ref q63, .int 0, .ref q64, .ref q65, .ref q66, .int 0, .ref q67])), (q50, .inl (cI, 5, .inl (fun _ => 0)))] := hD
    refine lv_aload_n hx hb dL_law_947 rfl (lv_at hl 1 rfl) ?_
    refine lv_aload_n hx hb dL_law_948 rfl (lv_at hl 3 rfl) ?_
    refine lv_iload_n hx hb dL_law_949 rfl (lv_at hl 0 rfl) ?_
    refine lv_iconst (v := 1) hx hb dL_law_950 (by decide) ?_
    refine lv_iadd hx hb dL_law_951 (tk_i (v := 1) (by decide +kernel) ?_)
    refine va_sld hx hb hX hbl hbA hS (vin (by decide +kernel)) dL_law_952 (tk_i (v := a1) ha1 ?_)
    refine lv_aload_n hx hb dL_law_953 rfl (lv_at hl 3 rfl) ?_
    refine lv_iload_n hx hb dL_law_954 rfl (lv_at hl 0 rfl) ?_
    refine lv_iconst (v := 2) hx hb dL_law_955 (by decide) ?_
    refine lv_iadd hx hb dL_law_956 (tk_i (v := 2) (by decide +kernel) ?_)
    refine va_sld hx hb hX hbl hbA hS (vin (by decide +kernel)) dL_law_957 (tk_i (v := a2) ha2 ?_)
    refine lv_aload_n hx hb dL_law_958 rfl (lv_at hl 3 rfl) ?_
    refine lv_iload_n hx hb dL_law_959 rfl (lv_at hl 0 rfl) ?_
    refine lv_iconst (v := 3) hx hb dL_law_960 (by decide) ?_
    refine lv_iadd hx hb dL_law_961 (tk_i (v := 3) (by decide +kernel) ?_)
    refine va_sld hx hb hX hbl hbA hS (vin (by decide +kernel)) dL_law_962 (tk_i (v := a3) ha3 ?_)
    refine kcall_i (D := (dC, dI)) (S := Unit) (v := (-3)) (wc := [(q49, .inr (12, [.int 0, .ref q50, .int 0, .ref q51, .int 0, .ref q52, .ref q53, .int 0, .ref q54, .int 0, .ref q55, .int (-9), .int 0, .int 0, .ref q56, .ref q57, .ref q58, .ref q59, .ref q60, .int 0, .ref q61, .ref q62, .ref q63, .int 0, .ref q64, .ref q65, .ref q66, .int 0, .ref q67])), (q50, .inl (cI, 5, .inl (fun _ => 0)))]) (wr := []) (w1 := fun _ => []) (fun hPc hDc => va_runV (As := [.int a1, .int a2, .int a3]) (rest := [.int (-3)]) ⟨hx, hb, hml, hown, hts⟩ (kX12_copy_1 l dC dI cI c2 q49 q50 q51 q52 q53 q54 q55 q56 q57 q58 q59 q60 q61 q62 q63 q64 q65 q66 q67 H.size a1 a2 a3 (by omega) (by omega) (by omega) (by omega) (by omega) (by omega)) (cwV 3 hts gL_law_X12_copy rfl rfl rfl (by decide +kernel) ⟨Nat.le_of_ble_eq_true rfl, Nat.le_of_ble_eq_true rfl⟩) (pre_V hPc hK hDc hN (ci := 12) (q0 := 0) rfl rfl) rfl rfl hl.1 rfl (lv_room (Nat.le_of_ble_eq_true rfl)) dL_law_963 ⟨Nat.le_of_ble_eq_true rfl, Nat.le_of_ble_eq_true rfl⟩) hP hD hS hA [0, 1] [] rfl rfl (by decide) (by decide) (by decide) (fun u H locs hP hD hS => ?_)
    have hP : va_P (dC, dI) vwCl [] H := hP
    have hD : va_D A [] := hD
    refine lv_icmp_eq (tgt := 1080) hx hb dL_law_966 (by decide) (fun _ => ?_) (fun h9 => absurd (by decide +kernel) h9)
    refine lv_iinc (v := 4) (lv' := [(3, .int 4), (2, .ref q49), (1, .ref q1), (0, .ref b)]) hx hb dL_law_1080 hl (k := 0) rfl (by decide +kernel) (by decide) rfl (fun ls hl => ?_)
    refine lv_goto (tgt := 18) hx hb dL_law_1083 (by decide) ?_
    refine lv_iload_n hx hb dL_law_18 rfl (lv_at hl 0 rfl) ?_
    refine lv_aload_n hx hb dL_law_19 rfl (lv_at hl 3 rfl) ?_
    refine va_slen hx hb hX hbl hbA hS dL_law_20 (tk_i (v := 4) (by decide +kernel) ?_)
    refine lv_iconst (v := 4) hx hb dL_law_21 (by decide) ?_
    refine lv_isub hx hb dL_law_22 (tk_i (v := 0) (by decide +kernel) ?_)
    refine lv_icmp_gt (tgt := 1086) hx hb dL_law_23 (by decide) (fun _ => ?_) (fun h9 => absurd (by decide +kernel) h9)
    refine lv_iconst (v := 1) hx hb dL_law_1086 (by decide) ?_
    refine va_forget (fun q hq => by have h9 := hS.2.2 q hq; rw [← hAe] at h9; exact h9) ?_
    refine W.widen (k := 600000) (n := 7302250) (by decide) (by decide) ?_
    exact lw_ret hx hb hr hlocks dL_law_1087
  ·
    rcases (show a3.toInt ≤ (-1) ∨ 0 ≤ a3.toInt by omega) with g_a3_0 | g_a3_0
    ·
      rcases (show a2.toInt ≤ (-1) ∨ 0 ≤ a2.toInt by omega) with g_a2_0 | g_a2_0
      ·
        refine lv_aload_n hx hb dL_law_928 rfl (lv_at hl 2 rfl) ?_
        refine lv_aload_n hx hb dL_law_929 rfl (lv_at hl 3 rfl) ?_
        refine lv_iload_n hx hb dL_law_930 rfl (lv_at hl 0 rfl) ?_
        refine lv_iconst (v := 1) hx hb dL_law_931 (by decide) ?_
        refine lv_iadd hx hb dL_law_932 (tk_i (v := 1) (by decide +kernel) ?_)
        refine va_sld hx hb hX hbl hbA hS (vin (by decide +kernel)) dL_law_933 (tk_i (v := a1) ha1 ?_)
        refine lv_aload_n hx hb dL_law_934 rfl (lv_at hl 3 rfl) ?_
        refine lv_iload_n hx hb dL_law_935 rfl (lv_at hl 0 rfl) ?_
        refine lv_iconst (v := 2) hx hb dL_law_936 (by decide) ?_
        refine lv_iadd hx hb dL_law_937 (tk_i (v := 2) (by decide +kernel) ?_)
        refine va_sld hx hb hX hbl hbA hS (vin (by decide +kernel)) dL_law_938 (tk_i (v := a2) ha2 ?_)
        refine lv_aload_n hx hb dL_law_939 rfl (lv_at hl 3 rfl) ?_
        refine lv_iload_n hx hb dL_law_940 rfl (lv_at hl 0 rfl) ?_
        refine lv_iconst (v := 3) hx hb dL_law_941 (by decide) ?_
        refine lv_iadd hx hb dL_law_942 (tk_i (v := 3) (by decide +kernel) ?_)
        refine va_sld hx hb hX hbl hbA hS (vin (by decide +kernel)) dL_law_943 (tk_i (v := a3) ha3 ?_)
        refine kcall_i (D := (dC, dI)) (S := Unit) (v := (-3)) (wc := [(q1, .inr (11, [.ref q2, .ref q4, .ref q6, .ref q18, .ref q23, .ref q28, .ref q33, .ref q36, .ref q37, .ref q40, .ref q44, .ref q48, .int 0])), (q4, .inr (10, [.ref q5, .int 0, .int 0])), (q48, .inl (cI, 5, .inl (fun _ => 0)))]) (wr := [(q49, .inr (12, [.int 0, .ref q50, .int 0, .ref q51, .int 0, .ref q52, .ref q53, .int 0, .ref q54, .int 0, .ref q55, .int (-9), .int 0, .int 0, .ref q56, .ref q57, .ref q58, .ref q59, .ref q60, .int 0, .ref q61, .ref q62, .ref q63, .int 0, .ref q64, .ref q65, .ref q66, .int 0, .ref q67])), (q50, .inl (cI, 5, .inl (fun _ => 0)))]) (w1 := fun _ => []) (fun hPc hDc => va_runV (As := [.int a1, .int a2, .int a3]) (rest := []) ⟨hx, hb, hml, hown, hts⟩ (kX11_copy_2 l dC dI cI c2 q1 q4 q48 q2 q6 q18 q23 q28 q33 q36 q37 q40 q44 q5 H.size a1 a2 a3 (by omega) (by omega) (by omega) (by omega) (by omega) (by omega)) (cwV 3 hts gL_law_X11_copy rfl rfl rfl (by decide +kernel) ⟨Nat.le_of_ble_eq_true rfl, Nat.le_of_ble_eq_true rfl⟩) (pre_V hPc hK hDc hN (ci := 11) (q0 := 0) rfl rfl) rfl rfl hl.1 rfl (lv_room (Nat.le_of_ble_eq_true rfl)) dL_law_944 ⟨Nat.le_of_ble_eq_true rfl, Nat.le_of_ble_eq_true rfl⟩) hP hD hS hA [0, 3, 27] [28, 29] rfl rfl (by decide) (by decide) (by decide) (fun u H locs hP hD hS => ?_)
        have hP : va_P (dC, dI) vwCl [(q49, .inr (12, [.int 0, .ref q50, .int 0, .ref q51, .int 0, .ref q52, .ref q53, .int 0, .ref q54, .int 0, .ref q55, .int (-9), .int 0, .int 0, .ref q56, .ref q57, .ref q58, .ref q59, .ref q60, .int 0, .ref q61, .ref q62, .ref q63, .int 0, .ref q64, .ref q65, .ref q66, .int 0, .ref q67])), (q50, .inl (cI, 5, .inl (fun _ => 0)))] H := hP
        have hD : va_D A [(q49, .inr (12, [.int 0, .ref q50, .int 0, .ref q51, .int 0, .ref q52, .ref q53, .int 0, .ref q54, .int 0, .ref q55, .int (-9), .int 0, .int 0, .ref q56, .ref q57, .ref q58, .ref q59, .ref q60, .int 0, .ref q61, .ref q62, .ref q63, .int 0, .ref q64, .ref q65, .ref q66, .int 0, .ref q67])), (q50, .inl (cI, 5, .inl (fun _ => 0)))] := hD
        refine lv_aload_n hx hb dL_law_947 rfl (lv_at hl 1 rfl) ?_
        refine lv_aload_n hx hb dL_law_948 rfl (lv_at hl 3 rfl) ?_
        refine lv_iload_n hx hb dL_law_949 rfl (lv_at hl 0 rfl) ?_
        refine lv_iconst (v := 1) hx hb dL_law_950 (by decide) ?_
        refine lv_iadd hx hb dL_law_951 (tk_i (v := 1) (by decide +kernel) ?_)
        refine va_sld hx hb hX hbl hbA hS (vin (by decide +kernel)) dL_law_952 (tk_i (v := a1) ha1 ?_)
        refine lv_aload_n hx hb dL_law_953 rfl (lv_at hl 3 rfl) ?_
        refine lv_iload_n hx hb dL_law_954 rfl (lv_at hl 0 rfl) ?_
        refine lv_iconst (v := 2) hx hb dL_law_955 (by decide) ?_
        refine lv_iadd hx hb dL_law_956 (tk_i (v := 2) (by decide +kernel) ?_)
        refine va_sld hx hb hX hbl hbA hS (vin (by decide +kernel)) dL_law_957 (tk_i (v := a2) ha2 ?_)
        refine lv_aload_n hx hb dL_law_958 rfl (lv_at hl 3 rfl) ?_
        refine lv_iload_n hx hb dL_law_959 rfl (lv_at hl 0 rfl) ?_
        refine lv_iconst (v := 3) hx hb dL_law_960 (by decide) ?_
        refine lv_iadd hx hb dL_law_961 (tk_i (v := 3) (by decide +kernel) ?_)
        refine va_sld hx hb hX hbl hbA hS (vin (by decide +kernel)) dL_law_962 (tk_i (v := a3) ha3 ?_)
        refine kcall_i (D := (dC, dI)) (S := Unit) (v := (-3)) (wc := [(q49, .inr (12, [.int 0, .ref q50, .int 0, .ref q51, .int 0, .ref q52, .ref q53, .int 0, .ref q54, .int 0, .ref q55, .int (-9), .int 0, .int 0, .ref q56, .ref q57, .ref q58, .ref q59, .ref q60, .int 0, .ref q61, .ref q62, .ref q63, .int 0, .ref q64, .ref q65, .ref q66, .int 0, .ref q67])), (q50, .inl (cI, 5, .inl (fun _ => 0)))]) (wr := []) (w1 := fun _ => []) (fun hPc hDc => va_runV (As := [.int a1, .int a2, .int a3]) (rest := [.int (-3)]) ⟨hx, hb, hml, hown, hts⟩ (kX12_copy_2 l dC dI cI c2 q49 q50 q51 q52 q53 q54 q55 q56 q57 q58 q59 q60 q61 q62 q63 q64 q65 q66 q67 H.size a1 a2 a3 (by omega) (by omega) (by omega) (by omega) (by omega) (by omega)) (cwV 3 hts gL_law_X12_copy rfl rfl rfl (by decide +kernel) ⟨Nat.le_of_ble_eq_true rfl, Nat.le_of_ble_eq_true rfl⟩) (pre_V hPc hK hDc hN (ci := 12) (q0 := 0) rfl rfl) rfl rfl hl.1 rfl (lv_room (Nat.le_of_ble_eq_true rfl)) dL_law_963 ⟨Nat.le_of_ble_eq_true rfl, Nat.le_of_ble_eq_true rfl⟩) hP hD hS hA [0, 1] [] rfl rfl (by decide) (by decide) (by decide) (fun u H locs hP hD hS => ?_)
        have hP : va_P (dC, dI) vwCl [] H := hP
        have hD : va_D A [] := hD
        refine lv_icmp_eq (tgt := 1080) hx hb dL_law_966 (by decide) (fun _ => ?_) (fun h9 => absurd (by decide +kernel) h9)
        refine lv_iinc (v := 4) (lv' := [(3, .int 4), (2, .ref q49), (1, .ref q1), (0, .ref b)]) hx hb dL_law_1080 hl (k := 0) rfl (by decide +kernel) (by decide) rfl (fun ls hl => ?_)
        refine lv_goto (tgt := 18) hx hb dL_law_1083 (by decide) ?_
        refine lv_iload_n hx hb dL_law_18 rfl (lv_at hl 0 rfl) ?_
        refine lv_aload_n hx hb dL_law_19 rfl (lv_at hl 3 rfl) ?_
        refine va_slen hx hb hX hbl hbA hS dL_law_20 (tk_i (v := 4) (by decide +kernel) ?_)
        refine lv_iconst (v := 4) hx hb dL_law_21 (by decide) ?_
        refine lv_isub hx hb dL_law_22 (tk_i (v := 0) (by decide +kernel) ?_)
        refine lv_icmp_gt (tgt := 1086) hx hb dL_law_23 (by decide) (fun _ => ?_) (fun h9 => absurd (by decide +kernel) h9)
        refine lv_iconst (v := 1) hx hb dL_law_1086 (by decide) ?_
        refine va_forget (fun q hq => by have h9 := hS.2.2 q hq; rw [← hAe] at h9; exact h9) ?_
        refine W.widen (k := 600000) (n := 7302250) (by decide) (by decide) ?_
        exact lw_ret hx hb hr hlocks dL_law_1087
      ·
        refine lv_aload_n hx hb dL_law_928 rfl (lv_at hl 2 rfl) ?_
        refine lv_aload_n hx hb dL_law_929 rfl (lv_at hl 3 rfl) ?_
        refine lv_iload_n hx hb dL_law_930 rfl (lv_at hl 0 rfl) ?_
        refine lv_iconst (v := 1) hx hb dL_law_931 (by decide) ?_
        refine lv_iadd hx hb dL_law_932 (tk_i (v := 1) (by decide +kernel) ?_)
        refine va_sld hx hb hX hbl hbA hS (vin (by decide +kernel)) dL_law_933 (tk_i (v := a1) ha1 ?_)
        refine lv_aload_n hx hb dL_law_934 rfl (lv_at hl 3 rfl) ?_
        refine lv_iload_n hx hb dL_law_935 rfl (lv_at hl 0 rfl) ?_
        refine lv_iconst (v := 2) hx hb dL_law_936 (by decide) ?_
        refine lv_iadd hx hb dL_law_937 (tk_i (v := 2) (by decide +kernel) ?_)
        refine va_sld hx hb hX hbl hbA hS (vin (by decide +kernel)) dL_law_938 (tk_i (v := a2) ha2 ?_)
        refine lv_aload_n hx hb dL_law_939 rfl (lv_at hl 3 rfl) ?_
        refine lv_iload_n hx hb dL_law_940 rfl (lv_at hl 0 rfl) ?_
        refine lv_iconst (v := 3) hx hb dL_law_941 (by decide) ?_
        refine lv_iadd hx hb dL_law_942 (tk_i (v := 3) (by decide +kernel) ?_)
        refine va_sld hx hb hX hbl hbA hS (vin (by decide +kernel)) dL_law_943 (tk_i (v := a3) ha3 ?_)
        refine kcall_i (D := (dC, dI)) (S := Unit) (v := (-3)) (wc := [(q1, .inr (11, [.ref q2, .ref q4, .ref q6, .ref q18, .ref q23, .ref q28, .ref q33, .ref q36, .ref q37, .ref q40, .ref q44, .ref q48, .int 0])), (q4, .inr (10, [.ref q5, .int 0, .int 0])), (q48, .inl (cI, 5, .inl (fun _ => 0)))]) (wr := [(q49, .inr (12, [.int 0, .ref q50, .int 0, .ref q51, .int 0, .ref q52, .ref q53, .int 0, .ref q54, .int 0, .ref q55, .int (-9), .int 0, .int 0, .ref q56, .ref q57, .ref q58, .ref q59, .ref q60, .int 0, .ref q61, .ref q62, .ref q63, .int 0, .ref q64, .ref q65, .ref q66, .int 0, .ref q67])), (q50, .inl (cI, 5, .inl (fun _ => 0)))]) (w1 := fun _ => []) (fun hPc hDc => va_runV (As := [.int a1, .int a2, .int a3]) (rest := []) ⟨hx, hb, hml, hown, hts⟩ (kX11_copy_3 l dC dI cI c2 q1 q4 q48 q2 q6 q18 q23 q28 q33 q36 q37 q40 q44 q5 H.size a1 a2 a3 (by omega) (by omega) (by omega) (by omega) (by omega) (by omega)) (cwV 3 hts gL_law_X11_copy rfl rfl rfl (by decide +kernel) ⟨Nat.le_of_ble_eq_true rfl, Nat.le_of_ble_eq_true rfl⟩) (pre_V hPc hK hDc hN (ci := 11) (q0 := 0) rfl rfl) rfl rfl hl.1 rfl (lv_room (Nat.le_of_ble_eq_true rfl)) dL_law_944 ⟨Nat.le_of_ble_eq_true rfl, Nat.le_of_ble_eq_true rfl⟩) hP hD hS hA [0, 3, 27] [28, 29] rfl rfl (by decide) (by decide) (by decide) (fun u H locs hP hD hS => ?_)
        have hP : va_P (dC, dI) vwCl [(q49, .inr (12, [.int 0, .ref q50, .int 0, .ref q51, .int 0, .ref q52, .ref q53, .int 0, .ref q54, .int 0, .ref q55, .int (-9), .int 0, .int 0, .ref q56, .ref q57, .ref q58, .ref q59, .ref q60, .int 0, .ref q61, .ref q62, .ref q63, .int 0, .ref q64, .ref q65, .ref q66, .int 0, .ref q67])), (q50, .inl (cI, 5, .inl (fun _ => 0)))] H := hP
        have hD : va_D A [(q49, .inr (12, [.int 0, .ref q50, .int 0, .ref q51, .int 0, .ref q52, .ref q53, .int 0, .ref q54, .int 0, .ref q55, .int (-9), .int 0, .int 0, .ref q56, .ref q57, .ref q58, .ref q59, .ref q60, .int 0, .ref q61, .ref q62, .ref q63, .int 0, .ref q64, .ref q65, .ref q66, .int 0, .ref q67])), (q50, .inl (cI, 5, .inl (fun _ => 0)))] := hD
        refine lv_aload_n hx hb dL_law_947 rfl (lv_at hl 1 rfl) ?_
        refine lv_aload_n hx hb dL_law_948 rfl (lv_at hl 3 rfl) ?_
        refine lv_iload_n hx hb dL_law_949 rfl (lv_at hl 0 rfl) ?_
        refine lv_iconst (v := 1) hx hb dL_law_950 (by decide) ?_
        refine lv_iadd hx hb dL_law_951 (tk_i (v := 1) (by decide +kernel) ?_)
        refine va_sld hx hb hX hbl hbA hS (vin (by decide +kernel)) dL_law_952 (tk_i (v := a1) ha1 ?_)
        refine lv_aload_n hx hb dL_law_953 rfl (lv_at hl 3 rfl) ?_
        refine lv_iload_n hx hb dL_law_954 rfl (lv_at hl 0 rfl) ?_
        refine lv_iconst (v := 2) hx hb dL_law_955 (by decide) ?_
        refine lv_iadd hx hb dL_law_956 (tk_i (v := 2) (by decide +kernel) ?_)
        refine va_sld hx hb hX hbl hbA hS (vin (by decide +kernel)) dL_law_957 (tk_i (v := a2) ha2 ?_)
        refine lv_aload_n hx hb dL_law_958 rfl (lv_at hl 3 rfl) ?_
        refine lv_iload_n hx hb dL_law_959 rfl (lv_at hl 0 rfl) ?_
        refine lv_iconst (v := 3) hx hb dL_law_960 (by decide) ?_
        refine lv_iadd hx hb dL_law_961 (tk_i (v := 3) (by decide +kernel) ?_)
        refine va_sld hx hb hX hbl hbA hS (vin (by decide +kernel)) dL_law_962 (tk_i (v := a3) ha3 ?_)
        refine kcall_i (D := (dC, dI)) (S := Unit) (v := (-3)) (wc := [(q49, .inr (12, [.int 0, .ref q50, .int 0, .ref q51, .int 0, .ref q52, .ref q53, .int 0, .ref q54, .int 0, .ref q55, .int (-9), .int 0, .int 0, .ref q56, .ref q57, .ref q58, .ref q59, .ref q60, .int 0, .ref q61, .ref q62, .ref q63, .int 0, .ref q64, .ref q65, .ref q66, .int 0, .ref q67])), (q50, .inl (cI, 5, .inl (fun _ => 0)))]) (wr := []) (w1 := fun _ => []) (fun hPc hDc => va_runV (As := [.int a1, .int a2, .int a3]) (rest := [.int (-3)]) ⟨hx, hb, hml, hown, hts⟩ (kX12_copy_3 l dC dI cI c2 q49 q50 q51 q52 q53 q54 q55 q56 q57 q58 q59 q60 q61 q62 q63 q64 q65 q66 q67 H.size a1 a2 a3 (by omega) (by omega) (by omega) (by omega) (by omega) (by omega)) (cwV 3 hts gL_law_X12_copy rfl rfl rfl (by decide +kernel) ⟨Nat.le_of_ble_eq_true rfl, Nat.le_of_ble_eq_true rfl⟩) (pre_V hPc hK hDc hN (ci := 12) (q0 := 0) rfl rfl) rfl rfl hl.1 rfl (lv_room (Nat.le_of_ble_eq_true rfl)) dL_law_963 ⟨Nat.le_of_ble_eq_true rfl, Nat.le_of_ble_eq_true rfl⟩) hP hD hS hA [0, 1] [] rfl rfl (by decide) (by decide) (by decide) (fun u H locs hP hD hS => ?_)
        have hP : va_P (dC, dI) vwCl [] H := hP
        have hD : va_D A [] := hD
        refine lv_icmp_eq (tgt := 1080) hx hb dL_law_966 (by decide) (fun _ => ?_) (fun h9 => absurd (by decide +kernel) h9)
        refine lv_iinc (v := 4) (lv' := [(3, .int 4), (2, .ref q49), (1, .ref q1), (0, .ref b)]) hx hb dL_law_1080 hl (k := 0) rfl (by decide +kernel) (by decide) rfl (fun ls hl => ?_)
        refine lv_goto (tgt := 18) hx hb dL_law_1083 (by decide) ?_
        refine lv_iload_n hx hb dL_law_18 rfl (lv_at hl 0 rfl) ?_
        refine lv_aload_n hx hb dL_law_19 rfl (lv_at hl 3 rfl) ?_
        refine va_slen hx hb hX hbl hbA hS dL_law_20 (tk_i (v := 4) (by decide +kernel) ?_)
        refine lv_iconst (v := 4) hx hb dL_law_21 (by decide) ?_
        refine lv_isub hx hb dL_law_22 (tk_i (v := 0) (by decide +kernel) ?_)
        refine lv_icmp_gt (tgt := 1086) hx hb dL_law_23 (by decide) (fun _ => ?_) (fun h9 => absurd (by decide +kernel) h9)
        refine lv_iconst (v := 1) hx hb dL_law_1086 (by decide) ?_
        refine va_forget (fun q hq => by have h9 := hS.2.2 q hq; rw [← hAe] at h9; exact h9) ?_
        refine W.widen (k := 600000) (n := 7302250) (by decide) (by decide) ?_
        exact lw_ret hx hb hr hlocks dL_law_1087
    ·
      rcases (show a1.toInt ≤ 12 ∨ 13 ≤ a1.toInt by omega) with g_a1_13 | g_a1_13
      ·
        rcases (show a3.toInt ≤ 12 ∨ 13 ≤ a3.toInt by omega) with g_a3_13 | g_a3_13
        ·
          rcases (show a3.toInt ≤ 0 ∨ 1 ≤ a3.toInt by omega) with g_a3_1 | g_a3_1
          ·
            rcases (show a2.toInt ≤ (-1) ∨ 0 ≤ a2.toInt by omega) with g_a2_0 | g_a2_0
            ·
              have e_a3 : a3 = 0 := ib_eq (X := 0) (by omega) (by decide +kernel)
              subst e_a3
              refine lv_aload_n hx hb dL_law_928 rfl (lv_at hl 2 rfl) ?_
              refine lv_aload_n hx hb dL_law_929 rfl (lv_at hl 3 rfl) ?_
              refine lv_iload_n hx hb dL_law_930 rfl (lv_at hl 0 rfl) ?_
              refine lv_iconst (v := 1) hx hb dL_law_931 (by decide) ?_
              refine lv_iadd hx hb dL_law_932 (tk_i (v := 1) (by decide +kernel) ?_)
              refine va_sld hx hb hX hbl hbA hS (vin (by decide +kernel)) dL_law_933 (tk_i (v := a1) ha1 ?_)
              refine lv_aload_n hx hb dL_law_934 rfl (lv_at hl 3 rfl) ?_
              refine lv_iload_n hx hb dL_law_935 rfl (lv_at hl 0 rfl) ?_
              refine lv_iconst (v := 2) hx hb dL_law_936 (by decide) ?_
              refine lv_iadd hx hb dL_law_937 (tk_i (v := 2) (by decide +kernel) ?_)
              refine va_sld hx hb hX hbl hbA hS (vin (by decide +kernel)) dL_law_938 (tk_i (v := a2) ha2 ?_)
              refine lv_aload_n hx hb dL_law_939 rfl (lv_at hl 3 rfl) ?_
              refine lv_iload_n hx hb dL_law_940 rfl (lv_at hl 0 rfl) ?_
              refine lv_iconst (v := 3) hx hb dL_law_941 (by decide) ?_
              refine lv_iadd hx hb dL_law_942 (tk_i (v := 3) (by decide +kernel) ?_)
              refine va_sld hx hb hX hbl hbA hS (vin (by decide +kernel)) dL_law_943 (tk_i (v := 0) ha3 ?_)
              refine kcall_i (D := (dC, dI)) (S := Unit) (v := (-3)) (wc := [(q1, .inr (11, [.ref q2, .ref q4, .ref q6, .ref q18, .ref q23, .ref q28, .ref q33, .ref q36, .ref q37, .ref q40, .ref q44, .ref q48, .int 0])), (q4, .inr (10, [.ref q5, .int 0, .int 0])), (q48, .inl (cI, 5, .inl (fun _ => 0)))]) (wr := [(q49, .inr (12, [.int 0, .ref q50, .int 0, .ref q51, .int 0, .ref q52, .ref q53, .int 0, .ref q54, .int 0, .ref q55, .int (-9), .int 0, .int 0, .ref q56, .ref q57, .ref q58, .ref q59, .ref q60, .int 0, .ref q61, .ref q62, .ref q63, .int 0, .ref q64, .ref q65, .ref q66, .int 0, .ref q67])), (q50, .inl (cI, 5, .inl (fun _ => 0)))]) (w1 := fun _ => []) (fun hPc hDc => va_runV (As := [.int a1, .int a2, .int 0]) (rest := []) ⟨hx, hb, hml, hown, hts⟩ (kX11_copy_4 l dC dI cI c2 q1 q4 q48 q2 q6 q18 q23 q28 q33 q36 q37 q40 q44 q5 H.size a1 a2 (by omega) (by omega) (by omega) (by omega)) (cwV 3 hts gL_law_X11_copy rfl rfl rfl (by decide +kernel) ⟨Nat.le_of_ble_eq_true rfl, Nat.le_of_ble_eq_true rfl⟩) (pre_V hPc hK hDc hN (ci := 11) (q0 := 0) rfl rfl) rfl rfl hl.1 rfl (lv_room (Nat.le_of_ble_eq_true rfl)) dL_law_944 ⟨Nat.le_of_ble_eq_true rfl, Nat.le_of_ble_eq_true rfl⟩) hP hD hS hA [0, 3, 27] [28, 29] rfl rfl (by decide) (by decide) (by decide) (fun u H locs hP hD hS => ?_)
              have hP : va_P (dC, dI) vwCl [(q49, .inr (12, [.int 0, .ref q50, .int 0, .ref q51, .int 0, .ref q52, .ref q53, .int 0, .ref q54, .int 0, .ref q55, .int (-9), .int 0, .int 0, .ref q56, .ref q57, .ref q58, .ref q59, .ref q60, .int 0, .ref q61, .ref q62, .ref q63, .int 0, .ref q64, .ref q65, .ref q66, .int 0, .ref q67])), (q50, .inl (cI, 5, .inl (fun _ => 0)))] H := hP
              have hD : va_D A [(q49, .inr (12, [.int 0, .ref q50, .int 0, .ref q51, .int 0, .ref q52, .ref q53, .int 0, .ref q54, .int 0, .ref q55, .int (-9), .int 0, .int 0, .ref q56, .ref q57, .ref q58, .ref q59, .ref q60, .int 0, .ref q61, .ref q62, .ref q63, .int 0, .ref q64, .ref q65, .ref q66, .int 0, .ref q67])), (q50, .inl (cI, 5, .inl (fun _ => 0)))] := hD
              refine lv_aload_n hx hb dL_law_947 rfl (lv_at hl 1 rfl) ?_
              refine lv_aload_n hx hb dL_law_948 rfl (lv_at hl 3 rfl) ?_
              refine lv_iload_n hx hb dL_law_949 rfl (lv_at hl 0 rfl) ?_
              refine lv_iconst (v := 1) hx hb dL_law_950 (by decide) ?_
              refine lv_iadd hx hb dL_law_951 (tk_i (v := 1) (by decide +kernel) ?_)
              refine va_sld hx hb hX hbl hbA hS (vin (by decide +kernel)) dL_law_952 (tk_i (v := a1) ha1 ?_)
              refine lv_aload_n hx hb dL_law_953 rfl (lv_at hl 3 rfl) ?_
              refine lv_iload_n hx hb dL_law_954 rfl (lv_at hl 0 rfl) ?_
              refine lv_iconst (v := 2) hx hb dL_law_955 (by decide) ?_
              refine lv_iadd hx hb dL_law_956 (tk_i (v := 2) (by decide +kernel) ?_)
              refine va_sld hx hb hX hbl hbA hS (vin (by decide +kernel)) dL_law_957 (tk_i (v := a2) ha2 ?_)
              refine lv_aload_n hx hb dL_law_958 rfl (lv_at hl 3 rfl) ?_
              refine lv_iload_n hx hb dL_law_959 rfl (lv_at hl 0 rfl) ?_
              refine lv_iconst (v := 3) hx hb dL_law_960 (by decide) ?_
              refine lv_iadd hx hb dL_law_961 (tk_i (v := 3) (by decide +kernel) ?_)
              refine va_sld hx hb hX hbl hbA hS (vin (by decide +kernel)) dL_law_962 (tk_i (v := 0) ha3 ?_)
              refine kcall_i (D := (dC, dI)) (S := Unit) (v := (-3)) (wc := [(q49, .inr (12, [.int 0, .ref q50, .int 0, .ref q51, .int 0, .ref q52, .ref q53, .int 0, .ref q54, .int 0, .ref q55, .int (-9), .int 0, .int 0, .ref q56, .ref q57, .ref q58, .ref q59, .ref q60, .int 0, .ref q61, .ref q62, .ref q63, .int 0, .ref q64, .ref q65, .ref q66, .int 0, .ref q67])), (q50, .inl (cI, 5, .inl (fun _ => 0)))]) (wr := []) (w1 := fun _ => []) (fun hPc hDc => va_runV (As := [.int a1, .int a2, .int 0]) (rest := [.int (-3)]) ⟨hx, hb, hml, hown, hts⟩ (kX12_copy_4 l dC dI cI c2 q49 q50 q51 q52 q53 q54 q55 q56 q57 q58 q59 q60 q61 q62 q63 q64 q65 q66 q67 H.size a1 a2 (by omega) (by omega) (by omega) (by omega)) (cwV 3 hts gL_law_X12_copy rfl rfl rfl (by decide +kernel) ⟨Nat.le_of_ble_eq_true rfl, Nat.le_of_ble_eq_true rfl⟩) (pre_V hPc hK hDc hN (ci := 12) (q0 := 0) rfl rfl) rfl rfl hl.1 rfl (lv_room (Nat.le_of_ble_eq_true rfl)) dL_law_963 ⟨Nat.le_of_ble_eq_true rfl, Nat.le_of_ble_eq_true rfl⟩) hP hD hS hA [0, 1] [] rfl rfl (by decide) (by decide) (by decide) (fun u H locs hP hD hS => ?_)
              have hP : va_P (dC, dI) vwCl [] H := hP
              have hD : va_D A [] := hD
              refine lv_icmp_eq (tgt := 1080) hx hb dL_law_966 (by decide) (fun _ => ?_) (fun h9 => absurd (by decide +kernel) h9)
              refine lv_iinc (v := 4) (lv' := [(3, .int 4), (2, .ref q49), (1, .ref q1), (0, .ref b)]) hx hb dL_law_1080 hl (k := 0) rfl (by decide +kernel) (by decide) rfl (fun ls hl => ?_)
              refine lv_goto (tgt := 18) hx hb dL_law_1083 (by decide) ?_
              refine lv_iload_n hx hb dL_law_18 rfl (lv_at hl 0 rfl) ?_
              refine lv_aload_n hx hb dL_law_19 rfl (lv_at hl 3 rfl) ?_
              refine va_slen hx hb hX hbl hbA hS dL_law_20 (tk_i (v := 4) (by decide +kernel) ?_)
              refine lv_iconst (v := 4) hx hb dL_law_21 (by decide) ?_
              refine lv_isub hx hb dL_law_22 (tk_i (v := 0) (by decide +kernel) ?_)
              refine lv_icmp_gt (tgt := 1086) hx hb dL_law_23 (by decide) (fun _ => ?_) (fun h9 => absurd (by decide +kernel) h9)
              refine lv_iconst (v := 1) hx hb dL_law_1086 (by decide) ?_
              refine va_forget (fun q hq => by have h9 := hS.2.2 q hq; rw [← hAe] at h9; exact h9) ?_
              refine W.widen (k := 600000) (n := 7302250) (by decide) (by decide) ?_
              exact lw_ret hx hb hr hlocks dL_law_1087
            ·
              rcases (show a2.toInt ≤ 12 ∨ 13 ≤ a2.toInt by omega) with g_a2_13 | g_a2_13
              ·
                have e_a3 : a3 = 0 := ib_eq (X := 0) (by omega) (by decide +kernel)
                subst e_a3
                refine lv_aload_n hx hb dL_law_928 rfl (lv_at hl 2 rfl) ?_
                refine lv_aload_n hx hb dL_law_929 rfl (lv_at hl 3 rfl) ?_
                refine lv_iload_n hx hb dL_law_930 rfl (lv_at hl 0 rfl) ?_
                refine lv_iconst (v := 1) hx hb dL_law_931 (by decide) ?_
                refine lv_iadd hx hb dL_law_932 (tk_i (v := 1) (by decide +kernel) ?_)
                refine va_sld hx hb hX hbl hbA hS (vin (by decide +kernel)) dL_law_933 (tk_i (v := a1) ha1 ?_)
                refine lv_aload_n hx hb dL_law_934 rfl (lv_at hl 3 rfl) ?_
                refine lv_iload_n hx hb dL_law_935 rfl (lv_at hl 0 rfl) ?_
                refine lv_iconst (v := 2) hx hb dL_law_936 (by decide) ?_
                refine lv_iadd hx hb dL_law_937 (tk_i (v := 2) (by decide +kernel) ?_)
                refine va_sld hx hb hX hbl hbA hS (vin (by decide +kernel)) dL_law_938 (tk_i (v := a2) ha2 ?_)
                refine lv_aload_n hx hb dL_law_939 rfl (lv_at hl 3 rfl) ?_
                refine lv_iload_n hx hb dL_law_940 rfl (lv_at hl 0 rfl) ?_
                refine lv_iconst (v := 3) hx hb dL_law_941 (by decide) ?_
                refine lv_iadd hx hb dL_law_942 (tk_i (v := 3) (by decide +kernel) ?_)
                refine va_sld hx hb hX hbl hbA hS (vin (by decide +kernel)) dL_law_943 (tk_i (v := 0) ha3 ?_)
                refine kcall_i (D := (dC, dI)) (S := Unit) (v := 1) (wc := [(q1, .inr (11, [.ref q2, .ref q4, .ref q6, .ref q18, .ref q23, .ref q28, .ref q33, .ref q36, .ref q37, .ref q40, .ref q44, .ref q48, .int 0])), (q4, .inr (10, [.ref q5, .int 0, .int 0])), (q5, .inl (cI, 12, .inl (fun _ => (-1))))]) (wr := [(q49, .inr (12, [.int 0, .ref q50, .int 0, .ref q51, .int 0, .ref q52, .ref q53, .int 0, .ref q54, .int 0, .ref q55, .int (-9), .int 0, .int 0, .ref q56, .ref q57, .ref q58, .ref q59, .ref q60, .int 0, .ref q61, .ref q62, .ref q63, .int 0, .ref q64, .ref q65, .ref q66, .int 0, .ref q67]))]) (w1 := fun _ => []) (fun hPc hDc => va_runV (As := [.int a1, .int a2, .int 0]) (rest := []) ⟨hx, hb, hml, hown, hts⟩ (kX11_copy_5 l dC dI cI c2 q1 q4 q5 q2 q6 q18 q23 q28 q33 q36 q37 q40 q44 q48 H.size a1 a2 (by omega) (by omega) (by omega) (by omega)) (cwV 3 hts gL_law_X11_copy rfl rfl rfl (by decide +kernel) ⟨Nat.le_of_ble_eq_true rfl, Nat.le_of_ble_eq_true rfl⟩) (pre_V hPc hK hDc hN (ci := 11) (q0 := 0) rfl rfl) rfl rfl hl.1 rfl (lv_room (Nat.le_of_ble_eq_true rfl)) dL_law_944 ⟨Nat.le_of_ble_eq_true rfl, Nat.le_of_ble_eq_true rfl⟩) hP hD hS hA [0, 3, 4] [28] rfl rfl (by decide) (by decide) (by decide) (fun u H locs hP hD hS => ?_)
                have hP : va_P (dC, dI) vwCl [(q49, .inr (12, [.int 0, .ref q50, .int 0, .ref q51, .int 0, .ref q52, .ref q53, .int 0, .ref q54, .int 0, .ref q55, .int (-9), .int 0, .int 0, .ref q56, .ref q57, .ref q58, .ref q59, .ref q60, .int 0, .ref q61, .ref q62, .ref q63, .int 0, .ref q64, .ref q65, .ref q66, .int 0, .ref q67]))] H := hP
                have hD : va_D A [(q49, .inr (12, [.int 0, .ref q50, .int 0, .ref q51, .int 0, .ref q52, .ref q53, .int 0, .ref q54, .int 0, .ref q55, .int (-9), .int 0, .int 0, .ref q56, .ref q57, .ref q58, .ref q59, .ref q60, .int 0, .ref q61, .ref q62, .ref q63, .int 0, .ref q64, .ref q65, .ref q66, .int 0, .ref q67]))] := hD
                refine lv_aload_n hx hb dL_law_947 rfl (lv_at hl 1 rfl) ?_
                refine lv_aload_n hx hb dL_law_948 rfl (lv_at hl 3 rfl) ?_
                refine lv_iload_n hx hb dL_law_949 rfl (lv_at hl 0 rfl) ?_
                refine lv_iconst (v := 1) hx hb dL_law_950 (by decide) ?_
                refine lv_iadd hx hb dL_law_951 (tk_i (v := 1) (by decide +kernel) ?_)
                refine va_sld hx hb hX hbl hbA hS (vin (by decide +kernel)) dL_law_952 (tk_i (v := a1) ha1 ?_)
                refine lv_aload_n hx hb dL_law_953 rfl (lv_at hl 3 rfl) ?_
                refine lv_iload_n hx hb dL_law_954 rfl (lv_at hl 0 rfl) ?_
                refine lv_iconst (v := 2) hx hb dL_law_955 (by decide) ?_
                refine lv_iadd hx hb dL_law_956 (tk_i (v := 2) (by decide +kernel) ?_)
                refine va_sld hx hb hX hbl hbA hS (vin (by decide +kernel)) dL_law_957 (tk_i (v := a2) ha2 ?_)
                refine lv_aload_n hx hb dL_law_958 rfl (lv_at hl 3 rfl) ?_
                refine lv_iload_n hx hb dL_law_959 rfl (lv_at hl 0 rfl) ?_
                refine lv_iconst (v := 3) hx hb dL_law_960 (by decide) ?_
                refine lv_iadd hx hb dL_law_961 (tk_i (v := 3) (by decide +kernel) ?_)
                refine va_sld hx hb hX hbl hbA hS (vin (by decide +kernel)) dL_law_962 (tk_i (v := 0) ha3 ?_)
                refine kcall_i (D := (dC, dI)) (S := Unit) (v := 1) (wc := [(q49, .inr (12, [.int 0, .ref q50, .int 0, .ref q51, .int 0, .ref q52, .ref q53, .int 0, .ref q54, .int 0, .ref q55, .int (-9), .int 0, .int 0, .ref q56, .ref q57, .ref q58, .ref q59, .ref q60, .int 0, .ref q61, .ref q62, .ref q63, .int 0, .ref q64, .ref q65, .ref q66, .int 0, .ref q67]))]) (wr := []) (w1 := fun _ => []) (fun hPc hDc => va_runV (As := [.int a1, .int a2, .int 0]) (rest := [.int 1]) ⟨hx, hb, hml, hown, hts⟩ (kX12_copy_5 l dC dI cI c2 q49 q50 q51 q52 q53 q54 q55 q56 q57 q58 q59 q60 q61 q62 q63 q64 q65 q66 q67 H.size a1 a2 (by omega) (by omega) (by omega) (by omega)) (cwV 3 hts gL_law_X12_copy rfl rfl rfl (by decide +kernel) ⟨Nat.le_of_ble_eq_true rfl, Nat.le_of_ble_eq_true rfl⟩) (pre_V hPc hK hDc hN (ci := 12) (q0 := 0) rfl rfl) rfl rfl hl.1 rfl (lv_room (Nat.le_of_ble_eq_true rfl)) dL_law_963 ⟨Nat.le_of_ble_eq_true rfl, Nat.le_of_ble_eq_true rfl⟩) hP hD hS hA [0] [] rfl rfl (by decide) (by decide) (by decide) (fun u H locs hP hD hS => ?_)
                have hP : va_P (dC, dI) vwCl [] H := hP
                have hD : va_D A [] := hD
                refine lv_icmp_eq (tgt := 1080) hx hb dL_law_966 (by decide) (fun _ => ?_) (fun h9 => absurd (by decide +kernel) h9)
                refine lv_iinc (v := 4) (lv' := [(3, .int 4), (2, .ref q49), (1, .ref q1), (0, .ref b)]) hx hb dL_law_1080 hl (k := 0) rfl (by decide +kernel) (by decide) rfl (fun ls hl => ?_)
                refine lv_goto (tgt := 18) hx hb dL_law_1083 (by decide) ?_
                refine lv_iload_n hx hb dL_law_18 rfl (lv_at hl 0 rfl) ?_
                refine lv_aload_n hx hb dL_law_19 rfl (lv_at hl 3 rfl) ?_
                refine va_slen hx hb hX hbl hbA hS dL_law_20 (tk_i (v := 4) (by decide +kernel) ?_)
                refine lv_iconst (v := 4) hx hb dL_law_21 (by decide) ?_
                refine lv_isub hx hb dL_law_22 (tk_i (v := 0) (by decide +kernel) ?_)
                refine lv_icmp_gt (tgt := 1086) hx hb dL_law_23 (by decide) (fun _ => ?_) (fun h9 => absurd (by decide +kernel) h9)
                refine lv_iconst (v := 1) hx hb dL_law_1086 (by decide) ?_
                refine va_forget (fun q hq => by have h9 := hS.2.2 q hq; rw [← hAe] at h9; exact h9) ?_
                refine W.widen (k := 600000) (n := 7302250) (by decide) (by decide) ?_
                exact lw_ret hx hb hr hlocks dL_law_1087
              ·
                have e_a3 : a3 = 0 := ib_eq (X := 0) (by omega) (by decide +kernel)
                subst e_a3
                refine lv_aload_n hx hb dL_law_928 rfl (lv_at hl 2 rfl) ?_
                refine lv_aload_n hx hb dL_law_929 rfl (lv_at hl 3 rfl) ?_
                refine lv_iload_n hx hb dL_law_930 rfl (lv_at hl 0 rfl) ?_
                refine lv_iconst (v := 1) hx hb dL_law_931 (by decide) ?_
                refine lv_iadd hx hb dL_law_932 (tk_i (v := 1) (by decide +kernel) ?_)
                refine va_sld hx hb hX hbl hbA hS (vin (by decide +kernel)) dL_law_933 (tk_i (v := a1) ha1 ?_)
                refine lv_aload_n hx hb dL_law_934 rfl (lv_at hl 3 rfl) ?_
                refine lv_iload_n hx hb dL_law_935 rfl (lv_at hl 0 rfl) ?_
                refine lv_iconst (v := 2) hx hb dL_law_936 (by decide) ?_
                refine lv_iadd hx hb dL_law_937 (tk_i (v := 2) (by decide +kernel) ?_)
                refine va_sld hx hb hX hbl hbA hS (vin (by decide +kernel)) dL_law_938 (tk_i (v := a2) ha2 ?_)
                refine lv_aload_n hx hb dL_law_939 rfl (lv_at hl 3 rfl) ?_
                refine lv_iload_n hx hb dL_law_940 rfl (lv_at hl 0 rfl) ?_
                refine lv_iconst (v := 3) hx hb dL_law_941 (by decide) ?_
                refine lv_iadd hx hb dL_law_942 (tk_i (v := 3) (by decide +kernel) ?_)
                refine va_sld hx hb hX hbl hbA hS (vin (by decide +kernel)) dL_law_943 (tk_i (v := 0) ha3 ?_)
                refine kcall_i (D := (dC, dI)) (S := Unit) (v := (-3)) (wc := [(q1, .inr (11, [.ref q2, .ref q4, .ref q6, .ref q18, .ref q23, .ref q28, .ref q33, .ref q36, .ref q37, .ref q40, .ref q44, .ref q48, .int 0])), (q4, .inr (10, [.ref q5, .int 0, .int 0])), (q48, .inl (cI, 5, .inl (fun _ => 0)))]) (wr := [(q49, .inr (12, [.int 0, .ref q50, .int 0, .ref q51, .int 0, .ref q52, .ref q53, .int 0, .ref q54, .int 0, .ref q55, .int (-9), .int 0, .int 0, .ref q56, .ref q57, .ref q58, .ref q59, .ref q60, .int 0, .ref q61, .ref q62, .ref q63, .int 0, .ref q64, .ref q65, .ref q66, .int 0, .ref q67])), (q50, .inl (cI, 5, .inl (fun _ => 0)))]) (w1 := fun _ => []) (fun hPc hDc => va_runV (As := [.int a1, .int a2, .int 0]) (rest := []) ⟨hx, hb, hml, hown, hts⟩ (kX11_copy_6 l dC dI cI c2 q1 q4 q48 q2 q6 q18 q23 q28 q33 q36 q37 q40 q44 q5 H.size a1 a2 (by omega) (by omega) (by omega) (by omega)) (cwV 3 hts gL_law_X11_copy rfl rfl rfl (by decide +kernel) ⟨Nat.le_of_ble_eq_true rfl, Nat.le_of_ble_eq_true rfl⟩) (pre_V hPc hK hDc hN (ci := 11) (q0 := 0) rfl rfl) rfl rfl hl.1 rfl (lv_room (Nat.le_of_ble_eq_true rfl)) dL_law_944 ⟨Nat.le_of_ble_eq_true rfl, Nat.le_of_ble_eq_true rfl⟩) hP hD hS hA [0, 3, 27] [28, 29] rfl rfl (by decide) (by decide) (by decide) (fun u H locs hP hD hS => ?_)
                have hP : va_P (dC, dI) vwCl [(q49, .inr (12, [.int 0, .ref q50, .int 0, .ref q51, .int 0, .ref q52, .ref q53, .int 0, .ref q54, .int 0, .ref q55, .int (-9), .int 0, .int 0, .ref q56, .ref q57, .ref q58, .ref q59, .ref q60, .int 0, .ref q61, .ref q62, .ref q63, .int 0, .ref q64, .ref q65, .ref q66, .int 0, .ref q67])), (q50, .inl (cI, 5, .inl (fun _ => 0)))] H := hP
                have hD : va_D A [(q49, .inr (12, [.int 0, .ref q50, .int 0, .ref q51, .int 0, .ref q52, .ref q53, .int 0, .ref q54, .int 0, .ref q55, .int (-9), .int 0, .int 0, .ref q56, .ref q57, .ref q58, .ref q59, .ref q60, .int 0, .ref q61, .ref q62, .ref q63, .int 0, .ref q64, .ref q65, .ref q66, .int 0, .ref q67])), (q50, .inl (cI, 5, .inl (fun _ => 0)))] := hD
                refine lv_aload_n hx hb dL_law_947 rfl (lv_at hl 1 rfl) ?_
                refine lv_aload_n hx hb dL_law_948 rfl (lv_at hl 3 rfl) ?_
                refine lv_iload_n hx hb dL_law_949 rfl (lv_at hl 0 rfl) ?_
                refine lv_iconst (v := 1) hx hb dL_law_950 (by decide) ?_
                refine lv_iadd hx hb dL_law_951 (tk_i (v := 1) (by decide +kernel) ?_)
                refine va_sld hx hb hX hbl hbA hS (vin (by decide +kernel)) dL_law_952 (tk_i (v := a1) ha1 ?_)
                refine lv_aload_n hx hb dL_law_953 rfl (lv_at hl 3 rfl) ?_
                refine lv_iload_n hx hb dL_law_954 rfl (lv_at hl 0 rfl) ?_
                refine lv_iconst (v := 2) hx hb dL_law_955 (by decide) ?_
                refine lv_iadd hx hb dL_law_956 (tk_i (v := 2) (by decide +kernel) ?_)
                refine va_sld hx hb hX hbl hbA hS (vin (by decide +kernel)) dL_law_957 (tk_i (v := a2) ha2 ?_)
                refine lv_aload_n hx hb dL_law_958 rfl (lv_at hl 3 rfl) ?_
                refine lv_iload_n hx hb dL_law_959 rfl (lv_at hl 0 rfl) ?_
                refine lv_iconst (v := 3) hx hb dL_law_960 (by decide) ?_
                refine lv_iadd hx hb dL_law_961 (tk_i (v := 3) (by decide +kernel) ?_)
                refine va_sld hx hb hX hbl hbA hS (vin (by decide +kernel)) dL_law_962 (tk_i (v := 0) ha3 ?_)
                refine kcall_i (D := (dC, dI)) (S := Unit) (v := (-3)) (wc := [(q49, .inr (12, [.int 0, .ref q50, .int 0, .ref q51, .int 0, .ref q52, .ref q53, .int 0, .ref q54, .int 0, .ref q55, .int (-9), .int 0, .int 0, .ref q56, .ref q57, .ref q58, .ref q59, .ref q60, .int 0, .ref q61, .ref q62, .ref q63, .int 0, .ref q64, .ref q65, .ref q66, .int 0, .ref q67])), (q50, .inl (cI, 5, .inl (fun _ => 0)))]) (wr := []) (w1 := fun _ => []) (fun hPc hDc => va_runV (As := [.int a1, .int a2, .int 0]) (rest := [.int (-3)]) ⟨hx, hb, hml, hown, hts⟩ (kX12_copy_6 l dC dI cI c2 q49 q50 q51 q52 q53 q54 q55 q56 q57 q58 q59 q60 q61 q62 q63 q64 q65 q66 q67 H.size a1 a2 (by omega) (by omega) (by omega) (by omega)) (cwV 3 hts gL_law_X12_copy rfl rfl rfl (by decide +kernel) ⟨Nat.le_of_ble_eq_true rfl, Nat.le_of_ble_eq_true rfl⟩) (pre_V hPc hK hDc hN (ci := 12) (q0 := 0) rfl rfl) rfl rfl hl.1 rfl (lv_room (Nat.le_of_ble_eq_true rfl)) dL_law_963 ⟨Nat.le_of_ble_eq_true rfl, Nat.le_of_ble_eq_true rfl⟩) hP hD hS hA [0, 1] [] rfl rfl (by decide) (by decide) (by decide) (fun u H locs hP hD hS => ?_)
                have hP : va_P (dC, dI) vwCl [] H := hP
                have hD : va_D A [] := hD
                refine lv_icmp_eq (tgt := 1080) hx hb dL_law_966 (by decide) (fun _ => ?_) (fun h9 => absurd (by decide +kernel) h9)
                refine lv_iinc (v := 4) (lv' := [(3, .int 4), (2, .ref q49), (1, .ref q1), (0, .ref b)]) hx hb dL_law_1080 hl (k := 0) rfl (by decide +kernel) (by decide) rfl (fun ls hl => ?_)
                refine lv_goto (tgt := 18) hx hb dL_law_1083 (by decide) ?_
                refine lv_iload_n hx hb dL_law_18 rfl (lv_at hl 0 rfl) ?_
                refine lv_aload_n hx hb dL_law_19 rfl (lv_at hl 3 rfl) ?_
                refine va_slen hx hb hX hbl hbA hS dL_law_20 (tk_i (v := 4) (by decide +kernel) ?_)
                refine lv_iconst (v := 4) hx hb dL_law_21 (by decide) ?_
                refine lv_isub hx hb dL_law_22 (tk_i (v := 0) (by decide +kernel) ?_)
                refine lv_icmp_gt (tgt := 1086) hx hb dL_law_23 (by decide) (fun _ => ?_) (fun h9 => absurd (by decide +kernel) h9)
                refine lv_iconst (v := 1) hx hb dL_law_1086 (by decide) ?_
                refine va_forget (fun q hq => by have h9 := hS.2.2 q hq; rw [← hAe] at h9; exact h9) ?_
                refine W.widen (k := 600000) (n := 7302250) (by decide) (by decide) ?_
                exact lw_ret hx hb hr hlocks dL_law_1087
          ·
            rcases (show a3.toInt ≤ 1 ∨ 2 ≤ a3.toInt by omega) with g_a3_2 | g_a3_2
            ·
              rcases (show a1.toInt ≤ 11 ∨ 12 ≤ a1.toInt by omega) with g_a1_12 | g_a1_12
              ·
                rcases (show a2.toInt ≤ (-1) ∨ 0 ≤ a2.toInt by omega) with g_a2_0 | g_a2_0
                ·
                  have e_a3 : a3 = 1 := ib_eq (X := 1) (by omega) (by decide +kernel)
                  subst e_a3
                  refine lv_aload_n hx hb dL_law_928 rfl (lv_at hl 2 rfl) ?_
                  refine lv_aload_n hx hb dL_law_929 rfl (lv_at hl 3 rfl) ?_
                  refine lv_iload_n hx hb dL_law_930 rfl (lv_at hl 0 rfl) ?_
                  refine lv_iconst (v := 1) hx hb dL_law_931 (by decide) ?_
                  refine lv_iadd hx hb dL_law_932 (tk_i (v := 1) (by decide +kernel) ?_)
                  refine va_sld hx hb hX hbl hbA hS (vin (by decide +kernel)) dL_law_933 (tk_i (v := a1) ha1 ?_)
                  refine lv_aload_n hx hb dL_law_934 rfl (lv_at hl 3 rfl) ?_
                  refine lv_iload_n hx hb dL_law_935 rfl (lv_at hl 0 rfl) ?_
                  refine lv_iconst (v := 2) hx hb dL_law_936 (by decide) ?_
                  refine lv_iadd hx hb dL_law_937 (tk_i (v := 2) (by decide +kernel) ?_)
                  refine va_sld hx hb hX hbl hbA hS (vin (by decide +kernel)) dL_law_938 (tk_i (v := a2) ha2 ?_)
                  refine lv_aload_n hx hb dL_law_939 rfl (lv_at hl 3 rfl) ?_
                  refine lv_iload_n hx hb dL_law_940 rfl (lv_at hl 0 rfl) ?_
                  refine lv_iconst (v := 3) hx hb dL_law_941 (by decide) ?_
                  refine lv_iadd hx hb dL_law_942 (tk_i (v := 3) (by decide +kernel) ?_)
                  refine va_sld hx hb hX hbl hbA hS (vin (by decide +kernel)) dL_law_943 (tk_i (v := 1) ha3 ?_)
                  refine kcall_i (D := (dC, dI)) (S := Unit) (v := (-3)) (wc := [(q1, .inr (11, [.ref q2, .ref q4, .ref q6, .ref q18, .ref q23, .ref q28, .ref q33, .ref q36, .ref q37, .ref q40, .ref q44, .ref q48, .int 0])), (q4, .inr (10, [.ref q5, .int 0, .int 0])), (q48, .inl (cI, 5, .inl (fun _ => 0)))]) (wr := [(q49, .inr (12, [.int 0, .ref q50, .int 0, .ref q51, .int 0, .ref q52, .ref q53, .int 0, .ref q54, .int 0, .ref q55, .int (-9), .int 0, .int 0, .ref q56, .ref q57, .ref q58, .ref q59, .ref q60, .int 0, .ref q61, .ref q62, .ref q63, .int 0, .ref q64, .ref q65, .ref q66, .int 0, .ref q67])), (q50, .inl (cI, 5, .inl (fun _ => 0)))]) (w1 := fun _ => []) (fun hPc hDc => va_runV (As := [.int a1, .int a2, .int 1]) (rest := []) ⟨hx, hb, hml, hown, hts⟩ (kX11_copy_7 l dC dI cI c2 q1 q4 q48 q2 q6 q18 q23 q28 q33 q36 q37 q40 q44 q5 H.size a1 a2 (by omega) (by omega) (by omega) (by omega)) (cwV 3 hts gL_law_X11_copy rfl rfl rfl (by decide +kernel) ⟨Nat.le_of_ble_eq_true rfl, Nat.le_of_ble_eq_true rfl⟩) (pre_V hPc hK hDc hN (ci := 11) (q0 := 0) rfl rfl) rfl rfl hl.1 rfl (lv_room (Nat.le_of_ble_eq_true rfl)) dL_law_944 ⟨Nat.le_of_ble_eq_true rfl, Nat.le_of_ble_eq_true rfl⟩) hP hD hS hA [0, 3, 27] [28, 29] rfl rfl (by decide) (by decide) (by decide) (fun u H locs hP hD hS => ?_)
                  have hP : va_P (dC, dI) vwCl [(q49, .inr (12, [.int 0, .ref q50, .int 0, .ref q51, .int 0, .ref q52, .ref q53, .int 0, .ref q54, .int 0, .ref q55, .int (-9), .int 0, .int 0, .ref q56, .ref q57, .ref q58, .ref q59, .ref q60, .int 0, .ref q61, .ref q62, .ref q63, .int 0, .ref q64, .ref q65, .ref q66, .int 0, .ref q67])), (q50, .inl (cI, 5, .inl (fun _ => 0)))] H := hP
                  have hD : va_D A [(q49, .inr (12, [.int 0, .ref q50, .int 0, .ref q51, .int 0, .ref q52, .ref q53, .int 0, .ref q54, .int 0, .ref q55, .int (-9), .int 0, .int 0, .ref q56, .ref q57, .ref q58, .ref q59, .ref q60, .int 0, .ref q61, .ref q62, .ref q63, .int 0, .ref q64, .ref q65, .ref q66, .int 0, .ref q67])), (q50, .inl (cI, 5, .inl (fun _ => 0)))] := hD
                  refine lv_aload_n hx hb dL_law_947 rfl (lv_at hl 1 rfl) ?_
                  refine lv_aload_n hx hb dL_law_948 rfl (lv_at hl 3 rfl) ?_
                  refine lv_iload_n hx hb dL_law_949 rfl (lv_at hl 0 rfl) ?_
                  refine lv_iconst (v := 1) hx hb dL_law_950 (by decide) ?_
                  refine lv_iadd hx hb dL_law_951 (tk_i (v := 1) (by decide +kernel) ?_)
                  refine va_sld hx hb hX hbl hbA hS (vin (by decide +kernel)) dL_law_952 (tk_i (v := a1) ha1 ?_)
                  refine lv_aload_n hx hb dL_law_953 rfl (lv_at hl 3 rfl) ?_
                  refine lv_iload_n hx hb dL_law_954 rfl (lv_at hl 0 rfl) ?_
                  refine lv_iconst (v := 2) hx hb dL_law_955 (by decide) ?_
                  refine lv_iadd hx hb dL_law_956 (tk_i (v := 2) (by decide +kernel) ?_)
                  refine va_sld hx hb hX hbl hbA hS (vin (by decide +kernel)) dL_law_957 (tk_i (v := a2) ha2 ?_)
                  refine lv_aload_n hx hb dL_law_958 rfl (lv_at hl 3 rfl) ?_
                  refine lv_iload_n hx hb dL_law_959 rfl (lv_at hl 0 rfl) ?_
                  refine lv_iconst (v := 3) hx hb dL_law_960 (by decide) ?_
                  refine lv_iadd hx hb dL_law_961 (tk_i (v := 3) (by decide +kernel) ?_)
                  refine va_sld hx hb hX hbl hbA hS (vin (by decide +kernel)) dL_law_962 (tk_i (v := 1) ha3 ?_)
                  refine kcall_i (D := (dC, dI)) (S := Unit) (v := (-3)) (wc := [(q49, .inr (12, [.int 0, .ref q50, .int 0, .ref q51, .int 0, .ref q52, .ref q53, .int 0, .ref q54, .int 0, .ref q55, .int (-9), .int 0, .int 0, .ref q56, .ref q57, .ref q58, .ref q59, .ref q60, .int 0, .ref q61, .ref q62, .ref q63, .int 0, .ref q64, .ref q65, .ref q66, .int 0, .ref q67])), (q50, .inl (cI, 5, .inl (fun _ => 0)))]) (wr := []) (w1 := fun _ => []) (fun hPc hDc => va_runV (As := [.int a1, .int a2, .int 1]) (rest := [.int (-3)]) ⟨hx, hb, hml, hown, hts⟩ (kX12_copy_7 l dC dI cI c2 q49 q50 q51 q52 q53 q54 q55 q56 q57 q58 q59 q60 q61 q62 q63 q64 q65 q66 q67 H.size a1 a2 (by omega) (by omega) (by omega) (by omega)) (cwV 3 hts gL_law_X12_copy rfl rfl rfl (by decide +kernel) ⟨Nat.le_of_ble_eq_true rfl, Nat.le_of_ble_eq_true rfl⟩) (pre_V hPc hK hDc hN (ci := 12) (q0 := 0) rfl rfl) rfl rfl hl.1 rfl (lv_room (Nat.le_of_ble_eq_true rfl)) dL_law_963 ⟨Nat.le_of_ble_eq_true rfl, Nat.le_of_ble_eq_true rfl⟩) hP hD hS hA [0, 1] [] rfl rfl (by decide) (by decide) (by decide) (fun u H locs hP hD hS => ?_)
                  have hP : va_P (dC, dI) vwCl [] H := hP
                  have hD : va_D A [] := hD
                  refine lv_icmp_eq (tgt := 1080) hx hb dL_law_966 (by decide) (fun _ => ?_) (fun h9 => absurd (by decide +kernel) h9)
                  refine lv_iinc (v := 4) (lv' := [(3, .int 4), (2, .ref q49), (1, .ref q1), (0, .ref b)]) hx hb dL_law_1080 hl (k := 0) rfl (by decide +kernel) (by decide) rfl (fun ls hl => ?_)
                  refine lv_goto (tgt := 18) hx hb dL_law_1083 (by decide) ?_
                  refine lv_iload_n hx hb dL_law_18 rfl (lv_at hl 0 rfl) ?_
                  refine lv_aload_n hx hb dL_law_19 rfl (lv_at hl 3 rfl) ?_
                  refine va_slen hx hb hX hbl hbA hS dL_law_20 (tk_i (v := 4) (by decide +kernel) ?_)
                  refine lv_iconst (v := 4) hx hb dL_law_21 (by decide) ?_
                  refine lv_isub hx hb dL_law_22 (tk_i (v := 0) (by decide +kernel) ?_)
                  refine lv_icmp_gt (tgt := 1086) hx hb dL_law_23 (by decide) (fun _ => ?_) (fun h9 => absurd (by decide +kernel) h9)
                  refine lv_iconst (v := 1) hx hb dL_law_1086 (by decide) ?_
                  refine va_forget (fun q hq => by have h9 := hS.2.2 q hq; rw [← hAe] at h9; exact h9) ?_
                  refine W.widen (k := 600000) (n := 7302250) (by decide) (by decide) ?_
                  exact lw_ret hx hb hr hlocks dL_law_1087
                ·
                  rcases (show a2.toInt ≤ 12 ∨ 13 ≤ a2.toInt by omega) with g_a2_13 | g_a2_13
                  ·
                    rcases (show a2.toInt ≤ 11 ∨ 12 ≤ a2.toInt by omega) with g_a2_12 | g_a2_12
                    ·
                      have e_a3 : a3 = 1 := ib_eq (X := 1) (by omega) (by decide +kernel)
                      subst e_a3
                      refine lv_aload_n hx hb dL_law_928 rfl (lv_at hl 2 rfl) ?_
                      refine lv_aload_n hx hb dL_law_929 rfl (lv_at hl 3 rfl) ?_
                      refine lv_iload_n hx hb dL_law_930 rfl (lv_at hl 0 rfl) ?_
                      refine lv_iconst (v := 1) hx hb dL_law_931 (by decide) ?_
                      refine lv_iadd hx hb dL_law_932 (tk_i (v := 1) (by decide +kernel) ?_)
                      refine va_sld hx hb hX hbl hbA hS (vin (by decide +kernel)) dL_law_933 (tk_i (v := a1) ha1 ?_)
                      refine lv_aload_n hx hb dL_law_934 rfl (lv_at hl 3 rfl) ?_
                      refine lv_iload_n hx hb dL_law_935 rfl (lv_at hl 0 rfl) ?_
                      refine lv_iconst (v := 2) hx hb dL_law_936 (by decide) ?_
                      refine lv_iadd hx hb dL_law_937 (tk_i (v := 2) (by decide +kernel) ?_)
                      refine va_sld hx hb hX hbl hbA hS (vin (by decide +kernel)) dL_law_938 (tk_i (v := a2) ha2 ?_)
                      refine lv_aload_n hx hb dL_law_939 rfl (lv_at hl 3 rfl) ?_
                      refine lv_iload_n hx hb dL_law_940 rfl (lv_at hl 0 rfl) ?_
                      refine lv_iconst (v := 3) hx hb dL_law_941 (by decide) ?_
                      refine lv_iadd hx hb dL_law_942 (tk_i (v := 3) (by decide +kernel) ?_)
                      refine va_sld hx hb hX hbl hbA hS (vin (by decide +kernel)) dL_law_943 (tk_i (v := 1) ha3 ?_)
                      refine kcall_i (D := (dC, dI)) (S := Unit) (v := 1) (wc := [(q1, .inr (11, [.ref q2, .ref q4, .ref q6, .ref q18, .ref q23, .ref q28, .ref q33, .ref q36, .ref q37, .ref q40, .ref q44, .ref q48, .int 0])), (q4, .inr (10, [.ref q5, .int 0, .int 0])), (q5, .inl (cI, 12, .inl (fun _ => (-1))))]) (wr := [(q49, .inr (12, [.int 0, .ref q50, .int 0, .ref q51, .int 0, .ref q52, .ref q53, .int 0, .ref q54, .int 0, .ref q55, .int (-9), .int 0, .int 0, .ref q56, .ref q57, .ref q58, .ref q59, .ref q60, .int 0, .ref q61, .ref q62, .ref q63, .int 0, .ref q64, .ref q65, .ref q66, .int 0, .ref q67])), (q52, .inl (cI, 12, .inl (fun _ => (-9)))), (q67, .inl (cI, 12, .inl (fun _ => 0)))]) (w1 := fun _ => []) (fun hPc hDc => va_runV (As := [.int a1, .int a2, .int 1]) (rest := []) ⟨hx, hb, hml, hown, hts⟩ (kX11_copy_8 l dC dI cI c2 q1 q4 q5 q2 q6 q18 q23 q28 q33 q36 q37 q40 q44 q48 H.size a1 a2 (by omega) (by omega) (by omega) (by omega)) (cwV 3 hts gL_law_X11_copy rfl rfl rfl (by decide +kernel) ⟨Nat.le_of_ble_eq_true rfl, Nat.le_of_ble_eq_true rfl⟩) (pre_V hPc hK hDc hN (ci := 11) (q0 := 0) rfl rfl) rfl rfl hl.1 rfl (lv_room (Nat.le_of_ble_eq_true rfl)) dL_law_944 ⟨Nat.le_of_ble_eq_true rfl, Nat.le_of_ble_eq_true rfl⟩) hP hD hS hA [0, 3, 4] [28, 31, 36] rfl rfl (by decide) (by decide) (by decide) (fun u H locs hP hD hS => ?_)
                      have hP : va_P (dC, dI) vwCl [(q49, .inr (12, [.int 0, .ref q50, .int 0, .ref q51, .int 0, .ref q52, .ref q53, .int 0, .ref q54, .int 0, .ref q55, .int (-9), .int 0, .int 0, .ref q56, .ref q57, .ref q58, .ref q59, .ref q60, .int 0, .ref q61, .ref q62, .ref q63, .int 0, .ref q64, .ref q65, .ref q66, .int 0, .ref q67])), (q52, .inl (cI, 12, .inl (fun _ => (-9)))), (q67, .inl (cI, 12, .inl (fun _ => 0)))] H := hP
                      have hD : va_D A [(q49, .inr (12, [.int 0, .ref q50, .int 0, .ref q51, .int 0, .ref q52, .ref q53, .int 0, .ref q54, .int 0, .ref q55, .int (-9), .int 0, .int 0, .ref q56, .ref q57, .ref q58, .ref q59, .ref q60, .int 0, .ref q61, .ref q62, .ref q63, .int 0, .ref q64, .ref q65, .ref q66, .int 0, .ref q67])), (q52, .inl (cI, 12, .inl (fun _ => (-9)))), (q67, .inl (cI, 12, .inl (fun _ => 0)))] := hD
                      refine lv_aload_n hx hb dL_law_947 rfl (lv_at hl 1 rfl) ?_
                      refine lv_aload_n hx hb dL_law_948 rfl (lv_at hl 3 rfl) ?_
                      refine lv_iload_n hx hb dL_law_949 rfl (lv_at hl 0 rfl) ?_
                      refine lv_iconst (v := 1) hx hb dL_law_950 (by decide) ?_
                      refine lv_iadd hx hb dL_law_951 (tk_i (v := 1) (by decide +kernel) ?_)
                      refine va_sld hx hb hX hbl hbA hS (vin (by decide +kernel)) dL_law_952 (tk_i (v := a1) ha1 ?_)
                      refine lv_aload_n hx hb dL_law_953 rfl (lv_at hl 3 rfl) ?_
                      refine lv_iload_n hx hb dL_law_954 rfl (lv_at hl 0 rfl) ?_
                      refine lv_iconst (v := 2) hx hb dL_law_955 (by decide) ?_
                      refine lv_iadd hx hb dL_law_956 (tk_i (v := 2) (by decide +kernel) ?_)
                      refine va_sld hx hb hX hbl hbA hS (vin (by decide +kernel)) dL_law_957 (tk_i (v := a2) ha2 ?_)
                      refine lv_aload_n hx hb dL_law_958 rfl (lv_at hl 3 rfl) ?_
                      refine lv_iload_n hx hb dL_law_959 rfl (lv_at hl 0 rfl) ?_
                      refine lv_iconst (v := 3) hx hb dL_law_960 (by decide) ?_
                      refine lv_iadd hx hb dL_law_961 (tk_i (v := 3) (by decide +kernel) ?_)
                      refine va_sld hx hb hX hbl hbA hS (vin (by decide +kernel)) dL_law_962 (tk_i (v := 1) ha3 ?_)
                      refine kcall_i (D := (dC, dI)) (S := Unit) (v := 1) (wc := [(q49, .inr (12, [.int 0, .ref q50, .int 0, .ref q51, .int 0, .ref q52, .ref q53, .int 0, .ref q54, .int 0, .ref q55, .int (-9), .int 0, .int 0, .ref q56, .ref q57, .ref q58, .ref q59, .ref q60, .int 0, .ref q61, .ref q62, .ref q63, .int 0, .ref q64, .ref q65, .ref q66, .int 0, .ref q67])), (q52, .inl (cI, 12, .inl (fun _ => (-9)))), (q67, .inl (cI, 12, .inl (fun _ => 0)))]) (wr := []) (w1 := fun _ => []) (fun hPc hDc => va_runV (As := [.int a1, .int a2, .int 1]) (rest := [.int 1]) ⟨hx, hb, hml, hown, hts⟩ (kX12_copy_8 l dC dI cI c2 q49 q52 q67 q50 q51 q53 q54 q55 q56 q57 q58 q59 q60 q61 q62 q63 q64 q65 q66 H.size a1 a2 (by omega) (by omega) (by omega) (by omega)) (cwV 3 hts gL_law_X12_copy rfl rfl rfl (by decide +kernel) ⟨Nat.le_of_ble_eq_true rfl, Nat.le_of_ble_eq_true rfl⟩) (pre_V hPc hK hDc hN (ci := 12) (q0 := 0) rfl rfl) rfl rfl hl.1 rfl (lv_room (Nat.le_of_ble_eq_true rfl)) dL_law_963 ⟨Nat.le_of_ble_eq_true rfl, Nat.le_of_ble_eq_true rfl⟩) hP hD hS hA [0, 1, 2] [] rfl rfl (by decide) (by decide) (by decide) (fun u H locs hP hD hS => ?_)
                      have hP : va_P (dC, dI) vwCl [] H := hP
                      have hD : va_D A [] := hD
                      refine lv_icmp_eq (tgt := 1080) hx hb dL_law_966 (by decide) (fun _ => ?_) (fun h9 => absurd (by decide +kernel) h9)
                      refine lv_iinc (v := 4) (lv' := [(3, .int 4), (2, .ref q49), (1, .ref q1), (0, .ref b)]) hx hb dL_law_1080 hl (k := 0) rfl (by decide +kernel) (by decide) rfl (fun ls hl => ?_)
                      refine lv_goto (tgt := 18) hx hb dL_law_1083 (by decide) ?_
                      refine lv_iload_n hx hb dL_law_18 rfl (lv_at hl 0 rfl) ?_
                      refine lv_aload_n hx hb dL_law_19 rfl (lv_at hl 3 rfl) ?_
                      refine va_slen hx hb hX hbl hbA hS dL_law_20 (tk_i (v := 4) (by decide +kernel) ?_)
                      refine lv_iconst (v := 4) hx hb dL_law_21 (by decide) ?_
                      refine lv_isub hx hb dL_law_22 (tk_i (v := 0) (by decide +kernel) ?_)
                      refine lv_icmp_gt (tgt := 1086) hx hb dL_law_23 (by decide) (fun _ => ?_) (fun h9 => absurd (by decide +kernel) h9)
                      refine lv_iconst (v := 1) hx hb dL_law_1086 (by decide) ?_
                      refine va_forget (fun q hq => by have h9 := hS.2.2 q hq; rw [← hAe] at h9; exact h9) ?_
                      refine W.widen (k := 600000) (n := 7302250) (by decide) (by decide) ?_
                      exact lw_ret hx hb hr hlocks dL_law_1087
                    ·
                      have e_a2 : a2 = 12 := ib_eq (X := 12) (by omega) (by decide +kernel)
                      subst e_a2
                      have e_a3 : a3 = 1 := ib_eq (X := 1) (by omega) (by decide +kernel)
                      subst e_a3
                      refine lv_aload_n hx hb dL_law_928 rfl (lv_at hl 2 rfl) ?_
                      refine lv_aload_n hx hb dL_law_929 rfl (lv_at hl 3 rfl) ?_
                      refine lv_iload_n hx hb dL_law_930 rfl (lv_at hl 0 rfl) ?_
                      refine lv_iconst (v := 1) hx hb dL_law_931 (by decide) ?_
                      refine lv_iadd hx hb dL_law_932 (tk_i (v := 1) (by decide +kernel) ?_)
                      refine va_sld hx hb hX hbl hbA hS (vin (by decide +kernel)) dL_law_933 (tk_i (v := a1) ha1 ?_)
                      refine lv_aload_n hx hb dL_law_934 rfl (lv_at hl 3 rfl) ?_
                      refine lv_iload_n hx hb dL_law_935 rfl (lv_at hl 0 rfl) ?_
                      refine lv_iconst (v := 2) hx hb dL_law_936 (by decide) ?_
                      refine lv_iadd hx hb dL_law_937 (tk_i (v := 2) (by decide +kernel) ?_)
                      refine va_sld hx hb hX hbl hbA hS (vin (by decide +kernel)) dL_law_938 (tk_i (v := 12) ha2 ?_)
                      refine lv_aload_n hx hb dL_law_939 rfl (lv_at hl 3 rfl) ?_
                      refine lv_iload_n hx hb dL_law_940 rfl (lv_at hl 0 rfl) ?_
                      refine lv_iconst (v := 3) hx hb dL_law_941 (by decide) ?_
                      refine lv_iadd hx hb dL_law_942 (tk_i (v := 3) (by decide +kernel) ?_)
                      refine va_sld hx hb hX hbl hbA hS (vin (by decide +kernel)) dL_law_943 (tk_i (v := 1) ha3 ?_)
                      refine kcall_i (D := (dC, dI)) (S := Unit) (v := (-3)) (wc := [(q1, .inr (11, [.ref q2, .ref q4, .ref q6, .ref q18, .ref q23, .ref q28, .ref q33, .ref q36, .ref q37, .ref q40, .ref q44, .ref q48, .int 0])), (q4, .inr (10, [.ref q5, .int 0, .int 0])), (q48, .inl (cI, 5, .inl (fun _ => 0)))]) (wr := [(q49, .inr (12, [.int 0, .ref q50, .int 0, .ref q51, .int 0, .ref q52, .ref q53, .int 0, .ref q54, .int 0, .ref q55, .int (-9), .int 0, .int 0, .ref q56, .ref q57, .ref q58, .ref q59, .ref q60, .int 0, .ref q61, .ref q62, .ref q63, .int 0, .ref q64, .ref q65, .ref q66, .int 0, .ref q67])), (q50, .inl (cI, 5, .inl (fun _ => 0)))]) (w1 := fun _ => []) (fun hPc hDc => va_runV (As := [.int a1, .int 12, .int 1]) (rest := []) ⟨hx, hb, hml, hown, hts⟩ (kX11_copy_9 l dC dI cI c2 q1 q4 q48 q2 q6 q18 q23 q28 q33 q36 q37 q40 q44 q5 H.size a1 (by omega) (by omega)) (cwV 3 hts gL_law_X11_copy rfl rfl rfl (by decide +kernel) ⟨Nat.le_of_ble_eq_true rfl, Nat.le_of_ble_eq_true rfl⟩) (pre_V hPc hK hDc hN (ci := 11) (q0 := 0) rfl rfl) rfl rfl hl.1 rfl (lv_room (Nat.le_of_ble_eq_true rfl)) dL_law_944 ⟨Nat.le_of_ble_eq_true rfl, Nat.le_of_ble_eq_true rfl⟩) hP hD hS hA [0, 3, 27] [28, 29] rfl rfl (by decide) (by decide) (by decide) (fun u H locs hP hD hS => ?_)
                      have hP : va_P (dC, dI) vwCl [(q49, .inr (12, [.int 0, .ref q50, .int 0, .ref q51, .int 0, .ref q52, .ref q53, .int 0, .ref q54, .int 0, .ref q55, .int (-9), .int 0, .int 0, .ref q56, .ref q57, .ref q58, .ref q59, .ref q60, .int 0, .ref q61, .ref q62, .ref q63, .int 0, .ref q64, .ref q65, .ref q66, .int 0, .ref q67])), (q50, .inl (cI, 5, .inl (fun _ => 0)))] H := hP
                      have hD : va_D A [(q49, .inr (12, [.int 0, .ref q50, .int 0, .ref q51, .int 0, .ref q52, .ref q53, .int 0, .ref q54, .int 0, .ref q55, .int (-9), .int 0, .int 0, .ref q56, .ref q57, .ref q58, .ref q59, .ref q60, .int 0, .ref q61, .ref q62, .ref q63, .int 0, .ref q64, .ref q65, .ref q66, .int 0, .ref q67])), (q50, .inl (cI, 5, .inl (fun _ => 0)))] := hD
                      refine lv_aload_n hx hb dL_law_947 rfl (lv_at hl 1 rfl) ?_
                      refine lv_aload_n hx hb dL_law_948 rfl (lv_at hl 3 rfl) ?_
                      refine lv_iload_n hx hb dL_law_949 rfl (lv_at hl 0 rfl) ?_
                      refine lv_iconst (v := 1) hx hb dL_law_950 (by decide) ?_
                      refine lv_iadd hx hb dL_law_951 (tk_i (v := 1) (by decide +kernel) ?_)
                      refine va_sld hx hb hX hbl hbA hS (vin (by decide +kernel)) dL_law_952 (tk_i (v := a1) ha1 ?_)
                      refine lv_aload_n hx hb dL_law_953 rfl (lv_at hl 3 rfl) ?_
                      refine lv_iload_n hx hb dL_law_954 rfl (lv_at hl 0 rfl) ?_
                      refine lv_iconst (v := 2) hx hb dL_law_955 (by decide) ?_
                      refine lv_iadd hx hb dL_law_956 (tk_i (v := 2) (by decide +kernel) ?_)
                      refine va_sld hx hb hX hbl hbA hS (vin (by decide +kernel)) dL_law_957 (tk_i (v := 12) ha2 ?_)
                      refine lv_aload_n hx hb dL_law_958 rfl (lv_at hl 3 rfl) ?_
                      refine lv_iload_n hx hb dL_law_959 rfl (lv_at hl 0 rfl) ?_
                      refine lv_iconst (v := 3) hx hb dL_law_960 (by decide) ?_
                      refine lv_iadd hx hb dL_law_961 (tk_i (v := 3) (by decide +kernel) ?_)
                      refine va_sld hx hb hX hbl hbA hS (vin (by decide +kernel)) dL_law_962 (tk_i (v := 1) ha3 ?_)
                      refine kcall_i (D := (dC, dI)) (S := Unit) (v := (-3)) (wc := [(q49, .inr (12, [.int 0, .ref q50, .int 0, .ref q51, .int 0, .ref q52, .ref q53, .int 0, .ref q54, .int 0, .ref q55, .int (-9), .int 0, .int 0, .ref q56, .ref q57, .ref q58, .ref q59, .ref q60, .int 0, .ref q61, .ref q62, .ref q63, .int 0, .ref q64, .ref q65, .ref q66, .int 0, .ref q67])), (q50, .inl (cI, 5, .inl (fun _ => 0)))]) (wr := []) (w1 := fun _ => []) (fun hPc hDc => va_runV (As := [.int a1, .int 12, .int 1]) (rest := [.int (-3)]) ⟨hx, hb, hml, hown, hts⟩ (kX12_copy_9 l dC dI cI c2 q49 q50 q51 q52 q53 q54 q55 q56 q57 q58 q59 q60 q61 q62 q63 q64 q65 q66 q67 H.size a1 (by omega) (by omega)) (cwV 3 hts gL_law_X12_copy rfl rfl rfl (by decide +kernel) ⟨Nat.le_of_ble_eq_true rfl, Nat.le_of_ble_eq_true rfl⟩) (pre_V hPc hK hDc hN (ci := 12) (q0 := 0) rfl rfl) rfl rfl hl.1 rfl (lv_room (Nat.le_of_ble_eq_true rfl)) dL_law_963 ⟨Nat.le_of_ble_eq_true rfl, Nat.le_of_ble_eq_true rfl⟩) hP hD hS hA [0, 1] [] rfl rfl (by decide) (by decide) (by decide) (fun u H locs hP hD hS => ?_)
                      have hP : va_P (dC, dI) vwCl [] H := hP
                      have hD : va_D A [] := hD
                      refine lv_icmp_eq (tgt := 1080) hx hb dL_law_966 (by decide) (fun _ => ?_) (fun h9 => absurd (by decide +kernel) h9)
                      refine lv_iinc (v := 4) (lv' := [(3, .int 4), (2, .ref q49), (1, .ref q1), (0, .ref b)]) hx hb dL_law_1080 hl (k := 0) rfl (by decide +kernel) (by decide) rfl (fun ls hl => ?_)
                      refine lv_goto (tgt := 18) hx hb dL_law_1083 (by decide) ?_
                      refine lv_iload_n hx hb dL_law_18 rfl (lv_at hl 0 rfl) ?_
                      refine lv_aload_n hx hb dL_law_19 rfl (lv_at hl 3 rfl) ?_
                      refine va_slen hx hb hX hbl hbA hS dL_law_20 (tk_i (v := 4) (by decide +kernel) ?_)
                      refine lv_iconst (v := 4) hx hb dL_law_21 (by decide) ?_
                      refine lv_isub hx hb dL_law_22 (tk_i (v := 0) (by decide +kernel) ?_)
                      refine lv_icmp_gt (tgt := 1086) hx hb dL_law_23 (by decide) (fun _ => ?_) (fun h9 => absurd (by decide +kernel) h9)
                      refine lv_iconst (v := 1) hx hb dL_law_1086 (by decide) ?_
                      refine va_forget (fun q hq => by have h9 := hS.2.2 q hq; rw [← hAe] at h9; exact h9) ?_
                      refine W.widen (k := 600000) (n := 7302250) (by decide) (by decide) ?_
                      exact lw_ret hx hb hr hlocks dL_law_1087
                  ·
                    have e_a3 : a3 = 1 := ib_eq (X := 1) (by omega) (by decide +kernel)
                    subst e_a3
                    refine lv_aload_n hx hb dL_law_928 rfl (lv_at hl 2 rfl) ?_
                    refine lv_aload_n hx hb dL_law_929 rfl (lv_at hl 3 rfl) ?_
                    refine lv_iload_n hx hb dL_law_930 rfl (lv_at hl 0 rfl) ?_
                    refine lv_iconst (v := 1) hx hb dL_law_931 (by decide) ?_
                    refine lv_iadd hx hb dL_law_932 (tk_i (v := 1) (by decide +kernel) ?_)
                    refine va_sld hx hb hX hbl hbA hS (vin (by decide +kernel)) dL_law_933 (tk_i (v := a1) ha1 ?_)
                    refine lv_aload_n hx hb dL_law_934 rfl (lv_at hl 3 rfl) ?_
                    refine lv_iload_n hx hb dL_law_935 rfl (lv_at hl 0 rfl) ?_
                    refine lv_iconst (v := 2) hx hb dL_law_936 (by decide) ?_
                    refine lv_iadd hx hb dL_law_937 (tk_i (v := 2) (by decide +kernel) ?_)
                    refine va_sld hx hb hX hbl hbA hS (vin (by decide +kernel)) dL_law_938 (tk_i (v := a2) ha2 ?_)
                    refine lv_aload_n hx hb dL_law_939 rfl (lv_at hl 3 rfl) ?_
                    refine lv_iload_n hx hb dL_law_940 rfl (lv_at hl 0 rfl) ?_
                    refine lv_iconst (v := 3) hx hb dL_law_941 (by decide) ?_
                    refine lv_iadd hx hb dL_law_942 (tk_i (v := 3) (by decide +kernel) ?_)
                    refine va_sld hx hb hX hbl hbA hS (vin (by decide +kernel)) dL_law_943 (tk_i (v := 1) ha3 ?_)
                    refine kcall_i (D := (dC, dI)) (S := Unit) (v := (-3)) (wc := [(q1, .inr (11, [.ref q2, .ref q4, .ref q6, .ref q18, .ref q23, .ref q28, .ref q33, .ref q36, .ref q37, .ref q40, .ref q44, .ref q48, .int 0])), (q4, .inr (10, [.ref q5, .int 0, .int 0])), (q48, .inl (cI, 5, .inl (fun _ => 0)))]) (wr := [(q49, .inr (12, [.int 0, .ref q50, .int 0, .ref q51, .int 0, .ref q52, .ref q53, .int 0, .ref q54, .int 0, .ref q55, .int (-9), .int 0, .int 0, .ref q56, .ref q57, .ref q58, .ref q59, .ref q60, .int 0, .ref q61, .ref q62, .ref q63, .int 0, .ref q64, .ref q65, .ref q66, .int 0, .ref q67])), (q50, .inl (cI, 5, .inl (fun _ => 0)))]) (w1 := fun _ => []) (fun hPc hDc => va_runV (As := [.int a1, .int a2, .int 1]) (rest := []) ⟨hx, hb, hml, hown, hts⟩ (kX11_copy_10 l dC dI cI c2 q1 q4 q48 q2 q6 q18 q23 q28 q33 q36 q37 q40 q44 q5 H.size a1 a2 (by omega) (by omega) (by omega) (by omega)) (cwV 3 hts gL_law_X11_copy rfl rfl rfl (by decide +kernel) ⟨Nat.le_of_ble_eq_true rfl, Nat.le_of_ble_eq_true rfl⟩) (pre_V hPc hK hDc hN (ci := 11) (q0 := 0) rfl rfl) rfl rfl hl.1 rfl (lv_room (Nat.le_of_ble_eq_true rfl)) dL_law_944 ⟨Nat.le_of_ble_eq_true rfl, Nat.le_of_ble_eq_true rfl⟩) hP hD hS hA [0, 3, 27] [28, 29] rfl rfl (by decide) (by decide) (by decide) (fun u H locs hP hD hS => ?_)
                    have hP : va_P (dC, dI) vwCl [(q49, .inr (12, [.int 0, .ref q50, .int 0, .ref q51, .int 0, .ref q52, .ref q53, .int 0, .ref q54, .int 0, .ref q55, .int (-9), .int 0, .int 0, .ref q56, .ref q57, .ref q58, .ref q59, .ref q60, .int 0, .ref q61, .ref q62, .ref q63, .int 0, .ref q64, .ref q65, .ref q66, .int 0, .ref q67])), (q50, .inl (cI, 5, .inl (fun _ => 0)))] H := hP
                    have hD : va_D A [(q49, .inr (12, [.int 0, .ref q50, .int 0, .ref q51, .int 0, .ref q52, .ref q53, .int 0, .ref q54, .int 0, .ref q55, .int (-9), .int 0, .int 0, .ref q56, .ref q57, .ref q58, .ref q59, .ref q60, .int 0, .ref q61, .ref q62, .ref q63, .int 0, .ref q64, .ref q65, .ref q66, .int 0, .ref q67])), (q50, .inl (cI, 5, .inl (fun _ => 0)))] := hD
                    refine lv_aload_n hx hb dL_law_947 rfl (lv_at hl 1 rfl) ?_
                    refine lv_aload_n hx hb dL_law_948 rfl (lv_at hl 3 rfl) ?_
                    refine lv_iload_n hx hb dL_law_949 rfl (lv_at hl 0 rfl) ?_
                    refine lv_iconst (v := 1) hx hb dL_law_950 (by decide) ?_
                    refine lv_iadd hx hb dL_law_951 (tk_i (v := 1) (by decide +kernel) ?_)
                    refine va_sld hx hb hX hbl hbA hS (vin (by decide +kernel)) dL_law_952 (tk_i (v := a1) ha1 ?_)
                    refine lv_aload_n hx hb dL_law_953 rfl (lv_at hl 3 rfl) ?_
                    refine lv_iload_n hx hb dL_law_954 rfl (lv_at hl 0 rfl) ?_
                    refine lv_iconst (v := 2) hx hb dL_law_955 (by decide) ?_
                    refine lv_iadd hx hb dL_law_956 (tk_i (v := 2) (by decide +kernel) ?_)
                    refine va_sld hx hb hX hbl hbA hS (vin (by decide +kernel)) dL_law_957 (tk_i (v := a2) ha2 ?_)
                    refine lv_aload_n hx hb dL_law_958 rfl (lv_at hl 3 rfl) ?_
                    refine lv_iload_n hx hb dL_law_959 rfl (lv_at hl 0 rfl) ?_
                    refine lv_iconst (v := 3) hx hb dL_law_960 (by decide) ?_
                    refine lv_iadd hx hb dL_law_961 (tk_i (v := 3) (by decide +kernel) ?_)
                    refine va_sld hx hb hX hbl hbA hS (vin (by decide +kernel)) dL_law_962 (tk_i (v := 1) ha3 ?_)
                    refine kcall_i (D := (dC, dI)) (S := Unit) (v := (-3)) (wc := [(q49, .inr (12, [.int 0, .ref q50, .int 0, .ref q51, .int 0, .ref q52, .ref q53, .int 0, .ref q54, .int 0, .ref q55, .int (-9), .int 0, .int 0, .ref q56, .ref q57, .ref q58, .ref q59, .ref q60, .int 0, .ref q61, .ref q62, .ref q63, .int 0, .ref q64, .ref q65, .ref q66, .int 0, .ref q67])), (q50, .inl (cI, 5, .inl (fun _ => 0)))]) (wr := []) (w1 := fun _ => []) (fun hPc hDc => va_runV (As := [.int a1, .int a2, .int 1]) (rest := [.int (-3)]) ⟨hx, hb, hml, hown, hts⟩ (kX12_copy_10 l dC dI cI c2 q49 q50 q51 q52 q53 q54 q55 q56 q57 q58 q59 q60 q61 q62 q63 q64 q65 q66 q67 H.size a1 a2 (by omega) (by omega) (by omega) (by omega)) (cwV 3 hts gL_law_X12_copy rfl rfl rfl (by decide +kernel) ⟨Nat.le_of_ble_eq_true rfl, Nat.le_of_ble_eq_true rfl⟩) (pre_V hPc hK hDc hN (ci := 12) (q0 := 0) rfl rfl) rfl rfl hl.1 rfl (lv_room (Nat.le_of_ble_eq_true rfl)) dL_law_963 ⟨Nat.le_of_ble_eq_true rfl, Nat.le_of_ble_eq_true rfl⟩) hP hD hS hA [0, 1] [] rfl rfl (by decide) (by decide) (by decide) (fun u H locs hP hD hS => ?_)
                    have hP : va_P (dC, dI) vwCl [] H := hP
                    have hD : va_D A [] := hD
                    refine lv_icmp_eq (tgt := 1080) hx hb dL_law_966 (by decide) (fun _ => ?_) (fun h9 => absurd (by decide +kernel) h9)
                    refine lv_iinc (v := 4) (lv' := [(3, .int 4), (2, .ref q49), (1, .ref q1), (0, .ref b)]) hx hb dL_law_1080 hl (k := 0) rfl (by decide +kernel) (by decide) rfl (fun ls hl => ?_)
                    refine lv_goto (tgt := 18) hx hb dL_law_1083 (by decide) ?_
                    refine lv_iload_n hx hb dL_law_18 rfl (lv_at hl 0 rfl) ?_
                    refine lv_aload_n hx hb dL_law_19 rfl (lv_at hl 3 rfl) ?_
                    refine va_slen hx hb hX hbl hbA hS dL_law_20 (tk_i (v := 4) (by decide +kernel) ?_)
                    refine lv_iconst (v := 4) hx hb dL_law_21 (by decide) ?_
                    refine lv_isub hx hb dL_law_22 (tk_i (v := 0) (by decide +kernel) ?_)
                    refine lv_icmp_gt (tgt := 1086) hx hb dL_law_23 (by decide) (fun _ => ?_) (fun h9 => absurd (by decide +kernel) h9)
                    refine lv_iconst (v := 1) hx hb dL_law_1086 (by decide) ?_
                    refine va_forget (fun q hq => by have h9 := hS.2.2 q hq; rw [← hAe] at h9; exact h9) ?_
                    refine W.widen (k := 600000) (n := 7302250) (by decide) (by decide) ?_
                    exact lw_ret hx hb hr hlocks dL_law_1087
              ·
                rcases (show a2.toInt ≤ (-1) ∨ 0 ≤ a2.toInt by omega) with g_a2_0 | g_a2_0
                ·
                  have e_a1 : a1 = 12 := ib_eq (X := 12) (by omega) (by decide +kernel)
                  subst e_a1
                  have e_a3 : a3 = 1 := ib_eq (X := 1) (by omega) (by decide +kernel)
                  subst e_a3
                  refine lv_aload_n hx hb dL_law_928 rfl (lv_at hl 2 rfl) ?_
                  refine lv_aload_n hx hb dL_law_929 rfl (lv_at hl 3 rfl) ?_
                  refine lv_iload_n hx hb dL_law_930 rfl (lv_at hl 0 rfl) ?_
                  refine lv_iconst (v := 1) hx hb dL_law_931 (by decide) ?_
                  refine lv_iadd hx hb dL_law_932 (tk_i (v := 1) (by decide +kernel) ?_)
                  refine va_sld hx hb hX hbl hbA hS (vin (by decide +kernel)) dL_law_933 (tk_i (v := 12) ha1 ?_)
                  refine lv_aload_n hx hb dL_law_934 rfl (lv_at hl 3 rfl) ?_
                  refine lv_iload_n hx hb dL_law_935 rfl (lv_at hl 0 rfl) ?_
                  refine lv_iconst (v := 2) hx hb dL_law_936 (by decide) ?_
                  refine lv_iadd hx hb dL_law_937 (tk_i (v := 2) (by decide +kernel) ?_)
                  refine va_sld hx hb hX hbl hbA hS (vin (by decide +kernel)) dL_law_938 (tk_i (v := a2) ha2 ?_)
                  refine lv_aload_n hx hb dL_law_939 rfl (lv_at hl 3 rfl) ?_
                  refine lv_iload_n hx hb dL_law_940 rfl (lv_at hl 0 rfl) ?_
                  refine lv_iconst (v := 3) hx hb dL_law_941 (by decide) ?_
                  refine lv_iadd hx hb dL_law_942 (tk_i (v := 3) (by decide +kernel) ?_)
                  refine va_sld hx hb hX hbl hbA hS (vin (by decide +kernel)) dL_law_943 (tk_i (v := 1) ha3 ?_)
                  refine kcall_i (D := (dC, dI)) (S := Unit) (v := (-3)) (wc := [(q1, .inr (11, [.ref q2, .ref q4, .ref q6, .ref q18, .ref q23, .ref q28, .ref q33, .ref q36, .ref q37, .ref q40, .ref q44, .ref q48, .int 0])), (q4, .inr (10, [.ref q5, .int 0, .int 0])), (q48, .inl (cI, 5, .inl (fun _ => 0)))]) (wr := [(q49, .inr (12, [.int 0, .ref q50, .int 0, .ref q51, .int 0, .ref q52, .ref q53, .int 0, .ref q54, .int 0, .ref q55, .int (-9), .int 0, .int 0, .ref q56, .ref q57, .ref q58, .ref q59, .ref q60, .int 0, .ref q61, .ref q62, .ref q63, .int 0, .ref q64, .ref q65, .ref q66, .int 0, .ref q67])), (q50, .inl (cI, 5, .inl (fun _ => 0)))]) (w1 := fun _ => []) (fun hPc hDc => va_runV (As := [.int 12, .int a2, .int 1]) (rest := []) ⟨hx, hb, hml, hown, hts⟩ (kX11_copy_11 l dC dI cI c2 q1 q4 q48 q2 q6 q18 q23 q28 q33 q36 q37 q40 q44 q5 H.size a2 (by omega) (by omega)) (cwV 3 hts gL_law_X11_copy rfl rfl rfl (by decide +kernel) ⟨Nat.le_of_ble_eq_true rfl, Nat.le_of_ble_eq_true rfl⟩) (pre_V hPc hK hDc hN (ci := 11) (q0 := 0) rfl rfl) rfl rfl hl.1 rfl (lv_room (Nat.le_of_ble_eq_true rfl)) dL_law_944 ⟨Nat.le_of_ble_eq_true rfl, Nat.le_of_ble_eq_true rfl⟩) hP hD hS hA [0, 3, 27] [28, 29] rfl rfl (by decide) (by decide) (by decide) (fun u H locs hP hD hS => ?_)
                  have hP : va_P (dC, dI) vwCl [(q49, .inr (12, [.int 0, .ref q50, .int 0, .ref q51, .int 0, .ref q52, .ref q53, .int 0, .ref q54, .int 0, .ref q55, .int (-9), .int 0, .int 0, .ref q56, .ref q57, .ref q58, .ref q59, .ref q60, .int 0, .ref q61, .ref q62, .ref q63, .int 0, .ref q64, .ref q65, .ref q66, .int 0, .ref q67])), (q50, .inl (cI, 5, .inl (fun _ => 0)))] H := hP
                  have hD : va_D A [(q49, .inr (12, [.int 0, .ref q50, .int 0, .ref q51, .int 0, .ref q52, .ref q53, .int 0, .ref q54, .int 0, .ref q55, .int (-9), .int 0, .int 0, .ref q56, .ref q57, .ref q58, .ref q59, .ref q60, .int 0, .ref q61, .ref q62, .ref q63, .int 0, .ref q64, .ref q65, .ref q66, .int 0, .ref q67])), (q50, .inl (cI, 5, .inl (fun _ => 0)))] := hD
                  refine lv_aload_n hx hb dL_law_947 rfl (lv_at hl 1 rfl) ?_
                  refine lv_aload_n hx hb dL_law_948 rfl (lv_at hl 3 rfl) ?_
                  refine lv_iload_n hx hb dL_law_949 rfl (lv_at hl 0 rfl) ?_
                  refine lv_iconst (v := 1) hx hb dL_law_950 (by decide) ?_
                  refine lv_iadd hx hb dL_law_951 (tk_i (v := 1) (by decide +kernel) ?_)
                  refine va_sld hx hb hX hbl hbA hS (vin (by decide +kernel)) dL_law_952 (tk_i (v := 12) ha1 ?_)
                  refine lv_aload_n hx hb dL_law_953 rfl (lv_at hl 3 rfl) ?_
                  refine lv_iload_n hx hb dL_law_954 rfl (lv_at hl 0 rfl) ?_
                  refine lv_iconst (v := 2) hx hb dL_law_955 (by decide) ?_
                  refine lv_iadd hx hb dL_law_956 (tk_i (v := 2) (by decide +kernel) ?_)
                  refine va_sld hx hb hX hbl hbA hS (vin (by decide +kernel)) dL_law_957 (tk_i (v := a2) ha2 ?_)
                  refine lv_aload_n hx hb dL_law_958 rfl (lv_at hl 3 rfl) ?_
                  refine lv_iload_n hx hb dL_law_959 rfl (lv_at hl 0 rfl) ?_
                  refine lv_iconst (v := 3) hx hb dL_law_960 (by decide) ?_
                  refine lv_iadd hx hb dL_law_961 (tk_i (v := 3) (by decide +kernel) ?_)
                  refine va_sld hx hb hX hbl hbA hS (vin (by decide +kernel)) dL_law_962 (tk_i (v := 1) ha3 ?_)
                  refine kcall_i (D := (dC, dI)) (S := Unit) (v := (-3)) (wc := [(q49, .inr (12, [.int 0, .ref q50, .int 0, .ref q51, .int 0, .ref q52, .ref q53, .int 0, .ref q54, .int 0, .ref q55, .int (-9), .int 0, .int 0, .ref q56, .ref q57, .ref q58, .ref q59, .ref q60, .int 0, .ref q61, .ref q62, .ref q63, .int 0, .ref q64, .ref q65, .ref q66, .int 0, .ref q67])), (q50, .inl (cI, 5, .inl (fun _ => 0)))]) (wr := []) (w1 := fun _ => []) (fun hPc hDc => va_runV (As := [.int 12, .int a2, .int 1]) (rest := [.int (-3)]) ⟨hx, hb, hml, hown, hts⟩ (kX12_copy_11 l dC dI cI c2 q49 q50 q51 q52 q53 q54 q55 q56 q57 q58 q59 q60 q61 q62 q63 q64 q65 q66 q67 H.size a2 (by omega) (by omega)) (cwV 3 hts gL_law_X12_copy rfl rfl rfl (by decide +kernel) ⟨Nat.le_of_ble_eq_true rfl, Nat.le_of_ble_eq_true rfl⟩) (pre_V hPc hK hDc hN (ci := 12) (q0 := 0) rfl rfl) rfl rfl hl.1 rfl (lv_room (Nat.le_of_ble_eq_true rfl)) dL_law_963 ⟨Nat.le_of_ble_eq_true rfl, Nat.le_of_ble_eq_true rfl⟩) hP hD hS hA [0, 1] [] rfl rfl (by decide) (by decide) (by decide) (fun u H locs hP hD hS => ?_)
                  have hP : va_P (dC, dI) vwCl [] H := hP
                  have hD : va_D A [] := hD
                  refine lv_icmp_eq (tgt := 1080) hx hb dL_law_966 (by decide) (fun _ => ?_) (fun h9 => absurd (by decide +kernel) h9)
                  refine lv_iinc (v := 4) (lv' := [(3, .int 4), (2, .ref q49), (1, .ref q1), (0, .ref b)]) hx hb dL_law_1080 hl (k := 0) rfl (by decide +kernel) (by decide) rfl (fun ls hl => ?_)
                  refine lv_goto (tgt := 18) hx hb dL_law_1083 (by decide) ?_
                  refine lv_iload_n hx hb dL_law_18 rfl (lv_at hl 0 rfl) ?_
                  refine lv_aload_n hx hb dL_law_19 rfl (lv_at hl 3 rfl) ?_
                  refine va_slen hx hb hX hbl hbA hS dL_law_20 (tk_i (v := 4) (by decide +kernel) ?_)
                  refine lv_iconst (v := 4) hx hb dL_law_21 (by decide) ?_
                  refine lv_isub hx hb dL_law_22 (tk_i (v := 0) (by decide +kernel) ?_)
                  refine lv_icmp_gt (tgt := 1086) hx hb dL_law_23 (by decide) (fun _ => ?_) (fun h9 => absurd (by decide +kernel) h9)
                  refine lv_iconst (v := 1) hx hb dL_law_1086 (by decide) ?_
                  refine va_forget (fun q hq => by have h9 := hS.2.2 q hq; rw [← hAe] at h9; exact h9) ?_
                  refine W.widen (k := 600000) (n := 7302250) (by decide) (by decide) ?_
                  exact lw_ret hx hb hr hlocks dL_law_1087
                ·
                  have e_a1 : a1 = 12 := ib_eq (X := 12) (by omega) (by decide +kernel)
                  subst e_a1
                  have e_a3 : a3 = 1 := ib_eq (X := 1) (by omega) (by decide +kernel)
                  subst e_a3
                  refine lv_aload_n hx hb dL_law_928 rfl (lv_at hl 2 rfl) ?_
                  refine lv_aload_n hx hb dL_law_929 rfl (lv_at hl 3 rfl) ?_
                  refine lv_iload_n hx hb dL_law_930 rfl (lv_at hl 0 rfl) ?_
                  refine lv_iconst (v := 1) hx hb dL_law_931 (by decide) ?_
                  refine lv_iadd hx hb dL_law_932 (tk_i (v := 1) (by decide +kernel) ?_)
                  refine va_sld hx hb hX hbl hbA hS (vin (by decide +kernel)) dL_law_933 (tk_i (v := 12) ha1 ?_)
                  refine lv_aload_n hx hb dL_law_934 rfl (lv_at hl 3 rfl) ?_
                  refine lv_iload_n hx hb dL_law_935 rfl (lv_at hl 0 rfl) ?_
                  refine lv_iconst (v := 2) hx hb dL_law_936 (by decide) ?_
                  refine lv_iadd hx hb dL_law_937 (tk_i (v := 2) (by decide +kernel) ?_)
                  refine va_sld hx hb hX hbl hbA hS (vin (by decide +kernel)) dL_law_938 (tk_i (v := a2) ha2 ?_)
                  refine lv_aload_n hx hb dL_law_939 rfl (lv_at hl 3 rfl) ?_
                  refine lv_iload_n hx hb dL_law_940 rfl (lv_at hl 0 rfl) ?_
                  refine lv_iconst (v := 3) hx hb dL_law_941 (by decide) ?_
                  refine lv_iadd hx hb dL_law_942 (tk_i (v := 3) (by decide +kernel) ?_)
                  refine va_sld hx hb hX hbl hbA hS (vin (by decide +kernel)) dL_law_943 (tk_i (v := 1) ha3 ?_)
                  refine kcall_i (D := (dC, dI)) (S := Unit) (v := (-3)) (wc := [(q1, .inr (11, [.ref q2, .ref q4, .ref q6, .ref q18, .ref q23, .ref q28, .ref q33, .ref q36, .ref q37, .ref q40, .ref q44, .ref q48, .int 0])), (q4, .inr (10, [.ref q5, .int 0, .int 0])), (q48, .inl (cI, 5, .inl (fun _ => 0)))]) (wr := [(q49, .inr (12, [.int 0, .ref q50, .int 0, .ref q51, .int 0, .ref q52, .ref q53, .int 0, .ref q54, .int 0, .ref q55, .int (-9), .int 0, .int 0, .ref q56, .ref q57, .ref q58, .ref q59, .ref q60, .int 0, .ref q61, .ref q62, .ref q63, .int 0, .ref q64, .ref q65, .ref q66, .int 0, .ref q67])), (q50, .inl (cI, 5, .inl (fun _ => 0)))]) (w1 := fun _ => []) (fun hPc hDc => va_runV (As := [.int 12, .int a2, .int 1]) (rest := []) ⟨hx, hb, hml, hown, hts⟩ (kX11_copy_12 l dC dI cI c2 q1 q4 q48 q2 q6 q18 q23 q28 q33 q36 q37 q40 q44 q5 H.size a2 (by omega) (by omega)) (cwV 3 hts gL_law_X11_copy rfl rfl rfl (by decide +kernel) ⟨Nat.le_of_ble_eq_true rfl, Nat.le_of_ble_eq_true rfl⟩) (pre_V hPc hK hDc hN (ci := 11) (q0 := 0) rfl rfl) rfl rfl hl.1 rfl (lv_room (Nat.le_of_ble_eq_true rfl)) dL_law_944 ⟨Nat.le_of_ble_eq_true rfl, Nat.le_of_ble_eq_true rfl⟩) hP hD hS hA [0, 3, 27] [28, 29] rfl rfl (by decide) (by decide) (by decide) (fun u H locs hP hD hS => ?_)
                  have hP : va_P (dC, dI) vwCl [(q49, .inr (12, [.int 0, .ref q50, .int 0, .ref q51, .int 0, .ref q52, .ref q53, .int 0, .ref q54, .int 0, .ref q55, .int (-9), .int 0, .int 0, .ref q56, .ref q57, .ref q58, .ref q59, .ref q60, .int 0, .ref q61, .ref q62, .ref q63, .int 0, .ref q64, .ref q65, .ref q66, .int 0, .ref q67])), (q50, .inl (cI, 5, .inl (fun _ => 0)))] H := hP
                  have hD : va_D A [(q49, .inr (12, [.int 0, .ref q50, .int 0, .ref q51, .int 0, .ref q52, .ref q53, .int 0, .ref q54, .int 0, .ref q55, .int (-9), .int 0, .int 0, .ref q56, .ref q57, .ref q58, .ref q59, .ref q60, .int 0, .ref q61, .ref q62, .ref q63, .int 0, .ref q64, .ref q65, .ref q66, .int 0, .ref q67])), (q50, .inl (cI, 5, .inl (fun _ => 0)))] := hD
                  refine lv_aload_n hx hb dL_law_947 rfl (lv_at hl 1 rfl) ?_
                  refine lv_aload_n hx hb dL_law_948 rfl (lv_at hl 3 rfl) ?_
                  refine lv_iload_n hx hb dL_law_949 rfl (lv_at hl 0 rfl) ?_
                  refine lv_iconst (v := 1) hx hb dL_law_950 (by decide) ?_
                  refine lv_iadd hx hb dL_law_951 (tk_i (v := 1) (by decide +kernel) ?_)
                  refine va_sld hx hb hX hbl hbA hS (vin (by decide +kernel)) dL_law_952 (tk_i (v := 12) ha1 ?_)
                  refine lv_aload_n hx hb dL_law_953 rfl (lv_at hl 3 rfl) ?_
                  refine lv_iload_n hx hb dL_law_954 rfl (lv_at hl 0 rfl) ?_
                  refine lv_iconst (v := 2) hx hb dL_law_955 (by decide) ?_
                  refine lv_iadd hx hb dL_law_956 (tk_i (v := 2) (by decide +kernel) ?_)
                  refine va_sld hx hb hX hbl hbA hS (vin (by decide +kernel)) dL_law_957 (tk_i (v := a2) ha2 ?_)
                  refine lv_aload_n hx hb dL_law_958 rfl (lv_at hl 3 rfl) ?_
                  refine lv_iload_n hx hb dL_law_959 rfl (lv_at hl 0 rfl) ?_
                  refine lv_iconst (v := 3) hx hb dL_law_960 (by decide) ?_
                  refine lv_iadd hx hb dL_law_961 (tk_i (v := 3) (by decide +kernel) ?_)
                  refine va_sld hx hb hX hbl hbA hS (vin (by decide +kernel)) dL_law_962 (tk_i (v := 1) ha3 ?_)
                  refine kcall_i (D := (dC, dI)) (S := Unit) (v := (-3)) (wc := [(q49, .inr (12, [.int 0, .ref q50, .int 0, .ref q51, .int 0, .ref q52, .ref q53, .int 0, .ref q54, .int 0, .ref q55, .int (-9), .int 0, .int 0, .ref q56, .ref q57, .ref q58, .ref q59, .ref q60, .int 0, .ref q61, .ref q62, .ref q63, .int 0, .ref q64, .ref q65, .ref q66, .int 0, .ref q67])), (q50, .inl (cI, 5, .inl (fun _ => 0)))]) (wr := []) (w1 := fun _ => []) (fun hPc hDc => va_runV (As := [.int 12, .int a2, .int 1]) (rest := [.int (-3)]) ⟨hx, hb, hml, hown, hts⟩ (kX12_copy_12 l dC dI cI c2 q49 q50 q51 q52 q53 q54 q55 q56 q57 q58 q59 q60 q61 q62 q63 q64 q65 q66 q67 H.size a2 (by omega) (by omega)) (cwV 3 hts gL_law_X12_copy rfl rfl rfl (by decide +kernel) ⟨Nat.le_of_ble_eq_true rfl, Nat.le_of_ble_eq_true rfl⟩) (pre_V hPc hK hDc hN (ci := 12) (q0 := 0) rfl rfl) rfl rfl hl.1 rfl (lv_room (Nat.le_of_ble_eq_true rfl)) dL_law_963 ⟨Nat.le_of_ble_eq_true rfl, Nat.le_of_ble_eq_true rfl⟩) hP hD hS hA [0, 1] [] rfl rfl (by decide) (by decide) (by decide) (fun u H locs hP hD hS => ?_)
                  have hP : va_P (dC, dI) vwCl [] H := hP
                  have hD : va_D A [] := hD
                  refine lv_icmp_eq (tgt := 1080) hx hb dL_law_966 (by decide) (fun _ => ?_) (fun h9 => absurd (by decide +kernel) h9)
                  refine lv_iinc (v := 4) (lv' := [(3, .int 4), (2, .ref q49), (1, .ref q1), (0, .ref b)]) hx hb dL_law_1080 hl (k := 0) rfl (by decide +kernel) (by decide) rfl (fun ls hl => ?_)
                  refine lv_goto (tgt := 18) hx hb dL_law_1083 (by decide) ?_
                  refine lv_iload_n hx hb dL_law_18 rfl (lv_at hl 0 rfl) ?_
                  refine lv_aload_n hx hb dL_law_19 rfl (lv_at hl 3 rfl) ?_
                  refine va_slen hx hb hX hbl hbA hS dL_law_20 (tk_i (v := 4) (by decide +kernel) ?_)
                  refine lv_iconst (v := 4) hx hb dL_law_21 (by decide) ?_
                  refine lv_isub hx hb dL_law_22 (tk_i (v := 0) (by decide +kernel) ?_)
                  refine lv_icmp_gt (tgt := 1086) hx hb dL_law_23 (by decide) (fun _ => ?_) (fun h9 => absurd (by decide +kernel) h9)
                  refine lv_iconst (v := 1) hx hb dL_law_1086 (by decide) ?_
                  refine va_forget (fun q hq => by have h9 := hS.2.2 q hq; rw [← hAe] at h9; exact h9) ?_
                  refine W.widen (k := 600000) (n := 7302250) (by decide) (by decide) ?_
                  exact lw_ret hx hb hr hlocks dL_law_1087
            ·
              rcases (show a3.toInt ≤ 2 ∨ 3 ≤ a3.toInt by omega) with g_a3_3 | g_a3_3
              ·
                rcases (show a1.toInt ≤ 10 ∨ 11 ≤ a1.toInt by omega) with g_a1_11 | g_a1_11
                ·
                  rcases (show a2.toInt ≤ (-1) ∨ 0 ≤ a2.toInt by omega) with g_a2_0 | g_a2_0
                  ·
                    have e_a3 : a3 = 2 := ib_eq (X := 2) (by omega) (by decide +kernel)
                    subst e_a3
                    refine lv_aload_n hx hb dL_law_928 rfl (lv_at hl 2 rfl) ?_
                    refine lv_aload_n hx hb dL_law_929 rfl (lv_at hl 3 rfl) ?_
                    refine lv_iload_n hx hb dL_law_930 rfl (lv_at hl 0 rfl) ?_
                    refine lv_iconst (v := 1) hx hb dL_law_931 (by decide) ?_
                    refine lv_iadd hx hb dL_law_932 (tk_i (v := 1) (by decide +kernel) ?_)
                    refine va_sld hx hb hX hbl hbA hS (vin (by decide +kernel)) dL_law_933 (tk_i (v := a1) ha1 ?_)
                    refine lv_aload_n hx hb dL_law_934 rfl (lv_at hl 3 rfl) ?_
                    refine lv_iload_n hx hb dL_law_935 rfl (lv_at hl 0 rfl) ?_
                    refine lv_iconst (v := 2) hx hb dL_law_936 (by decide) ?_
                    refine lv_iadd hx hb dL_law_937 (tk_i (v := 2) (by decide +kernel) ?_)
                    refine va_sld hx hb hX hbl hbA hS (vin (by decide +kernel)) dL_law_938 (tk_i (v := a2) ha2 ?_)
                    refine lv_aload_n hx hb dL_law_939 rfl (lv_at hl 3 rfl) ?_
                    refine lv_iload_n hx hb dL_law_940 rfl (lv_at hl 0 rfl) ?_
                    refine lv_iconst (v := 3) hx hb dL_law_941 (by decide) ?_
                    refine lv_iadd hx hb dL_law_942 (tk_i (v := 3) (by decide +kernel) ?_)
                    refine va_sld hx hb hX hbl hbA hS (vin (by decide +kernel)) dL_law_943 (tk_i (v := 2) ha3 ?_)
                    refine kcall_i (D := (dC, dI)) (S := Unit) (v := (-3)) (wc := [(q1, .inr (11, [.ref q2, .ref q4, .ref q6, .ref q18, .ref q23, .ref q28, .ref q33, .ref q36, .ref q37, .ref q40, .ref q44, .ref q48, .int 0])), (q4, .inr (10, [.ref q5, .int 0, .int 0])), (q48, .inl (cI, 5, .inl (fun _ => 0)))]) (wr := [(q49, .inr (12, [.int 0, .ref q50, .int 0, .ref q51, .int 0, .ref q52, .ref q53, .int 0, .ref q54, .int 0, .ref q55, .int (-9), .int 0, .int 0, .ref q56, .ref q57, .ref q58, .ref q59, .ref q60, .int 0, .ref q61, .ref q62, .ref q63, .int 0, .ref q64, .ref q65, .ref q66, .int 0, .ref q67])), (q50, .inl (cI, 5, .inl (fun _ => 0)))]) (w1 := fun _ => []) (fun hPc hDc => va_runV (As := [.int a1, .int a2, .int 2]) (rest := []) ⟨hx, hb, hml, hown, hts⟩ (kX11_copy_13 l dC dI cI c2 q1 q4 q48 q2 q6 q18 q23 q28 q33 q36 q37 q40 q44 q5 H.size a1 a2 (by omega) (by omega) (by omega) (by omega)) (cwV 3 hts gL_law_X11_copy rfl rfl rfl (by decide +kernel) ⟨Nat.le_of_ble_eq_true rfl, Nat.le_of_ble_eq_true rfl⟩) (pre_V hPc hK hDc hN (ci := 11) (q0 := 0) rfl rfl) rfl rfl hl.1 rfl (lv_room (Nat.le_of_ble_eq_true rfl)) dL_law_944 ⟨Nat.le_of_ble_eq_true rfl, Nat.le_of_ble_eq_true rfl⟩) hP hD hS hA [0, 3, 27] [28, 29] rfl rfl (by decide) (by decide) (by decide) (fun u H locs hP hD hS => ?_)
                    have hP : va_P (dC, dI) vwCl [(q49, .inr (12, [.int 0, .ref q50, .int 0, .ref q51, .int 0, .ref q52, .ref q53, .int 0, .ref q54, .int 0, .ref q55, .int (-9), .int 0, .int 0, .ref q56, .ref q57, .ref q58, .ref q59, .ref q60, .int 0, .ref q61, .ref q62, .ref q63, .int 0, .ref q64, .ref q65, .ref q66, .int 0, .ref q67])), (q50, .inl (cI, 5, .inl (fun _ => 0)))] H := hP
                    have hD : va_D A [(q49, .inr (12, [.int 0, .ref q50, .int 0, .ref q51, .int 0, .ref q52, .ref q53, .int 0, .ref q54, .int 0, .ref q55, .int (-9), .int 0, .int 0, .ref q56, .ref q57, .ref q58, .ref q59, .ref q60, .int 0, .ref q61, .ref q62, .ref q63, .int 0, .ref q64, .ref q65, .ref q66, .int 0, .ref q67])), (q50, .inl (cI, 5, .inl (fun _ => 0)))] := hD
                    refine lv_aload_n hx hb dL_law_947 rfl (lv_at hl 1 rfl) ?_
                    refine lv_aload_n hx hb dL_law_948 rfl (lv_at hl 3 rfl) ?_
                    refine lv_iload_n hx hb dL_law_949 rfl (lv_at hl 0 rfl) ?_
                    refine lv_iconst (v := 1) hx hb dL_law_950 (by decide) ?_
                    refine lv_iadd hx hb dL_law_951 (tk_i (v := 1) (by decide +kernel) ?_)
                    refine va_sld hx hb hX hbl hbA hS (vin (by decide +kernel)) dL_law_952 (tk_i (v := a1) ha1 ?_)
                    refine lv_aload_n hx hb dL_law_953 rfl (lv_at hl 3 rfl) ?_
                    refine lv_iload_n hx hb dL_law_954 rfl (lv_at hl 0 rfl) ?_
                    refine lv_iconst (v := 2) hx hb dL_law_955 (by decide) ?_
                    refine lv_iadd hx hb dL_law_956 (tk_i (v := 2) (by decide +kernel) ?_)
                    refine va_sld hx hb hX hbl hbA hS (vin (by decide +kernel)) dL_law_957 (tk_i (v := a2) ha2 ?_)
                    refine lv_aload_n hx hb dL_law_958 rfl (lv_at hl 3 rfl) ?_
                    refine lv_iload_n hx hb dL_law_959 rfl (lv_at hl 0 rfl) ?_
                    refine lv_iconst (v := 3) hx hb dL_law_960 (by decide) ?_
                    refine lv_iadd hx hb dL_law_961 (tk_i (v := 3) (by decide +kernel) ?_)
                    refine va_sld hx hb hX hbl hbA hS (vin (by decide +kernel)) dL_law_962 (tk_i (v := 2) ha3 ?_)
                    refine kcall_i (D := (dC, dI)) (S := Unit) (v := (-3)) (wc := [(q49, .inr (12, [.int 0, .ref q50, .int 0, .ref q51, .int 0, .ref q52, .ref q53, .int 0, .ref q54, .int 0, .ref q55, .int (-9), .int 0, .int 0, .ref q56, .ref q57, .ref q58, .ref q59, .ref q60, .int 0, .ref q61, .ref q62, .ref q63, .int 0, .ref q64, .ref q65, .ref q66, .int 0, .ref q67])), (q50, .inl (cI, 5, .inl (fun _ => 0)))]) (wr := []) (w1 := fun _ => []) (fun hPc hDc => va_runV (As := [.int a1, .int a2, .int 2]) (rest := [.int (-3)]) ⟨hx, hb, hml, hown, hts⟩ (kX12_copy_13 l dC dI cI c2 q49 q50 q51 q52 q53 q54 q55 q56 q57 q58 q59 q60 q61 q62 q63 q64 q65 q66 q67 H.size a1 a2 (by omega) (by omega) (by omega) (by omega)) (cwV 3 hts gL_law_X12_copy rfl rfl rfl (by decide +kernel) ⟨Nat.le_of_ble_eq_true rfl, Nat.le_of_ble_eq_true rfl⟩) (pre_V hPc hK hDc hN (ci := 12) (q0 := 0) rfl rfl) rfl rfl hl.1 rfl (lv_room (Nat.le_of_ble_eq_true rfl)) dL_law_963 ⟨Nat.le_of_ble_eq_true rfl, Nat.le_of_ble_eq_true rfl⟩) hP hD hS hA [0, 1] [] rfl rfl (by decide) (by decide) (by decide) (fun u H locs hP hD hS => ?_)
                    have hP : va_P (dC, dI) vwCl [] H := hP
                    have hD : va_D A [] := hD
                    refine lv_icmp_eq (tgt := 1080) hx hb dL_law_966 (by decide) (fun _ => ?_) (fun h9 => absurd (by decide +kernel) h9)
                    refine lv_iinc (v := 4) (lv' := [(3, .int 4), (2, .ref q49), (1, .ref q1), (0, .ref b)]) hx hb dL_law_1080 hl (k := 0) rfl (by decide +kernel) (by decide) rfl (fun ls hl => ?_)
                    refine lv_goto (tgt := 18) hx hb dL_law_1083 (by decide) ?_
                    refine lv_iload_n hx hb dL_law_18 rfl (lv_at hl 0 rfl) ?_
                    refine lv_aload_n hx hb dL_law_19 rfl (lv_at hl 3 rfl) ?_
                    refine va_slen hx hb hX hbl hbA hS dL_law_20 (tk_i (v := 4) (by decide +kernel) ?_)
                    refine lv_iconst (v := 4) hx hb dL_law_21 (by decide) ?_
                    refine lv_isub hx hb dL_law_22 (tk_i (v := 0) (by decide +kernel) ?_)
                    refine lv_icmp_gt (tgt := 1086) hx hb dL_law_23 (by decide) (fun _ => ?_) (fun h9 => absurd (by decide +kernel) h9)
                    refine lv_iconst (v := 1) hx hb dL_law_1086 (by decide) ?_
                    refine va_forget (fun q hq => by have h9 := hS.2.2 q hq; rw [← hAe] at h9; exact h9) ?_
                    refine W.widen (k := 600000) (n := 7302250) (by decide) (by decide) ?_
                    exact lw_ret hx hb hr hlocks dL_law_1087
                  ·
                    rcases (show a2.toInt ≤ 12 ∨ 13 ≤ a2.toInt by omega) with g_a2_13 | g_a2_13
                    ·
                      rcases (show a2.toInt ≤ 10 ∨ 11 ≤ a2.toInt by omega) with g_a2_11 | g_a2_11
                      ·
                        have e_a3 : a3 = 2 := ib_eq (X := 2) (by omega) (by decide +kernel)
                        subst e_a3
                        refine lv_aload_n hx hb dL_law_928 rfl (lv_at hl 2 rfl) ?_
                        refine lv_aload_n hx hb dL_law_929 rfl (lv_at hl 3 rfl) ?_
                        refine lv_iload_n hx hb dL_law_930 rfl (lv_at hl 0 rfl) ?_
                        refine lv_iconst (v := 1) hx hb dL_law_931 (by decide) ?_
                        refine lv_iadd hx hb dL_law_932 (tk_i (v := 1) (by decide +kernel) ?_)
                        refine va_sld hx hb hX hbl hbA hS (vin (by decide +kernel)) dL_law_933 (tk_i (v := a1) ha1 ?_)
                        refine lv_aload_n hx hb dL_law_934 rfl (lv_at hl 3 rfl) ?_
                        refine lv_iload_n hx hb dL_law_935 rfl (lv_at hl 0 rfl) ?_
                        refine lv_iconst (v := 2) hx hb dL_law_936 (by decide) ?_
                        refine lv_iadd hx hb dL_law_937 (tk_i (v := 2) (by decide +kernel) ?_)
                        refine va_sld hx hb hX hbl hbA hS (vin (by decide +kernel)) dL_law_938 (tk_i (v := a2) ha2 ?_)
                        refine lv_aload_n hx hb dL_law_939 rfl (lv_at hl 3 rfl) ?_
                        refine lv_iload_n hx hb dL_law_940 rfl (lv_at hl 0 rfl) ?_
                        refine lv_iconst (v := 3) hx hb dL_law_941 (by decide) ?_
                        refine lv_iadd hx hb dL_law_942 (tk_i (v := 3) (by decide +kernel) ?_)
                        refine va_sld hx hb hX hbl hbA hS (vin (by decide +kernel)) dL_law_943 (tk_i (v := 2) ha3 ?_)
                        refine kcall_i (D := (dC, dI)) (S := Unit) (v := 1) (wc := [(q1, .inr (11, [.ref q2, .ref q4, .ref q6, .ref q18, .ref q23, .ref q28, .ref q33, .ref q36, .ref q37, .ref q40, .ref q44, .ref q48, .int 0])), (q4, .inr (10, [.ref q5, .int 0, .int 0])), (q5, .inl (cI, 12, .inl (fun _ => (-1))))]) (wr := [(q49, .inr (12, [.int 0, .ref q50, .int 0, .ref q51, .int 0, .ref q52, .ref q53, .int 0, .ref q54, .int 0, .ref q55, .int (-9), .int 0, .int 0, .ref q56, .ref q57, .ref q58, .ref q59, .ref q60, .int 0, .ref q61, .ref q62, .ref q63, .int 0, .ref q64, .ref q65, .ref q66, .int 0, .ref q67])), (q52, .inl (cI, 12, .inl (fun _ => (-9)))), (q67, .inl (cI, 12, .inl (fun _ => 0)))]) (w1 := fun _ => []) (fun hPc hDc => va_runV (As := [.int a1, .int a2, .int 2]) (rest := []) ⟨hx, hb, hml, hown, hts⟩ (kX11_copy_14 l dC dI cI c2 q1 q4 q5 q2 q6 q18 q23 q28 q33 q36 q37 q40 q44 q48 H.size a1 a2 (by omega) (by omega) (by omega) (by omega)) (cwV 3 hts gL_law_X11_copy rfl rfl rfl (by decide +kernel) ⟨Nat.le_of_ble_eq_true rfl, Nat.le_of_ble_eq_true rfl⟩) (pre_V hPc hK hDc hN (ci := 11) (q0 := 0) rfl rfl) rfl rfl hl.1 rfl (lv_room (Nat.le_of_ble_eq_true rfl)) dL_law_944 ⟨Nat.le_of_ble_eq_true rfl, Nat.le_of_ble_eq_true rfl⟩) hP hD hS hA [0, 3, 4] [28, 31, 36] rfl rfl (by decide) (by decide) (by decide) (fun u H locs hP hD hS => ?_)
                        have hP : va_P (dC, dI) vwCl [(q49, .inr (12, [.int 0, .ref q50, .int 0, .ref q51, .int 0, .ref q52, .ref q53, .int 0, .ref q54, .int 0, .ref q55, .int (-9), .int 0, .int 0, .ref q56, .ref q57, .ref q58, .ref q59, .ref q60, .int 0, .ref q61, .ref q62, .ref q63, .int 0, .ref q64, .ref q65, .ref q66, .int 0, .ref q67])), (q52, .inl (cI, 12, .inl (fun _ => (-9)))), (q67, .inl (cI, 12, .inl (fun _ => 0)))] H := hP
                        have hD : va_D A [(q49, .inr (12, [.int 0, .ref q50, .int 0, .ref q51, .int 0, .ref q52, .ref q53, .int 0, .ref q54, .int 0, .ref q55, .int (-9), .int 0, .int 0, .ref q56, .ref q57, .ref q58, .ref q59, .ref q60, .int 0, .ref q61, .ref q62, .ref q63, .int 0, .ref q64, .ref q65, .ref q66, .int 0, .ref q67])), (q52, .inl (cI, 12, .inl (fun _ => (-9)))), (q67, .inl (cI, 12, .inl (fun _ => 0)))] := hD
                        refine lv_aload_n hx hb dL_law_947 rfl (lv_at hl 1 rfl) ?_
                        refine lv_aload_n hx hb dL_law_948 rfl (lv_at hl 3 rfl) ?_
                        refine lv_iload_n hx hb dL_law_949 rfl (lv_at hl 0 rfl) ?_
                        refine lv_iconst (v := 1) hx hb dL_law_950 (by decide) ?_
                        refine lv_iadd hx hb dL_law_951 (tk_i (v := 1) (by decide +kernel) ?_)
                        refine va_sld hx hb hX hbl hbA hS (vin (by decide +kernel)) dL_law_952 (tk_i (v := a1) ha1 ?_)
                        refine lv_aload_n hx hb dL_law_953 rfl (lv_at hl 3 rfl) ?_
                        refine lv_iload_n hx hb dL_law_954 rfl (lv_at hl 0 rfl) ?_
                        refine lv_iconst (v := 2) hx hb dL_law_955 (by decide) ?_
                        refine lv_iadd hx hb dL_law_956 (tk_i (v := 2) (by decide +kernel) ?_)
                        refine va_sld hx hb hX hbl hbA hS (vin (by decide +kernel)) dL_law_957 (tk_i (v := a2) ha2 ?_)
                        refine lv_aload_n hx hb dL_law_958 rfl (lv_at hl 3 rfl) ?_
                        refine lv_iload_n hx hb dL_law_959 rfl (lv_at hl 0 rfl) ?_
                        refine lv_iconst (v := 3) hx hb dL_law_960 (by decide) ?_
                        refine lv_iadd hx hb dL_law_961 (tk_i (v := 3) (by decide +kernel) ?_)
                        refine va_sld hx hb hX hbl hbA hS (vin (by decide +kernel)) dL_law_962 (tk_i (v := 2) ha3 ?_)
                        refine kcall_i (D := (dC, dI)) (S := Unit) (v := 1) (wc := [(q49, .inr (12, [.int 0, .ref q50, .int 0, .ref q51, .int 0, .ref q52, .ref q53, .int 0, .ref q54, .int 0, .ref q55, .int (-9), .int 0, .int 0, .ref q56, .ref q57, .ref q58, .ref q59, .ref q60, .int 0, .ref q61, .ref q62, .ref q63, .int 0, .ref q64, .ref q65, .ref q66, .int 0, .ref q67])), (q52, .inl (cI, 12, .inl (fun _ => (-9)))), (q67, .inl (cI, 12, .inl (fun _ => 0)))]) (wr := []) (w1 := fun _ => []) (fun hPc hDc => va_runV (As := [.int a1, .int a2, .int 2]) (rest := [.int 1]) ⟨hx, hb, hml, hown, hts⟩ (kX12_copy_14 l dC dI cI c2 q49 q52 q67 q50 q51 q53 q54 q55 q56 q57 q58 q59 q60 q61 q62 q63 q64 q65 q66 H.size a1 a2 (by omega) (by omega) (by omega) (by omega)) (cwV 3 hts gL_law_X12_copy rfl rfl rfl (by decide +kernel) ⟨Nat.le_of_ble_eq_true rfl, Nat.le_of_ble_eq_true rfl⟩) (pre_V hPc hK hDc hN (ci := 12) (q0 := 0) rfl rfl) rfl rfl hl.1 rfl (lv_room (Nat.le_of_ble_eq_true rfl)) dL_law_963 ⟨Nat.le_of_ble_eq_true rfl, Nat.le_of_ble_eq_true rfl⟩) hP hD hS hA [0, 1, 2] [] rfl rfl (by decide) (by decide) (by decide) (fun u H locs hP hD hS => ?_)
                        have hP : va_P (dC, dI) vwCl [] H := hP
                        have hD : va_D A [] := hD
                        refine lv_icmp_eq (tgt := 1080) hx hb dL_law_966 (by decide) (fun _ => ?_) (fun h9 => absurd (by decide +kernel) h9)
                        refine lv_iinc (v := 4) (lv' := [(3, .int 4), (2, .ref q49), (1, .ref q1), (0, .ref b)]) hx hb dL_law_1080 hl (k := 0) rfl (by decide +kernel) (by decide) rfl (fun ls hl => ?_)
                        refine lv_goto (tgt := 18) hx hb dL_law_1083 (by decide) ?_
                        refine lv_iload_n hx hb dL_law_18 rfl (lv_at hl 0 rfl) ?_
                        refine lv_aload_n hx hb dL_law_19 rfl (lv_at hl 3 rfl) ?_
                        refine va_slen hx hb hX hbl hbA hS dL_law_20 (tk_i (v := 4) (by decide +kernel) ?_)
                        refine lv_iconst (v := 4) hx hb dL_law_21 (by decide) ?_
                        refine lv_isub hx hb dL_law_22 (tk_i (v := 0) (by decide +kernel) ?_)
                        refine lv_icmp_gt (tgt := 1086) hx hb dL_law_23 (by decide) (fun _ => ?_) (fun h9 => absurd (by decide +kernel) h9)
                        refine lv_iconst (v := 1) hx hb dL_law_1086 (by decide) ?_
                        refine va_forget (fun q hq => by have h9 := hS.2.2 q hq; rw [← hAe] at h9; exact h9) ?_
                        refine W.widen (k := 600000) (n := 7302250) (by decide) (by decide) ?_
                        exact lw_ret hx hb hr hlocks dL_law_1087
                      ·
                        have e_a3 : a3 = 2 := ib_eq (X := 2) (by omega) (by decide +kernel)
                        subst e_a3
                        refine lv_aload_n hx hb dL_law_928 rfl (lv_at hl 2 rfl) ?_
                        refine lv_aload_n hx hb dL_law_929 rfl (lv_at hl 3 rfl) ?_
                        refine lv_iload_n hx hb dL_law_930 rfl (lv_at hl 0 rfl) ?_
                        refine lv_iconst (v := 1) hx hb dL_law_931 (by decide) ?_
                        refine lv_iadd hx hb dL_law_932 (tk_i (v := 1) (by decide +kernel) ?_)
                        refine va_sld hx hb hX hbl hbA hS (vin (by decide +kernel)) dL_law_933 (tk_i (v := a1) ha1 ?_)
                        refine lv_aload_n hx hb dL_law_934 rfl (lv_at hl 3 rfl) ?_
                        refine lv_iload_n hx hb dL_law_935 rfl (lv_at hl 0 rfl) ?_
                        refine lv_iconst (v := 2) hx hb dL_law_936 (by decide) ?_
                        refine lv_iadd hx hb dL_law_937 (tk_i (v := 2) (by decide +kernel) ?_)
                        refine va_sld hx hb hX hbl hbA hS (vin (by decide +kernel)) dL_law_938 (tk_i (v := a2) ha2 ?_)
                        refine lv_aload_n hx hb dL_law_939 rfl (lv_at hl 3 rfl) ?_
                        refine lv_iload_n hx hb dL_law_940 rfl (lv_at hl 0 rfl) ?_
                        refine lv_iconst (v := 3) hx hb dL_law_941 (by decide) ?_
                        refine lv_iadd hx hb dL_law_942 (tk_i (v := 3) (by decide +kernel) ?_)
                        refine va_sld hx hb hX hbl hbA hS (vin (by decide +kernel)) dL_law_943 (tk_i (v := 2) ha3 ?_)
                        refine kcall_i (D := (dC, dI)) (S := Unit) (v := (-3)) (wc := [(q1, .inr (11, [.ref q2, .ref q4, .ref q6, .ref q18, .ref q23, .ref q28, .ref q33, .ref q36, .ref q37, .ref q40, .ref q44, .ref q48, .int 0])), (q4, .inr (10, [.ref q5, .int 0, .int 0])), (q48, .inl (cI, 5, .inl (fun _ => 0)))]) (wr := [(q49, .inr (12, [.int 0, .ref q50, .int 0, .ref q51, .int 0, .ref q52, .ref q53, .int 0, .ref q54, .int 0, .ref q55, .int (-9), .int 0, .int 0, .ref q56, .ref q57, .ref q58, .ref q59, .ref q60, .int 0, .ref q61, .ref q62, .ref q63, .int 0, .ref q64, .ref q65, .ref q66, .int 0, .ref q67])), (q50, .inl (cI, 5, .inl (fun _ => 0)))]) (w1 := fun _ => []) (fun hPc hDc => va_runV (As := [.int a1, .int a2, .int 2]) (rest := []) ⟨hx, hb, hml, hown, hts⟩ (kX11_copy_15 l dC dI cI c2 q1 q4 q48 q2 q6 q18 q23 q28 q33 q36 q37 q40 q44 q5 H.size a1 a2 (by omega) (by omega) (by omega) (by omega)) (cwV 3 hts gL_law_X11_copy rfl rfl rfl (by decide +kernel) ⟨Nat.le_of_ble_eq_true rfl, Nat.le_of_ble_eq_true rfl⟩) (pre_V hPc hK hDc hN (ci := 11) (q0 := 0) rfl rfl) rfl rfl hl.1 rfl (lv_room (Nat.le_of_ble_eq_true rfl)) dL_law_944 ⟨Nat.le_of_ble_eq_true rfl, Nat.le_of_ble_eq_true rfl⟩) hP hD hS hA [0, 3, 27] [28, 29] rfl rfl (by decide) (by decide) (by decide) (fun u H locs hP hD hS => ?_)
                        have hP : va_P (dC, dI) vwCl [(q49, .inr (12, [.int 0, .ref q50, .int 0, .ref q51, .int 0, .ref q52, .ref q53, .int 0, .ref q54, .int 0, .ref q55, .int (-9), .int 0, .int 0, .ref q56, .ref q57, .ref q58, .ref q59, .ref q60, .int 0, .ref q61, .ref q62, .ref q63, .int 0, .ref q64, .ref q65, .ref q66, .int 0, .ref q67])), (q50, .inl (cI, 5, .inl (fun _ => 0)))] H := hP
                        have hD : va_D A [(q49, .inr (12, [.int 0, .ref q50, .int 0, .ref q51, .int 0, .ref q52, .ref q53, .int 0, .ref q54, .int 0, .ref q55, .int (-9), .int 0, .int 0, .ref q56, .ref q57, .ref q58, .ref q59, .ref q60, .int 0, .ref q61, .ref q62, .ref q63, .int 0, .ref q64, .ref q65, .ref q66, .int 0, .ref q67])), (q50, .inl (cI, 5, .inl (fun _ => 0)))] := hD
                        refine lv_aload_n hx hb dL_law_947 rfl (lv_at hl 1 rfl) ?_
                        refine lv_aload_n hx hb dL_law_948 rfl (lv_at hl 3 rfl) ?_
                        refine lv_iload_n hx hb dL_law_949 rfl (lv_at hl 0 rfl) ?_
                        refine lv_iconst (v := 1) hx hb dL_law_950 (by decide) ?_
                        refine lv_iadd hx hb dL_law_951 (tk_i (v := 1) (by decide +kernel) ?_)
                        refine va_sld hx hb hX hbl hbA hS (vin (by decide +kernel)) dL_law_952 (tk_i (v := a1) ha1 ?_)
                        refine lv_aload_n hx hb dL_law_953 rfl (lv_at hl 3 rfl) ?_
                        refine lv_iload_n hx hb dL_law_954 rfl (lv_at hl 0 rfl) ?_
                        refine lv_iconst (v := 2) hx hb dL_law_955 (by decide) ?_
                        refine lv_iadd hx hb dL_law_956 (tk_i (v := 2) (by decide +kernel) ?_)
                        refine va_sld hx hb hX hbl hbA hS (vin (by decide +kernel)) dL_law_957 (tk_i (v := a2) ha2 ?_)
                        refine lv_aload_n hx hb dL_law_958 rfl (lv_at hl 3 rfl) ?_
                        refine lv_iload_n hx hb dL_law_959 rfl (lv_at hl 0 rfl) ?_
                        refine lv_iconst (v := 3) hx hb dL_law_960 (by decide) ?_
                        refine lv_iadd hx hb dL_law_961 (tk_i (v := 3) (by decide +kernel) ?_)
                        refine va_sld hx hb hX hbl hbA hS (vin (by decide +kernel)) dL_law_962 (tk_i (v := 2) ha3 ?_)
                        refine kcall_i (D := (dC, dI)) (S := Unit) (v := (-3)) (wc := [(q49, .inr (12, [.int 0, .ref q50, .int 0, .ref q51, .int 0, .ref q52, .ref q53, .int 0, .ref q54, .int 0, .ref q55, .int (-9), .int 0, .int 0, .ref q56, .ref q57, .ref q58, .ref q59, .ref q60, .int 0, .ref q61, .ref q62, .ref q63, .int 0, .ref q64, .ref q65, .ref q66, .int 0, .ref q67])), (q50, .inl (cI, 5, .inl (fun _ => 0)))]) (wr := []) (w1 := fun _ => []) (fun hPc hDc => va_runV (As := [.int a1, .int a2, .int 2]) (rest := [.int (-3)]) ⟨hx, hb, hml, hown, hts⟩ (kX12_copy_15 l dC dI cI c2 q49 q50 q51 q52 q53 q54 q55 q56 q57 q58 q59 q60 q61 q62 q63 q64 q65 q66 q67 H.size a1 a2 (by omega) (by omega) (by omega) (by omega)) (cwV 3 hts gL_law_X12_copy rfl rfl rfl (by decide +kernel) ⟨Nat.le_of_ble_eq_true rfl, Nat.le_of_ble_eq_true rfl⟩) (pre_V hPc hK hDc hN (ci := 12) (q0 := 0) rfl rfl) rfl rfl hl.1 rfl (lv_room (Nat.le_of_ble_eq_true rfl)) dL_law_963 ⟨Nat.le_of_ble_eq_true rfl, Nat.le_of_ble_eq_true rfl⟩) hP hD hS hA [0, 1] [] rfl rfl (by decide) (by decide) (by decide) (fun u H locs hP hD hS => ?_)
                        have hP : va_P (dC, dI) vwCl [] H := hP
                        have hD : va_D A [] := hD
                        refine lv_icmp_eq (tgt := 1080) hx hb dL_law_966 (by decide) (fun _ => ?_) (fun h9 => absurd (by decide +kernel) h9)
                        refine lv_iinc (v := 4) (lv' := [(3, .int 4), (2, .ref q49), (1, .ref q1), (0, .ref b)]) hx hb dL_law_1080 hl (k := 0) rfl (by decide +kernel) (by decide) rfl (fun ls hl => ?_)
                        refine lv_goto (tgt := 18) hx hb dL_law_1083 (by decide) ?_
                        refine lv_iload_n hx hb dL_law_18 rfl (lv_at hl 0 rfl) ?_
                        refine lv_aload_n hx hb dL_law_19 rfl (lv_at hl 3 rfl) ?_
                        refine va_slen hx hb hX hbl hbA hS dL_law_20 (tk_i (v := 4) (by decide +kernel) ?_)
                        refine lv_iconst (v := 4) hx hb dL_law_21 (by decide) ?_
                        refine lv_isub hx hb dL_law_22 (tk_i (v := 0) (by decide +kernel) ?_)
                        refine lv_icmp_gt (tgt := 1086) hx hb dL_law_23 (by decide) (fun _ => ?_) (fun h9 => absurd (by decide +kernel) h9)
                        refine lv_iconst (v := 1) hx hb dL_law_1086 (by decide) ?_
                        refine va_forget (fun q hq => by have h9 := hS.2.2 q hq; rw [← hAe] at h9; exact h9) ?_
                        refine W.widen (k := 600000) (n := 7302250) (by decide) (by decide) ?_
                        exact lw_ret hx hb hr hlocks dL_law_1087
                    ·
                      have e_a3 : a3 = 2 := ib_eq (X := 2) (by omega) (by decide +kernel)
                      subst e_a3
                      refine lv_aload_n hx hb dL_law_928 rfl (lv_at hl 2 rfl) ?_
                      refine lv_aload_n hx hb dL_law_929 rfl (lv_at hl 3 rfl) ?_
                      refine lv_iload_n hx hb dL_law_930 rfl (lv_at hl 0 rfl) ?_
                      refine lv_iconst (v := 1) hx hb dL_law_931 (by decide) ?_
                      refine lv_iadd hx hb dL_law_932 (tk_i (v := 1) (by decide +kernel) ?_)
                      refine va_sld hx hb hX hbl hbA hS (vin (by decide +kernel)) dL_law_933 (tk_i (v := a1) ha1 ?_)
                      refine lv_aload_n hx hb dL_law_934 rfl (lv_at hl 3 rfl) ?_
                      refine lv_iload_n hx hb dL_law_935 rfl (lv_at hl 0 rfl) ?_
                      refine lv_iconst (v := 2) hx hb dL_law_936 (by decide) ?_
                      refine lv_iadd hx hb dL_law_937 (tk_i (v := 2) (by decide +kernel) ?_)
                      refine va_sld hx hb hX hbl hbA hS (vin (by decide +kernel)) dL_law_938 (tk_i (v := a2) ha2 ?_)
                      refine lv_aload_n hx hb dL_law_939 rfl (lv_at hl 3 rfl) ?_
                      refine lv_iload_n hx hb dL_law_940 rfl (lv_at hl 0 rfl) ?_
                      refine lv_iconst (v := 3) hx hb dL_law_941 (by decide) ?_
                      refine lv_iadd hx hb dL_law_942 (tk_i (v := 3) (by decide +kernel) ?_)
                      refine va_sld hx hb hX hbl hbA hS (vin (by decide +kernel)) dL_law_943 (tk_i (v := 2) ha3 ?_)
                      refine kcall_i (D := (dC, dI)) (S := Unit) (v := (-3)) (wc := [(q1, .inr (11, [.ref q2, .ref q4, .ref q6, .ref q18, .ref q23, .ref q28, .ref q33, .ref q36, .ref q37, .ref q40, .ref q44, .ref q48, .int 0])), (q4, .inr (10, [.ref q5, .int 0, .int 0])), (q48, .inl (cI, 5, .inl (fun _ => 0)))]) (wr := [(q49, .inr (12, [.int 0, .ref q50, .int 0, .ref q51, .int 0, .ref q52, .ref q53, .int 0, .ref q54, .int 0, .ref q55, .int (-9), .int 0, .int 0, .ref q56, .ref q57, .ref q58, .ref q59, .ref q60, .int 0, .ref q61, .ref q62, .ref q63, .int 0, .ref q64, .ref q65, .ref q66, .int 0, .ref q67])), (q50, .inl (cI, 5, .inl (fun _ => 0)))]) (w1 := fun _ => []) (fun hPc hDc => va_runV (As := [.int a1, .int a2, .int 2]) (rest := []) ⟨hx, hb, hml, hown, hts⟩ (kX11_copy_16 l dC dI cI c2 q1 q4 q48 q2 q6 q18 q23 q28 q33 q36 q37 q40 q44 q5 H.size a1 a2 (by omega) (by omega) (by omega) (by omega)) (cwV 3 hts gL_law_X11_copy rfl rfl rfl (by decide +kernel) ⟨Nat.le_of_ble_eq_true rfl, Nat.le_of_ble_eq_true rfl⟩) (pre_V hPc hK hDc hN (ci := 11) (q0 := 0) rfl rfl) rfl rfl hl.1 rfl (lv_room (Nat.le_of_ble_eq_true rfl)) dL_law_944 ⟨Nat.le_of_ble_eq_true rfl, Nat.le_of_ble_eq_true rfl⟩) hP hD hS hA [0, 3, 27] [28, 29] rfl rfl (by decide) (by decide) (by decide) (fun u H locs hP hD hS => ?_)
                      have hP : va_P (dC, dI) vwCl [(q49, .inr (12, [.int 0, .ref q50, .int 0, .ref q51, .int 0, .ref q52, .ref q53, .int 0, .ref q54, .int 0, .ref q55, .int (-9), .int 0, .int 0, .ref q56, .ref q57, .ref q58, .ref q59, .ref q60, .int 0, .ref q61, .ref q62, .ref q63, .int 0, .ref q64, .ref q65, .ref q66, .int 0, .ref q67])), (q50, .inl (cI, 5, .inl (fun _ => 0)))] H := hP
                      have hD : va_D A [(q49, .inr (12, [.int 0, .ref q50, .int 0, .ref q51, .int 0, .ref q52, .ref q53, .int 0, .ref q54, .int 0, .ref q55, .int (-9), .int 0, .int 0, .ref q56, .ref q57, .ref q58, .ref q59, .ref q60, .int 0, .ref q61, .ref q62, .ref q63, .int 0, .ref q64, .ref q65, .ref q66, .int 0, .ref q67])), (q50, .inl (cI, 5, .inl (fun _ => 0)))] := hD
                      refine lv_aload_n hx hb dL_law_947 rfl (lv_at hl 1 rfl) ?_
                      refine lv_aload_n hx hb dL_law_948 rfl (lv_at hl 3 rfl) ?_
                      refine lv_iload_n hx hb dL_law_949 rfl (lv_at hl 0 rfl) ?_
                      refine lv_iconst (v := 1) hx hb dL_law_950 (by decide) ?_
                      refine lv_iadd hx hb dL_law_951 (tk_i (v := 1) (by decide +kernel) ?_)
                      refine va_sld hx hb hX hbl hbA hS (vin (by decide +kernel)) dL_law_952 (tk_i (v := a1) ha1 ?_)
                      refine lv_aload_n hx hb dL_law_953 rfl (lv_at hl 3 rfl) ?_
                      refine lv_iload_n hx hb dL_law_954 rfl (lv_at hl 0 rfl) ?_
                      refine lv_iconst (v := 2) hx hb dL_law_955 (by decide) ?_
                      refine lv_iadd hx hb dL_law_956 (tk_i (v := 2) (by decide +kernel) ?_)
                      refine va_sld hx hb hX hbl hbA hS (vin (by decide +kernel)) dL_law_957 (tk_i (v := a2) ha2 ?_)
                      refine lv_aload_n hx hb dL_law_958 rfl (lv_at hl 3 rfl) ?_
                      refine lv_iload_n hx hb dL_law_959 rfl (lv_at hl 0 rfl) ?_
                      refine lv_iconst (v := 3) hx hb dL_law_960 (by decide) ?_
                      refine lv_iadd hx hb dL_law_961 (tk_i (v := 3) (by decide +kernel) ?_)
                      refine va_sld hx hb hX hbl hbA hS (vin (by decide +kernel)) dL_law_962 (tk_i (v := 2) ha3 ?_)
                      refine kcall_i (D := (dC, dI)) (S := Unit) (v := (-3)) (wc := [(q49, .inr (12, [.int 0, .ref q50, .int 0, .ref q51, .int 0, .ref q52, .ref q53, .int 0, .ref q54, .int 0, .ref q55, .int (-9), .int 0, .int 0, .ref q56, .ref q57, .ref q58, .ref q59, .ref q60, .int 0, .ref q61, .ref q62, .ref q63, .int 0, .ref q64, .ref q65, .ref q66, .int 0, .ref q67])), (q50, .inl (cI, 5, .inl (fun _ => 0)))]) (wr := []) (w1 := fun _ => []) (fun hPc hDc => va_runV (As := [.int a1, .int a2, .int 2]) (rest := [.int (-3)]) ⟨hx, hb, hml, hown, hts⟩ (kX12_copy_16 l dC dI cI c2 q49 q50 q51 q52 q53 q54 q55 q56 q57 q58 q59 q60 q61 q62 q63 q64 q65 q66 q67 H.size a1 a2 (by omega) (by omega) (by omega) (by omega)) (cwV 3 hts gL_law_X12_copy rfl rfl rfl (by decide +kernel) ⟨Nat.le_of_ble_eq_true rfl, Nat.le_of_ble_eq_true rfl⟩) (pre_V hPc hK hDc hN (ci := 12) (q0 := 0) rfl rfl) rfl rfl hl.1 rfl (lv_room (Nat.le_of_ble_eq_true rfl)) dL_law_963 ⟨Nat.le_of_ble_eq_true rfl, Nat.le_of_ble_eq_true rfl⟩) hP hD hS hA [0, 1] [] rfl rfl (by decide) (by decide) (by decide) (fun u H locs hP hD hS => ?_)
                      have hP : va_P (dC, dI) vwCl [] H := hP
                      have hD : va_D A [] := hD
                      refine lv_icmp_eq (tgt := 1080) hx hb dL_law_966 (by decide) (fun _ => ?_) (fun h9 => absurd (by decide +kernel) h9)
                      refine lv_iinc (v := 4) (lv' := [(3, .int 4), (2, .ref q49), (1, .ref q1), (0, .ref b)]) hx hb dL_law_1080 hl (k := 0) rfl (by decide +kernel) (by decide) rfl (fun ls hl => ?_)
                      refine lv_goto (tgt := 18) hx hb dL_law_1083 (by decide) ?_
                      refine lv_iload_n hx hb dL_law_18 rfl (lv_at hl 0 rfl) ?_
                      refine lv_aload_n hx hb dL_law_19 rfl (lv_at hl 3 rfl) ?_
                      refine va_slen hx hb hX hbl hbA hS dL_law_20 (tk_i (v := 4) (by decide +kernel) ?_)
                      refine lv_iconst (v := 4) hx hb dL_law_21 (by decide) ?_
                      refine lv_isub hx hb dL_law_22 (tk_i (v := 0) (by decide +kernel) ?_)
                      refine lv_icmp_gt (tgt := 1086) hx hb dL_law_23 (by decide) (fun _ => ?_) (fun h9 => absurd (by decide +kernel) h9)
                      refine lv_iconst (v := 1) hx hb dL_law_1086 (by decide) ?_
                      refine va_forget (fun q hq => by have h9 := hS.2.2 q hq; rw [← hAe] at h9; exact h9) ?_
                      refine W.widen (k := 600000) (n := 7302250) (by decide) (by decide) ?_
                      exact lw_ret hx hb hr hlocks dL_law_1087
                ·
                  rcases (show a2.toInt ≤ (-1) ∨ 0 ≤ a2.toInt by omega) with g_a2_0 | g_a2_0
                  ·
                    have e_a3 : a3 = 2 := ib_eq (X := 2) (by omega) (by decide +kernel)
                    subst e_a3
                    refine lv_aload_n hx hb dL_law_928 rfl (lv_at hl 2 rfl) ?_
                    refine lv_aload_n hx hb dL_law_929 rfl (lv_at hl 3 rfl) ?_
                    refine lv_iload_n hx hb dL_law_930 rfl (lv_at hl 0 rfl) ?_
                    refine lv_iconst (v := 1) hx hb dL_law_931 (by decide) ?_
                    refine lv_iadd hx hb dL_law_932 (tk_i (v := 1) (by decide +kernel) ?_)
                    refine va_sld hx hb hX hbl hbA hS (vin (by decide +kernel)) dL_law_933 (tk_i (v := a1) ha1 ?_)
                    refine lv_aload_n hx hb dL_law_934 rfl (lv_at hl 3 rfl) ?_
                    refine lv_iload_n hx hb dL_law_935 rfl (lv_at hl 0 rfl) ?_
                    refine lv_iconst (v := 2) hx hb dL_law_936 (by decide) ?_
                    refine lv_iadd hx hb dL_law_937 (tk_i (v := 2) (by decide +kernel) ?_)
                    refine va_sld hx hb hX hbl hbA hS (vin (by decide +kernel)) dL_law_938 (tk_i (v := a2) ha2 ?_)
                    refine lv_aload_n hx hb dL_law_939 rfl (lv_at hl 3 rfl) ?_
                    refine lv_iload_n hx hb dL_law_940 rfl (lv_at hl 0 rfl) ?_
                    refine lv_iconst (v := 3) hx hb dL_law_941 (by decide) ?_
                    refine lv_iadd hx hb dL_law_942 (tk_i (v := 3) (by decide +kernel) ?_)
                    refine va_sld hx hb hX hbl hbA hS (vin (by decide +kernel)) dL_law_943 (tk_i (v := 2) ha3 ?_)
                    refine kcall_i (D := (dC, dI)) (S := Unit) (v := (-3)) (wc := [(q1, .inr (11, [.ref q2, .ref q4, .ref q6, .ref q18, .ref q23, .ref q28, .ref q33, .ref q36, .ref q37, .ref q40, .ref q44, .ref q48, .int 0])), (q4, .inr (10, [.ref q5, .int 0, .int 0])), (q48, .inl (cI, 5, .inl (fun _ => 0)))]) (wr := [(q49, .inr (12, [.int 0, .ref q50, .int 0, .ref q51, .int 0, .ref q52, .ref q53, .int 0, .ref q54, .int 0, .ref q55, .int (-9), .int 0, .int 0, .ref q56, .ref q57, .ref q58, .ref q59, .ref q60, .int 0, .ref q61, .ref q62, .ref q63, .int 0, .ref q64, .ref q65, .ref q66, .int 0, .ref q67])), (q50, .inl (cI, 5, .inl (fun _ => 0)))]) (w1 := fun _ => []) (fun hPc hDc => va_runV (As := [.int a1, .int a2, .int 2]) (rest := []) ⟨hx, hb, hml, hown, hts⟩ (kX11_copy_17 l dC dI cI c2 q1 q4 q48 q2 q6 q18 q23 q28 q33 q36 q37 q40 q44 q5 H.size a1 a2 (by omega) (by omega) (by omega) (by omega)) (cwV 3 hts gL_law_X11_copy rfl rfl rfl (by decide +kernel) ⟨Nat.le_of_ble_eq_true rfl, Nat.le_of_ble_eq_true rfl⟩) (pre_V hPc hK hDc hN (ci := 11) (q0 := 0) rfl rfl) rfl rfl hl.1 rfl (lv_room (Nat.le_of_ble_eq_true rfl)) dL_law_944 ⟨Nat.le_of_ble_eq_true rfl, Nat.le_of_ble_eq_true rfl⟩) hP hD hS hA [0, 3, 27] [28, 29] rfl rfl (by decide) (by decide) (by decide) (fun u H locs hP hD hS => ?_)
                    have hP : va_P (dC, dI) vwCl [(q49, .inr (12, [.int 0, .ref q50, .int 0, .ref q51, .int 0, .ref q52, .ref q53, .int 0, .ref q54, .int 0, .ref q55, .int (-9), .int 0, .int 0, .ref q56, .ref q57, .ref q58, .ref q59, .ref q60, .int 0, .ref q61, .ref q62, .ref q63, .int 0, .ref q64, .ref q65, .ref q66, .int 0, .ref q67])), (q50, .inl (cI, 5, .inl (fun _ => 0)))] H := hP
                    have hD : va_D A [(q49, .inr (12, [.int 0, .ref q50, .int 0, .ref q51, .int 0, .ref q52, .ref q53, .int 0, .ref q54, .int 0, .ref q55, .int (-9), .int 0, .int 0, .ref q56, .ref q57, .ref q58, .ref q59, .ref q60, .int 0, .ref q61, .ref q62, .ref q63, .int 0, .ref q64, .ref q65, .ref q66, .int 0, .ref q67])), (q50, .inl (cI, 5, .inl (fun _ => 0)))] := hD
                    refine lv_aload_n hx hb dL_law_947 rfl (lv_at hl 1 rfl) ?_
                    refine lv_aload_n hx hb dL_law_948 rfl (lv_at hl 3 rfl) ?_
                    refine lv_iload_n hx hb dL_law_949 rfl (lv_at hl 0 rfl) ?_
                    refine lv_iconst (v := 1) hx hb dL_law_950 (by decide) ?_
                    refine lv_iadd hx hb dL_law_951 (tk_i (v := 1) (by decide +kernel) ?_)
                    refine va_sld hx hb hX hbl hbA hS (vin (by decide +kernel)) dL_law_952 (tk_i (v := a1) ha1 ?_)
                    refine lv_aload_n hx hb dL_law_953 rfl (lv_at hl 3 rfl) ?_
                    refine lv_iload_n hx hb dL_law_954 rfl (lv_at hl 0 rfl) ?_
                    refine lv_iconst (v := 2) hx hb dL_law_955 (by decide) ?_
                    refine lv_iadd hx hb dL_law_956 (tk_i (v := 2) (by decide +kernel) ?_)
                    refine va_sld hx hb hX hbl hbA hS (vin (by decide +kernel)) dL_law_957 (tk_i (v := a2) ha2 ?_)
                    refine lv_aload_n hx hb dL_law_958 rfl (lv_at hl 3 rfl) ?_
                    refine lv_iload_n hx hb dL_law_959 rfl (lv_at hl 0 rfl) ?_
                    refine lv_iconst (v := 3) hx hb dL_law_960 (by decide) ?_
                    refine lv_iadd hx hb dL_law_961 (tk_i (v := 3) (by decide +kernel) ?_)
                    refine va_sld hx hb hX hbl hbA hS (vin (by decide +kernel)) dL_law_962 (tk_i (v := 2) ha3 ?_)
                    refine kcall_i (D := (dC, dI)) (S := Unit) (v := (-3)) (wc := [(q49, .inr (12, [.int 0, .ref q50, .int 0, .ref q51, .int 0, .ref q52, .ref q53, .int 0, .ref q54, .int 0, .ref q55, .int (-9), .int 0, .int 0, .ref q56, .ref q57, .ref q58, .ref q59, .ref q60, .int 0, .ref q61, .ref q62, .ref q63, .int 0, .ref q64, .ref q65, .ref q66, .int 0, .ref q67])), (q50, .inl (cI, 5, .inl (fun _ => 0)))]) (wr := []) (w1 := fun _ => []) (fun hPc hDc => va_runV (As := [.int a1, .int a2, .int 2]) (rest := [.int (-3)]) ⟨hx, hb, hml, hown, hts⟩ (kX12_copy_17 l dC dI cI c2 q49 q50 q51 q52 q53 q54 q55 q56 q57 q58 q59 q60 q61 q62 q63 q64 q65 q66 q67 H.size a1 a2 (by omega) (by omega) (by omega) (by omega)) (cwV 3 hts gL_law_X12_copy rfl rfl rfl (by decide +kernel) ⟨Nat.le_of_ble_eq_true rfl, Nat.le_of_ble_eq_true rfl⟩) (pre_V hPc hK hDc hN (ci := 12) (q0 := 0) rfl rfl) rfl rfl hl.1 rfl (lv_room (Nat.le_of_ble_eq_true rfl)) dL_law_963 ⟨Nat.le_of_ble_eq_true rfl, Nat.le_of_ble_eq_true rfl⟩) hP hD hS hA [0, 1] [] rfl rfl (by decide) (by decide) (by decide) (fun u H locs hP hD hS => ?_)
                    have hP : va_P (dC, dI) vwCl [] H := hP
                    have hD : va_D A [] := hD
                    refine lv_icmp_eq (tgt := 1080) hx hb dL_law_966 (by decide) (fun _ => ?_) (fun h9 => absurd (by decide +kernel) h9)
                    refine lv_iinc (v := 4) (lv' := [(3, .int 4), (2, .ref q49), (1, .ref q1), (0, .ref b)]) hx hb dL_law_1080 hl (k := 0) rfl (by decide +kernel) (by decide) rfl (fun ls hl => ?_)
                    refine lv_goto (tgt := 18) hx hb dL_law_1083 (by decide) ?_
                    refine lv_iload_n hx hb dL_law_18 rfl (lv_at hl 0 rfl) ?_
                    refine lv_aload_n hx hb dL_law_19 rfl (lv_at hl 3 rfl) ?_
                    refine va_slen hx hb hX hbl hbA hS dL_law_20 (tk_i (v := 4) (by decide +kernel) ?_)
                    refine lv_iconst (v := 4) hx hb dL_law_21 (by decide) ?_
                    refine lv_isub hx hb dL_law_22 (tk_i (v := 0) (by decide +kernel) ?_)
                    refine lv_icmp_gt (tgt := 1086) hx hb dL_law_23 (by decide) (fun _ => ?_) (fun h9 => absurd (by decide +kernel) h9)
                    refine lv_iconst (v := 1) hx hb dL_law_1086 (by decide) ?_
                    refine va_forget (fun q hq => by have h9 := hS.2.2 q hq; rw [← hAe] at h9; exact h9) ?_
                    refine W.widen (k := 600000) (n := 7302250) (by decide) (by decide) ?_
                    exact lw_ret hx hb hr hlocks dL_law_1087
                  ·
                    have e_a3 : a3 = 2 := ib_eq (X := 2) (by omega) (by decide +kernel)
                    subst e_a3
                    refine lv_aload_n hx hb dL_law_928 rfl (lv_at hl 2 rfl) ?_
                    refine lv_aload_n hx hb dL_law_929 rfl (lv_at hl 3 rfl) ?_
                    refine lv_iload_n hx hb dL_law_930 rfl (lv_at hl 0 rfl) ?_
                    refine lv_iconst (v := 1) hx hb dL_law_931 (by decide) ?_
                    refine lv_iadd hx hb dL_law_932 (tk_i (v := 1) (by decide +kernel) ?_)
                    refine va_sld hx hb hX hbl hbA hS (vin (by decide +kernel)) dL_law_933 (tk_i (v := a1) ha1 ?_)
                    refine lv_aload_n hx hb dL_law_934 rfl (lv_at hl 3 rfl) ?_
                    refine lv_iload_n hx hb dL_law_935 rfl (lv_at hl 0 rfl) ?_
                    refine lv_iconst (v := 2) hx hb dL_law_936 (by decide) ?_
                    refine lv_iadd hx hb dL_law_937 (tk_i (v := 2) (by decide +kernel) ?_)
                    refine va_sld hx hb hX hbl hbA hS (vin (by decide +kernel)) dL_law_938 (tk_i (v := a2) ha2 ?_)
                    refine lv_aload_n hx hb dL_law_939 rfl (lv_at hl 3 rfl) ?_
                    refine lv_iload_n hx hb dL_law_940 rfl (lv_at hl 0 rfl) ?_
                    refine lv_iconst (v := 3) hx hb dL_law_941 (by decide) ?_
                    refine lv_iadd hx hb dL_law_942 (tk_i (v := 3) (by decide +kernel) ?_)
                    refine va_sld hx hb hX hbl hbA hS (vin (by decide +kernel)) dL_law_943 (tk_i (v := 2) ha3 ?_)
                    refine kcall_i (D := (dC, dI)) (S := Unit) (v := (-3)) (wc := [(q1, .inr (11, [.ref q2, .ref q4, .ref q6, .ref q18, .ref q23, .ref q28, .ref q33, .ref q36, .ref q37, .ref q40, .ref q44, .ref q48, .int 0])), (q4, .inr (10, [.ref q5, .int 0, .int 0])), (q48, .inl (cI, 5, .inl (fun _ => 0)))]) (wr := [(q49, .inr (12, [.int 0, .ref q50, .int 0, .ref q51, .int 0, .ref q52, .ref q53, .int 0, .ref q54, .int 0, .ref q55, .int (-9), .int 0, .int 0, .ref q56, .ref q57, .ref q58, .ref q59, .ref q60, .int 0, .ref q61, .ref q62, .ref q63, .int 0, .ref q64, .ref q65, .ref q66, .int 0, .ref q67])), (q50, .inl (cI, 5, .inl (fun _ => 0)))]) (w1 := fun _ => []) (fun hPc hDc => va_runV (As := [.int a1, .int a2, .int 2]) (rest := []) ⟨hx, hb, hml, hown, hts⟩ (kX11_copy_18 l dC dI cI c2 q1 q4 q48 q2 q6 q18 q23 q28 q33 q36 q37 q40 q44 q5 H.size a1 a2 (by omega) (by omega) (by omega) (by omega)) (cwV 3 hts gL_law_X11_copy rfl rfl rfl (by decide +kernel) ⟨Nat.le_of_ble_eq_true rfl, Nat.le_of_ble_eq_true rfl⟩) (pre_V hPc hK hDc hN (ci := 11) (q0 := 0) rfl rfl) rfl rfl hl.1 rfl (lv_room (Nat.le_of_ble_eq_true rfl)) dL_law_944 ⟨Nat.le_of_ble_eq_true rfl, Nat.le_of_ble_eq_true rfl⟩) hP hD hS hA [0, 3, 27] [28, 29] rfl rfl (by decide) (by decide) (by decide) (fun u H locs hP hD hS => ?_)
                    have hP : va_P (dC, dI) vwCl [(q49, .inr (12, [.int 0, .ref q50, .int 0, .ref q51, .int 0, .ref q52, .ref q53, .int 0, .ref q54, .int 0, .ref q55, .int (-9), .int 0, .int 0, .ref q56, .ref q57, .ref q58, .ref q59, .ref q60, .int 0, .ref q61, .ref q62, .ref q63, .int 0, .ref q64, .ref q65, .ref q66, .int 0, .ref q67])), (q50, .inl (cI, 5, .inl (fun _ => 0)))] H := hP
                    have hD : va_D A [(q49, .inr (12, [.int 0, .ref q50, .int 0, .ref q51, .int 0, .ref q52, .ref q53, .int 0, .ref q54, .int 0, .ref q55, .int (-9), .int 0, .int 0, .ref q56, .ref q57, .ref q58, .ref q59, .ref q60, .int 0, .ref q61, .ref q62, .ref q63, .int 0, .ref q64, .ref q65, .ref q66, .int 0, .ref q67])), (q50, .inl (cI, 5, .inl (fun _ => 0)))] := hD
                    refine lv_aload_n hx hb dL_law_947 rfl (lv_at hl 1 rfl) ?_
                    refine lv_aload_n hx hb dL_law_948 rfl (lv_at hl 3 rfl) ?_
                    refine lv_iload_n hx hb dL_law_949 rfl (lv_at hl 0 rfl) ?_
                    refine lv_iconst (v := 1) hx hb dL_law_950 (by decide) ?_
                    refine lv_iadd hx hb dL_law_951 (tk_i (v := 1) (by decide +kernel) ?_)
                    refine va_sld hx hb hX hbl hbA hS (vin (by decide +kernel)) dL_law_952 (tk_i (v := a1) ha1 ?_)
                    refine lv_aload_n hx hb dL_law_953 rfl (lv_at hl 3 rfl) ?_
                    refine lv_iload_n hx hb dL_law_954 rfl (lv_at hl 0 rfl) ?_
                    refine lv_iconst (v := 2) hx hb dL_law_955 (by decide) ?_
                    refine lv_iadd hx hb dL_law_956 (tk_i (v := 2) (by decide +kernel) ?_)
                    refine va_sld hx hb hX hbl hbA hS (vin (by decide +kernel)) dL_law_957 (tk_i (v := a2) ha2 ?_)
                    refine lv_aload_n hx hb dL_law_958 rfl (lv_at hl 3 rfl) ?_
                    refine lv_iload_n hx hb dL_law_959 rfl (lv_at hl 0 rfl) ?_
                    refine lv_iconst (v := 3) hx hb dL_law_960 (by decide) ?_
                    refine lv_iadd hx hb dL_law_961 (tk_i (v := 3) (by decide +kernel) ?_)
                    refine va_sld hx hb hX hbl hbA hS (vin (by decide +kernel)) dL_law_962 (tk_i (v := 2) ha3 ?_)
                    refine kcall_i (D := (dC, dI)) (S := Unit) (v := (-3)) (wc := [(q49, .inr (12, [.int 0, .ref q50, .int 0, .ref q51, .int 0, .ref q52, .ref q53, .int 0, .ref q54, .int 0, .ref q55, .int (-9), .int 0, .int 0, .ref q56, .ref q57, .ref q58, .ref q59, .ref q60, .int 0, .ref q61, .ref q62, .ref q63, .int 0, .ref q64, .ref q65, .ref q66, .int 0, .ref q67])), (q50, .inl (cI, 5, .inl (fun _ => 0)))]) (wr := []) (w1 := fun _ => []) (fun hPc hDc => va_runV (As := [.int a1, .int a2, .int 2]) (rest := [.int (-3)]) ⟨hx, hb, hml, hown, hts⟩ (kX12_copy_18 l dC dI cI c2 q49 q50 q51 q52 q53 q54 q55 q56 q57 q58 q59 q60 q61 q62 q63 q64 q65 q66 q67 H.size a1 a2 (by omega) (by omega) (by omega) (by omega)) (cwV 3 hts gL_law_X12_copy rfl rfl rfl (by decide +kernel) ⟨Nat.le_of_ble_eq_true rfl, Nat.le_of_ble_eq_true rfl⟩) (pre_V hPc hK hDc hN (ci := 12) (q0 := 0) rfl rfl) rfl rfl hl.1 rfl (lv_room (Nat.le_of_ble_eq_true rfl)) dL_law_963 ⟨Nat.le_of_ble_eq_true rfl, Nat.le_of_ble_eq_true rfl⟩) hP hD hS hA [0, 1] [] rfl rfl (by decide) (by decide) (by decide) (fun u H locs hP hD hS => ?_)
                    have hP : va_P (dC, dI) vwCl [] H := hP
                    have hD : va_D A [] := hD
                    refine lv_icmp_eq (tgt := 1080) hx hb dL_law_966 (by decide) (fun _ => ?_) (fun h9 => absurd (by decide +kernel) h9)
                    refine lv_iinc (v := 4) (lv' := [(3, .int 4), (2, .ref q49), (1, .ref q1), (0, .ref b)]) hx hb dL_law_1080 hl (k := 0) rfl (by decide +kernel) (by decide) rfl (fun ls hl => ?_)
                    refine lv_goto (tgt := 18) hx hb dL_law_1083 (by decide) ?_
                    refine lv_iload_n hx hb dL_law_18 rfl (lv_at hl 0 rfl) ?_
                    refine lv_aload_n hx hb dL_law_19 rfl (lv_at hl 3 rfl) ?_
                    refine va_slen hx hb hX hbl hbA hS dL_law_20 (tk_i (v := 4) (by decide +kernel) ?_)
                    refine lv_iconst (v := 4) hx hb dL_law_21 (by decide) ?_
                    refine lv_isub hx hb dL_law_22 (tk_i (v := 0) (by decide +kernel) ?_)
                    refine lv_icmp_gt (tgt := 1086) hx hb dL_law_23 (by decide) (fun _ => ?_) (fun h9 => absurd (by decide +kernel) h9)
                    refine lv_iconst (v := 1) hx hb dL_law_1086 (by decide) ?_
                    refine va_forget (fun q hq => by have h9 := hS.2.2 q hq; rw [← hAe] at h9; exact h9) ?_
                    refine W.widen (k := 600000) (n := 7302250) (by decide) (by decide) ?_
                    exact lw_ret hx hb hr hlocks dL_law_1087
              ·
                rcases (show a3.toInt ≤ 3 ∨ 4 ≤ a3.toInt by omega) with g_a3_4 | g_a3_4
                ·
                  rcases (show a1.toInt ≤ 9 ∨ 10 ≤ a1.toInt by omega) with g_a1_10 | g_a1_10
                  ·
                    rcases (show a2.toInt ≤ (-1) ∨ 0 ≤ a2.toInt by omega) with g_a2_0 | g_a2_0
                    ·
                      have e_a3 : a3 = 3 := ib_eq (X := 3) (by omega) (by decide +kernel)
                      subst e_a3
                      refine lv_aload_n hx hb dL_law_928 rfl (lv_at hl 2 rfl) ?_
                      refine lv_aload_n hx hb dL_law_929 rfl (lv_at hl 3 rfl) ?_
                      refine lv_iload_n hx hb dL_law_930 rfl (lv_at hl 0 rfl) ?_
                      refine lv_iconst (v := 1) hx hb dL_law_931 (by decide) ?_
                      refine lv_iadd hx hb dL_law_932 (tk_i (v := 1) (by decide +kernel) ?_)
                      refine va_sld hx hb hX hbl hbA hS (vin (by decide +kernel)) dL_law_933 (tk_i (v := a1) ha1 ?_)
                      refine lv_aload_n hx hb dL_law_934 rfl (lv_at hl 3 rfl) ?_
                      refine lv_iload_n hx hb dL_law_935 rfl (lv_at hl 0 rfl) ?_
                      refine lv_iconst (v := 2) hx hb dL_law_936 (by decide) ?_
                      refine lv_iadd hx hb dL_law_937 (tk_i (v := 2) (by decide +kernel) ?_)
                      refine va_sld hx hb hX hbl hbA hS (vin (by decide +kernel)) dL_law_938 (tk_i (v := a2) ha2 ?_)
                      refine lv_aload_n hx hb dL_law_939 rfl (lv_at hl 3 rfl) ?_
                      refine lv_iload_n hx hb dL_law_940 rfl (lv_at hl 0 rfl) ?_
                      refine lv_iconst (v := 3) hx hb dL_law_941 (by decide) ?_
                      refine lv_iadd hx hb dL_law_942 (tk_i (v := 3) (by decide +kernel) ?_)
                      refine va_sld hx hb hX hbl hbA hS (vin (by decide +kernel)) dL_law_943 (tk_i (v := 3) ha3 ?_)
                      refine kcall_i (D := (dC, dI)) (S := Unit) (v := (-3)) (wc := [(q1, .inr (11, [.ref q2, .ref q4, .ref q6, .ref q18, .ref q23, .ref q28, .ref q33, .ref q36, .ref q37, .ref q40, .ref q44, .ref q48, .int 0])), (q4, .inr (10, [.ref q5, .int 0, .int 0])), (q48, .inl (cI, 5, .inl (fun _ => 0)))]) (wr := [(q49, .inr (12, [.int 0, .ref q50, .int 0, .ref q51, .int 0, .ref q52, .ref q53, .int 0, .ref q54, .int 0, .ref q55, .int (-9), .int 0, .int 0, .ref q56, .ref q57, .ref q58, .ref q59, .ref q60, .int 0, .ref q61, .ref q62, .ref q63, .int 0, .ref q64, .ref q65, .ref q66, .int 0, .ref q67])), (q50, .inl (cI, 5, .inl (fun _ => 0)))]) (w1 := fun _ => []) (fun hPc hDc => va_runV (As := [.int a1, .int a2, .int 3]) (rest := []) ⟨hx, hb, hml, hown, hts⟩ (kX11_copy_19 l dC dI cI c2 q1 q4 q48 q2 q6 q18 q23 q28 q33 q36 q37 q40 q44 q5 H.size a1 a2 (by omega) (by omega) (by omega) (by omega)) (cwV 3 hts gL_law_X11_copy rfl rfl rfl (by decide +kernel) ⟨Nat.le_of_ble_eq_true rfl, Nat.le_of_ble_eq_true rfl⟩) (pre_V hPc hK hDc hN (ci := 11) (q0 := 0) rfl rfl) rfl rfl hl.1 rfl (lv_room (Nat.le_of_ble_eq_true rfl)) dL_law_944 ⟨Nat.le_of_ble_eq_true rfl, Nat.le_of_ble_eq_true rfl⟩) hP hD hS hA [0, 3, 27] [28, 29] rfl rfl (by decide) (by decide) (by decide) (fun u H locs hP hD hS => ?_)
                      have hP : va_P (dC, dI) vwCl [(q49, .inr (12, [.int 0, .ref q50, .int 0, .ref q51, .int 0, .ref q52, .ref q53, .int 0, .ref q54, .int 0, .ref q55, .int (-9), .int 0, .int 0, .ref q56, .ref q57, .ref q58, .ref q59, .ref q60, .int 0, .ref q61, .ref q62, .ref q63, .int 0, .ref q64, .ref q65, .ref q66, .int 0, .ref q67])), (q50, .inl (cI, 5, .inl (fun _ => 0)))] H := hP
                      have hD : va_D A [(q49, .inr (12, [.int 0, .ref q50, .int 0, .ref q51, .int 0, .ref q52, .ref q53, .int 0, .ref q54, .int 0, .ref q55, .int (-9), .int 0, .int 0, .ref q56, .ref q57, .ref q58, .ref q59, .ref q60, .int 0, .ref q61, .ref q62, .ref q63, .int 0, .ref q64, .ref q65, .ref q66, .int 0, .ref q67])), (q50, .inl (cI, 5, .inl (fun _ => 0)))] := hD
                      refine lv_aload_n hx hb dL_law_947 rfl (lv_at hl 1 rfl) ?_
                      refine lv_aload_n hx hb dL_law_948 rfl (lv_at hl 3 rfl) ?_
                      refine lv_iload_n hx hb dL_law_949 rfl (lv_at hl 0 rfl) ?_
                      refine lv_iconst (v := 1) hx hb dL_law_950 (by decide) ?_
                      refine lv_iadd hx hb dL_law_951 (tk_i (v := 1) (by decide +kernel) ?_)
                      refine va_sld hx hb hX hbl hbA hS (vin (by decide +kernel)) dL_law_952 (tk_i (v := a1) ha1 ?_)
                      refine lv_aload_n hx hb dL_law_953 rfl (lv_at hl 3 rfl) ?_
                      refine lv_iload_n hx hb dL_law_954 rfl (lv_at hl 0 rfl) ?_
                      refine lv_iconst (v := 2) hx hb dL_law_955 (by decide) ?_
                      refine lv_iadd hx hb dL_law_956 (tk_i (v := 2) (by decide +kernel) ?_)
                      refine va_sld hx hb hX hbl hbA hS (vin (by decide +kernel)) dL_law_957 (tk_i (v := a2) ha2 ?_)
                      refine lv_aload_n hx hb dL_law_958 rfl (lv_at hl 3 rfl) ?_
                      refine lv_iload_n hx hb dL_law_959 rfl (lv_at hl 0 rfl) ?_
                      refine lv_iconst (v := 3) hx hb dL_law_960 (by decide) ?_
                      refine lv_iadd hx hb dL_law_961 (tk_i (v := 3) (by decide +kernel) ?_)
                      refine va_sld hx hb hX hbl hbA hS (vin (by decide +kernel)) dL_law_962 (tk_i (v := 3) ha3 ?_)
                      refine kcall_i (D := (dC, dI)) (S := Unit) (v := (-3)) (wc := [(q49, .inr (12, [.int 0, .ref q50, .int 0, .ref q51, .int 0, .ref q52, .ref q53, .int 0, .ref q54, .int 0, .ref q55, .int (-9), .int 0, .int 0, .ref q56, .ref q57, .ref q58, .ref q59, .ref q60, .int 0, .ref q61, .ref q62, .ref q63, .int 0, .ref q64, .ref q65, .ref q66, .int 0, .ref q67])), (q50, .inl (cI, 5, .inl (fun _ => 0)))]) (wr := []) (w1 := fun _ => []) (fun hPc hDc => va_runV (As := [.int a1, .int a2, .int 3]) (rest := [.int (-3)]) ⟨hx, hb, hml, hown, hts⟩ (kX12_copy_19 l dC dI cI c2 q49 q50 q51 q52 q53 q54 q55 q56 q57 q58 q59 q60 q61 q62 q63 q64 q65 q66 q67 H.size a1 a2 (by omega) (by omega) (by omega) (by omega)) (cwV 3 hts gL_law_X12_copy rfl rfl rfl (by decide +kernel) ⟨Nat.le_of_ble_eq_true rfl, Nat.le_of_ble_eq_true rfl⟩) (pre_V hPc hK hDc hN (ci := 12) (q0 := 0) rfl rfl) rfl rfl hl.1 rfl (lv_room (Nat.le_of_ble_eq_true rfl)) dL_law_963 ⟨Nat.le_of_ble_eq_true rfl, Nat.le_of_ble_eq_true rfl⟩) hP hD hS hA [0, 1] [] rfl rfl (by decide) (by decide) (by decide) (fun u H locs hP hD hS => ?_)
                      have hP : va_P (dC, dI) vwCl [] H := hP
                      have hD : va_D A [] := hD
                      refine lv_icmp_eq (tgt := 1080) hx hb dL_law_966 (by decide) (fun _ => ?_) (fun h9 => absurd (by decide +kernel) h9)
                      refine lv_iinc (v := 4) (lv' := [(3, .int 4), (2, .ref q49), (1, .ref q1), (0, .ref b)]) hx hb dL_law_1080 hl (k := 0) rfl (by decide +kernel) (by decide) rfl (fun ls hl => ?_)
                      refine lv_goto (tgt := 18) hx hb dL_law_1083 (by decide) ?_
                      refine lv_iload_n hx hb dL_law_18 rfl (lv_at hl 0 rfl) ?_
                      refine lv_aload_n hx hb dL_law_19 rfl (lv_at hl 3 rfl) ?_
                      refine va_slen hx hb hX hbl hbA hS dL_law_20 (tk_i (v := 4) (by decide +kernel) ?_)
                      refine lv_iconst (v := 4) hx hb dL_law_21 (by decide) ?_
                      refine lv_isub hx hb dL_law_22 (tk_i (v := 0) (by decide +kernel) ?_)
                      refine lv_icmp_gt (tgt := 1086) hx hb dL_law_23 (by decide) (fun _ => ?_) (fun h9 => absurd (by decide +kernel) h9)
                      refine lv_iconst (v := 1) hx hb dL_law_1086 (by decide) ?_
                      refine va_forget (fun q hq => by have h9 := hS.2.2 q hq; rw [← hAe] at h9; exact h9) ?_
                      refine W.widen (k := 600000) (n := 7302250) (by decide) (by decide) ?_
                      exact lw_ret hx hb hr hlocks dL_law_1087
                    ·
                      rcases (show a2.toInt ≤ 12 ∨ 13 ≤ a2.toInt by omega) with g_a2_13 | g_a2_13
                      ·
                        rcases (show a2.toInt ≤ 9 ∨ 10 ≤ a2.toInt by omega) with g_a2_10 | g_a2_10
                        ·
                          have e_a3 : a3 = 3 := ib_eq (X := 3) (by omega) (by decide +kernel)
                          subst e_a3
                          refine lv_aload_n hx hb dL_law_928 rfl (lv_at hl 2 rfl) ?_
                          refine lv_aload_n hx hb dL_law_929 rfl (lv_at hl 3 rfl) ?_
                          refine lv_iload_n hx hb dL_law_930 rfl (lv_at hl 0 rfl) ?_
                          refine lv_iconst (v := 1) hx hb dL_law_931 (by decide) ?_
                          refine lv_iadd hx hb dL_law_932 (tk_i (v := 1) (by decide +kernel) ?_)
                          refine va_sld hx hb hX hbl hbA hS (vin (by decide +kernel)) dL_law_933 (tk_i (v := a1) ha1 ?_)
                          refine lv_aload_n hx hb dL_law_934 rfl (lv_at hl 3 rfl) ?_
                          refine lv_iload_n hx hb dL_law_935 rfl (lv_at hl 0 rfl) ?_
                          refine lv_iconst (v := 2) hx hb dL_law_936 (by decide) ?_
                          refine lv_iadd hx hb dL_law_937 (tk_i (v := 2) (by decide +kernel) ?_)
                          refine va_sld hx hb hX hbl hbA hS (vin (by decide +kernel)) dL_law_938 (tk_i (v := a2) ha2 ?_)
                          refine lv_aload_n hx hb dL_law_939 rfl (lv_at hl 3 rfl) ?_
                          refine lv_iload_n hx hb dL_law_940 rfl (lv_at hl 0 rfl) ?_
                          refine lv_iconst (v := 3) hx hb dL_law_941 (by decide) ?_
                          refine lv_iadd hx hb dL_law_942 (tk_i (v := 3) (by decide +kernel) ?_)
                          refine va_sld hx hb hX hbl hbA hS (vin (by decide +kernel)) dL_law_943 (tk_i (v := 3) ha3 ?_)
                          refine kcall_i (D := (dC, dI)) (S := Unit) (v := 1) (wc := [(q1, .inr (11, [.ref q2, .ref q4, .ref q6, .ref q18, .ref q23, .ref q28, .ref q33, .ref q36, .ref q37, .ref q40, .ref q44, .ref q48, .int 0])), (q4, .inr (10, [.ref q5, .int 0, .int 0])), (q5, .inl (cI, 12, .inl (fun _ => (-1))))]) (wr := [(q49, .inr (12, [.int 0, .ref q50, .int 0, .ref q51, .int 0, .ref q52, .ref q53, .int 0, .ref q54, .int 0, .ref q55, .int (-9), .int 0, .int 0, .ref q56, .ref q57, .ref q58, .ref q59, .ref q60, .int 0, .ref q61, .ref q62, .ref q63, .int 0, .ref q64, .ref q65, .ref q66, .int 0, .ref q67])), (q52, .inl (cI, 12, .inl (fun _ => (-9)))), (q67, .inl (cI, 12, .inl (fun _ => 0)))]) (w1 := fun _ => []) (fun hPc hDc => va_runV (As := [.int a1, .int a2, .int 3]) (rest := []) ⟨hx, hb, hml, hown, hts⟩ (kX11_copy_20 l dC dI cI c2 q1 q4 q5 q2 q6 q18 q23 q28 q33 q36 q37 q40 q44 q48 H.size a1 a2 (by omega) (by omega) (by omega) (by omega)) (cwV 3 hts gL_law_X11_copy rfl rfl rfl (by decide +kernel) ⟨Nat.le_of_ble_eq_true rfl, Nat.le_of_ble_eq_true rfl⟩) (pre_V hPc hK hDc hN (ci := 11) (q0 := 0) rfl rfl) rfl rfl hl.1 rfl (lv_room (Nat.le_of_ble_eq_true rfl)) dL_law_944 ⟨Nat.le_of_ble_eq_true rfl, Nat.le_of_ble_eq_true rfl⟩) hP hD hS hA [0, 3, 4] [28, 31, 36] rfl rfl (by decide) (by decide) (by decide) (fun u H locs hP hD hS => ?_)
                          have hP : va_P (dC, dI) vwCl [(q49, .inr (12, [.int 0, .ref q50, .int 0, .ref q51, .int 0, .ref q52, .ref q53, .int 0, .ref q54, .int 0, .ref q55, .int (-9), .int 0, .int 0, .ref q56, .ref q57, .ref q58, .ref q59, .ref q60, .int 0, .ref q61, .ref q62, .ref q63, .int 0, .ref q64, .ref q65, .ref q66, .int 0, .ref q67])), (q52, .inl (cI, 12, .inl (fun _ => (-9)))), (q67, .inl (cI, 12, .inl (fun _ => 0)))] H := hP
                          have hD : va_D A [(q49, .inr (12, [.int 0, .ref q50, .int 0, .ref q51, .int 0, .ref q52, .ref q53, .int 0, .ref q54, .int 0, .ref q55, .int (-9), .int 0, .int 0, .ref q56, .ref q57, .ref q58, .ref q59, .ref q60, .int 0, .ref q61, .ref q62, .ref q63, .int 0, .ref q64, .ref q65, .ref q66, .int 0, .ref q67])), (q52, .inl (cI, 12, .inl (fun _ => (-9)))), (q67, .inl (cI, 12, .inl (fun _ => 0)))] := hD
                          refine lv_aload_n hx hb dL_law_947 rfl (lv_at hl 1 rfl) ?_
                          refine lv_aload_n hx hb dL_law_948 rfl (lv_at hl 3 rfl) ?_
                          refine lv_iload_n hx hb dL_law_949 rfl (lv_at hl 0 rfl) ?_
                          refine lv_iconst (v := 1) hx hb dL_law_950 (by decide) ?_
                          refine lv_iadd hx hb dL_law_951 (tk_i (v := 1) (by decide +kernel) ?_)
                          refine va_sld hx hb hX hbl hbA hS (vin (by decide +kernel)) dL_law_952 (tk_i (v := a1) ha1 ?_)
                          refine lv_aload_n hx hb dL_law_953 rfl (lv_at hl 3 rfl) ?_
                          refine lv_iload_n hx hb dL_law_954 rfl (lv_at hl 0 rfl) ?_
                          refine lv_iconst (v := 2) hx hb dL_law_955 (by decide) ?_
                          refine lv_iadd hx hb dL_law_956 (tk_i (v := 2) (by decide +kernel) ?_)
                          refine va_sld hx hb hX hbl hbA hS (vin (by decide +kernel)) dL_law_957 (tk_i (v := a2) ha2 ?_)
                          refine lv_aload_n hx hb dL_law_958 rfl (lv_at hl 3 rfl) ?_
                          refine lv_iload_n hx hb dL_law_959 rfl (lv_at hl 0 rfl) ?_
                          refine lv_iconst (v := 3) hx hb dL_law_960 (by decide) ?_
                          refine lv_iadd hx hb dL_law_961 (tk_i (v := 3) (by decide +kernel) ?_)
                          refine va_sld hx hb hX hbl hbA hS (vin (by decide +kernel)) dL_law_962 (tk_i (v := 3) ha3 ?_)
                          refine kcall_i (D := (dC, dI)) (S := Unit) (v := 1) (wc := [(q49, .inr (12, [.int 0, .ref q50, .int 0, .ref q51, .int 0, .ref q52, .ref q53, .int 0, .ref q54, .int 0, .ref q55, .int (-9), .int 0, .int 0, .ref q56, .ref q57, .ref q58, .ref q59, .ref q60, .int 0, .ref q61, .ref q62, .ref q63, .int 0, .ref q64, .ref q65, .ref q66, .int 0, .ref q67])), (q52, .inl (cI, 12, .inl (fun _ => (-9)))), (q67, .inl (cI, 12, .inl (fun _ => 0)))]) (wr := []) (w1 := fun _ => []) (fun hPc hDc => va_runV (As := [.int a1, .int a2, .int 3]) (rest := [.int 1]) ⟨hx, hb, hml, hown, hts⟩ (kX12_copy_20 l dC dI cI c2 q49 q52 q67 q50 q51 q53 q54 q55 q56 q57 q58 q59 q60 q61 q62 q63 q64 q65 q66 H.size a1 a2 (by omega) (by omega) (by omega) (by omega)) (cwV 3 hts gL_law_X12_copy rfl rfl rfl (by decide +kernel) ⟨Nat.le_of_ble_eq_true rfl, Nat.le_of_ble_eq_true rfl⟩) (pre_V hPc hK hDc hN (ci := 12) (q0 := 0) rfl rfl) rfl rfl hl.1 rfl (lv_room (Nat.le_of_ble_eq_true rfl)) dL_law_963 ⟨Nat.le_of_ble_eq_true rfl, Nat.le_of_ble_eq_true rfl⟩) hP hD hS hA [0, 1, 2] [] rfl rfl (by decide) (by decide) (by decide) (fun u H locs hP hD hS => ?_)
                          have hP : va_P (dC, dI) vwCl [] H := hP
                          have hD : va_D A [] := hD
                          refine lv_icmp_eq (tgt := 1080) hx hb dL_law_966 (by decide) (fun _ => ?_) (fun h9 => absurd (by decide +kernel) h9)
                          refine lv_iinc (v := 4) (lv' := [(3, .int 4), (2, .ref q49), (1, .ref q1), (0, .ref b)]) hx hb dL_law_1080 hl (k := 0) rfl (by decide +kernel) (by decide) rfl (fun ls hl => ?_)
                          refine lv_goto (tgt := 18) hx hb dL_law_1083 (by decide) ?_
                          refine lv_iload_n hx hb dL_law_18 rfl (lv_at hl 0 rfl) ?_
                          refine lv_aload_n hx hb dL_law_19 rfl (lv_at hl 3 rfl) ?_
                          refine va_slen hx hb hX hbl hbA hS dL_law_20 (tk_i (v := 4) (by decide +kernel) ?_)
                          refine lv_iconst (v := 4) hx hb dL_law_21 (by decide) ?_
                          refine lv_isub hx hb dL_law_22 (tk_i (v := 0) (by decide +kernel) ?_)
                          refine lv_icmp_gt (tgt := 1086) hx hb dL_law_23 (by decide) (fun _ => ?_) (fun h9 => absurd (by decide +kernel) h9)
                          refine lv_iconst (v := 1) hx hb dL_law_1086 (by decide) ?_
                          refine va_forget (fun q hq => by have h9 := hS.2.2 q hq; rw [← hAe] at h9; exact h9) ?_
                          refine W.widen (k := 600000) (n := 7302250) (by decide) (by decide) ?_
                          exact lw_ret hx hb hr hlocks dL_law_1087
                        ·
                          have e_a3 : a3 = 3 := ib_eq (X := 3) (by omega) (by decide +kernel)
                          subst e_a3
                          refine lv_aload_n hx hb dL_law_928 rfl (lv_at hl 2 rfl) ?_
                          refine lv_aload_n hx hb dL_law_929 rfl (lv_at hl 3 rfl) ?_
                          refine lv_iload_n hx hb dL_law_930 rfl (lv_at hl 0 rfl) ?_
                          refine lv_iconst (v := 1) hx hb dL_law_931 (by decide) ?_
                          refine lv_iadd hx hb dL_law_932 (tk_i (v := 1) (by decide +kernel) ?_)
                          refine va_sld hx hb hX hbl hbA hS (vin (by decide +kernel)) dL_law_933 (tk_i (v := a1) ha1 ?_)
                          refine lv_aload_n hx hb dL_law_934 rfl (lv_at hl 3 rfl) ?_
                          refine lv_iload_n hx hb dL_law_935 rfl (lv_at hl 0 rfl) ?_
                          refine lv_iconst (v := 2) hx hb dL_law_936 (by decide) ?_
                          refine lv_iadd hx hb dL_law_937 (tk_i (v := 2) (by decide +kernel) ?_)
                          refine va_sld hx hb hX hbl hbA hS (vin (by decide +kernel)) dL_law_938 (tk_i (v := a2) ha2 ?_)
                          refine lv_aload_n hx hb dL_law_939 rfl (lv_at hl 3 rfl) ?_
                          refine lv_iload_n hx hb dL_law_940 rfl (lv_at hl 0 rfl) ?_
                          refine lv_iconst (v := 3) hx hb dL_law_941 (by decide) ?_
                          refine lv_iadd hx hb dL_law_942 (tk_i (v := 3) (by decide +kernel) ?_)
                          refine va_sld hx hb hX hbl hbA hS (vin (by decide +kernel)) dL_law_943 (tk_i (v := 3) ha3 ?_)
                          refine kcall_i (D := (dC, dI)) (S := Unit) (v := (-3)) (wc := [(q1, .inr (11, [.ref q2, .ref q4, .ref q6, .ref q18, .ref q23, .ref q28, .ref q33, .ref q36, .ref q37, .ref q40, .ref q44, .ref q48, .int 0])), (q4, .inr (10, [.ref q5, .int 0, .int 0])), (q48, .inl (cI, 5, .inl (fun _ => 0)))]) (wr := [(q49, .inr (12, [.int 0, .ref q50, .int 0, .ref q51, .int 0, .ref q52, .ref q53, .int 0, .ref q54, .int 0, .ref q55, .int (-9), .int 0, .int 0, .ref q56, .ref q57, .ref q58, .ref q59, .ref q60, .int 0, .ref q61, .ref q62, .ref q63, .int 0, .ref q64, .ref q65, .ref q66, .int 0, .ref q67])), (q50, .inl (cI, 5, .inl (fun _ => 0)))]) (w1 := fun _ => []) (fun hPc hDc => va_runV (As := [.int a1, .int a2, .int 3]) (rest := []) ⟨hx, hb, hml, hown, hts⟩ (kX11_copy_21 l dC dI cI c2 q1 q4 q48 q2 q6 q18 q23 q28 q33 q36 q37 q40 q44 q5 H.size a1 a2 (by omega) (by omega) (by omega) (by omega)) (cwV 3 hts gL_law_X11_copy rfl rfl rfl (by decide +kernel) ⟨Nat.le_of_ble_eq_true rfl, Nat.le_of_ble_eq_true rfl⟩) (pre_V hPc hK hDc hN (ci := 11) (q0 := 0) rfl rfl) rfl rfl hl.1 rfl (lv_room (Nat.le_of_ble_eq_true rfl)) dL_law_944 ⟨Nat.le_of_ble_eq_true rfl, Nat.le_of_ble_eq_true rfl⟩) hP hD hS hA [0, 3, 27] [28, 29] rfl rfl (by decide) (by decide) (by decide) (fun u H locs hP hD hS => ?_)
                          have hP : va_P (dC, dI) vwCl [(q49, .inr (12, [.int 0, .ref q50, .int 0, .ref q51, .int 0, .ref q52, .ref q53, .int 0, .ref q54, .int 0, .ref q55, .int (-9), .int 0, .int 0, .ref q56, .ref q57, .ref q58, .ref q59, .ref q60, .int 0, .ref q61, .ref q62, .ref q63, .int 0, .ref q64, .ref q65, .ref q66, .int 0, .ref q67])), (q50, .inl (cI, 5, .inl (fun _ => 0)))] H := hP
                          have hD : va_D A [(q49, .inr (12, [.int 0, .ref q50, .int 0, .ref q51, .int 0, .ref q52, .ref q53, .int 0, .ref q54, .int 0, .ref q55, .int (-9), .int 0, .int 0, .ref q56, .ref q57, .ref q58, .ref q59, .ref q60, .int 0, .ref q61, .ref q62, .ref q63, .int 0, .ref q64, .ref q65, .ref q66, .int 0, .ref q67])), (q50, .inl (cI, 5, .inl (fun _ => 0)))] := hD
                          refine lv_aload_n hx hb dL_law_947 rfl (lv_at hl 1 rfl) ?_
                          refine lv_aload_n hx hb dL_law_948 rfl (lv_at hl 3 rfl) ?_
                          refine lv_iload_n hx hb dL_law_949 rfl (lv_at hl 0 rfl) ?_
                          refine lv_iconst (v := 1) hx hb dL_law_950 (by decide) ?_
                          refine lv_iadd hx hb dL_law_951 (tk_i (v := 1) (by decide +kernel) ?_)
                          refine va_sld hx hb hX hbl hbA hS (vin (by decide +kernel)) dL_law_952 (tk_i (v := a1) ha1 ?_)
                          refine lv_aload_n hx hb dL_law_953 rfl (lv_at hl 3 rfl) ?_
                          refine lv_iload_n hx hb dL_law_954 rfl (lv_at hl 0 rfl) ?_
                          refine lv_iconst (v := 2) hx hb dL_law_955 (by decide) ?_
                          refine lv_iadd hx hb dL_law_956 (tk_i (v := 2) (by decide +kernel) ?_)
                          refine va_sld hx hb hX hbl hbA hS (vin (by decide +kernel)) dL_law_957 (tk_i (v := a2) ha2 ?_)
                          refine lv_aload_n hx hb dL_law_958 rfl (lv_at hl 3 rfl) ?_
                          refine lv_iload_n hx hb dL_law_959 rfl (lv_at hl 0 rfl) ?_
                          refine lv_iconst (v := 3) hx hb dL_law_960 (by decide) ?_
                          refine lv_iadd hx hb dL_law_961 (tk_i (v := 3) (by decide +kernel) ?_)
                          refine va_sld hx hb hX hbl hbA hS (vin (by decide +kernel)) dL_law_962 (tk_i (v := 3) ha3 ?_)
                          refine kcall_i (D := (dC, dI)) (S := Unit) (v := (-3)) (wc := [(q49, .inr (12, [.int 0, .ref q50, .int 0, .ref q51, .int 0, .ref q52, .ref q53, .int 0, .ref q54, .int 0, .ref q55, .int (-9), .int 0, .int 0, .ref q56, .ref q57, .ref q58, .ref q59, .ref q60, .int 0, .ref q61, .ref q62, .ref q63, .int 0, .ref q64, .ref q65, .ref q66, .int 0, .ref q67])), (q50, .inl (cI, 5, .inl (fun _ => 0)))]) (wr := []) (w1 := fun _ => []) (fun hPc hDc => va_runV (As := [.int a1, .int a2, .int 3]) (rest := [.int (-3)]) ⟨hx, hb, hml, hown, hts⟩ (kX12_copy_21 l dC dI cI c2 q49 q50 q51 q52 q53 q54 q55 q56 q57 q58 q59 q60 q61 q62 q63 q64 q65 q66 q67 H.size a1 a2 (by omega) (by omega) (by omega) (by omega)) (cwV 3 hts gL_law_X12_copy rfl rfl rfl (by decide +kernel) ⟨Nat.le_of_ble_eq_true rfl, Nat.le_of_ble_eq_true rfl⟩) (pre_V hPc hK hDc hN (ci := 12) (q0 := 0) rfl rfl) rfl rfl hl.1 rfl (lv_room (Nat.le_of_ble_eq_true rfl)) dL_law_963 ⟨Nat.le_of_ble_eq_true rfl, Nat.le_of_ble_eq_true rfl⟩) hP hD hS hA [0, 1] [] rfl rfl (by decide) (by decide) (by decide) (fun u H locs hP hD hS => ?_)
                          have hP : va_P (dC, dI) vwCl [] H := hP
                          have hD : va_D A [] := hD
                          refine lv_icmp_eq (tgt := 1080) hx hb dL_law_966 (by decide) (fun _ => ?_) (fun h9 => absurd (by decide +kernel) h9)
                          refine lv_iinc (v := 4) (lv' := [(3, .int 4), (2, .ref q49), (1, .ref q1), (0, .ref b)]) hx hb dL_law_1080 hl (k := 0) rfl (by decide +kernel) (by decide) rfl (fun ls hl => ?_)
                          refine lv_goto (tgt := 18) hx hb dL_law_1083 (by decide) ?_
                          refine lv_iload_n hx hb dL_law_18 rfl (lv_at hl 0 rfl) ?_
                          refine lv_aload_n hx hb dL_law_19 rfl (lv_at hl 3 rfl) ?_
                          refine va_slen hx hb hX hbl hbA hS dL_law_20 (tk_i (v := 4) (by decide +kernel) ?_)
                          refine lv_iconst (v := 4) hx hb dL_law_21 (by decide) ?_
                          refine lv_isub hx hb dL_law_22 (tk_i (v := 0) (by decide +kernel) ?_)
                          refine lv_icmp_gt (tgt := 1086) hx hb dL_law_23 (by decide) (fun _ => ?_) (fun h9 => absurd (by decide +kernel) h9)
                          refine lv_iconst (v := 1) hx hb dL_law_1086 (by decide) ?_
                          refine va_forget (fun q hq => by have h9 := hS.2.2 q hq; rw [← hAe] at h9; exact h9) ?_
                          refine W.widen (k := 600000) (n := 7302250) (by decide) (by decide) ?_
                          exact lw_ret hx hb hr hlocks dL_law_1087
                      ·
                        have e_a3 : a3 = 3 := ib_eq (X := 3) (by omega) (by decide +kernel)
                        subst e_a3
                        refine lv_aload_n hx hb dL_law_928 rfl (lv_at hl 2 rfl) ?_
                        refine lv_aload_n hx hb dL_law_929 rfl (lv_at hl 3 rfl) ?_
                        refine lv_iload_n hx hb dL_law_930 rfl (lv_at hl 0 rfl) ?_
                        refine lv_iconst (v := 1) hx hb dL_law_931 (by decide) ?_
                        refine lv_iadd hx hb dL_law_932 (tk_i (v := 1) (by decide +kernel) ?_)
                        refine va_sld hx hb hX hbl hbA hS (vin (by decide +kernel)) dL_law_933 (tk_i (v := a1) ha1 ?_)
                        refine lv_aload_n hx hb dL_law_934 rfl (lv_at hl 3 rfl) ?_
                        refine lv_iload_n hx hb dL_law_935 rfl (lv_at hl 0 rfl) ?_
                        refine lv_iconst (v := 2) hx hb dL_law_936 (by decide) ?_
                        refine lv_iadd hx hb dL_law_937 (tk_i (v := 2) (by decide +kernel) ?_)
                        refine va_sld hx hb hX hbl hbA hS (vin (by decide +kernel)) dL_law_938 (tk_i (v := a2) ha2 ?_)
                        refine lv_aload_n hx hb dL_law_939 rfl (lv_at hl 3 rfl) ?_
                        refine lv_iload_n hx hb dL_law_940 rfl (lv_at hl 0 rfl) ?_
                        refine lv_iconst (v := 3) hx hb dL_law_941 (by decide) ?_
                        refine lv_iadd hx hb dL_law_942 (tk_i (v := 3) (by decide +kernel) ?_)
                        refine va_sld hx hb hX hbl hbA hS (vin (by decide +kernel)) dL_law_943 (tk_i (v := 3) ha3 ?_)
                        refine kcall_i (D := (dC, dI)) (S := Unit) (v := (-3)) (wc := [(q1, .inr (11, [.ref q2, .ref q4, .ref q6, .ref q18, .ref q23, .ref q28, .ref q33, .ref q36, .ref q37, .ref q40, .ref q44, .ref q48, .int 0])), (q4, .inr (10, [.ref q5, .int 0, .int 0])), (q48, .inl (cI, 5, .inl (fun _ => 0)))]) (wr := [(q49, .inr (12, [.int 0, .ref q50, .int 0, .ref q51, .int 0, .ref q52, .ref q53, .int 0, .ref q54, .int 0, .ref q55, .int (-9), .int 0, .int 0, .ref q56, .ref q57, .ref q58, .ref q59, .ref q60, .int 0, .ref q61, .ref q62, .ref q63, .int 0, .ref q64, .ref q65, .ref q66, .int 0, .ref q67])), (q50, .inl (cI, 5, .inl (fun _ => 0)))]) (w1 := fun _ => []) (fun hPc hDc => va_runV (As := [.int a1, .int a2, .int 3]) (rest := []) ⟨hx, hb, hml, hown, hts⟩ (kX11_copy_22 l dC dI cI c2 q1 q4 q48 q2 q6 q18 q23 q28 q33 q36 q37 q40 q44 q5 H.size a1 a2 (by omega) (by omega) (by omega) (by omega)) (cwV 3 hts gL_law_X11_copy rfl rfl rfl (by decide +kernel) ⟨Nat.le_of_ble_eq_true rfl, Nat.le_of_ble_eq_true rfl⟩) (pre_V hPc hK hDc hN (ci := 11) (q0 := 0) rfl rfl) rfl rfl hl.1 rfl (lv_room (Nat.le_of_ble_eq_true rfl)) dL_law_944 ⟨Nat.le_of_ble_eq_true rfl, Nat.le_of_ble_eq_true rfl⟩) hP hD hS hA [0, 3, 27] [28, 29] rfl rfl (by decide) (by decide) (by decide) (fun u H locs hP hD hS => ?_)
                        have hP : va_P (dC, dI) vwCl [(q49, .inr (12, [.int 0, .ref q50, .int 0, .ref q51, .int 0, .ref q52, .ref q53, .int 0, .ref q54, .int 0, .ref q55, .int (-9), .int 0, .int 0, .ref q56, .ref q57, .ref q58, .ref q59, .ref q60, .int 0, .ref q61, .ref q62, .ref q63, .int 0, .ref q64, .ref q65, .ref q66, .int 0, .ref q67])), (q50, .inl (cI, 5, .inl (fun _ => 0)))] H := hP
                        have hD : va_D A [(q49, .inr (12, [.int 0, .ref q50, .int 0, .ref q51, .int 0, .ref q52, .ref q53, .int 0, .ref q54, .int 0, .ref q55, .int (-9), .int 0, .int 0, .ref q56, .ref q57, .ref q58, .ref q59, .ref q60, .int 0, .ref q61, .ref q62, .ref q63, .int 0, .ref q64, .ref q65, .ref q66, .int 0, .ref q67])), (q50, .inl (cI, 5, .inl (fun _ => 0)))] := hD
                        refine lv_aload_n hx hb dL_law_947 rfl (lv_at hl 1 rfl) ?_
                        refine lv_aload_n hx hb dL_law_948 rfl (lv_at hl 3 rfl) ?_
                        refine lv_iload_n hx hb dL_law_949 rfl (lv_at hl 0 rfl) ?_
                        refine lv_iconst (v := 1) hx hb dL_law_950 (by decide) ?_
                        refine lv_iadd hx hb dL_law_951 (tk_i (v := 1) (by decide +kernel) ?_)
                        refine va_sld hx hb hX hbl hbA hS (vin (by decide +kernel)) dL_law_952 (tk_i (v := a1) ha1 ?_)
                        refine lv_aload_n hx hb dL_law_953 rfl (lv_at hl 3 rfl) ?_
                        refine lv_iload_n hx hb dL_law_954 rfl (lv_at hl 0 rfl) ?_
                        refine lv_iconst (v := 2) hx hb dL_law_955 (by decide) ?_
                        refine lv_iadd hx hb dL_law_956 (tk_i (v := 2) (by decide +kernel) ?_)
                        refine va_sld hx hb hX hbl hbA hS (vin (by decide +kernel)) dL_law_957 (tk_i (v := a2) ha2 ?_)
                        refine lv_aload_n hx hb dL_law_958 rfl (lv_at hl 3 rfl) ?_
                        refine lv_iload_n hx hb dL_law_959 rfl (lv_at hl 0 rfl) ?_
                        refine lv_iconst (v := 3) hx hb dL_law_960 (by decide) ?_
                        refine lv_iadd hx hb dL_law_961 (tk_i (v := 3) (by decide +kernel) ?_)
                        refine va_sld hx hb hX hbl hbA hS (vin (by decide +kernel)) dL_law_962 (tk_i (v := 3) ha3 ?_)
                        refine kcall_i (D := (dC, dI)) (S := Unit) (v := (-3)) (wc := [(q49, .inr (12, [.int 0, .ref q50, .int 0, .ref q51, .int 0, .ref q52, .ref q53, .int 0, .ref q54, .int 0, .ref q55, .int (-9), .int 0, .int 0, .ref q56, .ref q57, .ref q58, .ref q59, .ref q60, .int 0, .ref q61, .ref q62, .ref q63, .int 0, .ref q64, .ref q65, .ref q66, .int 0, .ref q67])), (q50, .inl (cI, 5, .inl (fun _ => 0)))]) (wr := []) (w1 := fun _ => []) (fun hPc hDc => va_runV (As := [.int a1, .int a2, .int 3]) (rest := [.int (-3)]) ⟨hx, hb, hml, hown, hts⟩ (kX12_copy_22 l dC dI cI c2 q49 q50 q51 q52 q53 q54 q55 q56 q57 q58 q59 q60 q61 q62 q63 q64 q65 q66 q67 H.size a1 a2 (by omega) (by omega) (by omega) (by omega)) (cwV 3 hts gL_law_X12_copy rfl rfl rfl (by decide +kernel) ⟨Nat.le_of_ble_eq_true rfl, Nat.le_of_ble_eq_true rfl⟩) (pre_V hPc hK hDc hN (ci := 12) (q0 := 0) rfl rfl) rfl rfl hl.1 rfl (lv_room (Nat.le_of_ble_eq_true rfl)) dL_law_963 ⟨Nat.le_of_ble_eq_true rfl, Nat.le_of_ble_eq_true rfl⟩) hP hD hS hA [0, 1] [] rfl rfl (by decide) (by decide) (by decide) (fun u H locs hP hD hS => ?_)
                        have hP : va_P (dC, dI) vwCl [] H := hP
                        have hD : va_D A [] := hD
                        refine lv_icmp_eq (tgt := 1080) hx hb dL_law_966 (by decide) (fun _ => ?_) (fun h9 => absurd (by decide +kernel) h9)
                        refine lv_iinc (v := 4) (lv' := [(3, .int 4), (2, .ref q49), (1, .ref q1), (0, .ref b)]) hx hb dL_law_1080 hl (k := 0) rfl (by decide +kernel) (by decide) rfl (fun ls hl => ?_)
                        refine lv_goto (tgt := 18) hx hb dL_law_1083 (by decide) ?_
                        refine lv_iload_n hx hb dL_law_18 rfl (lv_at hl 0 rfl) ?_
                        refine lv_aload_n hx hb dL_law_19 rfl (lv_at hl 3 rfl) ?_
                        refine va_slen hx hb hX hbl hbA hS dL_law_20 (tk_i (v := 4) (by decide +kernel) ?_)
                        refine lv_iconst (v := 4) hx hb dL_law_21 (by decide) ?_
                        refine lv_isub hx hb dL_law_22 (tk_i (v := 0) (by decide +kernel) ?_)
                        refine lv_icmp_gt (tgt := 1086) hx hb dL_law_23 (by decide) (fun _ => ?_) (fun h9 => absurd (by decide +kernel) h9)
                        refine lv_iconst (v := 1) hx hb dL_law_1086 (by decide) ?_
                        refine va_forget (fun q hq => by have h9 := hS.2.2 q hq; rw [← hAe] at h9; exact h9) ?_
                        refine W.widen (k := 600000) (n := 7302250) (by decide) (by decide) ?_
                        exact lw_ret hx hb hr hlocks dL_law_1087
                  ·
                    rcases (show a2.toInt ≤ (-1) ∨ 0 ≤ a2.toInt by omega) with g_a2_0 | g_a2_0
                    ·
                      have e_a3 : a3 = 3 := ib_eq (X := 3) (by omega) (by decide +kernel)
                      subst e_a3
                      refine lv_aload_n hx hb dL_law_928 rfl (lv_at hl 2 rfl) ?_
                      refine lv_aload_n hx hb dL_law_929 rfl (lv_at hl 3 rfl) ?_
                      refine lv_iload_n hx hb dL_law_930 rfl (lv_at hl 0 rfl) ?_
                      refine lv_iconst (v := 1) hx hb dL_law_931 (by decide) ?_
                      refine lv_iadd hx hb dL_law_932 (tk_i (v := 1) (by decide +kernel) ?_)
                      refine va_sld hx hb hX hbl hbA hS (vin (by decide +kernel)) dL_law_933 (tk_i (v := a1) ha1 ?_)
                      refine lv_aload_n hx hb dL_law_934 rfl (lv_at hl 3 rfl) ?_
                      refine lv_iload_n hx hb dL_law_935 rfl (lv_at hl 0 rfl) ?_
                      refine lv_iconst (v := 2) hx hb dL_law_936 (by decide) ?_
                      refine lv_iadd hx hb dL_law_937 (tk_i (v := 2) (by decide +kernel) ?_)
                      refine va_sld hx hb hX hbl hbA hS (vin (by decide +kernel)) dL_law_938 (tk_i (v := a2) ha2 ?_)
                      refine lv_aload_n hx hb dL_law_939 rfl (lv_at hl 3 rfl) ?_
                      refine lv_iload_n hx hb dL_law_940 rfl (lv_at hl 0 rfl) ?_
                      refine lv_iconst (v := 3) hx hb dL_law_941 (by decide) ?_
                      refine lv_iadd hx hb dL_law_942 (tk_i (v := 3) (by decide +kernel) ?_)
                      refine va_sld hx hb hX hbl hbA hS (vin (by decide +kernel)) dL_law_943 (tk_i (v := 3) ha3 ?_)
                      refine kcall_i (D := (dC, dI)) (S := Unit) (v := (-3)) (wc := [(q1, .inr (11, [.ref q2, .ref q4, .ref q6, .ref q18, .ref q23, .ref q28, .ref q33, .ref q36, .ref q37, .ref q40, .ref q44, .ref q48, .int 0])), (q4, .inr (10, [.ref q5, .int 0, .int 0])), (q48, .inl (cI, 5, .inl (fun _ => 0)))]) (wr := [(q49, .inr (12, [.int 0, .ref q50, .int 0, .ref q51, .int 0, .ref q52, .ref q53, .int 0, .ref q54, .int 0, .ref q55, .int (-9), .int 0, .int 0, .ref q56, .ref q57, .ref q58, .ref q59, .ref q60, .int 0, .ref q61, .ref q62, .ref q63, .int 0, .ref q64, .ref q65, .ref q66, .int 0, .ref q67])), (q50, .inl (cI, 5, .inl (fun _ => 0)))]) (w1 := fun _ => []) (fun hPc hDc => va_runV (As := [.int a1, .int a2, .int 3]) (rest := []) ⟨hx, hb, hml, hown, hts⟩ (kX11_copy_23 l dC dI cI c2 q1 q4 q48 q2 q6 q18 q23 q28 q33 q36 q37 q40 q44 q5 H.size a1 a2 (by omega) (by omega) (by omega) (by omega)) (cwV 3 hts gL_law_X11_copy rfl rfl rfl (by decide +kernel) ⟨Nat.le_of_ble_eq_true rfl, Nat.le_of_ble_eq_true rfl⟩) (pre_V hPc hK hDc hN (ci := 11) (q0 := 0) rfl rfl) rfl rfl hl.1 rfl (lv_room (Nat.le_of_ble_eq_true rfl)) dL_law_944 ⟨Nat.le_of_ble_eq_true rfl, Nat.le_of_ble_eq_true rfl⟩) hP hD hS hA [0, 3, 27] [28, 29] rfl rfl (by decide) (by decide) (by decide) (fun u H locs hP hD hS => ?_)
                      have hP : va_P (dC, dI) vwCl [(q49, .inr (12, [.int 0, .ref q50, .int 0, .ref q51, .int 0, .ref q52, .ref q53, .int 0, .ref q54, .int 0, .ref q55, .int (-9), .int 0, .int 0, .ref q56, .ref q57, .ref q58, .ref q59, .ref q60, .int 0, .ref q61, .ref q62, .ref q63, .int 0, .ref q64, .ref q65, .ref q66, .int 0, .ref q67])), (q50, .inl (cI, 5, .inl (fun _ => 0)))] H := hP
                      have hD : va_D A [(q49, .inr (12, [.int 0, .ref q50, .int 0, .ref q51, .int 0, .ref q52, .ref q53, .int 0, .ref q54, .int 0, .ref q55, .int (-9), .int 0, .int 0, .ref q56, .ref q57, .ref q58, .ref q59, .ref q60, .int 0, .ref q61, .ref q62, .ref q63, .int 0, .ref q64, .ref q65, .ref q66, .int 0, .ref q67])), (q50, .inl (cI, 5, .inl (fun _ => 0)))] := hD
                      refine lv_aload_n hx hb dL_law_947 rfl (lv_at hl 1 rfl) ?_
                      refine lv_aload_n hx hb dL_law_948 rfl (lv_at hl 3 rfl) ?_
                      refine lv_iload_n hx hb dL_law_949 rfl (lv_at hl 0 rfl) ?_
                      refine lv_iconst (v := 1) hx hb dL_law_950 (by decide) ?_
                      refine lv_iadd hx hb dL_law_951 (tk_i (v := 1) (by decide +kernel) ?_)
                      refine va_sld hx hb hX hbl hbA hS (vin (by decide +kernel)) dL_law_952 (tk_i (v := a1) ha1 ?_)
                      refine lv_aload_n hx hb dL_law_953 rfl (lv_at hl 3 rfl) ?_
                      refine lv_iload_n hx hb dL_law_954 rfl (lv_at hl 0 rfl) ?_
                      refine lv_iconst (v := 2) hx hb dL_law_955 (by decide) ?_
                      refine lv_iadd hx hb dL_law_956 (tk_i (v := 2) (by decide +kernel) ?_)
                      refine va_sld hx hb hX hbl hbA hS (vin (by decide +kernel)) dL_law_957 (tk_i (v := a2) ha2 ?_)
                      refine lv_aload_n hx hb dL_law_958 rfl (lv_at hl 3 rfl) ?_
                      refine lv_iload_n hx hb dL_law_959 rfl (lv_at hl 0 rfl) ?_
                      refine lv_iconst (v := 3) hx hb dL_law_960 (by decide) ?_
                      refine lv_iadd hx hb dL_law_961 (tk_i (v := 3) (by decide +kernel) ?_)
                      refine va_sld hx hb hX hbl hbA hS (vin (by decide +kernel)) dL_law_962 (tk_i (v := 3) ha3 ?_)
                      refine kcall_i (D := (dC, dI)) (S := Unit) (v := (-3)) (wc := [(q49, .inr (12, [.int 0, .ref q50, .int 0, .ref q51, .int 0, .ref q52, .ref q53, .int 0, .ref q54, .int 0, .ref q55, .int (-9), .int 0, .int 0, .ref q56, .ref q57, .ref q58, .ref q59, .ref q60, .int 0, .ref q61, .ref q62, .ref q63, .int 0, .ref q64, .ref q65, .ref q66, .int 0, .ref q67])), (q50, .inl (cI, 5, .inl (fun _ => 0)))]) (wr := []) (w1 := fun _ => []) (fun hPc hDc => va_runV (As := [.int a1, .int a2, .int 3]) (rest := [.int (-3)]) ⟨hx, hb, hml, hown, hts⟩ (kX12_copy_23 l dC dI cI c2 q49 q50 q51 q52 q53 q54 q55 q56 q57 q58 q59 q60 q61 q62 q63 q64 q65 q66 q67 H.size a1 a2 (by omega) (by omega) (by omega) (by omega)) (cwV 3 hts gL_law_X12_copy rfl rfl rfl (by decide +kernel) ⟨Nat.le_of_ble_eq_true rfl, Nat.le_of_ble_eq_true rfl⟩) (pre_V hPc hK hDc hN (ci := 12) (q0 := 0) rfl rfl) rfl rfl hl.1 rfl (lv_room (Nat.le_of_ble_eq_true rfl)) dL_law_963 ⟨Nat.le_of_ble_eq_true rfl, Nat.le_of_ble_eq_true rfl⟩) hP hD hS hA [0, 1] [] rfl rfl (by decide) (by decide) (by decide) (fun u H locs hP hD hS => ?_)
                      have hP : va_P (dC, dI) vwCl [] H := hP
                      have hD : va_D A [] := hD
                      refine lv_icmp_eq (tgt := 1080) hx hb dL_law_966 (by decide) (fun _ => ?_) (fun h9 => absurd (by decide +kernel) h9)
                      refine lv_iinc (v := 4) (lv' := [(3, .int 4), (2, .ref q49), (1, .ref q1), (0, .ref b)]) hx hb dL_law_1080 hl (k := 0) rfl (by decide +kernel) (by decide) rfl (fun ls hl => ?_)
                      refine lv_goto (tgt := 18) hx hb dL_law_1083 (by decide) ?_
                      refine lv_iload_n hx hb dL_law_18 rfl (lv_at hl 0 rfl) ?_
                      refine lv_aload_n hx hb dL_law_19 rfl (lv_at hl 3 rfl) ?_
                      refine va_slen hx hb hX hbl hbA hS dL_law_20 (tk_i (v := 4) (by decide +kernel) ?_)
                      refine lv_iconst (v := 4) hx hb dL_law_21 (by decide) ?_
                      refine lv_isub hx hb dL_law_22 (tk_i (v := 0) (by decide +kernel) ?_)
                      refine lv_icmp_gt (tgt := 1086) hx hb dL_law_23 (by decide) (fun _ => ?_) (fun h9 => absurd (by decide +kernel) h9)
                      refine lv_iconst (v := 1) hx hb dL_law_1086 (by decide) ?_
                      refine va_forget (fun q hq => by have h9 := hS.2.2 q hq; rw [← hAe] at h9; exact h9) ?_
                      refine W.widen (k := 600000) (n := 7302250) (by decide) (by decide) ?_
                      exact lw_ret hx hb hr hlocks dL_law_1087
                    ·
                      have e_a3 : a3 = 3 := ib_eq (X := 3) (by omega) (by decide +kernel)
                      subst e_a3
                      refine lv_aload_n hx hb dL_law_928 rfl (lv_at hl 2 rfl) ?_
                      refine lv_aload_n hx hb dL_law_929 rfl (lv_at hl 3 rfl) ?_
                      refine lv_iload_n hx hb dL_law_930 rfl (lv_at hl 0 rfl) ?_
                      refine lv_iconst (v := 1) hx hb dL_law_931 (by decide) ?_
                      refine lv_iadd hx hb dL_law_932 (tk_i (v := 1) (by decide +kernel) ?_)
                      refine va_sld hx hb hX hbl hbA hS (vin (by decide +kernel)) dL_law_933 (tk_i (v := a1) ha1 ?_)
                      refine lv_aload_n hx hb dL_law_934 rfl (lv_at hl 3 rfl) ?_
                      refine lv_iload_n hx hb dL_law_935 rfl (lv_at hl 0 rfl) ?_
                      refine lv_iconst (v := 2) hx hb dL_law_936 (by decide) ?_
                      refine lv_iadd hx hb dL_law_937 (tk_i (v := 2) (by decide +kernel) ?_)
                      refine va_sld hx hb hX hbl hbA hS (vin (by decide +kernel)) dL_law_938 (tk_i (v := a2) ha2 ?_)
                      refine lv_aload_n hx hb dL_law_939 rfl (lv_at hl 3 rfl) ?_
                      refine lv_iload_n hx hb dL_law_940 rfl (lv_at hl 0 rfl) ?_
                      refine lv_iconst (v := 3) hx hb dL_law_941 (by decide) ?_
                      refine lv_iadd hx hb dL_law_942 (tk_i (v := 3) (by decide +kernel) ?_)
                      refine va_sld hx hb hX hbl hbA hS (vin (by decide +kernel)) dL_law_943 (tk_i (v := 3) ha3 ?_)
                      refine kcall_i (D := (dC, dI)) (S := Unit) (v := (-3)) (wc := [(q1, .inr (11, [.ref q2, .ref q4, .ref q6, .ref q18, .ref q23, .ref q28, .ref q33, .ref q36, .ref q37, .ref q40, .ref q44, .ref q48, .int 0])), (q4, .inr (10, [.ref q5, .int 0, .int 0])), (q48, .inl (cI, 5, .inl (fun _ => 0)))]) (wr := [(q49, .inr (12, [.int 0, .ref q50, .int 0, .ref q51, .int 0, .ref q52, .ref q53, .int 0, .ref q54, .int 0, .ref q55, .int (-9), .int 0, .int 0, .ref q56, .ref q57, .ref q58, .ref q59, .ref q60, .int 0, .ref q61, .ref q62, .ref q63, .int 0, .ref q64, .ref q65, .ref q66, .int 0, .ref q67])), (q50, .inl (cI, 5, .inl (fun _ => 0)))]) (w1 := fun _ => []) (fun hPc hDc => va_runV (As := [.int a1, .int a2, .int 3]) (rest := []) ⟨hx, hb, hml, hown, hts⟩ (kX11_copy_24 l dC dI cI c2 q1 q4 q48 q2 q6 q18 q23 q28 q33 q36 q37 q40 q44 q5 H.size a1 a2 (by omega) (by omega) (by omega) (by omega)) (cwV 3 hts gL_law_X11_copy rfl rfl rfl (by decide +kernel) ⟨Nat.le_of_ble_eq_true rfl, Nat.le_of_ble_eq_true rfl⟩) (pre_V hPc hK hDc hN (ci := 11) (q0 := 0) rfl rfl) rfl rfl hl.1 rfl (lv_room (Nat.le_of_ble_eq_true rfl)) dL_law_944 ⟨Nat.le_of_ble_eq_true rfl, Nat.le_of_ble_eq_true rfl⟩) hP hD hS hA [0, 3, 27] [28, 29] rfl rfl (by decide) (by decide) (by decide) (fun u H locs hP hD hS => ?_)
                      have hP : va_P (dC, dI) vwCl [(q49, .inr (12, [.int 0, .ref q50, .int 0, .ref q51, .int 0, .ref q52, .ref q53, .int 0, .ref q54, .int 0, .ref q55, .int (-9), .int 0, .int 0, .ref q56, .ref q57, .ref q58, .ref q59, .ref q60, .int 0, .ref q61, .ref q62, .ref q63, .int 0, .ref q64, .ref q65, .ref q66, .int 0, .ref q67])), (q50, .inl (cI, 5, .inl (fun _ => 0)))] H := hP
                      have hD : va_D A [(q49, .inr (12, [.int 0, .ref q50, .int 0, .ref q51, .int 0, .ref q52, .ref q53, .int 0, .ref q54, .int 0, .ref q55, .int (-9), .int 0, .int 0, .ref q56, .ref q57, .ref q58, .ref q59, .ref q60, .int 0, .ref q61, .ref q62, .ref q63, .int 0, .ref q64, .ref q65, .ref q66, .int 0, .ref q67])), (q50, .inl (cI, 5, .inl (fun _ => 0)))] := hD
                      refine lv_aload_n hx hb dL_law_947 rfl (lv_at hl 1 rfl) ?_
                      refine lv_aload_n hx hb dL_law_948 rfl (lv_at hl 3 rfl) ?_
                      refine lv_iload_n hx hb dL_law_949 rfl (lv_at hl 0 rfl) ?_
                      refine lv_iconst (v := 1) hx hb dL_law_950 (by decide) ?_
                      refine lv_iadd hx hb dL_law_951 (tk_i (v := 1) (by decide +kernel) ?_)
                      refine va_sld hx hb hX hbl hbA hS (vin (by decide +kernel)) dL_law_952 (tk_i (v := a1) ha1 ?_)
                      refine lv_aload_n hx hb dL_law_953 rfl (lv_at hl 3 rfl) ?_
                      refine lv_iload_n hx hb dL_law_954 rfl (lv_at hl 0 rfl) ?_
                      refine lv_iconst (v := 2) hx hb dL_law_955 (by decide) ?_
                      refine lv_iadd hx hb dL_law_956 (tk_i (v := 2) (by decide +kernel) ?_)
                      refine va_sld hx hb hX hbl hbA hS (vin (by decide +kernel)) dL_law_957 (tk_i (v := a2) ha2 ?_)
                      refine lv_aload_n hx hb dL_law_958 rfl (lv_at hl 3 rfl) ?_
                      refine lv_iload_n hx hb dL_law_959 rfl (lv_at hl 0 rfl) ?_
                      refine lv_iconst (v := 3) hx hb dL_law_960 (by decide) ?_
                      refine lv_iadd hx hb dL_law_961 (tk_i (v := 3) (by decide +kernel) ?_)
                      refine va_sld hx hb hX hbl hbA hS (vin (by decide +kernel)) dL_law_962 (tk_i (v := 3) ha3 ?_)
                      refine kcall_i (D := (dC, dI)) (S := Unit) (v := (-3)) (wc := [(q49, .inr (12, [.int 0, .ref q50, .int 0, .ref q51, .int 0, .ref q52, .ref q53, .int 0, .ref q54, .int 0, .ref q55, .int (-9), .int 0, .int 0, .ref q56, .ref q57, .ref q58, .ref q59, .ref q60, .int 0, .ref q61, .ref q62, .ref q63, .int 0, .ref q64, .ref q65, .ref q66, .int 0, .ref q67])), (q50, .inl (cI, 5, .inl (fun _ => 0)))]) (wr := []) (w1 := fun _ => []) (fun hPc hDc => va_runV (As := [.int a1, .int a2, .int 3]) (rest := [.int (-3)]) ⟨hx, hb, hml, hown, hts⟩ (kX12_copy_24 l dC dI cI c2 q49 q50 q51 q52 q53 q54 q55 q56 q57 q58 q59 q60 q61 q62 q63 q64 q65 q66 q67 H.size a1 a2 (by omega) (by omega) (by omega) (by omega)) (cwV 3 hts gL_law_X12_copy rfl rfl rfl (by decide +kernel) ⟨Nat.le_of_ble_eq_true rfl, Nat.le_of_ble_eq_true rfl⟩) (pre_V hPc hK hDc hN (ci := 12) (q0 := 0) rfl rfl) rfl rfl hl.1 rfl (lv_room (Nat.le_of_ble_eq_true rfl)) dL_law_963 ⟨Nat.le_of_ble_eq_true rfl, Nat.le_of_ble_eq_true rfl⟩) hP hD hS hA [0, 1] [] rfl rfl (by decide) (by decide) (by decide) (fun u H locs hP hD hS => ?_)
                      have hP : va_P (dC, dI) vwCl [] H := hP
                      have hD : va_D A [] := hD
                      refine lv_icmp_eq (tgt := 1080) hx hb dL_law_966 (by decide) (fun _ => ?_) (fun h9 => absurd (by decide +kernel) h9)
                      refine lv_iinc (v := 4) (lv' := [(3, .int 4), (2, .ref q49), (1, .ref q1), (0, .ref b)]) hx hb dL_law_1080 hl (k := 0) rfl (by decide +kernel) (by decide) rfl (fun ls hl => ?_)
                      refine lv_goto (tgt := 18) hx hb dL_law_1083 (by decide) ?_
                      refine lv_iload_n hx hb dL_law_18 rfl (lv_at hl 0 rfl) ?_
                      refine lv_aload_n hx hb dL_law_19 rfl (lv_at hl 3 rfl) ?_
                      refine va_slen hx hb hX hbl hbA hS dL_law_20 (tk_i (v := 4) (by decide +kernel) ?_)
                      refine lv_iconst (v := 4) hx hb dL_law_21 (by decide) ?_
                      refine lv_isub hx hb dL_law_22 (tk_i (v := 0) (by decide +kernel) ?_)
                      refine lv_icmp_gt (tgt := 1086) hx hb dL_law_23 (by decide) (fun _ => ?_) (fun h9 => absurd (by decide +kernel) h9)
                      refine lv_iconst (v := 1) hx hb dL_law_1086 (by decide) ?_
                      refine va_forget (fun q hq => by have h9 := hS.2.2 q hq; rw [← hAe] at h9; exact h9) ?_
                      refine W.widen (k := 600000) (n := 7302250) (by decide) (by decide) ?_
                      exact lw_ret hx hb hr hlocks dL_law_1087
                ·
                  rcases (show a3.toInt ≤ 4 ∨ 5 ≤ a3.toInt by omega) with g_a3_5 | g_a3_5
                  ·
                    rcases (show a1.toInt ≤ 8 ∨ 9 ≤ a1.toInt by omega) with g_a1_9 | g_a1_9
                    ·
                      rcases (show a2.toInt ≤ (-1) ∨ 0 ≤ a2.toInt by omega) with g_a2_0 | g_a2_0
                      ·
                        have e_a3 : a3 = 4 := ib_eq (X := 4) (by omega) (by decide +kernel)
                        subst e_a3
                        refine lv_aload_n hx hb dL_law_928 rfl (lv_at hl 2 rfl) ?_
                        refine lv_aload_n hx hb dL_law_929 rfl (lv_at hl 3 rfl) ?_
                        refine lv_iload_n hx hb dL_law_930 rfl (lv_at hl 0 rfl) ?_
                        refine lv_iconst (v := 1) hx hb dL_law_931 (by decide) ?_
                        refine lv_iadd hx hb dL_law_932 (tk_i (v := 1) (by decide +kernel) ?_)
                        refine va_sld hx hb hX hbl hbA hS (vin (by decide +kernel)) dL_law_933 (tk_i (v := a1) ha1 ?_)
                        refine lv_aload_n hx hb dL_law_934 rfl (lv_at hl 3 rfl) ?_
                        refine lv_iload_n hx hb dL_law_935 rfl (lv_at hl 0 rfl) ?_
                        refine lv_iconst (v := 2) hx hb dL_law_936 (by decide) ?_
                        refine lv_iadd hx hb dL_law_937 (tk_i (v := 2) (by decide +kernel) ?_)
                        refine va_sld hx hb hX hbl hbA hS (vin (by decide +kernel)) dL_law_938 (tk_i (v := a2) ha2 ?_)
                        refine lv_aload_n hx hb dL_law_939 rfl (lv_at hl 3 rfl) ?_
                        refine lv_iload_n hx hb dL_law_940 rfl (lv_at hl 0 rfl) ?_
                        refine lv_iconst (v := 3) hx hb dL_law_941 (by decide) ?_
                        refine lv_iadd hx hb dL_law_942 (tk_i (v := 3) (by decide +kernel) ?_)
                        refine va_sld hx hb hX hbl hbA hS (vin (by decide +kernel)) dL_law_943 (tk_i (v := 4) ha3 ?_)
                        refine kcall_i (D := (dC, dI)) (S := Unit) (v := (-3)) (wc := [(q1, .inr (11, [.ref q2, .ref q4, .ref q6, .ref q18, .ref q23, .ref q28, .ref q33, .ref q36, .ref q37, .ref q40, .ref q44, .ref q48, .int 0])), (q4, .inr (10, [.ref q5, .int 0, .int 0])), (q48, .inl (cI, 5, .inl (fun _ => 0)))]) (wr := [(q49, .inr (12, [.int 0, .ref q50, .int 0, .ref q51, .int 0, .ref q52, .ref q53, .int 0, .ref q54, .int 0, .ref q55, .int (-9), .int 0, .int 0, .ref q56, .ref q57, .ref q58, .ref q59, .ref q60, .int 0, .ref q61, .ref q62, .ref q63, .int 0, .ref q64, .ref q65, .ref q66, .int 0, .ref q67])), (q50, .inl (cI, 5, .inl (fun _ => 0)))]) (w1 := fun _ => []) (fun hPc hDc => va_runV (As := [.int a1, .int a2, .int 4]) (rest := []) ⟨hx, hb, hml, hown, hts⟩ (kX11_copy_25 l dC dI cI c2 q1 q4 q48 q2 q6 q18 q23 q28 q33 q36 q37 q40 q44 q5 H.size a1 a2 (by omega) (by omega) (by omega) (by omega)) (cwV 3 hts gL_law_X11_copy rfl rfl rfl (by decide +kernel) ⟨Nat.le_of_ble_eq_true rfl, Nat.le_of_ble_eq_true rfl⟩) (pre_V hPc hK hDc hN (ci := 11) (q0 := 0) rfl rfl) rfl rfl hl.1 rfl (lv_room (Nat.le_of_ble_eq_true rfl)) dL_law_944 ⟨Nat.le_of_ble_eq_true rfl, Nat.le_of_ble_eq_true rfl⟩) hP hD hS hA [0, 3, 27] [28, 29] rfl rfl (by decide) (by decide) (by decide) (fun u H locs hP hD hS => ?_)
                        have hP : va_P (dC, dI) vwCl [(q49, .inr (12, [.int 0, .ref q50, .int 0, .ref q51, .int 0, .ref q52, .ref q53, .int 0, .ref q54, .int 0, .ref q55, .int (-9), .int 0, .int 0, .ref q56, .ref q57, .ref q58, .ref q59, .ref q60, .int 0, .ref q61, .ref q62, .ref q63, .int 0, .ref q64, .ref q65, .ref q66, .int 0, .ref q67])), (q50, .inl (cI, 5, .inl (fun _ => 0)))] H := hP
                        have hD : va_D A [(q49, .inr (12, [.int 0, .ref q50, .int 0, .ref q51, .int 0, .ref q52, .ref q53, .int 0, .ref q54, .int 0, .ref q55, .int (-9), .int 0, .int 0, .ref q56, .ref q57, .ref q58, .ref q59, .ref q60, .int 0, .ref q61, .ref q62, .ref q63, .int 0, .ref q64, .ref q65, .ref q66, .int 0, .ref q67])), (q50, .inl (cI, 5, .inl (fun _ => 0)))] := hD
                        refine lv_aload_n hx hb dL_law_947 rfl (lv_at hl 1 rfl) ?_
                        refine lv_aload_n hx hb dL_law_948 rfl (lv_at hl 3 rfl) ?_
                        refine lv_iload_n hx hb dL_law_949 rfl (lv_at hl 0 rfl) ?_
                        refine lv_iconst (v := 1) hx hb dL_law_950 (by decide) ?_
                        refine lv_iadd hx hb dL_law_951 (tk_i (v := 1) (by decide +kernel) ?_)
                        refine va_sld hx hb hX hbl hbA hS (vin (by decide +kernel)) dL_law_952 (tk_i (v := a1) ha1 ?_)
                        refine lv_aload_n hx hb dL_law_953 rfl (lv_at hl 3 rfl) ?_
                        refine lv_iload_n hx hb dL_law_954 rfl (lv_at hl 0 rfl) ?_
                        refine lv_iconst (v := 2) hx hb dL_law_955 (by decide) ?_
                        refine lv_iadd hx hb dL_law_956 (tk_i (v := 2) (by decide +kernel) ?_)
                        refine va_sld hx hb hX hbl hbA hS (vin (by decide +kernel)) dL_law_957 (tk_i (v := a2) ha2 ?_)
                        refine lv_aload_n hx hb dL_law_958 rfl (lv_at hl 3 rfl) ?_
                        refine lv_iload_n hx hb dL_law_959 rfl (lv_at hl 0 rfl) ?_
                        refine lv_iconst (v := 3) hx hb dL_law_960 (by decide) ?_
                        refine lv_iadd hx hb dL_law_961 (tk_i (v := 3) (by decide +kernel) ?_)
                        refine va_sld hx hb hX hbl hbA hS (vin (by decide +kernel)) dL_law_962 (tk_i (v := 4) ha3 ?_)
                        refine kcall_i (D := (dC, dI)) (S := Unit) (v := (-3)) (wc := [(q49, .inr (12, [.int 0, .ref q50, .int 0, .ref q51, .int 0, .ref q52, .ref q53, .int 0, .ref q54, .int 0, .ref q55, .int (-9), .int 0, .int 0, .ref q56, .ref q57, .ref q58, .ref q59, .ref q60, .int 0, .ref q61, .ref q62, .ref q63, .int 0, .ref q64, .ref q65, .ref q66, .int 0, .ref q67])), (q50, .inl (cI, 5, .inl (fun _ => 0)))]) (wr := []) (w1 := fun _ => []) (fun hPc hDc => va_runV (As := [.int a1, .int a2, .int 4]) (rest := [.int (-3)]) ⟨hx, hb, hml, hown, hts⟩ (kX12_copy_25 l dC dI cI c2 q49 q50 q51 q52 q53 q54 q55 q56 q57 q58 q59 q60 q61 q62 q63 q64 q65 q66 q67 H.size a1 a2 (by omega) (by omega) (by omega) (by omega)) (cwV 3 hts gL_law_X12_copy rfl rfl rfl (by decide +kernel) ⟨Nat.le_of_ble_eq_true rfl, Nat.le_of_ble_eq_true rfl⟩) (pre_V hPc hK hDc hN (ci := 12) (q0 := 0) rfl rfl) rfl rfl hl.1 rfl (lv_room (Nat.le_of_ble_eq_true rfl)) dL_law_963 ⟨Nat.le_of_ble_eq_true rfl, Nat.le_of_ble_eq_true rfl⟩) hP hD hS hA [0, 1] [] rfl rfl (by decide) (by decide) (by decide) (fun u H locs hP hD hS => ?_)
                        have hP : va_P (dC, dI) vwCl [] H := hP
                        have hD : va_D A [] := hD
                        refine lv_icmp_eq (tgt := 1080) hx hb dL_law_966 (by decide) (fun _ => ?_) (fun h9 => absurd (by decide +kernel) h9)
                        refine lv_iinc (v := 4) (lv' := [(3, .int 4), (2, .ref q49), (1, .ref q1), (0, .ref b)]) hx hb dL_law_1080 hl (k := 0) rfl (by decide +kernel) (by decide) rfl (fun ls hl => ?_)
                        refine lv_goto (tgt := 18) hx hb dL_law_1083 (by decide) ?_
                        refine lv_iload_n hx hb dL_law_18 rfl (lv_at hl 0 rfl) ?_
                        refine lv_aload_n hx hb dL_law_19 rfl (lv_at hl 3 rfl) ?_
                        refine va_slen hx hb hX hbl hbA hS dL_law_20 (tk_i (v := 4) (by decide +kernel) ?_)
                        refine lv_iconst (v := 4) hx hb dL_law_21 (by decide) ?_
                        refine lv_isub hx hb dL_law_22 (tk_i (v := 0) (by decide +kernel) ?_)
                        refine lv_icmp_gt (tgt := 1086) hx hb dL_law_23 (by decide) (fun _ => ?_) (fun h9 => absurd (by decide +kernel) h9)
                        refine lv_iconst (v := 1) hx hb dL_law_1086 (by decide) ?_
                        refine va_forget (fun q hq => by have h9 := hS.2.2 q hq; rw [← hAe] at h9; exact h9) ?_
                        refine W.widen (k := 600000) (n := 7302250) (by decide) (by decide) ?_
                        exact lw_ret hx hb hr hlocks dL_law_1087
                      ·
                        rcases (show a2.toInt ≤ 12 ∨ 13 ≤ a2.toInt by omega) with g_a2_13 | g_a2_13
                        ·
                          rcases (show a2.toInt ≤ 8 ∨ 9 ≤ a2.toInt by omega) with g_a2_9 | g_a2_9
                          ·
                            have e_a3 : a3 = 4 := ib_eq (X := 4) (by omega) (by decide +kernel)
                            subst e_a3
                            refine lv_aload_n hx hb dL_law_928 rfl (lv_at hl 2 rfl) ?_
                            refine lv_aload_n hx hb dL_law_929 rfl (lv_at hl 3 rfl) ?_
                            refine lv_iload_n hx hb dL_law_930 rfl (lv_at hl 0 rfl) ?_
                            refine lv_iconst (v := 1) hx hb dL_law_931 (by decide) ?_
                            refine lv_iadd hx hb dL_law_932 (tk_i (v := 1) (by decide +kernel) ?_)
                            refine va_sld hx hb hX hbl hbA hS (vin (by decide +kernel)) dL_law_933 (tk_i (v := a1) ha1 ?_)
                            refine lv_aload_n hx hb dL_law_934 rfl (lv_at hl 3 rfl) ?_
                            refine lv_iload_n hx hb dL_law_935 rfl (lv_at hl 0 rfl) ?_
                            refine lv_iconst (v := 2) hx hb dL_law_936 (by decide) ?_
                            refine lv_iadd hx hb dL_law_937 (tk_i (v := 2) (by decide +kernel) ?_)
                            refine va_sld hx hb hX hbl hbA hS (vin (by decide +kernel)) dL_law_938 (tk_i (v := a2) ha2 ?_)
                            refine lv_aload_n hx hb dL_law_939 rfl (lv_at hl 3 rfl) ?_
                            refine lv_iload_n hx hb dL_law_940 rfl (lv_at hl 0 rfl) ?_
                            refine lv_iconst (v := 3) hx hb dL_law_941 (by decide) ?_
                            refine lv_iadd hx hb dL_law_942 (tk_i (v := 3) (by decide +kernel) ?_)
                            refine va_sld hx hb hX hbl hbA hS (vin (by decide +kernel)) dL_law_943 (tk_i (v := 4) ha3 ?_)
                            refine kcall_i (D := (dC, dI)) (S := Unit) (v := 1) (wc := [(q1, .inr (11, [.ref q2, .ref q4, .ref q6, .ref q18, .ref q23, .ref q28, .ref q33, .ref q36, .ref q37, .ref q40, .ref q44, .ref q48, .int 0])), (q4, .inr (10, [.ref q5, .int 0, .int 0])), (q5, .inl (cI, 12, .inl (fun _ => (-1))))]) (wr := [(q49, .inr (12, [.int 0, .ref q50, .int 0, .ref q51, .int 0, .ref q52, .ref q53, .int 0, .ref q54, .int 0, .ref q55, .int (-9), .int 0, .int 0, .ref q56, .ref q57, .ref q58, .ref q59, .ref q60, .int 0, .ref q61, .ref q62, .ref q63, .int 0, .ref q64, .ref q65, .ref q66, .int 0, .ref q67])), (q52, .inl (cI, 12, .inl (fun _ => (-9)))), (q67, .inl (cI, 12, .inl (fun _ => 0)))]) (w1 := fun _ => []) (fun hPc hDc => va_runV (As := [.int a1, .int a2, .int 4]) (rest := []) ⟨hx, hb, hml, hown, hts⟩ (kX11_copy_26 l dC dI cI c2 q1 q4 q5 q2 q6 q18 q23 q28 q33 q36 q37 q40 q44 q48 H.size a1 a2 (by omega) (by omega) (by omega) (by omega)) (cwV 3 hts gL_law_X11_copy rfl rfl rfl (by decide +kernel) ⟨Nat.le_of_ble_eq_true rfl, Nat.le_of_ble_eq_true rfl⟩) (pre_V hPc hK hDc hN (ci := 11) (q0 := 0) rfl rfl) rfl rfl hl.1 rfl (lv_room (Nat.le_of_ble_eq_true rfl)) dL_law_944 ⟨Nat.le_of_ble_eq_true rfl, Nat.le_of_ble_eq_true rfl⟩) hP hD hS hA [0, 3, 4] [28, 31, 36] rfl rfl (by decide) (by decide) (by decide) (fun u H locs hP hD hS => ?_)
                            have hP : va_P (dC, dI) vwCl [(q49, .inr (12, [.int 0, .ref q50, .int 0, .ref q51, .int 0, .ref q52, .ref q53, .int 0, .ref q54, .int 0, .ref q55, .int (-9), .int 0, .int 0, .ref q56, .ref q57, .ref q58, .ref q59, .ref q60, .int 0, .ref q61, .ref q62, .ref q63, .int 0, .ref q64, .ref q65, .ref q66, .int 0, .ref q67])), (q52, .inl (cI, 12, .inl (fun _ => (-9)))), (q67, .inl (cI, 12, .inl (fun _ => 0)))] H := hP
                            have hD : va_D A [(q49, .inr (12, [.int 0, .ref q50, .int 0, .ref q51, .int 0, .ref q52, .ref q53, .int 0, .ref q54, .int 0, .ref q55, .int (-9), .int 0, .int 0, .ref q56, .ref q57, .ref q58, .ref q59, .ref q60, .int 0, .ref q61, .ref q62, .ref q63, .int 0, .ref q64, .ref q65, .ref q66, .int 0, .ref q67])), (q52, .inl (cI, 12, .inl (fun _ => (-9)))), (q67, .inl (cI, 12, .inl (fun _ => 0)))] := hD
                            refine lv_aload_n hx hb dL_law_947 rfl (lv_at hl 1 rfl) ?_
                            refine lv_aload_n hx hb dL_law_948 rfl (lv_at hl 3 rfl) ?_
                            refine lv_iload_n hx hb dL_law_949 rfl (lv_at hl 0 rfl) ?_
                            refine lv_iconst (v := 1) hx hb dL_law_950 (by decide) ?_
                            refine lv_iadd hx hb dL_law_951 (tk_i (v := 1) (by decide +kernel) ?_)
                            refine va_sld hx hb hX hbl hbA hS (vin (by decide +kernel)) dL_law_952 (tk_i (v := a1) ha1 ?_)
                            refine lv_aload_n hx hb dL_law_953 rfl (lv_at hl 3 rfl) ?_
                            refine lv_iload_n hx hb dL_law_954 rfl (lv_at hl 0 rfl) ?_
                            refine lv_iconst (v := 2) hx hb dL_law_955 (by decide) ?_
                            refine lv_iadd hx hb dL_law_956 (tk_i (v := 2) (by decide +kernel) ?_)
                            refine va_sld hx hb hX hbl hbA hS (vin (by decide +kernel)) dL_law_957 (tk_i (v := a2) ha2 ?_)
                            refine lv_aload_n hx hb dL_law_958 rfl (lv_at hl 3 rfl) ?_
                            refine lv_iload_n hx hb dL_law_959 rfl (lv_at hl 0 rfl) ?_
                            refine lv_iconst (v := 3) hx hb dL_law_960 (by decide) ?_
                            refine lv_iadd hx hb dL_law_961 (tk_i (v := 3) (by decide +kernel) ?_)
                            refine va_sld hx hb hX hbl hbA hS (vin (by decide +kernel)) dL_law_962 (tk_i (v := 4) ha3 ?_)
                            refine kcall_i (D := (dC, dI)) (S := Unit) (v := 1) (wc := [(q49, .inr (12, [.int 0, .ref q50, .int 0, .ref q51, .int 0, .ref q52, .ref q53, .int 0, .ref q54, .int 0, .ref q55, .int (-9), .int 0, .int 0, .ref q56, .ref q57, .ref q58, .ref q59, .ref q60, .int 0, .ref q61, .ref q62, .ref q63, .int 0, .ref q64, .ref q65, .ref q66, .int 0, .ref q67])), (q52, .inl (cI, 12, .inl (fun _ => (-9)))), (q67, .inl (cI, 12, .inl (fun _ => 0)))]) (wr := []) (w1 := fun _ => []) (fun hPc hDc => va_runV (As := [.int a1, .int a2, .int 4]) (rest := [.int 1]) ⟨hx, hb, hml, hown, hts⟩ (kX12_copy_26 l dC dI cI c2 q49 q52 q67 q50 q51 q53 q54 q55 q56 q57 q58 q59 q60 q61 q62 q63 q64 q65 q66 H.size a1 a2 (by omega) (by omega) (by omega) (by omega)) (cwV 3 hts gL_law_X12_copy rfl rfl rfl (by decide +kernel) ⟨Nat.le_of_ble_eq_true rfl, Nat.le_of_ble_eq_true rfl⟩) (pre_V hPc hK hDc hN (ci := 12) (q0 := 0) rfl rfl) rfl rfl hl.1 rfl (lv_room (Nat.le_of_ble_eq_true rfl)) dL_law_963 ⟨Nat.le_of_ble_eq_true rfl, Nat.le_of_ble_eq_true rfl⟩) hP hD hS hA [0, 1, 2] [] rfl rfl (by decide) (by decide) (by decide) (fun u H locs hP hD hS => ?_)
                            have hP : va_P (dC, dI) vwCl [] H := hP
                            have hD : va_D A [] := hD
                            refine lv_icmp_eq (tgt := 1080) hx hb dL_law_966 (by decide) (fun _ => ?_) (fun h9 => absurd (by decide +kernel) h9)
                            refine lv_iinc (v := 4) (lv' := [(3, .int 4), (2, .ref q49), (1, .ref q1), (0, .ref b)]) hx hb dL_law_1080 hl (k := 0) rfl (by decide +kernel) (by decide) rfl (fun ls hl => ?_)
                            refine lv_goto (tgt := 18) hx hb dL_law_1083 (by decide) ?_
                            refine lv_iload_n hx hb dL_law_18 rfl (lv_at hl 0 rfl) ?_
                            refine lv_aload_n hx hb dL_law_19 rfl (lv_at hl 3 rfl) ?_
                            refine va_slen hx hb hX hbl hbA hS dL_law_20 (tk_i (v := 4) (by decide +kernel) ?_)
                            refine lv_iconst (v := 4) hx hb dL_law_21 (by decide) ?_
                            refine lv_isub hx hb dL_law_22 (tk_i (v := 0) (by decide +kernel) ?_)
                            refine lv_icmp_gt (tgt := 1086) hx hb dL_law_23 (by decide) (fun _ => ?_) (fun h9 => absurd (by decide +kernel) h9)
                            refine lv_iconst (v := 1) hx hb dL_law_1086 (by decide) ?_
                            refine va_forget (fun q hq => by have h9 := hS.2.2 q hq; rw [← hAe] at h9; exact h9) ?_
                            refine W.widen (k := 600000) (n := 7302250) (by decide) (by decide) ?_
                            exact lw_ret hx hb hr hlocks dL_law_1087
                          ·
                            have e_a3 : a3 = 4 := ib_eq (X := 4) (by omega) (by decide +kernel)
                            subst e_a3
                            refine lv_aload_n hx hb dL_law_928 rfl (lv_at hl 2 rfl) ?_
                            refine lv_aload_n hx hb dL_law_929 rfl (lv_at hl 3 rfl) ?_
                            refine lv_iload_n hx hb dL_law_930 rfl (lv_at hl 0 rfl) ?_
                            refine lv_iconst (v := 1) hx hb dL_law_931 (by decide) ?_
                            refine lv_iadd hx hb dL_law_932 (tk_i (v := 1) (by decide +kernel) ?_)
                            refine va_sld hx hb hX hbl hbA hS (vin (by decide +kernel)) dL_law_933 (tk_i (v := a1) ha1 ?_)
                            refine lv_aload_n hx hb dL_law_934 rfl (lv_at hl 3 rfl) ?_
                            refine lv_iload_n hx hb dL_law_935 rfl (lv_at hl 0 rfl) ?_
                            refine lv_iconst (v := 2) hx hb dL_law_936 (by decide) ?_
                            refine lv_iadd hx hb dL_law_937 (tk_i (v := 2) (by decide +kernel) ?_)
                            refine va_sld hx hb hX hbl hbA hS (vin (by decide +kernel)) dL_law_938 (tk_i (v := a2) ha2 ?_)
                            refine lv_aload_n hx hb dL_law_939 rfl (lv_at hl 3 rfl) ?_
                            refine lv_iload_n hx hb dL_law_940 rfl (lv_at hl 0 rfl) ?_
                            refine lv_iconst (v := 3) hx hb dL_law_941 (by decide) ?_
                            refine lv_iadd hx hb dL_law_942 (tk_i (v := 3) (by decide +kernel) ?_)
                            refine va_sld hx hb hX hbl hbA hS (vin (by decide +kernel)) dL_law_943 (tk_i (v := 4) ha3 ?_)
                            refine kcall_i (D := (dC, dI)) (S := Unit) (v := (-3)) (wc := [(q1, .inr (11, [.ref q2, .ref q4, .ref q6, .ref q18, .ref q23, .ref q28, .ref q33, .ref q36, .ref q37, .ref q40, .ref q44, .ref q48, .int 0])), (q4, .inr (10, [.ref q5, .int 0, .int 0])), (q48, .inl (cI, 5, .inl (fun _ => 0)))]) (wr := [(q49, .inr (12, [.int 0, .ref q50, .int 0, .ref q51, .int 0, .ref q52, .ref q53, .int 0, .ref q54, .int 0, .ref q55, .int (-9), .int 0, .int 0, .ref q56, .ref q57, .ref q58, .ref q59, .ref q60, .int 0, .ref q61, .ref q62, .ref q63, .int 0, .ref q64, .ref q65, .ref q66, .int 0, .ref q67])), (q50, .inl (cI, 5, .inl (fun _ => 0)))]) (w1 := fun _ => []) (fun hPc hDc => va_runV (As := [.int a1, .int a2, .int 4]) (rest := []) ⟨hx, hb, hml, hown, hts⟩ (kX11_copy_27 l dC dI cI c2 q1 q4 q48 q2 q6 q18 q23 q28 q33 q36 q37 q40 q44 q5 H.size a1 a2 (by omega) (by omega) (by omega) (by omega)) (cwV 3 hts gL_law_X11_copy rfl rfl rfl (by decide +kernel) ⟨Nat.le_of_ble_eq_true rfl, Nat.le_of_ble_eq_true rfl⟩) (pre_V hPc hK hDc hN (ci := 11) (q0 := 0) rfl rfl) rfl rfl hl.1 rfl (lv_room (Nat.le_of_ble_eq_true rfl)) dL_law_944 ⟨Nat.le_of_ble_eq_true rfl, Nat.le_of_ble_eq_true rfl⟩) hP hD hS hA [0, 3, 27] [28, 29] rfl rfl (by decide) (by decide) (by decide) (fun u H locs hP hD hS => ?_)
                            have hP : va_P (dC, dI) vwCl [(q49, .inr (12, [.int 0, .ref q50, .int 0, .ref q51, .int 0, .ref q52, .ref q53, .int 0, .ref q54, .int 0, .ref q55, .int (-9), .int 0, .int 0, .ref q56, .ref q57, .ref q58, .ref q59, .ref q60, .int 0, .ref q61, .ref q62, .ref q63, .int 0, .ref q64, .ref q65, .ref q66, .int 0, .ref q67])), (q50, .inl (cI, 5, .inl (fun _ => 0)))] H := hP
                            have hD : va_D A [(q49, .inr (12, [.int 0, .ref q50, .int 0, .ref q51, .int 0, .ref q52, .ref q53, .int 0, .ref q54, .int 0, .ref q55, .int (-9), .int 0, .int 0, .ref q56, .ref q57, .ref q58, .ref q59, .ref q60, .int 0, .ref q61, .ref q62, .ref q63, .int 0, .ref q64, .ref q65, .ref q66, .int 0, .ref q67])), (q50, .inl (cI, 5, .inl (fun _ => 0)))] := hD
                            refine lv_aload_n hx hb dL_law_947 rfl (lv_at hl 1 rfl) ?_
                            refine lv_aload_n hx hb dL_law_948 rfl (lv_at hl 3 rfl) ?_
                            refine lv_iload_n hx hb dL_law_949 rfl (lv_at hl 0 rfl) ?_
                            refine lv_iconst (v := 1) hx hb dL_law_950 (by decide) ?_
                            refine lv_iadd hx hb dL_law_951 (tk_i (v := 1) (by decide +kernel) ?_)
                            refine va_sld hx hb hX hbl hbA hS (vin (by decide +kernel)) dL_law_952 (tk_i (v := a1) ha1 ?_)
                            refine lv_aload_n hx hb dL_law_953 rfl (lv_at hl 3 rfl) ?_
                            refine lv_iload_n hx hb dL_law_954 rfl (lv_at hl 0 rfl) ?_
                            refine lv_iconst (v := 2) hx hb dL_law_955 (by decide) ?_
                            refine lv_iadd hx hb dL_law_956 (tk_i (v := 2) (by decide +kernel) ?_)
                            refine va_sld hx hb hX hbl hbA hS (vin (by decide +kernel)) dL_law_957 (tk_i (v := a2) ha2 ?_)
                            refine lv_aload_n hx hb dL_law_958 rfl (lv_at hl 3 rfl) ?_
                            refine lv_iload_n hx hb dL_law_959 rfl (lv_at hl 0 rfl) ?_
                            refine lv_iconst (v := 3) hx hb dL_law_960 (by decide) ?_
                            refine lv_iadd hx hb dL_law_961 (tk_i (v := 3) (by decide +kernel) ?_)
                            refine va_sld hx hb hX hbl hbA hS (vin (by decide +kernel)) dL_law_962 (tk_i (v := 4) ha3 ?_)
                            refine kcall_i (D := (dC, dI)) (S := Unit) (v := (-3)) (wc := [(q49, .inr (12, [.int 0, .ref q50, .int 0, .ref q51, .int 0, .ref q52, .ref q53, .int 0, .ref q54, .int 0, .ref q55, .int (-9), .int 0, .int 0, .ref q56, .ref q57, .ref q58, .ref q59, .ref q60, .int 0, .ref q61, .ref q62, .ref q63, .int 0, .ref q64, .ref q65, .ref q66, .int 0, .ref q67])), (q50, .inl (cI, 5, .inl (fun _ => 0)))]) (wr := []) (w1 := fun _ => []) (fun hPc hDc => va_runV (As := [.int a1, .int a2, .int 4]) (rest := [.int (-3)]) ⟨hx, hb, hml, hown, hts⟩ (kX12_copy_27 l dC dI cI c2 q49 q50 q51 q52 q53 q54 q55 q56 q57 q58 q59 q60 q61 q62 q63 q64 q65 q66 q67 H.size a1 a2 (by omega) (by omega) (by omega) (by omega)) (cwV 3 hts gL_law_X12_copy rfl rfl rfl (by decide +kernel) ⟨Nat.le_of_ble_eq_true rfl, Nat.le_of_ble_eq_true rfl⟩) (pre_V hPc hK hDc hN (ci := 12) (q0 := 0) rfl rfl) rfl rfl hl.1 rfl (lv_room (Nat.le_of_ble_eq_true rfl)) dL_law_963 ⟨Nat.le_of_ble_eq_true rfl, Nat.le_of_ble_eq_true rfl⟩) hP hD hS hA [0, 1] [] rfl rfl (by decide) (by decide) (by decide) (fun u H locs hP hD hS => ?_)
                            have hP : va_P (dC, dI) vwCl [] H := hP
                            have hD : va_D A [] := hD
                            refine lv_icmp_eq (tgt := 1080) hx hb dL_law_966 (by decide) (fun _ => ?_) (fun h9 => absurd (by decide +kernel) h9)
                            refine lv_iinc (v := 4) (lv' := [(3, .int 4), (2, .ref q49), (1, .ref q1), (0, .ref b)]) hx hb dL_law_1080 hl (k := 0) rfl (by decide +kernel) (by decide) rfl (fun ls hl => ?_)
                            refine lv_goto (tgt := 18) hx hb dL_law_1083 (by decide) ?_
                            refine lv_iload_n hx hb dL_law_18 rfl (lv_at hl 0 rfl) ?_
                            refine lv_aload_n hx hb dL_law_19 rfl (lv_at hl 3 rfl) ?_
                            refine va_slen hx hb hX hbl hbA hS dL_law_20 (tk_i (v := 4) (by decide +kernel) ?_)
                            refine lv_iconst (v := 4) hx hb dL_law_21 (by decide) ?_
                            refine lv_isub hx hb dL_law_22 (tk_i (v := 0) (by decide +kernel) ?_)
                            refine lv_icmp_gt (tgt := 1086) hx hb dL_law_23 (by decide) (fun _ => ?_) (fun h9 => absurd (by decide +kernel) h9)
                            refine lv_iconst (v := 1) hx hb dL_law_1086 (by decide) ?_
                            refine va_forget (fun q hq => by have h9 := hS.2.2 q hq; rw [← hAe] at h9; exact h9) ?_
                            refine W.widen (k := 600000) (n := 7302250) (by decide) (by decide) ?_
                            exact lw_ret hx hb hr hlocks dL_law_1087
                        ·
                          have e_a3 : a3 = 4 := ib_eq (X := 4) (by omega) (by decide +kernel)
                          subst e_a3
                          refine lv_aload_n hx hb dL_law_928 rfl (lv_at hl 2 rfl) ?_
                          refine lv_aload_n hx hb dL_law_929 rfl (lv_at hl 3 rfl) ?_
                          refine lv_iload_n hx hb dL_law_930 rfl (lv_at hl 0 rfl) ?_
                          refine lv_iconst (v := 1) hx hb dL_law_931 (by decide) ?_
                          refine lv_iadd hx hb dL_law_932 (tk_i (v := 1) (by decide +kernel) ?_)
                          refine va_sld hx hb hX hbl hbA hS (vin (by decide +kernel)) dL_law_933 (tk_i (v := a1) ha1 ?_)
                          refine lv_aload_n hx hb dL_law_934 rfl (lv_at hl 3 rfl) ?_
                          refine lv_iload_n hx hb dL_law_935 rfl (lv_at hl 0 rfl) ?_
                          refine lv_iconst (v := 2) hx hb dL_law_936 (by decide) ?_
                          refine lv_iadd hx hb dL_law_937 (tk_i (v := 2) (by decide +kernel) ?_)
                          refine va_sld hx hb hX hbl hbA hS (vin (by decide +kernel)) dL_law_938 (tk_i (v := a2) ha2 ?_)
                          refine lv_aload_n hx hb dL_law_939 rfl (lv_at hl 3 rfl) ?_
                          refine lv_iload_n hx hb dL_law_940 rfl (lv_at hl 0 rfl) ?_
                          refine lv_iconst (v := 3) hx hb dL_law_941 (by decide) ?_
                          refine lv_iadd hx hb dL_law_942 (tk_i (v := 3) (by decide +kernel) ?_)
                          refine va_sld hx hb hX hbl hbA hS (vin (by decide +kernel)) dL_law_943 (tk_i (v := 4) ha3 ?_)
                          refine kcall_i (D := (dC, dI)) (S := Unit) (v := (-3)) (wc := [(q1, .inr (11, [.ref q2, .ref q4, .ref q6, .ref q18, .ref q23, .ref q28, .ref q33, .ref q36, .ref q37, .ref q40, .ref q44, .ref q48, .int 0])), (q4, .inr (10, [.ref q5, .int 0, .int 0])), (q48, .inl (cI, 5, .inl (fun _ => 0)))]) (wr := [(q49, .inr (12, [.int 0, .ref q50, .int 0, .ref q51, .int 0, .ref q52, .ref q53, .int 0, .ref q54, .int 0, .ref q55, .int (-9), .int 0, .int 0, .ref q56, .ref q57, .ref q58, .ref q59, .ref q60, .int 0, .ref q61, .ref q62, .ref q63, .int 0, .ref q64, .ref q65, .ref q66, .int 0, .ref q67])), (q50, .inl (cI, 5, .inl (fun _ => 0)))]) (w1 := fun _ => []) (fun hPc hDc => va_runV (As := [.int a1, .int a2, .int 4]) (rest := []) ⟨hx, hb, hml, hown, hts⟩ (kX11_copy_28 l dC dI cI c2 q1 q4 q48 q2 q6 q18 q23 q28 q33 q36 q37 q40 q44 q5 H.size a1 a2 (by omega) (by omega) (by omega) (by omega)) (cwV 3 hts gL_law_X11_copy rfl rfl rfl (by decide +kernel) ⟨Nat.le_of_ble_eq_true rfl, Nat.le_of_ble_eq_true rfl⟩) (pre_V hPc hK hDc hN (ci := 11) (q0 := 0) rfl rfl) rfl rfl hl.1 rfl (lv_room (Nat.le_of_ble_eq_true rfl)) dL_law_944 ⟨Nat.le_of_ble_eq_true rfl, Nat.le_of_ble_eq_true rfl⟩) hP hD hS hA [0, 3, 27] [28, 29] rfl rfl (by decide) (by decide) (by decide) (fun u H locs hP hD hS => ?_)
                          have hP : va_P (dC, dI) vwCl [(q49, .inr (12, [.int 0, .ref q50, .int 0, .ref q51, .int 0, .ref q52, .ref q53, .int 0, .ref q54, .int 0, .ref q55, .int (-9), .int 0, .int 0, .ref q56, .ref q57, .ref q58, .ref q59, .ref q60, .int 0, .ref q61, .ref q62, .ref q63, .int 0, .ref q64, .ref q65, .ref q66, .int 0, .ref q67])), (q50, .inl (cI, 5, .inl (fun _ => 0)))] H := hP
                          have hD : va_D A [(q49, .inr (12, [.int 0, .ref q50, .int 0, .ref q51, .int 0, .ref q52, .ref q53, .int 0, .ref q54, .int 0, .ref q55, .int (-9), .int 0, .int 0, .ref q56, .ref q57, .ref q58, .ref q59, .ref q60, .int 0, .ref q61, .ref q62, .ref q63, .int 0, .ref q64, .ref q65, .ref q66, .int 0, .ref q67])), (q50, .inl (cI, 5, .inl (fun _ => 0)))] := hD
                          refine lv_aload_n hx hb dL_law_947 rfl (lv_at hl 1 rfl) ?_
                          refine lv_aload_n hx hb dL_law_948 rfl (lv_at hl 3 rfl) ?_
                          refine lv_iload_n hx hb dL_law_949 rfl (lv_at hl 0 rfl) ?_
                          refine lv_iconst (v := 1) hx hb dL_law_950 (by decide) ?_
                          refine lv_iadd hx hb dL_law_951 (tk_i (v := 1) (by decide +kernel) ?_)
                          refine va_sld hx hb hX hbl hbA hS (vin (by decide +kernel)) dL_law_952 (tk_i (v := a1) ha1 ?_)
                          refine lv_aload_n hx hb dL_law_953 rfl (lv_at hl 3 rfl) ?_
                          refine lv_iload_n hx hb dL_law_954 rfl (lv_at hl 0 rfl) ?_
                          refine lv_iconst (v := 2) hx hb dL_law_955 (by decide) ?_
                          refine lv_iadd hx hb dL_law_956 (tk_i (v := 2) (by decide +kernel) ?_)
                          refine va_sld hx hb hX hbl hbA hS (vin (by decide +kernel)) dL_law_957 (tk_i (v := a2) ha2 ?_)
                          refine lv_aload_n hx hb dL_law_958 rfl (lv_at hl 3 rfl) ?_
                          refine lv_iload_n hx hb dL_law_959 rfl (lv_at hl 0 rfl) ?_
                          refine lv_iconst (v := 3) hx hb dL_law_960 (by decide) ?_
                          refine lv_iadd hx hb dL_law_961 (tk_i (v := 3) (by decide +kernel) ?_)
                          refine va_sld hx hb hX hbl hbA hS (vin (by decide +kernel)) dL_law_962 (tk_i (v := 4) ha3 ?_)
                          refine kcall_i (D := (dC, dI)) (S := Unit) (v := (-3)) (wc := [(q49, .inr (12, [.int 0, .ref q50, .int 0, .ref q51, .int 0, .ref q52, .ref q53, .int 0, .ref q54, .int 0, .ref q55, .int (-9), .int 0, .int 0, .ref q56, .ref q57, .ref q58, .ref q59, .ref q60, .int 0, .ref q61, .ref q62, .ref q63, .int 0, .ref q64, .ref q65, .ref q66, .int 0, .ref q67])), (q50, .inl (cI, 5, .inl (fun _ => 0)))]) (wr := []) (w1 := fun _ => []) (fun hPc hDc => va_runV (As := [.int a1, .int a2, .int 4]) (rest := [.int (-3)]) ⟨hx, hb, hml, hown, hts⟩ (kX12_copy_28 l dC dI cI c2 q49 q50 q51 q52 q53 q54 q55 q56 q57 q58 q59 q60 q61 q62 q63 q64 q65 q66 q67 H.size a1 a2 (by omega) (by omega) (by omega) (by omega)) (cwV 3 hts gL_law_X12_copy rfl rfl rfl (by decide +kernel) ⟨Nat.le_of_ble_eq_true rfl, Nat.le_of_ble_eq_true rfl⟩) (pre_V hPc hK hDc hN (ci := 12) (q0 := 0) rfl rfl) rfl rfl hl.1 rfl (lv_room (Nat.le_of_ble_eq_true rfl)) dL_law_963 ⟨Nat.le_of_ble_eq_true rfl, Nat.le_of_ble_eq_true rfl⟩) hP hD hS hA [0, 1] [] rfl rfl (by decide) (by decide) (by decide) (fun u H locs hP hD hS => ?_)
                          have hP : va_P (dC, dI) vwCl [] H := hP
                          have hD : va_D A [] := hD
                          refine lv_icmp_eq (tgt := 1080) hx hb dL_law_966 (by decide) (fun _ => ?_) (fun h9 => absurd (by decide +kernel) h9)
                          refine lv_iinc (v := 4) (lv' := [(3, .int 4), (2, .ref q49), (1, .ref q1), (0, .ref b)]) hx hb dL_law_1080 hl (k := 0) rfl (by decide +kernel) (by decide) rfl (fun ls hl => ?_)
                          refine lv_goto (tgt := 18) hx hb dL_law_1083 (by decide) ?_
                          refine lv_iload_n hx hb dL_law_18 rfl (lv_at hl 0 rfl) ?_
                          refine lv_aload_n hx hb dL_law_19 rfl (lv_at hl 3 rfl) ?_
                          refine va_slen hx hb hX hbl hbA hS dL_law_20 (tk_i (v := 4) (by decide +kernel) ?_)
                          refine lv_iconst (v := 4) hx hb dL_law_21 (by decide) ?_
                          refine lv_isub hx hb dL_law_22 (tk_i (v := 0) (by decide +kernel) ?_)
                          refine lv_icmp_gt (tgt := 1086) hx hb dL_law_23 (by decide) (fun _ => ?_) (fun h9 => absurd (by decide +kernel) h9)
                          refine lv_iconst (v := 1) hx hb dL_law_1086 (by decide) ?_
                          refine va_forget (fun q hq => by have h9 := hS.2.2 q hq; rw [← hAe] at h9; exact h9) ?_
                          refine W.widen (k := 600000) (n := 7302250) (by decide) (by decide) ?_
                          exact lw_ret hx hb hr hlocks dL_law_1087
                    ·
                      rcases (show a2.toInt ≤ (-1) ∨ 0 ≤ a2.toInt by omega) with g_a2_0 | g_a2_0
                      ·
                        have e_a3 : a3 = 4 := ib_eq (X := 4) (by omega) (by decide +kernel)
                        subst e_a3
                        refine lv_aload_n hx hb dL_law_928 rfl (lv_at hl 2 rfl) ?_
                        refine lv_aload_n hx hb dL_law_929 rfl (lv_at hl 3 rfl) ?_
                        refine lv_iload_n hx hb dL_law_930 rfl (lv_at hl 0 rfl) ?_
                        refine lv_iconst (v := 1) hx hb dL_law_931 (by decide) ?_
                        refine lv_iadd hx hb dL_law_932 (tk_i (v := 1) (by decide +kernel) ?_)
                        refine va_sld hx hb hX hbl hbA hS (vin (by decide +kernel)) dL_law_933 (tk_i (v := a1) ha1 ?_)
                        refine lv_aload_n hx hb dL_law_934 rfl (lv_at hl 3 rfl) ?_
                        refine lv_iload_n hx hb dL_law_935 rfl (lv_at hl 0 rfl) ?_
                        refine lv_iconst (v := 2) hx hb dL_law_936 (by decide) ?_
                        refine lv_iadd hx hb dL_law_937 (tk_i (v := 2) (by decide +kernel) ?_)
                        refine va_sld hx hb hX hbl hbA hS (vin (by decide +kernel)) dL_law_938 (tk_i (v := a2) ha2 ?_)
                        refine lv_aload_n hx hb dL_law_939 rfl (lv_at hl 3 rfl) ?_
                        refine lv_iload_n hx hb dL_law_940 rfl (lv_at hl 0 rfl) ?_
                        refine lv_iconst (v := 3) hx hb dL_law_941 (by decide) ?_
                        refine lv_iadd hx hb dL_law_942 (tk_i (v := 3) (by decide +kernel) ?_)
                        refine va_sld hx hb hX hbl hbA hS (vin (by decide +kernel)) dL_law_943 (tk_i (v := 4) ha3 ?_)
                        refine kcall_i (D := (dC, dI)) (S := Unit) (v := (-3)) (wc := [(q1, .inr (11, [.ref q2, .ref q4, .ref q6, .ref q18, .ref q23, .ref q28, .ref q33, .ref q36, .ref q37, .ref q40, .ref q44, .ref q48, .int 0])), (q4, .inr (10, [.ref q5, .int 0, .int 0])), (q48, .inl (cI, 5, .inl (fun _ => 0)))]) (wr := [(q49, .inr (12, [.int 0, .ref q50, .int 0, .ref q51, .int 0, .ref q52, .ref q53, .int 0, .ref q54, .int 0, .ref q55, .int (-9), .int 0, .int 0, .ref q56, .ref q57, .ref q58, .ref q59, .ref q60, .int 0, .ref q61, .ref q62, .ref q63, .int 0, .ref q64, .ref q65, .ref q66, .int 0, .ref q67])), (q50, .inl (cI, 5, .inl (fun _ => 0)))]) (w1 := fun _ => []) (fun hPc hDc => va_runV (As := [.int a1, .int a2, .int 4]) (rest := []) ⟨hx, hb, hml, hown, hts⟩ (kX11_copy_29 l dC dI cI c2 q1 q4 q48 q2 q6 q18 q23 q28 q33 q36 q37 q40 q44 q5 H.size a1 a2 (by omega) (by omega) (by omega) (by omega)) (cwV 3 hts gL_law_X11_copy rfl rfl rfl (by decide +kernel) ⟨Nat.le_of_ble_eq_true rfl, Nat.le_of_ble_eq_true rfl⟩) (pre_V hPc hK hDc hN (ci := 11) (q0 := 0) rfl rfl) rfl rfl hl.1 rfl (lv_room (Nat.le_of_ble_eq_true rfl)) dL_law_944 ⟨Nat.le_of_ble_eq_true rfl, Nat.le_of_ble_eq_true rfl⟩) hP hD hS hA [0, 3, 27] [28, 29] rfl rfl (by decide) (by decide) (by decide) (fun u H locs hP hD hS => ?_)
                        have hP : va_P (dC, dI) vwCl [(q49, .inr (12, [.int 0, .ref q50, .int 0, .ref q51, .int 0, .ref q52, .ref q53, .int 0, .ref q54, .int 0, .ref q55, .int (-9), .int 0, .int 0, .ref q56, .ref q57, .ref q58, .ref q59, .ref q60, .int 0, .ref q61, .ref q62, .ref q63, .int 0, .ref q64, .ref q65, .ref q66, .int 0, .ref q67])), (q50, .inl (cI, 5, .inl (fun _ => 0)))] H := hP
                        have hD : va_D A [(q49, .inr (12, [.int 0, .ref q50, .int 0, .ref q51, .int 0, .ref q52, .ref q53, .int 0, .ref q54, .int 0, .ref q55, .int (-9), .int 0, .int 0, .ref q56, .ref q57, .ref q58, .ref q59, .ref q60, .int 0, .ref q61, .ref q62, .ref q63, .int 0, .ref q64, .ref q65, .ref q66, .int 0, .ref q67])), (q50, .inl (cI, 5, .inl (fun _ => 0)))] := hD
                        refine lv_aload_n hx hb dL_law_947 rfl (lv_at hl 1 rfl) ?_
                        refine lv_aload_n hx hb dL_law_948 rfl (lv_at hl 3 rfl) ?_
                        refine lv_iload_n hx hb dL_law_949 rfl (lv_at hl 0 rfl) ?_
                        refine lv_iconst (v := 1) hx hb dL_law_950 (by decide) ?_
                        refine lv_iadd hx hb dL_law_951 (tk_i (v := 1) (by decide +kernel) ?_)
                        refine va_sld hx hb hX hbl hbA hS (vin (by decide +kernel)) dL_law_952 (tk_i (v := a1) ha1 ?_)
                        refine lv_aload_n hx hb dL_law_953 rfl (lv_at hl 3 rfl) ?_
                        refine lv_iload_n hx hb dL_law_954 rfl (lv_at hl 0 rfl) ?_
                        refine lv_iconst (v := 2) hx hb dL_law_955 (by decide) ?_
                        refine lv_iadd hx hb dL_law_956 (tk_i (v := 2) (by decide +kernel) ?_)
                        refine va_sld hx hb hX hbl hbA hS (vin (by decide +kernel)) dL_law_957 (tk_i (v := a2) ha2 ?_)
                        refine lv_aload_n hx hb dL_law_958 rfl (lv_at hl 3 rfl) ?_
                        refine lv_iload_n hx hb dL_law_959 rfl (lv_at hl 0 rfl) ?_
                        refine lv_iconst (v := 3) hx hb dL_law_960 (by decide) ?_
                        refine lv_iadd hx hb dL_law_961 (tk_i (v := 3) (by decide +kernel) ?_)
                        refine va_sld hx hb hX hbl hbA hS (vin (by decide +kernel)) dL_law_962 (tk_i (v := 4) ha3 ?_)
                        refine kcall_i (D := (dC, dI)) (S := Unit) (v := (-3)) (wc := [(q49, .inr (12, [.int 0, .ref q50, .int 0, .ref q51, .int 0, .ref q52, .ref q53, .int 0, .ref q54, .int 0, .ref q55, .int (-9), .int 0, .int 0, .ref q56, .ref q57, .ref q58, .ref q59, .ref q60, .int 0, .ref q61, .ref q62, .ref q63, .int 0, .ref q64, .ref q65, .ref q66, .int 0, .ref q67])), (q50, .inl (cI, 5, .inl (fun _ => 0)))]) (wr := []) (w1 := fun _ => []) (fun hPc hDc => va_runV (As := [.int a1, .int a2, .int 4]) (rest := [.int (-3)]) ⟨hx, hb, hml, hown, hts⟩ (kX12_copy_29 l dC dI cI c2 q49 q50 q51 q52 q53 q54 q55 q56 q57 q58 q59 q60 q61 q62 q63 q64 q65 q66 q67 H.size a1 a2 (by omega) (by omega) (by omega) (by omega)) (cwV 3 hts gL_law_X12_copy rfl rfl rfl (by decide +kernel) ⟨Nat.le_of_ble_eq_true rfl, Nat.le_of_ble_eq_true rfl⟩) (pre_V hPc hK hDc hN (ci := 12) (q0 := 0) rfl rfl) rfl rfl hl.1 rfl (lv_room (Nat.le_of_ble_eq_true rfl)) dL_law_963 ⟨Nat.le_of_ble_eq_true rfl, Nat.le_of_ble_eq_true rfl⟩) hP hD hS hA [0, 1] [] rfl rfl (by decide) (by decide) (by decide) (fun u H locs hP hD hS => ?_)
                        have hP : va_P (dC, dI) vwCl [] H := hP
                        have hD : va_D A [] := hD
                        refine lv_icmp_eq (tgt := 1080) hx hb dL_law_966 (by decide) (fun _ => ?_) (fun h9 => absurd (by decide +kernel) h9)
                        refine lv_iinc (v := 4) (lv' := [(3, .int 4), (2, .ref q49), (1, .ref q1), (0, .ref b)]) hx hb dL_law_1080 hl (k := 0) rfl (by decide +kernel) (by decide) rfl (fun ls hl => ?_)
                        refine lv_goto (tgt := 18) hx hb dL_law_1083 (by decide) ?_
                        refine lv_iload_n hx hb dL_law_18 rfl (lv_at hl 0 rfl) ?_
                        refine lv_aload_n hx hb dL_law_19 rfl (lv_at hl 3 rfl) ?_
                        refine va_slen hx hb hX hbl hbA hS dL_law_20 (tk_i (v := 4) (by decide +kernel) ?_)
                        refine lv_iconst (v := 4) hx hb dL_law_21 (by decide) ?_
                        refine lv_isub hx hb dL_law_22 (tk_i (v := 0) (by decide +kernel) ?_)
                        refine lv_icmp_gt (tgt := 1086) hx hb dL_law_23 (by decide) (fun _ => ?_) (fun h9 => absurd (by decide +kernel) h9)
                        refine lv_iconst (v := 1) hx hb dL_law_1086 (by decide) ?_
                        refine va_forget (fun q hq => by have h9 := hS.2.2 q hq; rw [← hAe] at h9; exact h9) ?_
                        refine W.widen (k := 600000) (n := 7302250) (by decide) (by decide) ?_
                        exact lw_ret hx hb hr hlocks dL_law_1087
                      ·
                        have e_a3 : a3 = 4 := ib_eq (X := 4) (by omega) (by decide +kernel)
                        subst e_a3
                        refine lv_aload_n hx hb dL_law_928 rfl (lv_at hl 2 rfl) ?_
                        refine lv_aload_n hx hb dL_law_929 rfl (lv_at hl 3 rfl) ?_
                        refine lv_iload_n hx hb dL_law_930 rfl (lv_at hl 0 rfl) ?_
                        refine lv_iconst (v := 1) hx hb dL_law_931 (by decide) ?_
                        refine lv_iadd hx hb dL_law_932 (tk_i (v := 1) (by decide +kernel) ?_)
                        refine va_sld hx hb hX hbl hbA hS (vin (by decide +kernel)) dL_law_933 (tk_i (v := a1) ha1 ?_)
                        refine lv_aload_n hx hb dL_law_934 rfl (lv_at hl 3 rfl) ?_
                        refine lv_iload_n hx hb dL_law_935 rfl (lv_at hl 0 rfl) ?_
                        refine lv_iconst (v := 2) hx hb dL_law_936 (by decide) ?_
                        refine lv_iadd hx hb dL_law_937 (tk_i (v := 2) (by decide +kernel) ?_)
                        refine va_sld hx hb hX hbl hbA hS (vin (by decide +kernel)) dL_law_938 (tk_i (v := a2) ha2 ?_)
                        refine lv_aload_n hx hb dL_law_939 rfl (lv_at hl 3 rfl) ?_
                        refine lv_iload_n hx hb dL_law_940 rfl (lv_at hl 0 rfl) ?_
                        refine lv_iconst (v := 3) hx hb dL_law_941 (by decide) ?_
                        refine lv_iadd hx hb dL_law_942 (tk_i (v := 3) (by decide +kernel) ?_)
                        refine va_sld hx hb hX hbl hbA hS (vin (by decide +kernel)) dL_law_943 (tk_i (v := 4) ha3 ?_)
                        refine kcall_i (D := (dC, dI)) (S := Unit) (v := (-3)) (wc := [(q1, .inr (11, [.ref q2, .ref q4, .ref q6, .ref q18, .ref q23, .ref q28, .ref q33, .ref q36, .ref q37, .ref q40, .ref q44, .ref q48, .int 0])), (q4, .inr (10, [.ref q5, .int 0, .int 0])), (q48, .inl (cI, 5, .inl (fun _ => 0)))]) (wr := [(q49, .inr (12, [.int 0, .ref q50, .int 0, .ref q51, .int 0, .ref q52, .ref q53, .int 0, .ref q54, .int 0, .ref q55, .int (-9), .int 0, .int 0, .ref q56, .ref q57, .ref q58, .ref q59, .ref q60, .int 0, .ref q61, .ref q62, .ref q63, .int 0, .ref q64, .ref q65, .ref q66, .int 0, .ref q67])), (q50, .inl (cI, 5, .inl (fun _ => 0)))]) (w1 := fun _ => []) (fun hPc hDc => va_runV (As := [.int a1, .int a2, .int 4]) (rest := []) ⟨hx, hb, hml, hown, hts⟩ (kX11_copy_30 l dC dI cI c2 q1 q4 q48 q2 q6 q18 q23 q28 q33 q36 q37 q40 q44 q5 H.size a1 a2 (by omega) (by omega) (by omega) (by omega)) (cwV 3 hts gL_law_X11_copy rfl rfl rfl (by decide +kernel) ⟨Nat.le_of_ble_eq_true rfl, Nat.le_of_ble_eq_true rfl⟩) (pre_V hPc hK hDc hN (ci := 11) (q0 := 0) rfl rfl) rfl rfl hl.1 rfl (lv_room (Nat.le_of_ble_eq_true rfl)) dL_law_944 ⟨Nat.le_of_ble_eq_true rfl, Nat.le_of_ble_eq_true rfl⟩) hP hD hS hA [0, 3, 27] [28, 29] rfl rfl (by decide) (by decide) (by decide) (fun u H locs hP hD hS => ?_)
                        have hP : va_P (dC, dI) vwCl [(q49, .inr (12, [.int 0, .ref q50, .int 0, .ref q51, .int 0, .ref q52, .ref q53, .int 0, .ref q54, .int 0, .ref q55, .int (-9), .int 0, .int 0, .ref q56, .ref q57, .ref q58, .ref q59, .ref q60, .int 0, .ref q61, .ref q62, .ref q63, .int 0, .ref q64, .ref q65, .ref q66, .int 0, .ref q67])), (q50, .inl (cI, 5, .inl (fun _ => 0)))] H := hP
                        have hD : va_D A [(q49, .inr (12, [.int 0, .ref q50, .int 0, .ref q51, .int 0, .ref q52, .ref q53, .int 0, .ref q54, .int 0, .ref q55, .int (-9), .int 0, .int 0, .ref q56, .ref q57, .ref q58, .ref q59, .ref q60, .int 0, .ref q61, .ref q62, .ref q63, .int 0, .ref q64, .ref q65, .ref q66, .int 0, .ref q67])), (q50, .inl (cI, 5, .inl (fun _ => 0)))] := hD
                        refine lv_aload_n hx hb dL_law_947 rfl (lv_at hl 1 rfl) ?_
                        refine lv_aload_n hx hb dL_law_948 rfl (lv_at hl 3 rfl) ?_
                        refine lv_iload_n hx hb dL_law_949 rfl (lv_at hl 0 rfl) ?_
                        refine lv_iconst (v := 1) hx hb dL_law_950 (by decide) ?_
                        refine lv_iadd hx hb dL_law_951 (tk_i (v := 1) (by decide +kernel) ?_)
                        refine va_sld hx hb hX hbl hbA hS (vin (by decide +kernel)) dL_law_952 (tk_i (v := a1) ha1 ?_)
                        refine lv_aload_n hx hb dL_law_953 rfl (lv_at hl 3 rfl) ?_
                        refine lv_iload_n hx hb dL_law_954 rfl (lv_at hl 0 rfl) ?_
                        refine lv_iconst (v := 2) hx hb dL_law_955 (by decide) ?_
                        refine lv_iadd hx hb dL_law_956 (tk_i (v := 2) (by decide +kernel) ?_)
                        refine va_sld hx hb hX hbl hbA hS (vin (by decide +kernel)) dL_law_957 (tk_i (v := a2) ha2 ?_)
                        refine lv_aload_n hx hb dL_law_958 rfl (lv_at hl 3 rfl) ?_
                        refine lv_iload_n hx hb dL_law_959 rfl (lv_at hl 0 rfl) ?_
                        refine lv_iconst (v := 3) hx hb dL_law_960 (by decide) ?_
                        refine lv_iadd hx hb dL_law_961 (tk_i (v := 3) (by decide +kernel) ?_)
                        refine va_sld hx hb hX hbl hbA hS (vin (by decide +kernel)) dL_law_962 (tk_i (v := 4) ha3 ?_)
                        refine kcall_i (D := (dC, dI)) (S := Unit) (v := (-3)) (wc := [(q49, .inr (12, [.int 0, .ref q50, .int 0, .ref q51, .int 0, .ref q52, .ref q53, .int 0, .ref q54, .int 0, .ref q55, .int (-9), .int 0, .int 0, .ref q56, .ref q57, .ref q58, .ref q59, .ref q60, .int 0, .ref q61, .ref q62, .ref q63, .int 0, .ref q64, .ref q65, .ref q66, .int 0, .ref q67])), (q50, .inl (cI, 5, .inl (fun _ => 0)))]) (wr := []) (w1 := fun _ => []) (fun hPc hDc => va_runV (As := [.int a1, .int a2, .int 4]) (rest := [.int (-3)]) ⟨hx, hb, hml, hown, hts⟩ (kX12_copy_30 l dC dI cI c2 q49 q50 q51 q52 q53 q54 q55 q56 q57 q58 q59 q60 q61 q62 q63 q64 q65 q66 q67 H.size a1 a2 (by omega) (by omega) (by omega) (by omega)) (cwV 3 hts gL_law_X12_copy rfl rfl rfl (by decide +kernel) ⟨Nat.le_of_ble_eq_true rfl, Nat.le_of_ble_eq_true rfl⟩) (pre_V hPc hK hDc hN (ci := 12) (q0 := 0) rfl rfl) rfl rfl hl.1 rfl (lv_room (Nat.le_of_ble_eq_true rfl)) dL_law_963 ⟨Nat.le_of_ble_eq_true rfl, Nat.le_of_ble_eq_true rfl⟩) hP hD hS hA [0, 1] [] rfl rfl (by decide) (by decide) (by decide) (fun u H locs hP hD hS => ?_)
                        have hP : va_P (dC, dI) vwCl [] H := hP
                        have hD : va_D A [] := hD
                        refine lv_icmp_eq (tgt := 1080) hx hb dL_law_966 (by decide) (fun _ => ?_) (fun h9 => absurd (by decide +kernel) h9)
                        refine lv_iinc (v := 4) (lv' := [(3, .int 4), (2, .ref q49), (1, .ref q1), (0, .ref b)]) hx hb dL_law_1080 hl (k := 0) rfl (by decide +kernel) (by decide) rfl (fun ls hl => ?_)
                        refine lv_goto (tgt := 18) hx hb dL_law_1083 (by decide) ?_
                        refine lv_iload_n hx hb dL_law_18 rfl (lv_at hl 0 rfl) ?_
                        refine lv_aload_n hx hb dL_law_19 rfl (lv_at hl 3 rfl) ?_
                        refine va_slen hx hb hX hbl hbA hS dL_law_20 (tk_i (v := 4) (by decide +kernel) ?_)
                        refine lv_iconst (v := 4) hx hb dL_law_21 (by decide) ?_
                        refine lv_isub hx hb dL_law_22 (tk_i (v := 0) (by decide +kernel) ?_)
                        refine lv_icmp_gt (tgt := 1086) hx hb dL_law_23 (by decide) (fun _ => ?_) (fun h9 => absurd (by decide +kernel) h9)
                        refine lv_iconst (v := 1) hx hb dL_law_1086 (by decide) ?_
                        refine va_forget (fun q hq => by have h9 := hS.2.2 q hq; rw [← hAe] at h9; exact h9) ?_
                        refine W.widen (k := 600000) (n := 7302250) (by decide) (by decide) ?_
                        exact lw_ret hx hb hr hlocks dL_law_1087
                  ·
                    rcases (show a3.toInt ≤ 5 ∨ 6 ≤ a3.toInt by omega) with g_a3_6 | g_a3_6
                    ·
                      rcases (show a1.toInt ≤ 7 ∨ 8 ≤ a1.toInt by omega) with g_a1_8 | g_a1_8
                      ·
                        rcases (show a2.toInt ≤ (-1) ∨ 0 ≤ a2.toInt by omega) with g_a2_0 | g_a2_0
                        ·
                          have e_a3 : a3 = 5 := ib_eq (X := 5) (by omega) (by decide +kernel)
                          subst e_a3
                          refine lv_aload_n hx hb dL_law_928 rfl (lv_at hl 2 rfl) ?_
                          refine lv_aload_n hx hb dL_law_929 rfl (lv_at hl 3 rfl) ?_
                          refine lv_iload_n hx hb dL_law_930 rfl (lv_at hl 0 rfl) ?_
                          refine lv_iconst (v := 1) hx hb dL_law_931 (by decide) ?_
                          refine lv_iadd hx hb dL_law_932 (tk_i (v := 1) (by decide +kernel) ?_)
                          refine va_sld hx hb hX hbl hbA hS (vin (by decide +kernel)) dL_law_933 (tk_i (v := a1) ha1 ?_)
                          refine lv_aload_n hx hb dL_law_934 rfl (lv_at hl 3 rfl) ?_
                          refine lv_iload_n hx hb dL_law_935 rfl (lv_at hl 0 rfl) ?_
                          refine lv_iconst (v := 2) hx hb dL_law_936 (by decide) ?_
                          refine lv_iadd hx hb dL_law_937 (tk_i (v := 2) (by decide +kernel) ?_)
                          refine va_sld hx hb hX hbl hbA hS (vin (by decide +kernel)) dL_law_938 (tk_i (v := a2) ha2 ?_)
                          refine lv_aload_n hx hb dL_law_939 rfl (lv_at hl 3 rfl) ?_
                          refine lv_iload_n hx hb dL_law_940 rfl (lv_at hl 0 rfl) ?_
                          refine lv_iconst (v := 3) hx hb dL_law_941 (by decide) ?_
                          refine lv_iadd hx hb dL_law_942 (tk_i (v := 3) (by decide +kernel) ?_)
                          refine va_sld hx hb hX hbl hbA hS (vin (by decide +kernel)) dL_law_943 (tk_i (v := 5) ha3 ?_)
                          refine kcall_i (D := (dC, dI)) (S := Unit) (v := (-3)) (wc := [(q1, .inr (11, [.ref q2, .ref q4, .ref q6, .ref q18, .ref q23, .ref q28, .ref q33, .ref q36, .ref q37, .ref q40, .ref q44, .ref q48, .int 0])), (q4, .inr (10, [.ref q5, .int 0, .int 0])), (q48, .inl (cI, 5, .inl (fun _ => 0)))]) (wr := [(q49, .inr (12, [.int 0, .ref q50, .int 0, .ref q51, .int 0, .ref q52, .ref q53, .int 0, .ref q54, .int 0, .ref q55, .int (-9), .int 0, .int 0, .ref q56, .ref q57, .ref q58, .ref q59, .ref q60, .int 0, .ref q61, .ref q62, .ref q63, .int 0, .ref q64, .ref q65, .ref q66, .int 0, .ref q67])), (q50, .inl (cI, 5, .inl (fun _ => 0)))]) (w1 := fun _ => []) (fun hPc hDc => va_runV (As := [.int a1, .int a2, .int 5]) (rest := []) ⟨hx, hb, hml, hown, hts⟩ (kX11_copy_31 l dC dI cI c2 q1 q4 q48 q2 q6 q18 q23 q28 q33 q36 q37 q40 q44 q5 H.size a1 a2 (by omega) (by omega) (by omega) (by omega)) (cwV 3 hts gL_law_X11_copy rfl rfl rfl (by decide +kernel) ⟨Nat.le_of_ble_eq_true rfl, Nat.le_of_ble_eq_true rfl⟩) (pre_V hPc hK hDc hN (ci := 11) (q0 := 0) rfl rfl) rfl rfl hl.1 rfl (lv_room (Nat.le_of_ble_eq_true rfl)) dL_law_944 ⟨Nat.le_of_ble_eq_true rfl, Nat.le_of_ble_eq_true rfl⟩) hP hD hS hA [0, 3, 27] [28, 29] rfl rfl (by decide) (by decide) (by decide) (fun u H locs hP hD hS => ?_)
                          have hP : va_P (dC, dI) vwCl [(q49, .inr (12, [.int 0, .ref q50, .int 0, .ref q51, .int 0, .ref q52, .ref q53, .int 0, .ref q54, .int 0, .ref q55, .int (-9), .int 0, .int 0, .ref q56, .ref q57, .ref q58, .ref q59, .ref q60, .int 0, .ref q61, .ref q62, .ref q63, .int 0, .ref q64, .ref q65, .ref q66, .int 0, .ref q67])), (q50, .inl (cI, 5, .inl (fun _ => 0)))] H := hP
                          have hD : va_D A [(q49, .inr (12, [.int 0, .ref q50, .int 0, .ref q51, .int 0, .ref q52, .ref q53, .int 0, .ref q54, .int 0, .ref q55, .int (-9), .int 0, .int 0, .ref q56, .ref q57, .ref q58, .ref q59, .ref q60, .int 0, .ref q61, .ref q62, .ref q63, .int 0, .ref q64, .ref q65, .ref q66, .int 0, .ref q67])), (q50, .inl (cI, 5, .inl (fun _ => 0)))] := hD
                          refine lv_aload_n hx hb dL_law_947 rfl (lv_at hl 1 rfl) ?_
                          refine lv_aload_n hx hb dL_law_948 rfl (lv_at hl 3 rfl) ?_
                          refine lv_iload_n hx hb dL_law_949 rfl (lv_at hl 0 rfl) ?_
                          refine lv_iconst (v := 1) hx hb dL_law_950 (by decide) ?_
                          refine lv_iadd hx hb dL_law_951 (tk_i (v := 1) (by decide +kernel) ?_)
                          refine va_sld hx hb hX hbl hbA hS (vin (by decide +kernel)) dL_law_952 (tk_i (v := a1) ha1 ?_)
                          refine lv_aload_n hx hb dL_law_953 rfl (lv_at hl 3 rfl) ?_
                          refine lv_iload_n hx hb dL_law_954 rfl (lv_at hl 0 rfl) ?_
                          refine lv_iconst (v := 2) hx hb dL_law_955 (by decide) ?_
                          refine lv_iadd hx hb dL_law_956 (tk_i (v := 2) (by decide +kernel) ?_)
                          refine va_sld hx hb hX hbl hbA hS (vin (by decide +kernel)) dL_law_957 (tk_i (v := a2) ha2 ?_)
                          refine lv_aload_n hx hb dL_law_958 rfl (lv_at hl 3 rfl) ?_
                          refine lv_iload_n hx hb dL_law_959 rfl (lv_at hl 0 rfl) ?_
                          refine lv_iconst (v := 3) hx hb dL_law_960 (by decide) ?_
                          refine lv_iadd hx hb dL_law_961 (tk_i (v := 3) (by decide +kernel) ?_)
                          refine va_sld hx hb hX hbl hbA hS (vin (by decide +kernel)) dL_law_962 (tk_i (v := 5) ha3 ?_)
                          refine kcall_i (D := (dC, dI)) (S := Unit) (v := (-3)) (wc := [(q49, .inr (12, [.int 0, .ref q50, .int 0, .ref q51, .int 0, .ref q52, .ref q53, .int 0, .ref q54, .int 0, .ref q55, .int (-9), .int 0, .int 0, .ref q56, .ref q57, .ref q58, .ref q59, .ref q60, .int 0, .ref q61, .ref q62, .ref q63, .int 0, .ref q64, .ref q65, .ref q66, .int 0, .ref q67])), (q50, .inl (cI, 5, .inl (fun _ => 0)))]) (wr := []) (w1 := fun _ => []) (fun hPc hDc => va_runV (As := [.int a1, .int a2, .int 5]) (rest := [.int (-3)]) ⟨hx, hb, hml, hown, hts⟩ (kX12_copy_31 l dC dI cI c2 q49 q50 q51 q52 q53 q54 q55 q56 q57 q58 q59 q60 q61 q62 q63 q64 q65 q66 q67 H.size a1 a2 (by omega) (by omega) (by omega) (by omega)) (cwV 3 hts gL_law_X12_copy rfl rfl rfl (by decide +kernel) ⟨Nat.le_of_ble_eq_true rfl, Nat.le_of_ble_eq_true rfl⟩) (pre_V hPc hK hDc hN (ci := 12) (q0 := 0) rfl rfl) rfl rfl hl.1 rfl (lv_room (Nat.le_of_ble_eq_true rfl)) dL_law_963 ⟨Nat.le_of_ble_eq_true rfl, Nat.le_of_ble_eq_true rfl⟩) hP hD hS hA [0, 1] [] rfl rfl (by decide) (by decide) (by decide) (fun u H locs hP hD hS => ?_)
                          have hP : va_P (dC, dI) vwCl [] H := hP
                          have hD : va_D A [] := hD
                          refine lv_icmp_eq (tgt := 1080) hx hb dL_law_966 (by decide) (fun _ => ?_) (fun h9 => absurd (by decide +kernel) h9)
                          refine lv_iinc (v := 4) (lv' := [(3, .int 4), (2, .ref q49), (1, .ref q1), (0, .ref b)]) hx hb dL_law_1080 hl (k := 0) rfl (by decide +kernel) (by decide) rfl (fun ls hl => ?_)
                          refine lv_goto (tgt := 18) hx hb dL_law_1083 (by decide) ?_
                          refine lv_iload_n hx hb dL_law_18 rfl (lv_at hl 0 rfl) ?_
                          refine lv_aload_n hx hb dL_law_19 rfl (lv_at hl 3 rfl) ?_
                          refine va_slen hx hb hX hbl hbA hS dL_law_20 (tk_i (v := 4) (by decide +kernel) ?_)
                          refine lv_iconst (v := 4) hx hb dL_law_21 (by decide) ?_
                          refine lv_isub hx hb dL_law_22 (tk_i (v := 0) (by decide +kernel) ?_)
                          refine lv_icmp_gt (tgt := 1086) hx hb dL_law_23 (by decide) (fun _ => ?_) (fun h9 => absurd (by decide +kernel) h9)
                          refine lv_iconst (v := 1) hx hb dL_law_1086 (by decide) ?_
                          refine va_forget (fun q hq => by have h9 := hS.2.2 q hq; rw [← hAe] at h9; exact h9) ?_
                          refine W.widen (k := 600000) (n := 7302250) (by decide) (by decide) ?_
                          exact lw_ret hx hb hr hlocks dL_law_1087
                        ·
                          rcases (show a2.toInt ≤ 12 ∨ 13 ≤ a2.toInt by omega) with g_a2_13 | g_a2_13
                          ·
                            rcases (show a2.toInt ≤ 7 ∨ 8 ≤ a2.toInt by omega) with g_a2_8 | g_a2_8
                            ·
                              have e_a3 : a3 = 5 := ib_eq (X := 5) (by omega) (by decide +kernel)
                              subst e_a3
                              refine lv_aload_n hx hb dL_law_928 rfl (lv_at hl 2 rfl) ?_
                              refine lv_aload_n hx hb dL_law_929 rfl (lv_at hl 3 rfl) ?_
                              refine lv_iload_n hx hb dL_law_930 rfl (lv_at hl 0 rfl) ?_
                              refine lv_iconst (v := 1) hx hb dL_law_931 (by decide) ?_
                              refine lv_iadd hx hb dL_law_932 (tk_i (v := 1) (by decide +kernel) ?_)
                              refine va_sld hx hb hX hbl hbA hS (vin (by decide +kernel)) dL_law_933 (tk_i (v := a1) ha1 ?_)
                              refine lv_aload_n hx hb dL_law_934 rfl (lv_at hl 3 rfl) ?_
                              refine lv_iload_n hx hb dL_law_935 rfl (lv_at hl 0 rfl) ?_
                              refine lv_iconst (v := 2) hx hb dL_law_936 (by decide) ?_
                              refine lv_iadd hx hb dL_law_937 (tk_i (v := 2) (by decide +kernel) ?_)
                              refine va_sld hx hb hX hbl hbA hS (vin (by decide +kernel)) dL_law_938 (tk_i (v := a2) ha2 ?_)
                              refine lv_aload_n hx hb dL_law_939 rfl (lv_at hl 3 rfl) ?_
                              refine lv_iload_n hx hb dL_law_940 rfl (lv_at hl 0 rfl) ?_
                              refine lv_iconst (v := 3) hx hb dL_law_941 (by decide) ?_
                              refine lv_iadd hx hb dL_law_942 (tk_i (v := 3) (by decide +kernel) ?_)
                              refine va_sld hx hb hX hbl hbA hS (vin (by decide +kernel)) dL_law_943 (tk_i (v := 5) ha3 ?_)
                              refine kcall_i (D := (dC, dI)) (S := Unit) (v := 1) (wc := [(q1, .inr (11, [.ref q2, .ref q4, .ref q6, .ref q18, .ref q23, .ref q28, .ref q33, .ref q36, .ref q37, .ref q40, .ref q44, .ref q48, .int 0])), (q4, .inr (10, [.ref q5, .int 0, .int 0])), (q5, .inl (cI, 12, .inl (fun _ => (-1))))]) (wr := [(q49, .inr (12, [.int 0, .ref q50, .int 0, .ref q51, .int 0, .ref q52, .ref q53, .int 0, .ref q54, .int 0, .ref q55, .int (-9), .int 0, .int 0, .ref q56, .ref q57, .ref q58, .ref q59, .ref q60, .int 0, .ref q61, .ref q62, .ref q63, .int 0, .ref q64, .ref q65, .ref q66, .int 0, .ref q67])), (q52, .inl (cI, 12, .inl (fun _ => (-9)))), (q67, .inl (cI, 12, .inl (fun _ => 0)))]) (w1 := fun _ => []) (fun hPc hDc => va_runV (As := [.int a1, .int a2, .int 5]) (rest := []) ⟨hx, hb, hml, hown, hts⟩ (kX11_copy_32 l dC dI cI c2 q1 q4 q5 q2 q6 q18 q23 q28 q33 q36 q37 q40 q44 q48 H.size a1 a2 (by omega) (by omega) (by omega) (by omega)) (cwV 3 hts gL_law_X11_copy rfl rfl rfl (by decide +kernel) ⟨Nat.le_of_ble_eq_true rfl, Nat.le_of_ble_eq_true rfl⟩) (pre_V hPc hK hDc hN (ci := 11) (q0 := 0) rfl rfl) rfl rfl hl.1 rfl (lv_room (Nat.le_of_ble_eq_true rfl)) dL_law_944 ⟨Nat.le_of_ble_eq_true rfl, Nat.le_of_ble_eq_true rfl⟩) hP hD hS hA [0, 3, 4] [28, 31, 36] rfl rfl (by decide) (by decide) (by decide) (fun u H locs hP hD hS => ?_)
                              have hP : va_P (dC, dI) vwCl [(q49, .inr (12, [.int 0, .ref q50, .int 0, .ref q51, .int 0, .ref q52, .ref q53, .int 0, .ref q54, .int 0, .ref q55, .int (-9), .int 0, .int 0, .ref q56, .ref q57, .ref q58, .ref q59, .ref q60, .int 0, .ref q61, .ref q62, .ref q63, .int 0, .ref q64, .ref q65, .ref q66, .int 0, .ref q67])), (q52, .inl (cI, 12, .inl (fun _ => (-9)))), (q67, .inl (cI, 12, .inl (fun _ => 0)))] H := hP
                              have hD : va_D A [(q49, .inr (12, [.int 0, .ref q50, .int 0, .ref q51, .int 0, .ref q52, .ref q53, .int 0, .ref q54, .int 0, .ref q55, .int (-9), .int 0, .int 0, .ref q56, .ref q57, .ref q58, .ref q59, .ref q60, .int 0, .ref q61, .ref q62, .ref q63, .int 0, .ref q64, .ref q65, .ref q66, .int 0, .ref q67])), (q52, .inl (cI, 12, .inl (fun _ => (-9)))), (q67, .inl (cI, 12, .inl (fun _ => 0)))] := hD
                              refine lv_aload_n hx hb dL_law_947 rfl (lv_at hl 1 rfl) ?_
                              refine lv_aload_n hx hb dL_law_948 rfl (lv_at hl 3 rfl) ?_
                              refine lv_iload_n hx hb dL_law_949 rfl (lv_at hl 0 rfl) ?_
                              refine lv_iconst (v := 1) hx hb dL_law_950 (by decide) ?_
                              refine lv_iadd hx hb dL_law_951 (tk_i (v := 1) (by decide +kernel) ?_)
                              refine va_sld hx hb hX hbl hbA hS (vin (by decide +kernel)) dL_law_952 (tk_i (v := a1) ha1 ?_)
                              refine lv_aload_n hx hb dL_law_953 rfl (lv_at hl 3 rfl) ?_
                              refine lv_iload_n hx hb dL_law_954 rfl (lv_at hl 0 rfl) ?_
                              refine lv_iconst (v := 2) hx hb dL_law_955 (by decide) ?_
                              refine lv_iadd hx hb dL_law_956 (tk_i (v := 2) (by decide +kernel) ?_)
                              refine va_sld hx hb hX hbl hbA hS (vin (by decide +kernel)) dL_law_957 (tk_i (v := a2) ha2 ?_)
                              refine lv_aload_n hx hb dL_law_958 rfl (lv_at hl 3 rfl) ?_
                              refine lv_iload_n hx hb dL_law_959 rfl (lv_at hl 0 rfl) ?_
                              refine lv_iconst (v := 3) hx hb dL_law_960 (by decide) ?_
                              refine lv_iadd hx hb dL_law_961 (tk_i (v := 3) (by decide +kernel) ?_)
                              refine va_sld hx hb hX hbl hbA hS (vin (by decide +kernel)) dL_law_962 (tk_i (v := 5) ha3 ?_)
                              refine kcall_i (D := (dC, dI)) (S := Unit) (v := 1) (wc := [(q49, .inr (12, [.int 0, .ref q50, .int 0, .ref q51, .int 0, .ref q52, .ref q53, .int 0, .ref q54, .int 0, .ref q55, .int (-9), .int 0, .int 0, .ref q56, .ref q57, .ref q58, .ref q59, .ref q60, .int 0, .ref q61, .ref q62, .ref q63, .int 0, .ref q64, .ref q65, .ref q66, .int 0, .ref q67])), (q52, .inl (cI, 12, .inl (fun _ => (-9)))), (q67, .inl (cI, 12, .inl (fun _ => 0)))]) (wr := []) (w1 := fun _ => []) (fun hPc hDc => va_runV (As := [.int a1, .int a2, .int 5]) (rest := [.int 1]) ⟨hx, hb, hml, hown, hts⟩ (kX12_copy_32 l dC dI cI c2 q49 q52 q67 q50 q51 q53 q54 q55 q56 q57 q58 q59 q60 q61 q62 q63 q64 q65 q66 H.size a1 a2 (by omega) (by omega) (by omega) (by omega)) (cwV 3 hts gL_law_X12_copy rfl rfl rfl (by decide +kernel) ⟨Nat.le_of_ble_eq_true rfl, Nat.le_of_ble_eq_true rfl⟩) (pre_V hPc hK hDc hN (ci := 12) (q0 := 0) rfl rfl) rfl rfl hl.1 rfl (lv_room (Nat.le_of_ble_eq_true rfl)) dL_law_963 ⟨Nat.le_of_ble_eq_true rfl, Nat.le_of_ble_eq_true rfl⟩) hP hD hS hA [0, 1, 2] [] rfl rfl (by decide) (by decide) (by decide) (fun u H locs hP hD hS => ?_)
                              have hP : va_P (dC, dI) vwCl [] H := hP
                              have hD : va_D A [] := hD
                              refine lv_icmp_eq (tgt := 1080) hx hb dL_law_966 (by decide) (fun _ => ?_) (fun h9 => absurd (by decide +kernel) h9)
                              refine lv_iinc (v := 4) (lv' := [(3, .int 4), (2, .ref q49), (1, .ref q1), (0, .ref b)]) hx hb dL_law_1080 hl (k := 0) rfl (by decide +kernel) (by decide) rfl (fun ls hl => ?_)
                              refine lv_goto (tgt := 18) hx hb dL_law_1083 (by decide) ?_
                              refine lv_iload_n hx hb dL_law_18 rfl (lv_at hl 0 rfl) ?_
                              refine lv_aload_n hx hb dL_law_19 rfl (lv_at hl 3 rfl) ?_
                              refine va_slen hx hb hX hbl hbA hS dL_law_20 (tk_i (v := 4) (by decide +kernel) ?_)
                              refine lv_iconst (v := 4) hx hb dL_law_21 (by decide) ?_
                              refine lv_isub hx hb dL_law_22 (tk_i (v := 0) (by decide +kernel) ?_)
                              refine lv_icmp_gt (tgt := 1086) hx hb dL_law_23 (by decide) (fun _ => ?_) (fun h9 => absurd (by decide +kernel) h9)
                              refine lv_iconst (v := 1) hx hb dL_law_1086 (by decide) ?_
                              refine va_forget (fun q hq => by have h9 := hS.2.2 q hq; rw [← hAe] at h9; exact h9) ?_
                              refine W.widen (k := 600000) (n := 7302250) (by decide) (by decide) ?_
                              exact lw_ret hx hb hr hlocks dL_law_1087
                            ·
                              have e_a3 : a3 = 5 := ib_eq (X := 5) (by omega) (by decide +kernel)
                              subst e_a3
                              refine lv_aload_n hx hb dL_law_928 rfl (lv_at hl 2 rfl) ?_
                              refine lv_aload_n hx hb dL_law_929 rfl (lv_at hl 3 rfl) ?_
                              refine lv_iload_n hx hb dL_law_930 rfl (lv_at hl 0 rfl) ?_
                              refine lv_iconst (v := 1) hx hb dL_law_931 (by decide) ?_
                              refine lv_iadd hx hb dL_law_932 (tk_i (v := 1) (by decide +kernel) ?_)
                              refine va_sld hx hb hX hbl hbA hS (vin (by decide +kernel)) dL_law_933 (tk_i (v := a1) ha1 ?_)
                              refine lv_aload_n hx hb dL_law_934 rfl (lv_at hl 3 rfl) ?_
                              refine lv_iload_n hx hb dL_law_935 rfl (lv_at hl 0 rfl) ?_
                              refine lv_iconst (v := 2) hx hb dL_law_936 (by decide) ?_
                              refine lv_iadd hx hb dL_law_937 (tk_i (v := 2) (by decide +kernel) ?_)
                              refine va_sld hx hb hX hbl hbA hS (vin (by decide +kernel)) dL_law_938 (tk_i (v := a2) ha2 ?_)
                              refine lv_aload_n hx hb dL_law_939 rfl (lv_at hl 3 rfl) ?_
                              refine lv_iload_n hx hb dL_law_940 rfl (lv_at hl 0 rfl) ?_
                              refine lv_iconst (v := 3) hx hb dL_law_941 (by decide) ?_
                              refine lv_iadd hx hb dL_law_942 (tk_i (v := 3) (by decide +kernel) ?_)
                              refine va_sld hx hb hX hbl hbA hS (vin (by decide +kernel)) dL_law_943 (tk_i (v := 5) ha3 ?_)
                              refine kcall_i (D := (dC, dI)) (S := Unit) (v := (-3)) (wc := [(q1, .inr (11, [.ref q2, .ref q4, .ref q6, .ref q18, .ref q23, .ref q28, .ref q33, .ref q36, .ref q37, .ref q40, .ref q44, .ref q48, .int 0])), (q4, .inr (10, [.ref q5, .int 0, .int 0])), (q48, .inl (cI, 5, .inl (fun _ => 0)))]) (wr := [(q49, .inr (12, [.int 0, .ref q50, .int 0, .ref q51, .int 0, .ref q52, .ref q53, .int 0, .ref q54, .int 0, .ref q55, .int (-9), .int 0, .int 0, .ref q56, .ref q57, .ref q58, .ref q59, .ref q60, .int 0, .ref q61, .ref q62, .ref q63, .int 0, .ref q64, .ref q65, .ref q66, .int 0, .ref q67])), (q50, .inl (cI, 5, .inl (fun _ => 0)))]) (w1 := fun _ => []) (fun hPc hDc => va_runV (As := [.int a1, .int a2, .int 5]) (rest := []) ⟨hx, hb, hml, hown, hts⟩ (kX11_copy_33 l dC dI cI c2 q1 q4 q48 q2 q6 q18 q23 q28 q33 q36 q37 q40 q44 q5 H.size a1 a2 (by omega) (by omega) (by omega) (by omega)) (cwV 3 hts gL_law_X11_copy rfl rfl rfl (by decide +kernel) ⟨Nat.le_of_ble_eq_true rfl, Nat.le_of_ble_eq_true rfl⟩) (pre_V hPc hK hDc hN (ci := 11) (q0 := 0) rfl rfl) rfl rfl hl.1 rfl (lv_room (Nat.le_of_ble_eq_true rfl)) dL_law_944 ⟨Nat.le_of_ble_eq_true rfl, Nat.le_of_ble_eq_true rfl⟩) hP hD hS hA [0, 3, 27] [28, 29] rfl rfl (by decide) (by decide) (by decide) (fun u H locs hP hD hS => ?_)
                              have hP : va_P (dC, dI) vwCl [(q49, .inr (12, [.int 0, .ref q50, .int 0, .ref q51, .int 0, .ref q52, .ref q53, .int 0, .ref q54, .int 0, .ref q55, .int (-9), .int 0, .int 0, .ref q56, .ref q57, .ref q58, .ref q59, .ref q60, .int 0, .ref q61, .ref q62, .ref q63, .int 0, .ref q64, .ref q65, .ref q66, .int 0, .ref q67])), (q50, .inl (cI, 5, .inl (fun _ => 0)))] H := hP
                              have hD : va_D A [(q49, .inr (12, [.int 0, .ref q50, .int 0, .ref q51, .int 0, .ref q52, .ref q53, .int 0, .ref q54, .int 0, .ref q55, .int (-9), .int 0, .int 0, .ref q56, .ref q57, .ref q58, .ref q59, .ref q60, .int 0, .ref q61, .ref q62, .ref q63, .int 0, .ref q64, .ref q65, .ref q66, .int 0, .ref q67])), (q50, .inl (cI, 5, .inl (fun _ => 0)))] := hD
                              refine lv_aload_n hx hb dL_law_947 rfl (lv_at hl 1 rfl) ?_
                              refine lv_aload_n hx hb dL_law_948 rfl (lv_at hl 3 rfl) ?_
                              refine lv_iload_n hx hb dL_law_949 rfl (lv_at hl 0 rfl) ?_
                              refine lv_iconst (v := 1) hx hb dL_law_950 (by decide) ?_
                              refine lv_iadd hx hb dL_law_951 (tk_i (v := 1) (by decide +kernel) ?_)
                              refine va_sld hx hb hX hbl hbA hS (vin (by decide +kernel)) dL_law_952 (tk_i (v := a1) ha1 ?_)
                              refine lv_aload_n hx hb dL_law_953 rfl (lv_at hl 3 rfl) ?_
                              refine lv_iload_n hx hb dL_law_954 rfl (lv_at hl 0 rfl) ?_
                              refine lv_iconst (v := 2) hx hb dL_law_955 (by decide) ?_
                              refine lv_iadd hx hb dL_law_956 (tk_i (v := 2) (by decide +kernel) ?_)
                              refine va_sld hx hb hX hbl hbA hS (vin (by decide +kernel)) dL_law_957 (tk_i (v := a2) ha2 ?_)
                              refine lv_aload_n hx hb dL_law_958 rfl (lv_at hl 3 rfl) ?_
                              refine lv_iload_n hx hb dL_law_959 rfl (lv_at hl 0 rfl) ?_
                              refine lv_iconst (v := 3) hx hb dL_law_960 (by decide) ?_
                              refine lv_iadd hx hb dL_law_961 (tk_i (v := 3) (by decide +kernel) ?_)
                              refine va_sld hx hb hX hbl hbA hS (vin (by decide +kernel)) dL_law_962 (tk_i (v := 5) ha3 ?_)
                              refine kcall_i (D := (dC, dI)) (S := Unit) (v := (-3)) (wc := [(q49, .inr (12, [.int 0, .ref q50, .int 0, .ref q51, .int 0, .ref q52, .ref q53, .int 0, .ref q54, .int 0, .ref q55, .int (-9), .int 0, .int 0, .ref q56, .ref q57, .ref q58, .ref q59, .ref q60, .int 0, .ref q61, .ref q62, .ref q63, .int 0, .ref q64, .ref q65, .ref q66, .int 0, .ref q67])), (q50, .inl (cI, 5, .inl (fun _ => 0)))]) (wr := []) (w1 := fun _ => []) (fun hPc hDc => va_runV (As := [.int a1, .int a2, .int 5]) (rest := [.int (-3)]) ⟨hx, hb, hml, hown, hts⟩ (kX12_copy_33 l dC dI cI c2 q49 q50 q51 q52 q53 q54 q55 q56 q57 q58 q59 q60 q61 q62 q63 q64 q65 q66 q67 H.size a1 a2 (by omega) (by omega) (by omega) (by omega)) (cwV 3 hts gL_law_X12_copy rfl rfl rfl (by decide +kernel) ⟨Nat.le_of_ble_eq_true rfl, Nat.le_of_ble_eq_true rfl⟩) (pre_V hPc hK hDc hN (ci := 12) (q0 := 0) rfl rfl) rfl rfl hl.1 rfl (lv_room (Nat.le_of_ble_eq_true rfl)) dL_law_963 ⟨Nat.le_of_ble_eq_true rfl, Nat.le_of_ble_eq_true rfl⟩) hP hD hS hA [0, 1] [] rfl rfl (by decide) (by decide) (by decide) (fun u H locs hP hD hS => ?_)
                              have hP : va_P (dC, dI) vwCl [] H := hP
                              have hD : va_D A [] := hD
                              refine lv_icmp_eq (tgt := 1080) hx hb dL_law_966 (by decide) (fun _ => ?_) (fun h9 => absurd (by decide +kernel) h9)
                              refine lv_iinc (v := 4) (lv' := [(3, .int 4), (2, .ref q49), (1, .ref q1), (0, .ref b)]) hx hb dL_law_1080 hl (k := 0) rfl (by decide +kernel) (by decide) rfl (fun ls hl => ?_)
                              refine lv_goto (tgt := 18) hx hb dL_law_1083 (by decide) ?_
                              refine lv_iload_n hx hb dL_law_18 rfl (lv_at hl 0 rfl) ?_
                              refine lv_aload_n hx hb dL_law_19 rfl (lv_at hl 3 rfl) ?_
                              refine va_slen hx hb hX hbl hbA hS dL_law_20 (tk_i (v := 4) (by decide +kernel) ?_)
                              refine lv_iconst (v := 4) hx hb dL_law_21 (by decide) ?_
                              refine lv_isub hx hb dL_law_22 (tk_i (v := 0) (by decide +kernel) ?_)
                              refine lv_icmp_gt (tgt := 1086) hx hb dL_law_23 (by decide) (fun _ => ?_) (fun h9 => absurd (by decide +kernel) h9)
                              refine lv_iconst (v := 1) hx hb dL_law_1086 (by decide) ?_
                              refine va_forget (fun q hq => by have h9 := hS.2.2 q hq; rw [← hAe] at h9; exact h9) ?_
                              refine W.widen (k := 600000) (n := 7302250) (by decide) (by decide) ?_
                              exact lw_ret hx hb hr hlocks dL_law_1087
                          ·
                            have e_a3 : a3 = 5 := ib_eq (X := 5) (by omega) (by decide +kernel)
                            subst e_a3
                            refine lv_aload_n hx hb dL_law_928 rfl (lv_at hl 2 rfl) ?_
                            refine lv_aload_n hx hb dL_law_929 rfl (lv_at hl 3 rfl) ?_
                            refine lv_iload_n hx hb dL_law_930 rfl (lv_at hl 0 rfl) ?_
                            refine lv_iconst (v := 1) hx hb dL_law_931 (by decide) ?_
                            refine lv_iadd hx hb dL_law_932 (tk_i (v := 1) (by decide +kernel) ?_)
                            refine va_sld hx hb hX hbl hbA hS (vin (by decide +kernel)) dL_law_933 (tk_i (v := a1) ha1 ?_)
                            refine lv_aload_n hx hb dL_law_934 rfl (lv_at hl 3 rfl) ?_
                            refine lv_iload_n hx hb dL_law_935 rfl (lv_at hl 0 rfl) ?_
                            refine lv_iconst (v := 2) hx hb dL_law_936 (by decide) ?_
                            refine lv_iadd hx hb dL_law_937 (tk_i (v := 2) (by decide +kernel) ?_)
                            refine va_sld hx hb hX hbl hbA hS (vin (by decide +kernel)) dL_law_938 (tk_i (v := a2) ha2 ?_)
                            refine lv_aload_n hx hb dL_law_939 rfl (lv_at hl 3 rfl) ?_
                            refine lv_iload_n hx hb dL_law_940 rfl (lv_at hl 0 rfl) ?_
                            refine lv_iconst (v := 3) hx hb dL_law_941 (by decide) ?_
                            refine lv_iadd hx hb dL_law_942 (tk_i (v := 3) (by decide +kernel) ?_)
                            refine va_sld hx hb hX hbl hbA hS (vin (by decide +kernel)) dL_law_943 (tk_i (v := 5) ha3 ?_)
                            refine kcall_i (D := (dC, dI)) (S := Unit) (v := (-3)) (wc := [(q1, .inr (11, [.ref q2, .ref q4, .ref q6, .ref q18, .ref q23, .ref q28, .ref q33, .ref q36, .ref q37, .ref q40, .ref q44, .ref q48, .int 0])), (q4, .inr (10, [.ref q5, .int 0, .int 0])), (q48, .inl (cI, 5, .inl (fun _ => 0)))]) (wr := [(q49, .inr (12, [.int 0, .ref q50, .int 0, .ref q51, .int 0, .ref q52, .ref q53, .int 0, .ref q54, .int 0, .ref q55, .int (-9), .int 0, .int 0, .ref q56, .ref q57, .ref q58, .ref q59, .ref q60, .int 0, .ref q61, .ref q62, .ref q63, .int 0, .ref q64, .ref q65, .ref q66, .int 0, .ref q67])), (q50, .inl (cI, 5, .inl (fun _ => 0)))]) (w1 := fun _ => []) (fun hPc hDc => va_runV (As := [.int a1, .int a2, .int 5]) (rest := []) ⟨hx, hb, hml, hown, hts⟩ (kX11_copy_34 l dC dI cI c2 q1 q4 q48 q2 q6 q18 q23 q28 q33 q36 q37 q40 q44 q5 H.size a1 a2 (by omega) (by omega) (by omega) (by omega)) (cwV 3 hts gL_law_X11_copy rfl rfl rfl (by decide +kernel) ⟨Nat.le_of_ble_eq_true rfl, Nat.le_of_ble_eq_true rfl⟩) (pre_V hPc hK hDc hN (ci := 11) (q0 := 0) rfl rfl) rfl rfl hl.1 rfl (lv_room (Nat.le_of_ble_eq_true rfl)) dL_law_944 ⟨Nat.le_of_ble_eq_true rfl, Nat.le_of_ble_eq_true rfl⟩) hP hD hS hA [0, 3, 27] [28, 29] rfl rfl (by decide) (by decide) (by decide) (fun u H locs hP hD hS => ?_)
                            have hP : va_P (dC, dI) vwCl [(q49, .inr (12, [.int 0, .ref q50, .int 0, .ref q51, .int 0, .ref q52, .ref q53, .int 0, .ref q54, .int 0, .ref q55, .int (-9), .int 0, .int 0, .ref q56, .ref q57, .ref q58, .ref q59, .ref q60, .int 0, .ref q61, .ref q62, .ref q63, .int 0, .ref q64, .ref q65, .ref q66, .int 0, .ref q67])), (q50, .inl (cI, 5, .inl (fun _ => 0)))] H := hP
                            have hD : va_D A [(q49, .inr (12, [.int 0, .ref q50, .int 0, .ref q51, .int 0, .ref q52, .ref q53, .int 0, .ref q54, .int 0, .ref q55, .int (-9), .int 0, .int 0, .ref q56, .ref q57, .ref q58, .ref q59, .ref q60, .int 0, .ref q61, .ref q62, .ref q63, .int 0, .ref q64, .ref q65, .ref q66, .int 0, .ref q67])), (q50, .inl (cI, 5, .inl (fun _ => 0)))] := hD
                            refine lv_aload_n hx hb dL_law_947 rfl (lv_at hl 1 rfl) ?_
                            refine lv_aload_n hx hb dL_law_948 rfl (lv_at hl 3 rfl) ?_
                            refine lv_iload_n hx hb dL_law_949 rfl (lv_at hl 0 rfl) ?_
                            refine lv_iconst (v := 1) hx hb dL_law_950 (by decide) ?_
                            refine lv_iadd hx hb dL_law_951 (tk_i (v := 1) (by decide +kernel) ?_)
                            refine va_sld hx hb hX hbl hbA hS (vin (by decide +kernel)) dL_law_952 (tk_i (v := a1) ha1 ?_)
                            refine lv_aload_n hx hb dL_law_953 rfl (lv_at hl 3 rfl) ?_
                            refine lv_iload_n hx hb dL_law_954 rfl (lv_at hl 0 rfl) ?_
                            refine lv_iconst (v := 2) hx hb dL_law_955 (by decide) ?_
                            refine lv_iadd hx hb dL_law_956 (tk_i (v := 2) (by decide +kernel) ?_)
                            refine va_sld hx hb hX hbl hbA hS (vin (by decide +kernel)) dL_law_957 (tk_i (v := a2) ha2 ?_)
                            refine lv_aload_n hx hb dL_law_958 rfl (lv_at hl 3 rfl) ?_
                            refine lv_iload_n hx hb dL_law_959 rfl (lv_at hl 0 rfl) ?_
                            refine lv_iconst (v := 3) hx hb dL_law_960 (by decide) ?_
                            refine lv_iadd hx hb dL_law_961 (tk_i (v := 3) (by decide +kernel) ?_)
                            refine va_sld hx hb hX hbl hbA hS (vin (by decide +kernel)) dL_law_962 (tk_i (v := 5) ha3 ?_)
                            refine kcall_i (D := (dC, dI)) (S := Unit) (v := (-3)) (wc := [(q49, .inr (12, [.int 0, .ref q50, .int 0, .ref q51, .int 0, .ref q52, .ref q53, .int 0, .ref q54, .int 0, .ref q55, .int (-9), .int 0, .int 0, .ref q56, .ref q57, .ref q58, .ref q59, .ref q60, .int 0, .ref q61, .ref q62, .ref q63, .int 0, .ref q64, .ref q65, .ref q66, .int 0, .ref q67])), (q50, .inl (cI, 5, .inl (fun _ => 0)))]) (wr := []) (w1 := fun _ => []) (fun hPc hDc => va_runV (As := [.int a1, .int a2, .int 5]) (rest := [.int (-3)]) ⟨hx, hb, hml, hown, hts⟩ (kX12_copy_34 l dC dI cI c2 q49 q50 q51 q52 q53 q54 q55 q56 q57 q58 q59 q60 q61 q62 q63 q64 q65 q66 q67 H.size a1 a2 (by omega) (by omega) (by omega) (by omega)) (cwV 3 hts gL_law_X12_copy rfl rfl rfl (by decide +kernel) ⟨Nat.le_of_ble_eq_true rfl, Nat.le_of_ble_eq_true rfl⟩) (pre_V hPc hK hDc hN (ci := 12) (q0 := 0) rfl rfl) rfl rfl hl.1 rfl (lv_room (Nat.le_of_ble_eq_true rfl)) dL_law_963 ⟨Nat.le_of_ble_eq_true rfl, Nat.le_of_ble_eq_true rfl⟩) hP hD hS hA [0, 1] [] rfl rfl (by decide) (by decide) (by decide) (fun u H locs hP hD hS => ?_)
                            have hP : va_P (dC, dI) vwCl [] H := hP
                            have hD : va_D A [] := hD
                            refine lv_icmp_eq (tgt := 1080) hx hb dL_law_966 (by decide) (fun _ => ?_) (fun h9 => absurd (by decide +kernel) h9)
                            refine lv_iinc (v := 4) (lv' := [(3, .int 4), (2, .ref q49), (1, .ref q1), (0, .ref b)]) hx hb dL_law_1080 hl (k := 0) rfl (by decide +kernel) (by decide) rfl (fun ls hl => ?_)
                            refine lv_goto (tgt := 18) hx hb dL_law_1083 (by decide) ?_
                            refine lv_iload_n hx hb dL_law_18 rfl (lv_at hl 0 rfl) ?_
                            refine lv_aload_n hx hb dL_law_19 rfl (lv_at hl 3 rfl) ?_
                            refine va_slen hx hb hX hbl hbA hS dL_law_20 (tk_i (v := 4) (by decide +kernel) ?_)
                            refine lv_iconst (v := 4) hx hb dL_law_21 (by decide) ?_
                            refine lv_isub hx hb dL_law_22 (tk_i (v := 0) (by decide +kernel) ?_)
                            refine lv_icmp_gt (tgt := 1086) hx hb dL_law_23 (by decide) (fun _ => ?_) (fun h9 => absurd (by decide +kernel) h9)
                            refine lv_iconst (v := 1) hx hb dL_law_1086 (by decide) ?_
                            refine va_forget (fun q hq => by have h9 := hS.2.2 q hq; rw [← hAe] at h9; exact h9) ?_
                            refine W.widen (k := 600000) (n := 7302250) (by decide) (by decide) ?_
                            exact lw_ret hx hb hr hlocks dL_law_1087
                      ·
                        rcases (show a2.toInt ≤ (-1) ∨ 0 ≤ a2.toInt by omega) with g_a2_0 | g_a2_0
                        ·
                          have e_a3 : a3 = 5 := ib_eq (X := 5) (by omega) (by decide +kernel)
                          subst e_a3
                          refine lv_aload_n hx hb dL_law_928 rfl (lv_at hl 2 rfl) ?_
                          refine lv_aload_n hx hb dL_law_929 rfl (lv_at hl 3 rfl) ?_
                          refine lv_iload_n hx hb dL_law_930 rfl (lv_at hl 0 rfl) ?_
                          refine lv_iconst (v := 1) hx hb dL_law_931 (by decide) ?_
                          refine lv_iadd hx hb dL_law_932 (tk_i (v := 1) (by decide +kernel) ?_)
                          refine va_sld hx hb hX hbl hbA hS (vin (by decide +kernel)) dL_law_933 (tk_i (v := a1) ha1 ?_)
                          refine lv_aload_n hx hb dL_law_934 rfl (lv_at hl 3 rfl) ?_
                          refine lv_iload_n hx hb dL_law_935 rfl (lv_at hl 0 rfl) ?_
                          refine lv_iconst (v := 2) hx hb dL_law_936 (by decide) ?_
                          refine lv_iadd hx hb dL_law_937 (tk_i (v := 2) (by decide +kernel) ?_)
                          refine va_sld hx hb hX hbl hbA hS (vin (by decide +kernel)) dL_law_938 (tk_i (v := a2) ha2 ?_)
                          refine lv_aload_n hx hb dL_law_939 rfl (lv_at hl 3 rfl) ?_
                          refine lv_iload_n hx hb dL_law_940 rfl (lv_at hl 0 rfl) ?_
                          refine lv_iconst (v := 3) hx hb dL_law_941 (by decide) ?_
                          refine lv_iadd hx hb dL_law_942 (tk_i (v := 3) (by decide +kernel) ?_)
                          refine va_sld hx hb hX hbl hbA hS (vin (by decide +kernel)) dL_law_943 (tk_i (v := 5) ha3 ?_)
                          refine kcall_i (D := (dC, dI)) (S := Unit) (v := (-3)) (wc := [(q1, .inr (11, [.ref q2, .ref q4, .ref q6, .ref q18, .ref q23, .ref q28, .ref q33, .ref q36, .ref q37, .ref q40, .ref q44, .ref q48, .int 0])), (q4, .inr (10, [.ref q5, .int 0, .int 0])), (q48, .inl (cI, 5, .inl (fun _ => 0)))]) (wr := [(q49, .inr (12, [.int 0, .ref q50, .int 0, .ref q51, .int 0, .ref q52, .ref q53, .int 0, .ref q54, .int 0, .ref q55, .int (-9), .int 0, .int 0, .ref q56, .ref q57, .ref q58, .ref q59, .ref q60, .int 0, .ref q61, .ref q62, .ref q63, .int 0, .ref q64, .ref q65, .ref q66, .int 0, .ref q67])), (q50, .inl (cI, 5, .inl (fun _ => 0)))]) (w1 := fun _ => []) (fun hPc hDc => va_runV (As := [.int a1, .int a2, .int 5]) (rest := []) ⟨hx, hb, hml, hown, hts⟩ (kX11_copy_35 l dC dI cI c2 q1 q4 q48 q2 q6 q18 q23 q28 q33 q36 q37 q40 q44 q5 H.size a1 a2 (by omega) (by omega) (by omega) (by omega)) (cwV 3 hts gL_law_X11_copy rfl rfl rfl (by decide +kernel) ⟨Nat.le_of_ble_eq_true rfl, Nat.le_of_ble_eq_true rfl⟩) (pre_V hPc hK hDc hN (ci := 11) (q0 := 0) rfl rfl) rfl rfl hl.1 rfl (lv_room (Nat.le_of_ble_eq_true rfl)) dL_law_944 ⟨Nat.le_of_ble_eq_true rfl, Nat.le_of_ble_eq_true rfl⟩) hP hD hS hA [0, 3, 27] [28, 29] rfl rfl (by decide) (by decide) (by decide) (fun u H locs hP hD hS => ?_)
                          have hP : va_P (dC, dI) vwCl [(q49, .inr (12, [.int 0, .ref q50, .int 0, .ref q51, .int 0, .ref q52, .ref q53, .int 0, .ref q54, .int 0, .ref q55, .int (-9), .int 0, .int 0, .ref q56, .ref q57, .ref q58, .ref q59, .ref q60, .int 0, .ref q61, .ref q62, .ref q63, .int 0, .ref q64, .ref q65, .ref q66, .int 0, .ref q67])), (q50, .inl (cI, 5, .inl (fun _ => 0)))] H := hP
                          have hD : va_D A [(q49, .inr (12, [.int 0, .ref q50, .int 0, .ref q51, .int 0, .ref q52, .ref q53, .int 0, .ref q54, .int 0, .ref q55, .int (-9), .int 0, .int 0, .ref q56, .ref q57, .ref q58, .ref q59, .ref q60, .int 0, .ref q61, .ref q62, .ref q63, .int 0, .ref q64, .ref q65, .ref q66, .int 0, .ref q67])), (q50, .inl (cI, 5, .inl (fun _ => 0)))] := hD
                          refine lv_aload_n hx hb dL_law_947 rfl (lv_at hl 1 rfl) ?_
                          refine lv_aload_n hx hb dL_law_948 rfl (lv_at hl 3 rfl) ?_
                          refine lv_iload_n hx hb dL_law_949 rfl (lv_at hl 0 rfl) ?_
                          refine lv_iconst (v := 1) hx hb dL_law_950 (by decide) ?_
                          refine lv_iadd hx hb dL_law_951 (tk_i (v := 1) (by decide +kernel) ?_)
                          refine va_sld hx hb hX hbl hbA hS (vin (by decide +kernel)) dL_law_952 (tk_i (v := a1) ha1 ?_)
                          refine lv_aload_n hx hb dL_law_953 rfl (lv_at hl 3 rfl) ?_
                          refine lv_iload_n hx hb dL_law_954 rfl (lv_at hl 0 rfl) ?_
                          refine lv_iconst (v := 2) hx hb dL_law_955 (by decide) ?_
                          refine lv_iadd hx hb dL_law_956 (tk_i (v := 2) (by decide +kernel) ?_)
                          refine va_sld hx hb hX hbl hbA hS (vin (by decide +kernel)) dL_law_957 (tk_i (v := a2) ha2 ?_)
                          refine lv_aload_n hx hb dL_law_958 rfl (lv_at hl 3 rfl) ?_
                          refine lv_iload_n hx hb dL_law_959 rfl (lv_at hl 0 rfl) ?_
                          refine lv_iconst (v := 3) hx hb dL_law_960 (by decide) ?_
                          refine lv_iadd hx hb dL_law_961 (tk_i (v := 3) (by decide +kernel) ?_)
                          refine va_sld hx hb hX hbl hbA hS (vin (by decide +kernel)) dL_law_962 (tk_i (v := 5) ha3 ?_)
                          refine kcall_i (D := (dC, dI)) (S := Unit) (v := (-3)) (wc := [(q49, .inr (12, [.int 0, .ref q50, .int 0, .ref q51, .int 0, .ref q52, .ref q53, .int 0, .ref q54, .int 0, .ref q55, .int (-9), .int 0, .int 0, .ref q56, .ref q57, .ref q58, .ref q59, .ref q60, .int 0, .ref q61, .ref q62, .ref q63, .int 0, .ref q64, .ref q65, .ref q66, .int 0, .ref q67])), (q50, .inl (cI, 5, .inl (fun _ => 0)))]) (wr := []) (w1 := fun _ => []) (fun hPc hDc => va_runV (As := [.int a1, .int a2, .int 5]) (rest := [.int (-3)]) ⟨hx, hb, hml, hown, hts⟩ (kX12_copy_35 l dC dI cI c2 q49 q50 q51 q52 q53 q54 q55 q56 q57 q58 q59 q60 q61 q62 q63 q64 q65 q66 q67 H.size a1 a2 (by omega) (by omega) (by omega) (by omega)) (cwV 3 hts gL_law_X12_copy rfl rfl rfl (by decide +kernel) ⟨Nat.le_of_ble_eq_true rfl, Nat.le_of_ble_eq_true rfl⟩) (pre_V hPc hK hDc hN (ci := 12) (q0 := 0) rfl rfl) rfl rfl hl.1 rfl (lv_room (Nat.le_of_ble_eq_true rfl)) dL_law_963 ⟨Nat.le_of_ble_eq_true rfl, Nat.le_of_ble_eq_true rfl⟩) hP hD hS hA [0, 1] [] rfl rfl (by decide) (by decide) (by decide) (fun u H locs hP hD hS => ?_)
                          have hP : va_P (dC, dI) vwCl [] H := hP
                          have hD : va_D A [] := hD
                          refine lv_icmp_eq (tgt := 1080) hx hb dL_law_966 (by decide) (fun _ => ?_) (fun h9 => absurd (by decide +kernel) h9)
                          refine lv_iinc (v := 4) (lv' := [(3, .int 4), (2, .ref q49), (1, .ref q1), (0, .ref b)]) hx hb dL_law_1080 hl (k := 0) rfl (by decide +kernel) (by decide) rfl (fun ls hl => ?_)
                          refine lv_goto (tgt := 18) hx hb dL_law_1083 (by decide) ?_
                          refine lv_iload_n hx hb dL_law_18 rfl (lv_at hl 0 rfl) ?_
                          refine lv_aload_n hx hb dL_law_19 rfl (lv_at hl 3 rfl) ?_
                          refine va_slen hx hb hX hbl hbA hS dL_law_20 (tk_i (v := 4) (by decide +kernel) ?_)
                          refine lv_iconst (v := 4) hx hb dL_law_21 (by decide) ?_
                          refine lv_isub hx hb dL_law_22 (tk_i (v := 0) (by decide +kernel) ?_)
                          refine lv_icmp_gt (tgt := 1086) hx hb dL_law_23 (by decide) (fun _ => ?_) (fun h9 => absurd (by decide +kernel) h9)
                          refine lv_iconst (v := 1) hx hb dL_law_1086 (by decide) ?_
                          refine va_forget (fun q hq => by have h9 := hS.2.2 q hq; rw [← hAe] at h9; exact h9) ?_
                          refine W.widen (k := 600000) (n := 7302250) (by decide) (by decide) ?_
                          exact lw_ret hx hb hr hlocks dL_law_1087
                        ·
                          have e_a3 : a3 = 5 := ib_eq (X := 5) (by omega) (by decide +kernel)
                          subst e_a3
                          refine lv_aload_n hx hb dL_law_928 rfl (lv_at hl 2 rfl) ?_
                          refine lv_aload_n hx hb dL_law_929 rfl (lv_at hl 3 rfl) ?_
                          refine lv_iload_n hx hb dL_law_930 rfl (lv_at hl 0 rfl) ?_
                          refine lv_iconst (v := 1) hx hb dL_law_931 (by decide) ?_
                          refine lv_iadd hx hb dL_law_932 (tk_i (v := 1) (by decide +kernel) ?_)
                          refine va_sld hx hb hX hbl hbA hS (vin (by decide +kernel)) dL_law_933 (tk_i (v := a1) ha1 ?_)
                          refine lv_aload_n hx hb dL_law_934 rfl (lv_at hl 3 rfl) ?_
                          refine lv_iload_n hx hb dL_law_935 rfl (lv_at hl 0 rfl) ?_
                          refine lv_iconst (v := 2) hx hb dL_law_936 (by decide) ?_
                          refine lv_iadd hx hb dL_law_937 (tk_i (v := 2) (by decide +kernel) ?_)
                          refine va_sld hx hb hX hbl hbA hS (vin (by decide +kernel)) dL_law_938 (tk_i (v := a2) ha2 ?_)
                          refine lv_aload_n hx hb dL_law_939 rfl (lv_at hl 3 rfl) ?_
                          refine lv_iload_n hx hb dL_law_940 rfl (lv_at hl 0 rfl) ?_
                          refine lv_iconst (v := 3) hx hb dL_law_941 (by decide) ?_
                          refine lv_iadd hx hb dL_law_942 (tk_i (v := 3) (by decide +kernel) ?_)
                          refine va_sld hx hb hX hbl hbA hS (vin (by decide +kernel)) dL_law_943 (tk_i (v := 5) ha3 ?_)
                          refine kcall_i (D := (dC, dI)) (S := Unit) (v := (-3)) (wc := [(q1, .inr (11, [.ref q2, .ref q4, .ref q6, .ref q18, .ref q23, .ref q28, .ref q33, .ref q36, .ref q37, .ref q40, .ref q44, .ref q48, .int 0])), (q4, .inr (10, [.ref q5, .int 0, .int 0])), (q48, .inl (cI, 5, .inl (fun _ => 0)))]) (wr := [(q49, .inr (12, [.int 0, .ref q50, .int 0, .ref q51, .int 0, .ref q52, .ref q53, .int 0, .ref q54, .int 0, .ref q55, .int (-9), .int 0, .int 0, .ref q56, .ref q57, .ref q58, .ref q59, .ref q60, .int 0, .ref q61, .ref q62, .ref q63, .int 0, .ref q64, .ref q65, .ref q66, .int 0, .ref q67])), (q50, .inl (cI, 5, .inl (fun _ => 0)))]) (w1 := fun _ => []) (fun hPc hDc => va_runV (As := [.int a1, .int a2, .int 5]) (rest := []) ⟨hx, hb, hml, hown, hts⟩ (kX11_copy_36 l dC dI cI c2 q1 q4 q48 q2 q6 q18 q23 q28 q33 q36 q37 q40 q44 q5 H.size a1 a2 (by omega) (by omega) (by omega) (by omega)) (cwV 3 hts gL_law_X11_copy rfl rfl rfl (by decide +kernel) ⟨Nat.le_of_ble_eq_true rfl, Nat.le_of_ble_eq_true rfl⟩) (pre_V hPc hK hDc hN (ci := 11) (q0 := 0) rfl rfl) rfl rfl hl.1 rfl (lv_room (Nat.le_of_ble_eq_true rfl)) dL_law_944 ⟨Nat.le_of_ble_eq_true rfl, Nat.le_of_ble_eq_true rfl⟩) hP hD hS hA [0, 3, 27] [28, 29] rfl rfl (by decide) (by decide) (by decide) (fun u H locs hP hD hS => ?_)
                          have hP : va_P (dC, dI) vwCl [(q49, .inr (12, [.int 0, .ref q50, .int 0, .ref q51, .int 0, .ref q52, .ref q53, .int 0, .ref q54, .int 0, .ref q55, .int (-9), .int 0, .int 0, .ref q56, .ref q57, .ref q58, .ref q59, .ref q60, .int 0, .ref q61, .ref q62, .ref q63, .int 0, .ref q64, .ref q65, .ref q66, .int 0, .ref q67])), (q50, .inl (cI, 5, .inl (fun _ => 0)))] H := hP
                          have hD : va_D A [(q49, .inr (12, [.int 0, .ref q50, .int 0, .ref q51, .int 0, .ref q52, .ref q53, .int 0, .ref q54, .int 0, .ref q55, .int (-9), .int 0, .int 0, .ref q56, .ref q57, .ref q58, .ref q59, .ref q60, .int 0, .ref q61, .ref q62, .ref q63, .int 0, .ref q64, .ref q65, .ref q66, .int 0, .ref q67])), (q50, .inl (cI, 5, .inl (fun _ => 0)))] := hD
                          refine lv_aload_n hx hb dL_law_947 rfl (lv_at hl 1 rfl) ?_
                          refine lv_aload_n hx hb dL_law_948 rfl (lv_at hl 3 rfl) ?_
                          refine lv_iload_n hx hb dL_law_949 rfl (lv_at hl 0 rfl) ?_
                          refine lv_iconst (v := 1) hx hb dL_law_950 (by decide) ?_
                          refine lv_iadd hx hb dL_law_951 (tk_i (v := 1) (by decide +kernel) ?_)
                          refine va_sld hx hb hX hbl hbA hS (vin (by decide +kernel)) dL_law_952 (tk_i (v := a1) ha1 ?_)
                          refine lv_aload_n hx hb dL_law_953 rfl (lv_at hl 3 rfl) ?_
                          refine lv_iload_n hx hb dL_law_954 rfl (lv_at hl 0 rfl) ?_
                          refine lv_iconst (v := 2) hx hb dL_law_955 (by decide) ?_
                          refine lv_iadd hx hb dL_law_956 (tk_i (v := 2) (by decide +kernel) ?_)
                          refine va_sld hx hb hX hbl hbA hS (vin (by decide +kernel)) dL_law_957 (tk_i (v := a2) ha2 ?_)
                          refine lv_aload_n hx hb dL_law_958 rfl (lv_at hl 3 rfl) ?_
                          refine lv_iload_n hx hb dL_law_959 rfl (lv_at hl 0 rfl) ?_
                          refine lv_iconst (v := 3) hx hb dL_law_960 (by decide) ?_
                          refine lv_iadd hx hb dL_law_961 (tk_i (v := 3) (by decide +kernel) ?_)
                          refine va_sld hx hb hX hbl hbA hS (vin (by decide +kernel)) dL_law_962 (tk_i (v := 5) ha3 ?_)
                          refine kcall_i (D := (dC, dI)) (S := Unit) (v := (-3)) (wc := [(q49, .inr (12, [.int 0, .ref q50, .int 0, .ref q51, .int 0, .ref q52, .ref q53, .int 0, .ref q54, .int 0, .ref q55, .int (-9), .int 0, .int 0, .ref q56, .ref q57, .ref q58, .ref q59, .ref q60, .int 0, .ref q61, .ref q62, .ref q63, .int 0, .ref q64, .ref q65, .ref q66, .int 0, .ref q67])), (q50, .inl (cI, 5, .inl (fun _ => 0)))]) (wr := []) (w1 := fun _ => []) (fun hPc hDc => va_runV (As := [.int a1, .int a2, .int 5]) (rest := [.int (-3)]) ⟨hx, hb, hml, hown, hts⟩ (kX12_copy_36 l dC dI cI c2 q49 q50 q51 q52 q53 q54 q55 q56 q57 q58 q59 q60 q61 q62 q63 q64 q65 q66 q67 H.size a1 a2 (by omega) (by omega) (by omega) (by omega)) (cwV 3 hts gL_law_X12_copy rfl rfl rfl (by decide +kernel) ⟨Nat.le_of_ble_eq_true rfl, Nat.le_of_ble_eq_true rfl⟩) (pre_V hPc hK hDc hN (ci := 12) (q0 := 0) rfl rfl) rfl rfl hl.1 rfl (lv_room (Nat.le_of_ble_eq_true rfl)) dL_law_963 ⟨Nat.le_of_ble_eq_true rfl, Nat.le_of_ble_eq_true rfl⟩) hP hD hS hA [0, 1] [] rfl rfl (by decide) (by decide) (by decide) (fun u H locs hP hD hS => ?_)
                          have hP : va_P (dC, dI) vwCl [] H := hP
                          have hD : va_D A [] := hD
                          refine lv_icmp_eq (tgt := 1080) hx hb dL_law_966 (by decide) (fun _ => ?_) (fun h9 => absurd (by decide +kernel) h9)
                          refine lv_iinc (v := 4) (lv' := [(3, .int 4), (2, .ref q49), (1, .ref q1), (0, .ref b)]) hx hb dL_law_1080 hl (k := 0) rfl (by decide +kernel) (by decide) rfl (fun ls hl => ?_)
                          refine lv_goto (tgt := 18) hx hb dL_law_1083 (by decide) ?_
                          refine lv_iload_n hx hb dL_law_18 rfl (lv_at hl 0 rfl) ?_
                          refine lv_aload_n hx hb dL_law_19 rfl (lv_at hl 3 rfl) ?_
                          refine va_slen hx hb hX hbl hbA hS dL_law_20 (tk_i (v := 4) (by decide +kernel) ?_)
                          refine lv_iconst (v := 4) hx hb dL_law_21 (by decide) ?_
                          refine lv_isub hx hb dL_law_22 (tk_i (v := 0) (by decide +kernel) ?_)
                          refine lv_icmp_gt (tgt := 1086) hx hb dL_law_23 (by decide) (fun _ => ?_) (fun h9 => absurd (by decide +kernel) h9)
                          refine lv_iconst (v := 1) hx hb dL_law_1086 (by decide) ?_
                          refine va_forget (fun q hq => by have h9 := hS.2.2 q hq; rw [← hAe] at h9; exact h9) ?_
                          refine W.widen (k := 600000) (n := 7302250) (by decide) (by decide) ?_
                          exact lw_ret hx hb hr hlocks dL_law_1087
                    ·
                      rcases (show a3.toInt ≤ 6 ∨ 7 ≤ a3.toInt by omega) with g_a3_7 | g_a3_7
                      ·
                        rcases (show a1.toInt ≤ 6 ∨ 7 ≤ a1.toInt by omega) with g_a1_7 | g_a1_7
                        ·
                          rcases (show a2.toInt ≤ (-1) ∨ 0 ≤ a2.toInt by omega) with g_a2_0 | g_a2_0
                          ·
                            have e_a3 : a3 = 6 := ib_eq (X := 6) (by omega) (by decide +kernel)
                            subst e_a3
                            refine lv_aload_n hx hb dL_law_928 rfl (lv_at hl 2 rfl) ?_
                            refine lv_aload_n hx hb dL_law_929 rfl (lv_at hl 3 rfl) ?_
                            refine lv_iload_n hx hb dL_law_930 rfl (lv_at hl 0 rfl) ?_
                            refine lv_iconst (v := 1) hx hb dL_law_931 (by decide) ?_
                            refine lv_iadd hx hb dL_law_932 (tk_i (v := 1) (by decide +kernel) ?_)
                            refine va_sld hx hb hX hbl hbA hS (vin (by decide +kernel)) dL_law_933 (tk_i (v := a1) ha1 ?_)
                            refine lv_aload_n hx hb dL_law_934 rfl (lv_at hl 3 rfl) ?_
                            refine lv_iload_n hx hb dL_law_935 rfl (lv_at hl 0 rfl) ?_
                            refine lv_iconst (v := 2) hx hb dL_law_936 (by decide) ?_
                            refine lv_iadd hx hb dL_law_937 (tk_i (v := 2) (by decide +kernel) ?_)
                            refine va_sld hx hb hX hbl hbA hS (vin (by decide +kernel)) dL_law_938 (tk_i (v := a2) ha2 ?_)
                            refine lv_aload_n hx hb dL_law_939 rfl (lv_at hl 3 rfl) ?_
                            refine lv_iload_n hx hb dL_law_940 rfl (lv_at hl 0 rfl) ?_
                            refine lv_iconst (v := 3) hx hb dL_law_941 (by decide) ?_
                            refine lv_iadd hx hb dL_law_942 (tk_i (v := 3) (by decide +kernel) ?_)
                            refine va_sld hx hb hX hbl hbA hS (vin (by decide +kernel)) dL_law_943 (tk_i (v := 6) ha3 ?_)
                            refine kcall_i (D := (dC, dI)) (S := Unit) (v := (-3)) (wc := [(q1, .inr (11, [.ref q2, .ref q4, .ref q6, .ref q18, .ref q23, .ref q28, .ref q33, .ref q36, .ref q37, .ref q40, .ref q44, .ref q48, .int 0])), (q4, .inr (10, [.ref q5, .int 0, .int 0])), (q48, .inl (cI, 5, .inl (fun _ => 0)))]) (wr := [(q49, .inr (12, [.int 0, .ref q50, .int 0, .ref q51, .int 0, .ref q52, .ref q53, .int 0, .ref q54, .int 0, .ref q55, .int (-9), .int 0, .int 0, .ref q56, .ref q57, .ref q58, .ref q59, .ref q60, .int 0, .ref q61, .ref q62, .ref q63, .int 0, .ref q64, .ref q65, .ref q66, .int 0, .ref q67])), (q50, .inl (cI, 5, .inl (fun _ => 0)))]) (w1 := fun _ => []) (fun hPc hDc => va_runV (As := [.int a1, .int a2, .int 6]) (rest := []) ⟨hx, hb, hml, hown, hts⟩ (kX11_copy_37 l dC dI cI c2 q1 q4 q48 q2 q6 q18 q23 q28 q33 q36 q37 q40 q44 q5 H.size a1 a2 (by omega) (by omega) (by omega) (by omega)) (cwV 3 hts gL_law_X11_copy rfl rfl rfl (by decide +kernel) ⟨Nat.le_of_ble_eq_true rfl, Nat.le_of_ble_eq_true rfl⟩) (pre_V hPc hK hDc hN (ci := 11) (q0 := 0) rfl rfl) rfl rfl hl.1 rfl (lv_room (Nat.le_of_ble_eq_true rfl)) dL_law_944 ⟨Nat.le_of_ble_eq_true rfl, Nat.le_of_ble_eq_true rfl⟩) hP hD hS hA [0, 3, 27] [28, 29] rfl rfl (by decide) (by decide) (by decide) (fun u H locs hP hD hS => ?_)
                            have hP : va_P (dC, dI) vwCl [(q49, .inr (12, [.int 0, .ref q50, .int 0, .ref q51, .int 0, .ref q52, .ref q53, .int 0, .ref q54, .int 0, .ref q55, .int (-9), .int 0, .int 0, .ref q56, .ref q57, .ref q58, .ref q59, .ref q60, .int 0, .ref q61, .ref q62, .ref q63, .int 0, .ref q64, .ref q65, .ref q66, .int 0, .ref q67])), (q50, .inl (cI, 5, .inl (fun _ => 0)))] H := hP
                            have hD : va_D A [(q49, .inr (12, [.int 0, .ref q50, .int 0, .ref q51, .int 0, .ref q52, .ref q53, .int 0, .ref q54, .int 0, .ref q55, .int (-9), .int 0, .int 0, .ref q56, .ref q57, .ref q58, .ref q59, .ref q60, .int 0, .ref q61, .ref q62, .ref q63, .int 0, .ref q64, .ref q65, .ref q66, .int 0, .ref q67])), (q50, .inl (cI, 5, .inl (fun _ => 0)))] := hD
                            refine lv_aload_n hx hb dL_law_947 rfl (lv_at hl 1 rfl) ?_
                            refine lv_aload_n hx hb dL_law_948 rfl (lv_at hl 3 rfl) ?_
                            refine lv_iload_n hx hb dL_law_949 rfl (lv_at hl 0 rfl) ?_
                            refine lv_iconst (v := 1) hx hb dL_law_950 (by decide) ?_
                            refine lv_iadd hx hb dL_law_951 (tk_i (v := 1) (by decide +kernel) ?_)
                            refine va_sld hx hb hX hbl hbA hS (vin (by decide +kernel)) dL_law_952 (tk_i (v := a1) ha1 ?_)
                            refine lv_aload_n hx hb dL_law_953 rfl (lv_at hl 3 rfl) ?_
                            refine lv_iload_n hx hb dL_law_954 rfl (lv_at hl 0 rfl) ?_
                            refine lv_iconst (v := 2) hx hb dL_law_955 (by decide) ?_
                            refine lv_iadd hx hb dL_law_956 (tk_i (v := 2) (by decide +kernel) ?_)
                            refine va_sld hx hb hX hbl hbA hS (vin (by decide +kernel)) dL_law_957 (tk_i (v := a2) ha2 ?_)
                            refine lv_aload_n hx hb dL_law_958 rfl (lv_at hl 3 rfl) ?_
                            refine lv_iload_n hx hb dL_law_959 rfl (lv_at hl 0 rfl) ?_
                            refine lv_iconst (v := 3) hx hb dL_law_960 (by decide) ?_
                            refine lv_iadd hx hb dL_law_961 (tk_i (v := 3) (by decide +kernel) ?_)
                            refine va_sld hx hb hX hbl hbA hS (vin (by decide +kernel)) dL_law_962 (tk_i (v := 6) ha3 ?_)
                            refine kcall_i (D := (dC, dI)) (S := Unit) (v := (-3)) (wc := [(q49, .inr (12, [.int 0, .ref q50, .int 0, .ref q51, .int 0, .ref q52, .ref q53, .int 0, .ref q54, .int 0, .ref q55, .int (-9), .int 0, .int 0, .ref q56, .ref q57, .ref q58, .ref q59, .ref q60, .int 0, .ref q61, .ref q62, .ref q63, .int 0, .ref q64, .ref q65, .ref q66, .int 0, .ref q67])), (q50, .inl (cI, 5, .inl (fun _ => 0)))]) (wr := []) (w1 := fun _ => []) (fun hPc hDc => va_runV (As := [.int a1, .int a2, .int 6]) (rest := [.int (-3)]) ⟨hx, hb, hml, hown, hts⟩ (kX12_copy_37 l dC dI cI c2 q49 q50 q51 q52 q53 q54 q55 q56 q57 q58 q59 q60 q61 q62 q63 q64 q65 q66 q67 H.size a1 a2 (by omega) (by omega) (by omega) (by omega)) (cwV 3 hts gL_law_X12_copy rfl rfl rfl (by decide +kernel) ⟨Nat.le_of_ble_eq_true rfl, Nat.le_of_ble_eq_true rfl⟩) (pre_V hPc hK hDc hN (ci := 12) (q0 := 0) rfl rfl) rfl rfl hl.1 rfl (lv_room (Nat.le_of_ble_eq_true rfl)) dL_law_963 ⟨Nat.le_of_ble_eq_true rfl, Nat.le_of_ble_eq_true rfl⟩) hP hD hS hA [0, 1] [] rfl rfl (by decide) (by decide) (by decide) (fun u H locs hP hD hS => ?_)
                            have hP : va_P (dC, dI) vwCl [] H := hP
                            have hD : va_D A [] := hD
                            refine lv_icmp_eq (tgt := 1080) hx hb dL_law_966 (by decide) (fun _ => ?_) (fun h9 => absurd (by decide +kernel) h9)
                            refine lv_iinc (v := 4) (lv' := [(3, .int 4), (2, .ref q49), (1, .ref q1), (0, .ref b)]) hx hb dL_law_1080 hl (k := 0) rfl (by decide +kernel) (by decide) rfl (fun ls hl => ?_)
                            refine lv_goto (tgt := 18) hx hb dL_law_1083 (by decide) ?_
                            refine lv_iload_n hx hb dL_law_18 rfl (lv_at hl 0 rfl) ?_
                            refine lv_aload_n hx hb dL_law_19 rfl (lv_at hl 3 rfl) ?_
                            refine va_slen hx hb hX hbl hbA hS dL_law_20 (tk_i (v := 4) (by decide +kernel) ?_)
                            refine lv_iconst (v := 4) hx hb dL_law_21 (by decide) ?_
                            refine lv_isub hx hb dL_law_22 (tk_i (v := 0) (by decide +kernel) ?_)
                            refine lv_icmp_gt (tgt := 1086) hx hb dL_law_23 (by decide) (fun _ => ?_) (fun h9 => absurd (by decide +kernel) h9)
                            refine lv_iconst (v := 1) hx hb dL_law_1086 (by decide) ?_
                            refine va_forget (fun q hq => by have h9 := hS.2.2 q hq; rw [← hAe] at h9; exact h9) ?_
                            refine W.widen (k := 600000) (n := 7302250) (by decide) (by decide) ?_
                            exact lw_ret hx hb hr hlocks dL_law_1087
                          ·
                            rcases (show a2.toInt ≤ 12 ∨ 13 ≤ a2.toInt by omega) with g_a2_13 | g_a2_13
                            ·
                              rcases (show a2.toInt ≤ 6 ∨ 7 ≤ a2.toInt by omega) with g_a2_7 | g_a2_7
                              ·
                                have e_a3 : a3 = 6 := ib_eq (X := 6) (by omega) (by decide +kernel)
                                subst e_a3
                                refine lv_aload_n hx hb dL_law_928 rfl (lv_at hl 2 rfl) ?_
                                refine lv_aload_n hx hb dL_law_929 rfl (lv_at hl 3 rfl) ?_
                                refine lv_iload_n hx hb dL_law_930 rfl (lv_at hl 0 rfl) ?_
                                refine lv_iconst (v := 1) hx hb dL_law_931 (by decide) ?_
                                refine lv_iadd hx hb dL_law_932 (tk_i (v := 1) (by decide +kernel) ?_)
                                refine va_sld hx hb hX hbl hbA hS (vin (by decide +kernel)) dL_law_933 (tk_i (v := a1) ha1 ?_)
                                refine lv_aload_n hx hb dL_law_934 rfl (lv_at hl 3 rfl) ?_
                                refine lv_iload_n hx hb dL_law_935 rfl (lv_at hl 0 rfl) ?_
                                refine lv_iconst (v := 2) hx hb dL_law_936 (by decide) ?_
                                refine lv_iadd hx hb dL_law_937 (tk_i (v := 2) (by decide +kernel) ?_)
                                refine va_sld hx hb hX hbl hbA hS (vin (by decide +kernel)) dL_law_938 (tk_i (v := a2) ha2 ?_)
                                refine lv_aload_n hx hb dL_law_939 rfl (lv_at hl 3 rfl) ?_
                                refine lv_iload_n hx hb dL_law_940 rfl (lv_at hl 0 rfl) ?_
                                refine lv_iconst (v := 3) hx hb dL_law_941 (by decide) ?_
                                refine lv_iadd hx hb dL_law_942 (tk_i (v := 3) (by decide +kernel) ?_)
                                refine va_sld hx hb hX hbl hbA hS (vin (by decide +kernel)) dL_law_943 (tk_i (v := 6) ha3 ?_)
                                refine kcall_i (D := (dC, dI)) (S := Unit) (v := 1) (wc := [(q1, .inr (11, [.ref q2, .ref q4, .ref q6, .ref q18, .ref q23, .ref q28, .ref q33, .ref q36, .ref q37, .ref q40, .ref q44, .ref q48, .int 0])), (q4, .inr (10, [.ref q5, .int 0, .int 0])), (q5, .inl (cI, 12, .inl (fun _ => (-1))))]) (wr := [(q49, .inr (12, [.int 0, .ref q50, .int 0, .ref q51, .int 0, .ref q52, .ref q53, .int 0, .ref q54, .int 0, .ref q55, .int (-9), .int 0, .int 0, .ref q56, .ref q57, .ref q58, .ref q59, .ref q60, .int 0, .ref q61, .ref q62, .ref q63, .int 0, .ref q64, .ref q65, .ref q66, .int 0, .ref q67])), (q52, .inl (cI, 12, .inl (fun _ => (-9)))), (q67, .inl (cI, 12, .inl (fun _ => 0)))]) (w1 := fun _ => []) (fun hPc hDc => va_runV (As := [.int a1, .int a2, .int 6]) (rest := []) ⟨hx, hb, hml, hown, hts⟩ (kX11_copy_38 l dC dI cI c2 q1 q4 q5 q2 q6 q18 q23 q28 q33 q36 q37 q40 q44 q48 H.size a1 a2 (by omega) (by omega) (by omega) (by omega)) (cwV 3 hts gL_law_X11_copy rfl rfl rfl (by decide +kernel) ⟨Nat.le_of_ble_eq_true rfl, Nat.le_of_ble_eq_true rfl⟩) (pre_V hPc hK hDc hN (ci := 11) (q0 := 0) rfl rfl) rfl rfl hl.1 rfl (lv_room (Nat.le_of_ble_eq_true rfl)) dL_law_944 ⟨Nat.le_of_ble_eq_true rfl, Nat.le_of_ble_eq_true rfl⟩) hP hD hS hA [0, 3, 4] [28, 31, 36] rfl rfl (by decide) (by decide) (by decide) (fun u H locs hP hD hS => ?_)
                                have hP : va_P (dC, dI) vwCl [(q49, .inr (12, [.int 0, .ref q50, .int 0, .ref q51, .int 0, .ref q52, .ref q53, .int 0, .ref q54, .int 0, .ref q55, .int (-9), .int 0, .int 0, .ref q56, .ref q57, .ref q58, .ref q59, .ref q60, .int 0, .ref q61, .ref q62, .ref q63, .int 0, .ref q64, .ref q65, .ref q66, .int 0, .ref q67])), (q52, .inl (cI, 12, .inl (fun _ => (-9)))), (q67, .inl (cI, 12, .inl (fun _ => 0)))] H := hP
                                have hD : va_D A [(q49, .inr (12, [.int 0, .ref q50, .int 0, .ref q51, .int 0, .ref q52, .ref q53, .int 0, .ref q54, .int 0, .ref q55, .int (-9), .int 0, .int 0, .ref q56, .ref q57, .ref q58, .ref q59, .ref q60, .int 0, .ref q61, .ref q62, .ref q63, .int 0, .ref q64, .ref q65, .ref q66, .int 0, .ref q67])), (q52, .inl (cI, 12, .inl (fun _ => (-9)))), (q67, .inl (cI, 12, .inl (fun _ => 0)))] := hD
                                refine lv_aload_n hx hb dL_law_947 rfl (lv_at hl 1 rfl) ?_
                                refine lv_aload_n hx hb dL_law_948 rfl (lv_at hl 3 rfl) ?_
                                refine lv_iload_n hx hb dL_law_949 rfl (lv_at hl 0 rfl) ?_
                                refine lv_iconst (v := 1) hx hb dL_law_950 (by decide) ?_
                                refine lv_iadd hx hb dL_law_951 (tk_i (v := 1) (by decide +kernel) ?_)
                                refine va_sld hx hb hX hbl hbA hS (vin (by decide +kernel)) dL_law_952 (tk_i (v := a1) ha1 ?_)
                                refine lv_aload_n hx hb dL_law_953 rfl (lv_at hl 3 rfl) ?_
                                refine lv_iload_n hx hb dL_law_954 rfl (lv_at hl 0 rfl) ?_
                                refine lv_iconst (v := 2) hx hb dL_law_955 (by decide) ?_
                                refine lv_iadd hx hb dL_law_956 (tk_i (v := 2) (by decide +kernel) ?_)
                                refine va_sld hx hb hX hbl hbA hS (vin (by decide +kernel)) dL_law_957 (tk_i (v := a2) ha2 ?_)
                                refine lv_aload_n hx hb dL_law_958 rfl (lv_at hl 3 rfl) ?_
                                refine lv_iload_n hx hb dL_law_959 rfl (lv_at hl 0 rfl) ?_
                                refine lv_iconst (v := 3) hx hb dL_law_960 (by decide) ?_
                                refine lv_iadd hx hb dL_law_961 (tk_i (v := 3) (by decide +kernel) ?_)
                                refine va_sld hx hb hX hbl hbA hS (vin (by decide +kernel)) dL_law_962 (tk_i (v := 6) ha3 ?_)
                                refine kcall_i (D := (dC, dI)) (S := Unit) (v := 1) (wc := [(q49, .inr (12, [.int 0, .ref q50, .int 0, .ref q51, .int 0, .ref q52, .ref q53, .int 0, .ref q54, .int 0, .ref q55, .int (-9), .int 0, .int 0, .ref q56, .ref q57, .ref q58, .ref q59, .ref q60, .int 0, .ref q61, .ref q62, .ref q63, .int 0, .ref q64, .ref q65, .ref q66, .int 0, .ref q67])), (q52, .inl (cI, 12, .inl (fun _ => (-9)))), (q67, .inl (cI, 12, .inl (fun _ => 0)))]) (wr := []) (w1 := fun _ => []) (fun hPc hDc => va_runV (As := [.int a1, .int a2, .int 6]) (rest := [.int 1]) ⟨hx, hb, hml, hown, hts⟩ (kX12_copy_38 l dC dI cI c2 q49 q52 q67 q50 q51 q53 q54 q55 q56 q57 q58 q59 q60 q61 q62 q63 q64 q65 q66 H.size a1 a2 (by omega) (by omega) (by omega) (by omega)) (cwV 3 hts gL_law_X12_copy rfl rfl rfl (by decide +kernel) ⟨Nat.le_of_ble_eq_true rfl, Nat.le_of_ble_eq_true rfl⟩) (pre_V hPc hK hDc hN (ci := 12) (q0 := 0) rfl rfl) rfl rfl hl.1 rfl (lv_room (Nat.le_of_ble_eq_true rfl)) dL_law_963 ⟨Nat.le_of_ble_eq_true rfl, Nat.le_of_ble_eq_true rfl⟩) hP hD hS hA [0, 1, 2] [] rfl rfl (by decide) (by decide) (by decide) (fun u H locs hP hD hS => ?_)
                                have hP : va_P (dC, dI) vwCl [] H := hP
                                have hD : va_D A [] := hD
                                refine lv_icmp_eq (tgt := 1080) hx hb dL_law_966 (by decide) (fun _ => ?_) (fun h9 => absurd (by decide +kernel) h9)
                                refine lv_iinc (v := 4) (lv' := [(3, .int 4), (2, .ref q49), (1, .ref q1), (0, .ref b)]) hx hb dL_law_1080 hl (k := 0) rfl (by decide +kernel) (by decide) rfl (fun ls hl => ?_)
                                refine lv_goto (tgt := 18) hx hb dL_law_1083 (by decide) ?_
                                refine lv_iload_n hx hb dL_law_18 rfl (lv_at hl 0 rfl) ?_
                                refine lv_aload_n hx hb dL_law_19 rfl (lv_at hl 3 rfl) ?_
                                refine va_slen hx hb hX hbl hbA hS dL_law_20 (tk_i (v := 4) (by decide +kernel) ?_)
                                refine lv_iconst (v := 4) hx hb dL_law_21 (by decide) ?_
                                refine lv_isub hx hb dL_law_22 (tk_i (v := 0) (by decide +kernel) ?_)
                                refine lv_icmp_gt (tgt := 1086) hx hb dL_law_23 (by decide) (fun _ => ?_) (fun h9 => absurd (by decide +kernel) h9)
                                refine lv_iconst (v := 1) hx hb dL_law_1086 (by decide) ?_
                                refine va_forget (fun q hq => by have h9 := hS.2.2 q hq; rw [← hAe] at h9; exact h9) ?_
                                refine W.widen (k := 600000) (n := 7302250) (by decide) (by decide) ?_
                                exact lw_ret hx hb hr hlocks dL_law_1087
                              ·
                                have e_a3 : a3 = 6 := ib_eq (X := 6) (by omega) (by decide +kernel)
                                subst e_a3
                                refine lv_aload_n hx hb dL_law_928 rfl (lv_at hl 2 rfl) ?_
                                refine lv_aload_n hx hb dL_law_929 rfl (lv_at hl 3 rfl) ?_
                                refine lv_iload_n hx hb dL_law_930 rfl (lv_at hl 0 rfl) ?_
                                refine lv_iconst (v := 1) hx hb dL_law_931 (by decide) ?_
                                refine lv_iadd hx hb dL_law_932 (tk_i (v := 1) (by decide +kernel) ?_)
                                refine va_sld hx hb hX hbl hbA hS (vin (by decide +kernel)) dL_law_933 (tk_i (v := a1) ha1 ?_)
                                refine lv_aload_n hx hb dL_law_934 rfl (lv_at hl 3 rfl) ?_
                                refine lv_iload_n hx hb dL_law_935 rfl (lv_at hl 0 rfl) ?_
                                refine lv_iconst (v := 2) hx hb dL_law_936 (by decide) ?_
                                refine lv_iadd hx hb dL_law_937 (tk_i (v := 2) (by decide +kernel) ?_)
                                refine va_sld hx hb hX hbl hbA hS (vin (by decide +kernel)) dL_law_938 (tk_i (v := a2) ha2 ?_)
                                refine lv_aload_n hx hb dL_law_939 rfl (lv_at hl 3 rfl) ?_
                                refine lv_iload_n hx hb dL_law_940 rfl (lv_at hl 0 rfl) ?_
                                refine lv_iconst (v := 3) hx hb dL_law_941 (by decide) ?_
                                refine lv_iadd hx hb dL_law_942 (tk_i (v := 3) (by decide +kernel) ?_)
                                refine va_sld hx hb hX hbl hbA hS (vin (by decide +kernel)) dL_law_943 (tk_i (v := 6) ha3 ?_)
                                refine kcall_i (D := (dC, dI)) (S := Unit) (v := (-3)) (wc := [(q1, .inr (11, [.ref q2, .ref q4, .ref q6, .ref q18, .ref q23, .ref q28, .ref q33, .ref q36, .ref q37, .ref q40, .ref q44, .ref q48, .int 0])), (q4, .inr (10, [.ref q5, .int 0, .int 0])), (q48, .inl (cI, 5, .inl (fun _ => 0)))]) (wr := [(q49, .inr (12, [.int 0, .ref q50, .int 0, .ref q51, .int 0, .ref q52, .ref q53, .int 0, .ref q54, .int 0, .ref q55, .int (-9), .int 0, .int 0, .ref q56, .ref q57, .ref q58, .ref q59, .ref q60, .int 0, .ref q61, .ref q62, .ref q63, .int 0, .ref q64, .ref q65, .ref q66, .int 0, .ref q67])), (q50, .inl (cI, 5, .inl (fun _ => 0)))]) (w1 := fun _ => []) (fun hPc hDc => va_runV (As := [.int a1, .int a2, .int 6]) (rest := []) ⟨hx, hb, hml, hown, hts⟩ (kX11_copy_39 l dC dI cI c2 q1 q4 q48 q2 q6 q18 q23 q28 q33 q36 q37 q40 q44 q5 H.size a1 a2 (by omega) (by omega) (by omega) (by omega)) (cwV 3 hts gL_law_X11_copy rfl rfl rfl (by decide +kernel) ⟨Nat.le_of_ble_eq_true rfl, Nat.le_of_ble_eq_true rfl⟩) (pre_V hPc hK hDc hN (ci := 11) (q0 := 0) rfl rfl) rfl rfl hl.1 rfl (lv_room (Nat.le_of_ble_eq_true rfl)) dL_law_944 ⟨Nat.le_of_ble_eq_true rfl, Nat.le_of_ble_eq_true rfl⟩) hP hD hS hA [0, 3, 27] [28, 29] rfl rfl (by decide) (by decide) (by decide) (fun u H locs hP hD hS => ?_)
                                have hP : va_P (dC, dI) vwCl [(q49, .inr (12, [.int 0, .ref q50, .int 0, .ref q51, .int 0, .ref q52, .ref q53, .int 0, .ref q54, .int 0, .ref q55, .int (-9), .int 0, .int 0, .ref q56, .ref q57, .ref q58, .ref q59, .ref q60, .int 0, .ref q61, .ref q62, .ref q63, .int 0, .ref q64, .ref q65, .ref q66, .int 0, .ref q67])), (q50, .inl (cI, 5, .inl (fun _ => 0)))] H := hP
                                have hD : va_D A [(q49, .inr (12, [.int 0, .ref q50, .int 0, .ref q51, .int 0, .ref q52, .ref q53, .int 0, .ref q54, .int 0, .ref q55, .int (-9), .int 0, .int 0, .ref q56, .ref q57, .ref q58, .ref q59, .ref q60, .int 0, .ref q61, .ref q62, .ref q63, .int 0, .ref q64, .ref q65, .ref q66, .int 0, .ref q67])), (q50, .inl (cI, 5, .inl (fun _ => 0)))] := hD
                                refine lv_aload_n hx hb dL_law_947 rfl (lv_at hl 1 rfl) ?_
                                refine lv_aload_n hx hb dL_law_948 rfl (lv_at hl 3 rfl) ?_
                                refine lv_iload_n hx hb dL_law_949 rfl (lv_at hl 0 rfl) ?_
                                refine lv_iconst (v := 1) hx hb dL_law_950 (by decide) ?_
                                refine lv_iadd hx hb dL_law_951 (tk_i (v := 1) (by decide +kernel) ?_)
                                refine va_sld hx hb hX hbl hbA hS (vin (by decide +kernel)) dL_law_952 (tk_i (v := a1) ha1 ?_)
                                refine lv_aload_n hx hb dL_law_953 rfl (lv_at hl 3 rfl) ?_
                                refine lv_iload_n hx hb dL_law_954 rfl (lv_at hl 0 rfl) ?_
                                refine lv_iconst (v := 2) hx hb dL_law_955 (by decide) ?_
                                refine lv_iadd hx hb dL_law_956 (tk_i (v := 2) (by decide +kernel) ?_)
                                refine va_sld hx hb hX hbl hbA hS (vin (by decide +kernel)) dL_law_957 (tk_i (v := a2) ha2 ?_)
                                refine lv_aload_n hx hb dL_law_958 rfl (lv_at hl 3 rfl) ?_
                                refine lv_iload_n hx hb dL_law_959 rfl (lv_at hl 0 rfl) ?_
                                refine lv_iconst (v := 3) hx hb dL_law_960 (by decide) ?_
                                refine lv_iadd hx hb dL_law_961 (tk_i (v := 3) (by decide +kernel) ?_)
                                refine va_sld hx hb hX hbl hbA hS (vin (by decide +kernel)) dL_law_962 (tk_i (v := 6) ha3 ?_)
                                refine kcall_i (D := (dC, dI)) (S := Unit) (v := (-3)) (wc := [(q49, .inr (12, [.int 0, .ref q50, .int 0, .ref q51, .int 0, .ref q52, .ref q53, .int 0, .ref q54, .int 0, .ref q55, .int (-9), .int 0, .int 0, .ref q56, .ref q57, .ref q58, .ref q59, .ref q60, .int 0, .ref q61, .ref q62, .ref q63, .int 0, .ref q64, .ref q65, .ref q66, .int 0, .ref q67])), (q50, .inl (cI, 5, .inl (fun _ => 0)))]) (wr := []) (w1 := fun _ => []) (fun hPc hDc => va_runV (As := [.int a1, .int a2, .int 6]) (rest := [.int (-3)]) ⟨hx, hb, hml, hown, hts⟩ (kX12_copy_39 l dC dI cI c2 q49 q50 q51 q52 q53 q54 q55 q56 q57 q58 q59 q60 q61 q62 q63 q64 q65 q66 q67 H.size a1 a2 (by omega) (by omega) (by omega) (by omega)) (cwV 3 hts gL_law_X12_copy rfl rfl rfl (by decide +kernel) ⟨Nat.le_of_ble_eq_true rfl, Nat.le_of_ble_eq_true rfl⟩) (pre_V hPc hK hDc hN (ci := 12) (q0 := 0) rfl rfl) rfl rfl hl.1 rfl (lv_room (Nat.le_of_ble_eq_true rfl)) dL_law_963 ⟨Nat.le_of_ble_eq_true rfl, Nat.le_of_ble_eq_true rfl⟩) hP hD hS hA [0, 1] [] rfl rfl (by decide) (by decide) (by decide) (fun u H locs hP hD hS => ?_)
                                have hP : va_P (dC, dI) vwCl [] H := hP
                                have hD : va_D A [] := hD
                                refine lv_icmp_eq (tgt := 1080) hx hb dL_law_966 (by decide) (fun _ => ?_) (fun h9 => absurd (by decide +kernel) h9)
                                refine lv_iinc (v := 4) (lv' := [(3, .int 4), (2, .ref q49), (1, .ref q1), (0, .ref b)]) hx hb dL_law_1080 hl (k := 0) rfl (by decide +kernel) (by decide) rfl (fun ls hl => ?_)
                                refine lv_goto (tgt := 18) hx hb dL_law_1083 (by decide) ?_
                                refine lv_iload_n hx hb dL_law_18 rfl (lv_at hl 0 rfl) ?_
                                refine lv_aload_n hx hb dL_law_19 rfl (lv_at hl 3 rfl) ?_
                                refine va_slen hx hb hX hbl hbA hS dL_law_20 (tk_i (v := 4) (by decide +kernel) ?_)
                                refine lv_iconst (v := 4) hx hb dL_law_21 (by decide) ?_
                                refine lv_isub hx hb dL_law_22 (tk_i (v := 0) (by decide +kernel) ?_)
                                refine lv_icmp_gt (tgt := 1086) hx hb dL_law_23 (by decide) (fun _ => ?_) (fun h9 => absurd (by decide +kernel) h9)
                                refine lv_iconst (v := 1) hx hb dL_law_1086 (by decide) ?_
                                refine va_forget (fun q hq => by have h9 := hS.2.2 q hq; rw [← hAe] at h9; exact h9) ?_
                                refine W.widen (k := 600000) (n := 7302250) (by decide) (by decide) ?_
                                exact lw_ret hx hb hr hlocks dL_law_1087
                            ·
                              have e_a3 : a3 = 6 := ib_eq (X := 6) (by omega) (by decide +kernel)
                              subst e_a3
                              refine lv_aload_n hx hb dL_law_928 rfl (lv_at hl 2 rfl) ?_
                              refine lv_aload_n hx hb dL_law_929 rfl (lv_at hl 3 rfl) ?_
                              refine lv_iload_n hx hb dL_law_930 rfl (lv_at hl 0 rfl) ?_
                              refine lv_iconst (v := 1) hx hb dL_law_931 (by decide) ?_
                              refine lv_iadd hx hb dL_law_932 (tk_i (v := 1) (by decide +kernel) ?_)
                              refine va_sld hx hb hX hbl hbA hS (vin (by decide +kernel)) dL_law_933 (tk_i (v := a1) ha1 ?_)
                              refine lv_aload_n hx hb dL_law_934 rfl (lv_at hl 3 rfl) ?_
                              refine lv_iload_n hx hb dL_law_935 rfl (lv_at hl 0 rfl) ?_
                              refine lv_iconst (v := 2) hx hb dL_law_936 (by decide) ?_
                              refine lv_iadd hx hb dL_law_937 (tk_i (v := 2) (by decide +kernel) ?_)
                              refine va_sld hx hb hX hbl hbA hS (vin (by decide +kernel)) dL_law_938 (tk_i (v := a2) ha2 ?_)
                              refine lv_aload_n hx hb dL_law_939 rfl (lv_at hl 3 rfl) ?_
                              refine lv_iload_n hx hb dL_law_940 rfl (lv_at hl 0 rfl) ?_
                              refine lv_iconst (v := 3) hx hb dL_law_941 (by decide) ?_
                              refine lv_iadd hx hb dL_law_942 (tk_i (v := 3) (by decide +kernel) ?_)
                              refine va_sld hx hb hX hbl hbA hS (vin (by decide +kernel)) dL_law_943 (tk_i (v := 6) ha3 ?_)
                              refine kcall_i (D := (dC, dI)) (S := Unit) (v := (-3)) (wc := [(q1, .inr (11, [.ref q2, .ref q4, .ref q6, .ref q18, .ref q23, .ref q28, .ref q33, .ref q36, .ref q37, .ref q40, .ref q44, .ref q48, .int 0])), (q4, .inr (10, [.ref q5, .int 0, .int 0])), (q48, .inl (cI, 5, .inl (fun _ => 0)))]) (wr := [(q49, .inr (12, [.int 0, .ref q50, .int 0, .ref q51, .int 0, .ref q52, .ref q53, .int 0, .ref q54, .int 0, .ref q55, .int (-9), .int 0, .int 0, .ref q56, .ref q57, .ref q58, .ref q59, .ref q60, .int 0, .ref q61, .ref q62, .ref q63, .int 0, .ref q64, .ref q65, .ref q66, .int 0, .ref q67])), (q50, .inl (cI, 5, .inl (fun _ => 0)))]) (w1 := fun _ => []) (fun hPc hDc => va_runV (As := [.int a1, .int a2, .int 6]) (rest := []) ⟨hx, hb, hml, hown, hts⟩ (kX11_copy_40 l dC dI cI c2 q1 q4 q48 q2 q6 q18 q23 q28 q33 q36 q37 q40 q44 q5 H.size a1 a2 (by omega) (by omega) (by omega) (by omega)) (cwV 3 hts gL_law_X11_copy rfl rfl rfl (by decide +kernel) ⟨Nat.le_of_ble_eq_true rfl, Nat.le_of_ble_eq_true rfl⟩) (pre_V hPc hK hDc hN (ci := 11) (q0 := 0) rfl rfl) rfl rfl hl.1 rfl (lv_room (Nat.le_of_ble_eq_true rfl)) dL_law_944 ⟨Nat.le_of_ble_eq_true rfl, Nat.le_of_ble_eq_true rfl⟩) hP hD hS hA [0, 3, 27] [28, 29] rfl rfl (by decide) (by decide) (by decide) (fun u H locs hP hD hS => ?_)
                              have hP : va_P (dC, dI) vwCl [(q49, .inr (12, [.int 0, .ref q50, .int 0, .ref q51, .int 0, .ref q52, .ref q53, .int 0, .ref q54, .int 0, .ref q55, .int (-9), .int 0, .int 0, .ref q56, .ref q57, .ref q58, .ref q59, .ref q60, .int 0, .ref q61, .ref q62, .ref q63, .int 0, .ref q64, .ref q65, .ref q66, .int 0, .ref q67])), (q50, .inl (cI, 5, .inl (fun _ => 0)))] H := hP
                              have hD : va_D A [(q49, .inr (12, [.int 0, .ref q50, .int 0, .ref q51, .int 0, .ref q52, .ref q53, .int 0, .ref q54, .int 0, .ref q55, .int (-9), .int 0, .int 0, .ref q56, .ref q57, .ref q58, .ref q59, .ref q60, .int 0, .ref q61, .ref q62, .ref q63, .int 0, .ref q64, .ref q65, .ref q66, .int 0, .ref q67])), (q50, .inl (cI, 5, .inl (fun _ => 0)))] := hD
                              refine lv_aload_n hx hb dL_law_947 rfl (lv_at hl 1 rfl) ?_
                              refine lv_aload_n hx hb dL_law_948 rfl (lv_at hl 3 rfl) ?_
                              refine lv_iload_n hx hb dL_law_949 rfl (lv_at hl 0 rfl) ?_
                              refine lv_iconst (v := 1) hx hb dL_law_950 (by decide) ?_
                              refine lv_iadd hx hb dL_law_951 (tk_i (v := 1) (by decide +kernel) ?_)
                              refine va_sld hx hb hX hbl hbA hS (vin (by decide +kernel)) dL_law_952 (tk_i (v := a1) ha1 ?_)
                              refine lv_aload_n hx hb dL_law_953 rfl (lv_at hl 3 rfl) ?_
                              refine lv_iload_n hx hb dL_law_954 rfl (lv_at hl 0 rfl) ?_
                              refine lv_iconst (v := 2) hx hb dL_law_955 (by decide) ?_
                              refine lv_iadd hx hb dL_law_956 (tk_i (v := 2) (by decide +kernel) ?_)
                              refine va_sld hx hb hX hbl hbA hS (vin (by decide +kernel)) dL_law_957 (tk_i (v := a2) ha2 ?_)
                              refine lv_aload_n hx hb dL_law_958 rfl (lv_at hl 3 rfl) ?_
                              refine lv_iload_n hx hb dL_law_959 rfl (lv_at hl 0 rfl) ?_
                              refine lv_iconst (v := 3) hx hb dL_law_960 (by decide) ?_
                              refine lv_iadd hx hb dL_law_961 (tk_i (v := 3) (by decide +kernel) ?_)
                              refine va_sld hx hb hX hbl hbA hS (vin (by decide +kernel)) dL_law_962 (tk_i (v := 6) ha3 ?_)
                              refine kcall_i (D := (dC, dI)) (S := Unit) (v := (-3)) (wc := [(q49, .inr (12, [.int 0, .ref q50, .int 0, .ref q51, .int 0, .ref q52, .ref q53, .int 0, .ref q54, .int 0, .ref q55, .int (-9), .int 0, .int 0, .ref q56, .ref q57, .ref q58, .ref q59, .ref q60, .int 0, .ref q61, .ref q62, .ref q63, .int 0, .ref q64, .ref q65, .ref q66, .int 0, .ref q67])), (q50, .inl (cI, 5, .inl (fun _ => 0)))]) (wr := []) (w1 := fun _ => []) (fun hPc hDc => va_runV (As := [.int a1, .int a2, .int 6]) (rest := [.int (-3)]) ⟨hx, hb, hml, hown, hts⟩ (kX12_copy_40 l dC dI cI c2 q49 q50 q51 q52 q53 q54 q55 q56 q57 q58 q59 q60 q61 q62 q63 q64 q65 q66 q67 H.size a1 a2 (by omega) (by omega) (by omega) (by omega)) (cwV 3 hts gL_law_X12_copy rfl rfl rfl (by decide +kernel) ⟨Nat.le_of_ble_eq_true rfl, Nat.le_of_ble_eq_true rfl⟩) (pre_V hPc hK hDc hN (ci := 12) (q0 := 0) rfl rfl) rfl rfl hl.1 rfl (lv_room (Nat.le_of_ble_eq_true rfl)) dL_law_963 ⟨Nat.le_of_ble_eq_true rfl, Nat.le_of_ble_eq_true rfl⟩) hP hD hS hA [0, 1] [] rfl rfl (by decide) (by decide) (by decide) (fun u H locs hP hD hS => ?_)
                              have hP : va_P (dC, dI) vwCl [] H := hP
                              have hD : va_D A [] := hD
                              refine lv_icmp_eq (tgt := 1080) hx hb dL_law_966 (by decide) (fun _ => ?_) (fun h9 => absurd (by decide +kernel) h9)
                              refine lv_iinc (v := 4) (lv' := [(3, .int 4), (2, .ref q49), (1, .ref q1), (0, .ref b)]) hx hb dL_law_1080 hl (k := 0) rfl (by decide +kernel) (by decide) rfl (fun ls hl => ?_)
                              refine lv_goto (tgt := 18) hx hb dL_law_1083 (by decide) ?_
                              refine lv_iload_n hx hb dL_law_18 rfl (lv_at hl 0 rfl) ?_
                              refine lv_aload_n hx hb dL_law_19 rfl (lv_at hl 3 rfl) ?_
                              refine va_slen hx hb hX hbl hbA hS dL_law_20 (tk_i (v := 4) (by decide +kernel) ?_)
                              refine lv_iconst (v := 4) hx hb dL_law_21 (by decide) ?_
                              refine lv_isub hx hb dL_law_22 (tk_i (v := 0) (by decide +kernel) ?_)
                              refine lv_icmp_gt (tgt := 1086) hx hb dL_law_23 (by decide) (fun _ => ?_) (fun h9 => absurd (by decide +kernel) h9)
                              refine lv_iconst (v := 1) hx hb dL_law_1086 (by decide) ?_
                              refine va_forget (fun q hq => by have h9 := hS.2.2 q hq; rw [← hAe] at h9; exact h9) ?_
                              refine W.widen (k := 600000) (n := 7302250) (by decide) (by decide) ?_
                              exact lw_ret hx hb hr hlocks dL_law_1087
                        ·
                          rcases (show a2.toInt ≤ (-1) ∨ 0 ≤ a2.toInt by omega) with g_a2_0 | g_a2_0
                          ·
                            have e_a3 : a3 = 6 := ib_eq (X := 6) (by omega) (by decide +kernel)
                            subst e_a3
                            refine lv_aload_n hx hb dL_law_928 rfl (lv_at hl 2 rfl) ?_
                            refine lv_aload_n hx hb dL_law_929 rfl (lv_at hl 3 rfl) ?_
                            refine lv_iload_n hx hb dL_law_930 rfl (lv_at hl 0 rfl) ?_
                            refine lv_iconst (v := 1) hx hb dL_law_931 (by decide) ?_
                            refine lv_iadd hx hb dL_law_932 (tk_i (v := 1) (by decide +kernel) ?_)
                            refine va_sld hx hb hX hbl hbA hS (vin (by decide +kernel)) dL_law_933 (tk_i (v := a1) ha1 ?_)
                            refine lv_aload_n hx hb dL_law_934 rfl (lv_at hl 3 rfl) ?_
                            refine lv_iload_n hx hb dL_law_935 rfl (lv_at hl 0 rfl) ?_
                            refine lv_iconst (v := 2) hx hb dL_law_936 (by decide) ?_
                            refine lv_iadd hx hb dL_law_937 (tk_i (v := 2) (by decide +kernel) ?_)
                            refine va_sld hx hb hX hbl hbA hS (vin (by decide +kernel)) dL_law_938 (tk_i (v := a2) ha2 ?_)
                            refine lv_aload_n hx hb dL_law_939 rfl (lv_at hl 3 rfl) ?_
                            refine lv_iload_n hx hb dL_law_940 rfl (lv_at hl 0 rfl) ?_
                            refine lv_iconst (v := 3) hx hb dL_law_941 (by decide) ?_
                            refine lv_iadd hx hb dL_law_942 (tk_i (v := 3) (by decide +kernel) ?_)
                            refine va_sld hx hb hX hbl hbA hS (vin (by decide +kernel)) dL_law_943 (tk_i (v := 6) ha3 ?_)
                            refine kcall_i (D := (dC, dI)) (S := Unit) (v := (-3)) (wc := [(q1, .inr (11, [.ref q2, .ref q4, .ref q6, .ref q18, .ref q23, .ref q28, .ref q33, .ref q36, .ref q37, .ref q40, .ref q44, .ref q48, .int 0])), (q4, .inr (10, [.ref q5, .int 0, .int 0])), (q48, .inl (cI, 5, .inl (fun _ => 0)))]) (wr := [(q49, .inr (12, [.int 0, .ref q50, .int 0, .ref q51, .int 0, .ref q52, .ref q53, .int 0, .ref q54, .int 0, .ref q55, .int (-9), .int 0, .int 0, .ref q56, .ref q57, .ref q58, .ref q59, .ref q60, .int 0, .ref q61, .ref q62, .ref q63, .int 0, .ref q64, .ref q65, .ref q66, .int 0, .ref q67])), (q50, .inl (cI, 5, .inl (fun _ => 0)))]) (w1 := fun _ => []) (fun hPc hDc => va_runV (As := [.int a1, .int a2, .int 6]) (rest := []) ⟨hx, hb, hml, hown, hts⟩ (kX11_copy_41 l dC dI cI c2 q1 q4 q48 q2 q6 q18 q23 q28 q33 q36 q37 q40 q44 q5 H.size a1 a2 (by omega) (by omega) (by omega) (by omega)) (cwV 3 hts gL_law_X11_copy rfl rfl rfl (by decide +kernel) ⟨Nat.le_of_ble_eq_true rfl, Nat.le_of_ble_eq_true rfl⟩) (pre_V hPc hK hDc hN (ci := 11) (q0 := 0) rfl rfl) rfl rfl hl.1 rfl (lv_room (Nat.le_of_ble_eq_true rfl)) dL_law_944 ⟨Nat.le_of_ble_eq_true rfl, Nat.le_of_ble_eq_true rfl⟩) hP hD hS hA [0, 3, 27] [28, 29] rfl rfl (by decide) (by decide) (by decide) (fun u H locs hP hD hS => ?_)
                            have hP : va_P (dC, dI) vwCl [(q49, .inr (12, [.int 0, .ref q50, .int 0, .ref q51, .int 0, .ref q52, .ref q53, .int 0, .ref q54, .int 0, .ref q55, .int (-9), .int 0, .int 0, .ref q56, .ref q57, .ref q58, .ref q59, .ref q60, .int 0, .ref q61, .ref q62, .ref q63, .int 0, .ref q64, .ref q65, .ref q66, .int 0, .ref q67])), (q50, .inl (cI, 5, .inl (fun _ => 0)))] H := hP
                            have hD : va_D A [(q49, .inr (12, [.int 0, .ref q50, .int 0, .ref q51, .int 0, .ref q52, .ref q53, .int 0, .ref q54, .int 0, .ref q55, .int (-9), .int 0, .int 0, .ref q56, .ref q57, .ref q58, .ref q59, .ref q60, .int 0, .ref q61, .ref q62, .ref q63, .int 0, .ref q64, .ref q65, .ref q66, .int 0, .ref q67])), (q50, .inl (cI, 5, .inl (fun _ => 0)))] := hD
                            refine lv_aload_n hx hb dL_law_947 rfl (lv_at hl 1 rfl) ?_
                            refine lv_aload_n hx hb dL_law_948 rfl (lv_at hl 3 rfl) ?_
                            refine lv_iload_n hx hb dL_law_949 rfl (lv_at hl 0 rfl) ?_
                            refine lv_iconst (v := 1) hx hb dL_law_950 (by decide) ?_
                            refine lv_iadd hx hb dL_law_951 (tk_i (v := 1) (by decide +kernel) ?_)
                            refine va_sld hx hb hX hbl hbA hS (vin (by decide +kernel)) dL_law_952 (tk_i (v := a1) ha1 ?_)
                            refine lv_aload_n hx hb dL_law_953 rfl (lv_at hl 3 rfl) ?_
                            refine lv_iload_n hx hb dL_law_954 rfl (lv_at hl 0 rfl) ?_
                            refine lv_iconst (v := 2) hx hb dL_law_955 (by decide) ?_
                            refine lv_iadd hx hb dL_law_956 (tk_i (v := 2) (by decide +kernel) ?_)
                            refine va_sld hx hb hX hbl hbA hS (vin (by decide +kernel)) dL_law_957 (tk_i (v := a2) ha2 ?_)
                            refine lv_aload_n hx hb dL_law_958 rfl (lv_at hl 3 rfl) ?_
                            refine lv_iload_n hx hb dL_law_959 rfl (lv_at hl 0 rfl) ?_
                            refine lv_iconst (v := 3) hx hb dL_law_960 (by decide) ?_
                            refine lv_iadd hx hb dL_law_961 (tk_i (v := 3) (by decide +kernel) ?_)
                            refine va_sld hx hb hX hbl hbA hS (vin (by decide +kernel)) dL_law_962 (tk_i (v := 6) ha3 ?_)
                            refine kcall_i (D := (dC, dI)) (S := Unit) (v := (-3)) (wc := [(q49, .inr (12, [.int 0, .ref q50, .int 0, .ref q51, .int 0, .ref q52, .ref q53, .int 0, .ref q54, .int 0, .ref q55, .int (-9), .int 0, .int 0, .ref q56, .ref q57, .ref q58, .ref q59, .ref q60, .int 0, .ref q61, .ref q62, .ref q63, .int 0, .ref q64, .ref q65, .ref q66, .int 0, .ref q67])), (q50, .inl (cI, 5, .inl (fun _ => 0)))]) (wr := []) (w1 := fun _ => []) (fun hPc hDc => va_runV (As := [.int a1, .int a2, .int 6]) (rest := [.int (-3)]) ⟨hx, hb, hml, hown, hts⟩ (kX12_copy_41 l dC dI cI c2 q49 q50 q51 q52 q53 q54 q55 q56 q57 q58 q59 q60 q61 q62 q63 q64 q65 q66 q67 H.size a1 a2 (by omega) (by omega) (by omega) (by omega)) (cwV 3 hts gL_law_X12_copy rfl rfl rfl (by decide +kernel) ⟨Nat.le_of_ble_eq_true rfl, Nat.le_of_ble_eq_true rfl⟩) (pre_V hPc hK hDc hN (ci := 12) (q0 := 0) rfl rfl) rfl rfl hl.1 rfl (lv_room (Nat.le_of_ble_eq_true rfl)) dL_law_963 ⟨Nat.le_of_ble_eq_true rfl, Nat.le_of_ble_eq_true rfl⟩) hP hD hS hA [0, 1] [] rfl rfl (by decide) (by decide) (by decide) (fun u H locs hP hD hS => ?_)
                            have hP : va_P (dC, dI) vwCl [] H := hP
                            have hD : va_D A [] := hD
                            refine lv_icmp_eq (tgt := 1080) hx hb dL_law_966 (by decide) (fun _ => ?_) (fun h9 => absurd (by decide +kernel) h9)
                            refine lv_iinc (v := 4) (lv' := [(3, .int 4), (2, .ref q49), (1, .ref q1), (0, .ref b)]) hx hb dL_law_1080 hl (k := 0) rfl (by decide +kernel) (by decide) rfl (fun ls hl => ?_)
                            refine lv_goto (tgt := 18) hx hb dL_law_1083 (by decide) ?_
                            refine lv_iload_n hx hb dL_law_18 rfl (lv_at hl 0 rfl) ?_
                            refine lv_aload_n hx hb dL_law_19 rfl (lv_at hl 3 rfl) ?_
                            refine va_slen hx hb hX hbl hbA hS dL_law_20 (tk_i (v := 4) (by decide +kernel) ?_)
                            refine lv_iconst (v := 4) hx hb dL_law_21 (by decide) ?_
                            refine lv_isub hx hb dL_law_22 (tk_i (v := 0) (by decide +kernel) ?_)
                            refine lv_icmp_gt (tgt := 1086) hx hb dL_law_23 (by decide) (fun _ => ?_) (fun h9 => absurd (by decide +kernel) h9)
                            refine lv_iconst (v := 1) hx hb dL_law_1086 (by decide) ?_
                            refine va_forget (fun q hq => by have h9 := hS.2.2 q hq; rw [← hAe] at h9; exact h9) ?_
                            refine W.widen (k := 600000) (n := 7302250) (by decide) (by decide) ?_
                            exact lw_ret hx hb hr hlocks dL_law_1087
                          ·
                            have e_a3 : a3 = 6 := ib_eq (X := 6) (by omega) (by decide +kernel)
                            subst e_a3
                            refine lv_aload_n hx hb dL_law_928 rfl (lv_at hl 2 rfl) ?_
                            refine lv_aload_n hx hb dL_law_929 rfl (lv_at hl 3 rfl) ?_
                            refine lv_iload_n hx hb dL_law_930 rfl (lv_at hl 0 rfl) ?_
                            refine lv_iconst (v := 1) hx hb dL_law_931 (by decide) ?_
                            refine lv_iadd hx hb dL_law_932 (tk_i (v := 1) (by decide +kernel) ?_)
                            refine va_sld hx hb hX hbl hbA hS (vin (by decide +kernel)) dL_law_933 (tk_i (v := a1) ha1 ?_)
                            refine lv_aload_n hx hb dL_law_934 rfl (lv_at hl 3 rfl) ?_
                            refine lv_iload_n hx hb dL_law_935 rfl (lv_at hl 0 rfl) ?_
                            refine lv_iconst (v := 2) hx hb dL_law_936 (by decide) ?_
                            refine lv_iadd hx hb dL_law_937 (tk_i (v := 2) (by decide +kernel) ?_)
                            refine va_sld hx hb hX hbl hbA hS (vin (by decide +kernel)) dL_law_938 (tk_i (v := a2) ha2 ?_)
                            refine lv_aload_n hx hb dL_law_939 rfl (lv_at hl 3 rfl) ?_
                            refine lv_iload_n hx hb dL_law_940 rfl (lv_at hl 0 rfl) ?_
                            refine lv_iconst (v := 3) hx hb dL_law_941 (by decide) ?_
                            refine lv_iadd hx hb dL_law_942 (tk_i (v := 3) (by decide +kernel) ?_)
                            refine va_sld hx hb hX hbl hbA hS (vin (by decide +kernel)) dL_law_943 (tk_i (v := 6) ha3 ?_)
                            refine kcall_i (D := (dC, dI)) (S := Unit) (v := (-3)) (wc := [(q1, .inr (11, [.ref q2, .ref q4, .ref q6, .ref q18, .ref q23, .ref q28, .ref q33, .ref q36, .ref q37, .ref q40, .ref q44, .ref q48, .int 0])), (q4, .inr (10, [.ref q5, .int 0, .int 0])), (q48, .inl (cI, 5, .inl (fun _ => 0)))]) (wr := [(q49, .inr (12, [.int 0, .ref q50, .int 0, .ref q51, .int 0, .ref q52, .ref q53, .int 0, .ref q54, .int 0, .ref q55, .int (-9), .int 0, .int 0, .ref q56, .ref q57, .ref q58, .ref q59, .ref q60, .int 0, .ref q61, .ref q62, .ref q63, .int 0, .ref q64, .ref q65, .ref q66, .int 0, .ref q67])), (q50, .inl (cI, 5, .inl (fun _ => 0)))]) (w1 := fun _ => []) (fun hPc hDc => va_runV (As := [.int a1, .int a2, .int 6]) (rest := []) ⟨hx, hb, hml, hown, hts⟩ (kX11_copy_42 l dC dI cI c2 q1 q4 q48 q2 q6 q18 q23 q28 q33 q36 q37 q40 q44 q5 H.size a1 a2 (by omega) (by omega) (by omega) (by omega)) (cwV 3 hts gL_law_X11_copy rfl rfl rfl (by decide +kernel) ⟨Nat.le_of_ble_eq_true rfl, Nat.le_of_ble_eq_true rfl⟩) (pre_V hPc hK hDc hN (ci := 11) (q0 := 0) rfl rfl) rfl rfl hl.1 rfl (lv_room (Nat.le_of_ble_eq_true rfl)) dL_law_944 ⟨Nat.le_of_ble_eq_true rfl, Nat.le_of_ble_eq_true rfl⟩) hP hD hS hA [0, 3, 27] [28, 29] rfl rfl (by decide) (by decide) (by decide) (fun u H locs hP hD hS => ?_)
                            have hP : va_P (dC, dI) vwCl [(q49, .inr (12, [.int 0, .ref q50, .int 0, .ref q51, .int 0, .ref q52, .ref q53, .int 0, .ref q54, .int 0, .ref q55, .int (-9), .int 0, .int 0, .ref q56, .ref q57, .ref q58, .ref q59, .ref q60, .int 0, .ref q61, .ref q62, .ref q63, .int 0, .ref q64, .ref q65, .ref q66, .int 0, .ref q67])), (q50, .inl (cI, 5, .inl (fun _ => 0)))] H := hP
                            have hD : va_D A [(q49, .inr (12, [.int 0, .ref q50, .int 0, .ref q51, .int 0, .ref q52, .ref q53, .int 0, .ref q54, .int 0, .ref q55, .int (-9), .int 0, .int 0, .ref q56, .ref q57, .ref q58, .ref q59, .ref q60, .int 0, .ref q61, .ref q62, .ref q63, .int 0, .ref q64, .ref q65, .ref q66, .int 0, .ref q67])), (q50, .inl (cI, 5, .inl (fun _ => 0)))] := hD
                            refine lv_aload_n hx hb dL_law_947 rfl (lv_at hl 1 rfl) ?_
                            refine lv_aload_n hx hb dL_law_948 rfl (lv_at hl 3 rfl) ?_
                            refine lv_iload_n hx hb dL_law_949 rfl (lv_at hl 0 rfl) ?_
                            refine lv_iconst (v := 1) hx hb dL_law_950 (by decide) ?_
                            refine lv_iadd hx hb dL_law_951 (tk_i (v := 1) (by decide +kernel) ?_)
                            refine va_sld hx hb hX hbl hbA hS (vin (by decide +kernel)) dL_law_952 (tk_i (v := a1) ha1 ?_)
                            refine lv_aload_n hx hb dL_law_953 rfl (lv_at hl 3 rfl) ?_
                            refine lv_iload_n hx hb dL_law_954 rfl (lv_at hl 0 rfl) ?_
                            refine lv_iconst (v := 2) hx hb dL_law_955 (by decide) ?_
                            refine lv_iadd hx hb dL_law_956 (tk_i (v := 2) (by decide +kernel) ?_)
                            refine va_sld hx hb hX hbl hbA hS (vin (by decide +kernel)) dL_law_957 (tk_i (v := a2) ha2 ?_)
                            refine lv_aload_n hx hb dL_law_958 rfl (lv_at hl 3 rfl) ?_
                            refine lv_iload_n hx hb dL_law_959 rfl (lv_at hl 0 rfl) ?_
                            refine lv_iconst (v := 3) hx hb dL_law_960 (by decide) ?_
                            refine lv_iadd hx hb dL_law_961 (tk_i (v := 3) (by decide +kernel) ?_)
                            refine va_sld hx hb hX hbl hbA hS (vin (by decide +kernel)) dL_law_962 (tk_i (v := 6) ha3 ?_)
                            refine kcall_i (D := (dC, dI)) (S := Unit) (v := (-3)) (wc := [(q49, .inr (12, [.int 0, .ref q50, .int 0, .ref q51, .int 0, .ref q52, .ref q53, .int 0, .ref q54, .int 0, .ref q55, .int (-9), .int 0, .int 0, .ref q56, .ref q57, .ref q58, .ref q59, .ref q60, .int 0, .ref q61, .ref q62, .ref q63, .int 0, .ref q64, .ref q65, .ref q66, .int 0, .ref q67])), (q50, .inl (cI, 5, .inl (fun _ => 0)))]) (wr := []) (w1 := fun _ => []) (fun hPc hDc => va_runV (As := [.int a1, .int a2, .int 6]) (rest := [.int (-3)]) ⟨hx, hb, hml, hown, hts⟩ (kX12_copy_42 l dC dI cI c2 q49 q50 q51 q52 q53 q54 q55 q56 q57 q58 q59 q60 q61 q62 q63 q64 q65 q66 q67 H.size a1 a2 (by omega) (by omega) (by omega) (by omega)) (cwV 3 hts gL_law_X12_copy rfl rfl rfl (by decide +kernel) ⟨Nat.le_of_ble_eq_true rfl, Nat.le_of_ble_eq_true rfl⟩) (pre_V hPc hK hDc hN (ci := 12) (q0 := 0) rfl rfl) rfl rfl hl.1 rfl (lv_room (Nat.le_of_ble_eq_true rfl)) dL_law_963 ⟨Nat.le_of_ble_eq_true rfl, Nat.le_of_ble_eq_true rfl⟩) hP hD hS hA [0, 1] [] rfl rfl (by decide) (by decide) (by decide) (fun u H locs hP hD hS => ?_)
                            have hP : va_P (dC, dI) vwCl [] H := hP
                            have hD : va_D A [] := hD
                            refine lv_icmp_eq (tgt := 1080) hx hb dL_law_966 (by decide) (fun _ => ?_) (fun h9 => absurd (by decide +kernel) h9)
                            refine lv_iinc (v := 4) (lv' := [(3, .int 4), (2, .ref q49), (1, .ref q1), (0, .ref b)]) hx hb dL_law_1080 hl (k := 0) rfl (by decide +kernel) (by decide) rfl (fun ls hl => ?_)
                            refine lv_goto (tgt := 18) hx hb dL_law_1083 (by decide) ?_
                            refine lv_iload_n hx hb dL_law_18 rfl (lv_at hl 0 rfl) ?_
                            refine lv_aload_n hx hb dL_law_19 rfl (lv_at hl 3 rfl) ?_
                            refine va_slen hx hb hX hbl hbA hS dL_law_20 (tk_i (v := 4) (by decide +kernel) ?_)
                            refine lv_iconst (v := 4) hx hb dL_law_21 (by decide) ?_
                            refine lv_isub hx hb dL_law_22 (tk_i (v := 0) (by decide +kernel) ?_)
                            refine lv_icmp_gt (tgt := 1086) hx hb dL_law_23 (by decide) (fun _ => ?_) (fun h9 => absurd (by decide +kernel) h9)
                            refine lv_iconst (v := 1) hx hb dL_law_1086 (by decide) ?_
                            refine va_forget (fun q hq => by have h9 := hS.2.2 q hq; rw [← hAe] at h9; exact h9) ?_
                            refine W.widen (k := 600000) (n := 7302250) (by decide) (by decide) ?_
                            exact lw_ret hx hb hr hlocks dL_law_1087
                      ·
                        rcases (show a3.toInt ≤ 7 ∨ 8 ≤ a3.toInt by omega) with g_a3_8 | g_a3_8
                        ·
                          rcases (show a1.toInt ≤ 5 ∨ 6 ≤ a1.toInt by omega) with g_a1_6 | g_a1_6
                          ·
                            rcases (show a2.toInt ≤ (-1) ∨ 0 ≤ a2.toInt by omega) with g_a2_0 | g_a2_0
                            ·
                              have e_a3 : a3 = 7 := ib_eq (X := 7) (by omega) (by decide +kernel)
                              subst e_a3
                              refine lv_aload_n hx hb dL_law_928 rfl (lv_at hl 2 rfl) ?_
                              refine lv_aload_n hx hb dL_law_929 rfl (lv_at hl 3 rfl) ?_
                              refine lv_iload_n hx hb dL_law_930 rfl (lv_at hl 0 rfl) ?_
                              refine lv_iconst (v := 1) hx hb dL_law_931 (by decide) ?_
                              refine lv_iadd hx hb dL_law_932 (tk_i (v := 1) (by decide +kernel) ?_)
                              refine va_sld hx hb hX hbl hbA hS (vin (by decide +kernel)) dL_law_933 (tk_i (v := a1) ha1 ?_)
                              refine lv_aload_n hx hb dL_law_934 rfl (lv_at hl 3 rfl) ?_
                              refine lv_iload_n hx hb dL_law_935 rfl (lv_at hl 0 rfl) ?_
                              refine lv_iconst (v := 2) hx hb dL_law_936 (by decide) ?_
                              refine lv_iadd hx hb dL_law_937 (tk_i (v := 2) (by decide +kernel) ?_)
                              refine va_sld hx hb hX hbl hbA hS (vin (by decide +kernel)) dL_law_938 (tk_i (v := a2) ha2 ?_)
                              refine lv_aload_n hx hb dL_law_939 rfl (lv_at hl 3 rfl) ?_
                              refine lv_iload_n hx hb dL_law_940 rfl (lv_at hl 0 rfl) ?_
                              refine lv_iconst (v := 3) hx hb dL_law_941 (by decide) ?_
                              refine lv_iadd hx hb dL_law_942 (tk_i (v := 3) (by decide +kernel) ?_)
                              refine va_sld hx hb hX hbl hbA hS (vin (by decide +kernel)) dL_law_943 (tk_i (v := 7) ha3 ?_)
                              refine kcall_i (D := (dC, dI)) (S := Unit) (v := (-3)) (wc := [(q1, .inr (11, [.ref q2, .ref q4, .ref q6, .ref q18, .ref q23, .ref q28, .ref q33, .ref q36, .ref q37, .ref q40, .ref q44, .ref q48, .int 0])), (q4, .inr (10, [.ref q5, .int 0, .int 0])), (q48, .inl (cI, 5, .inl (fun _ => 0)))]) (wr := [(q49, .inr (12, [.int 0, .ref q50, .int 0, .ref q51, .int 0, .ref q52, .ref q53, .int 0, .ref q54, .int 0, .ref q55, .int (-9), .int 0, .int 0, .ref q56, .ref q57, .ref q58, .ref q59, .ref q60, .int 0, .ref q61, .ref q62, .ref q63, .int 0, .ref q64, .ref q65, .ref q66, .int 0, .ref q67])), (q50, .inl (cI, 5, .inl (fun _ => 0)))]) (w1 := fun _ => []) (fun hPc hDc => va_runV (As := [.int a1, .int a2, .int 7]) (rest := []) ⟨hx, hb, hml, hown, hts⟩ (kX11_copy_43 l dC dI cI c2 q1 q4 q48 q2 q6 q18 q23 q28 q33 q36 q37 q40 q44 q5 H.size a1 a2 (by omega) (by omega) (by omega) (by omega)) (cwV 3 hts gL_law_X11_copy rfl rfl rfl (by decide +kernel) ⟨Nat.le_of_ble_eq_true rfl, Nat.le_of_ble_eq_true rfl⟩) (pre_V hPc hK hDc hN (ci := 11) (q0 := 0) rfl rfl) rfl rfl hl.1 rfl (lv_room (Nat.le_of_ble_eq_true rfl)) dL_law_944 ⟨Nat.le_of_ble_eq_true rfl, Nat.le_of_ble_eq_true rfl⟩) hP hD hS hA [0, 3, 27] [28, 29] rfl rfl (by decide) (by decide) (by decide) (fun u H locs hP hD hS => ?_)
                              have hP : va_P (dC, dI) vwCl [(q49, .inr (12, [.int 0, .ref q50, .int 0, .ref q51, .int 0, .ref q52, .ref q53, .int 0, .ref q54, .int 0, .ref q55, .int (-9), .int 0, .int 0, .ref q56, .ref q57, .ref q58, .ref q59, .ref q60, .int 0, .ref q61, .ref q62, .ref q63, .int 0, .ref q64, .ref q65, .ref q66, .int 0, .ref q67])), (q50, .inl (cI, 5, .inl (fun _ => 0)))] H := hP
                              have hD : va_D A [(q49, .inr (12, [.int 0, .ref q50, .int 0, .ref q51, .int 0, .ref q52, .ref q53, .int 0, .ref q54, .int 0, .ref q55, .int (-9), .int 0, .int 0, .ref q56, .ref q57, .ref q58, .ref q59, .ref q60, .int 0, .ref q61, .ref q62, .ref q63, .int 0, .ref q64, .ref q65, .ref q66, .int 0, .ref q67])), (q50, .inl (cI, 5, .inl (fun _ => 0)))] := hD
                              refine lv_aload_n hx hb dL_law_947 rfl (lv_at hl 1 rfl) ?_
                              refine lv_aload_n hx hb dL_law_948 rfl (lv_at hl 3 rfl) ?_
                              refine lv_iload_n hx hb dL_law_949 rfl (lv_at hl 0 rfl) ?_
                              refine lv_iconst (v := 1) hx hb dL_law_950 (by decide) ?_
                              refine lv_iadd hx hb dL_law_951 (tk_i (v := 1) (by decide +kernel) ?_)
                              refine va_sld hx hb hX hbl hbA hS (vin (by decide +kernel)) dL_law_952 (tk_i (v := a1) ha1 ?_)
                              refine lv_aload_n hx hb dL_law_953 rfl (lv_at hl 3 rfl) ?_
                              refine lv_iload_n hx hb dL_law_954 rfl (lv_at hl 0 rfl) ?_
                              refine lv_iconst (v := 2) hx hb dL_law_955 (by decide) ?_
                              refine lv_iadd hx hb dL_law_956 (tk_i (v := 2) (by decide +kernel) ?_)
                              refine va_sld hx hb hX hbl hbA hS (vin (by decide +kernel)) dL_law_957 (tk_i (v := a2) ha2 ?_)
                              refine lv_aload_n hx hb dL_law_958 rfl (lv_at hl 3 rfl) ?_
                              refine lv_iload_n hx hb dL_law_959 rfl (lv_at hl 0 rfl) ?_
                              refine lv_iconst (v := 3) hx hb dL_law_960 (by decide) ?_
                              refine lv_iadd hx hb dL_law_961 (tk_i (v := 3) (by decide +kernel) ?_)
                              refine va_sld hx hb hX hbl hbA hS (vin (by decide +kernel)) dL_law_962 (tk_i (v := 7) ha3 ?_)
                              refine kcall_i (D := (dC, dI)) (S := Unit) (v := (-3)) (wc := [(q49, .inr (12, [.int 0, .ref q50, .int 0, .ref q51, .int 0, .ref q52, .ref q53, .int 0, .ref q54, .int 0, .ref q55, .int (-9), .int 0, .int 0, .ref q56, .ref q57, .ref q58, .ref q59, .ref q60, .int 0, .ref q61, .ref q62, .ref q63, .int 0, .ref q64, .ref q65, .ref q66, .int 0, .ref q67])), (q50, .inl (cI, 5, .inl (fun _ => 0)))]) (wr := []) (w1 := fun _ => []) (fun hPc hDc => va_runV (As := [.int a1, .int a2, .int 7]) (rest := [.int (-3)]) ⟨hx, hb, hml, hown, hts⟩ (kX12_copy_43 l dC dI cI c2 q49 q50 q51 q52 q53 q54 q55 q56 q57 q58 q59 q60 q61 q62 q63 q64 q65 q66 q67 H.size a1 a2 (by omega) (by omega) (by omega) (by omega)) (cwV 3 hts gL_law_X12_copy rfl rfl rfl (by decide +kernel) ⟨Nat.le_of_ble_eq_true rfl, Nat.le_of_ble_eq_true rfl⟩) (pre_V hPc hK hDc hN (ci := 12) (q0 := 0) rfl rfl) rfl rfl hl.1 rfl (lv_room (Nat.le_of_ble_eq_true rfl)) dL_law_963 ⟨Nat.le_of_ble_eq_true rfl, Nat.le_of_ble_eq_true rfl⟩) hP hD hS hA [0, 1] [] rfl rfl (by decide) (by decide) (by decide) (fun u H locs hP hD hS => ?_)
                              have hP : va_P (dC, dI) vwCl [] H := hP
                              have hD : va_D A [] := hD
                              refine lv_icmp_eq (tgt := 1080) hx hb dL_law_966 (by decide) (fun _ => ?_) (fun h9 => absurd (by decide +kernel) h9)
                              refine lv_iinc (v := 4) (lv' := [(3, .int 4), (2, .ref q49), (1, .ref q1), (0, .ref b)]) hx hb dL_law_1080 hl (k := 0) rfl (by decide +kernel) (by decide) rfl (fun ls hl => ?_)
                              refine lv_goto (tgt := 18) hx hb dL_law_1083 (by decide) ?_
                              refine lv_iload_n hx hb dL_law_18 rfl (lv_at hl 0 rfl) ?_
                              refine lv_aload_n hx hb dL_law_19 rfl (lv_at hl 3 rfl) ?_
                              refine va_slen hx hb hX hbl hbA hS dL_law_20 (tk_i (v := 4) (by decide +kernel) ?_)
                              refine lv_iconst (v := 4) hx hb dL_law_21 (by decide) ?_
                              refine lv_isub hx hb dL_law_22 (tk_i (v := 0) (by decide +kernel) ?_)
                              refine lv_icmp_gt (tgt := 1086) hx hb dL_law_23 (by decide) (fun _ => ?_) (fun h9 => absurd (by decide +kernel) h9)
                              refine lv_iconst (v := 1) hx hb dL_law_1086 (by decide) ?_
                              refine va_forget (fun q hq => by have h9 := hS.2.2 q hq; rw [← hAe] at h9; exact h9) ?_
                              refine W.widen (k := 600000) (n := 7302250) (by decide) (by decide) ?_
                              exact lw_ret hx hb hr hlocks dL_law_1087
                            ·
                              rcases (show a2.toInt ≤ 12 ∨ 13 ≤ a2.toInt by omega) with g_a2_13 | g_a2_13
                              ·
                                rcases (show a2.toInt ≤ 5 ∨ 6 ≤ a2.toInt by omega) with g_a2_6 | g_a2_6
                                ·
                                  have e_a3 : a3 = 7 := ib_eq (X := 7) (by omega) (by decide +kernel)
                                  subst e_a3
                                  refine lv_aload_n hx hb dL_law_928 rfl (lv_at hl 2 rfl) ?_
                                  refine lv_aload_n hx hb dL_law_929 rfl (lv_at hl 3 rfl) ?_
                                  refine lv_iload_n hx hb dL_law_930 rfl (lv_at hl 0 rfl) ?_
                                  refine lv_iconst (v := 1) hx hb dL_law_931 (by decide) ?_
                                  refine lv_iadd hx hb dL_law_932 (tk_i (v := 1) (by decide +kernel) ?_)
                                  refine va_sld hx hb hX hbl hbA hS (vin (by decide +kernel)) dL_law_933 (tk_i (v := a1) ha1 ?_)
                                  refine lv_aload_n hx hb dL_law_934 rfl (lv_at hl 3 rfl) ?_
                                  refine lv_iload_n hx hb dL_law_935 rfl (lv_at hl 0 rfl) ?_
                                  refine lv_iconst (v := 2) hx hb dL_law_936 (by decide) ?_
                                  refine lv_iadd hx hb dL_law_937 (tk_i (v := 2) (by decide +kernel) ?_)
                                  refine va_sld hx hb hX hbl hbA hS (vin (by decide +kernel)) dL_law_938 (tk_i (v := a2) ha2 ?_)
                                  refine lv_aload_n hx hb dL_law_939 rfl (lv_at hl 3 rfl) ?_
                                  refine lv_iload_n hx hb dL_law_940 rfl (lv_at hl 0 rfl) ?_
                                  refine lv_iconst (v := 3) hx hb dL_law_941 (by decide) ?_
                                  refine lv_iadd hx hb dL_law_942 (tk_i (v := 3) (by decide +kernel) ?_)
                                  refine va_sld hx hb hX hbl hbA hS (vin (by decide +kernel)) dL_law_943 (tk_i (v := 7) ha3 ?_)
                                  refine kcall_i (D := (dC, dI)) (S := Unit) (v := 1) (wc := [(q1, .inr (11, [.ref q2, .ref q4, .ref q6, .ref q18, .ref q23, .ref q28, .ref q33, .ref q36, .ref q37, .ref q40, .ref q44, .ref q48, .int 0])), (q4, .inr (10, [.ref q5, .int 0, .int 0])), (q5, .inl (cI, 12, .inl (fun _ => (-1))))]) (wr := [(q49, .inr (12, [.int 0, .ref q50, .int 0, .ref q51, .int 0, .ref q52, .ref q53, .int 0, .ref q54, .int 0, .ref q55, .int (-9), .int 0, .int 0, .ref q56, .ref q57, .ref q58, .ref q59, .ref q60, .int 0, .ref q61, .ref q62, .ref q63, .int 0, .ref q64, .ref q65, .ref q66, .int 0, .ref q67])), (q52, .inl (cI, 12, .inl (fun _ => (-9)))), (q67, .inl (cI, 12, .inl (fun _ => 0)))]) (w1 := fun _ => []) (fun hPc hDc => va_runV (As := [.int a1, .int a2, .int 7]) (rest := []) ⟨hx, hb, hml, hown, hts⟩ (kX11_copy_44 l dC dI cI c2 q1 q4 q5 q2 q6 q18 q23 q28 q33 q36 q37 q40 q44 q48 H.size a1 a2 (by omega) (by omega) (by omega) (by omega)) (cwV 3 hts gL_law_X11_copy rfl rfl rfl (by decide +kernel) ⟨Nat.le_of_ble_eq_true rfl, Nat.le_of_ble_eq_true rfl⟩) (pre_V hPc hK hDc hN (ci := 11) (q0 := 0) rfl rfl) rfl rfl hl.1 rfl (lv_room (Nat.le_of_ble_eq_true rfl)) dL_law_944 ⟨Nat.le_of_ble_eq_true rfl, Nat.le_of_ble_eq_true rfl⟩) hP hD hS hA [0, 3, 4] [28, 31, 36] rfl rfl (by decide) (by decide) (by decide) (fun u H locs hP hD hS => ?_)
                                  have hP : va_P (dC, dI) vwCl [(q49, .inr (12, [.int 0, .ref q50, .int 0, .ref q51, .int 0, .ref q52, .ref q53, .int 0, .ref q54, .int 0, .ref q55, .int (-9), .int 0, .int 0, .ref q56, .ref q57, .ref q58, .ref q59, .ref q60, .int 0, .ref q61, .ref q62, .ref q63, .int 0, .ref q64, .ref q65, .ref q66, .int 0, .ref q67])), (q52, .inl (cI, 12, .inl (fun _ => (-9)))), (q67, .inl (cI, 12, .inl (fun _ => 0)))] H := hP
                                  have hD : va_D A [(q49, .inr (12, [.int 0, .ref q50, .int 0, .ref q51, .int 0, .ref q52, .ref q53, .int 0, .ref q54, .int 0, .ref q55, .int (-9), .int 0, .int 0, .ref q56, .ref q57, .ref q58, .ref q59, .ref q60, .int 0, .ref q61, .ref q62, .ref q63, .int 0, .ref q64, .ref q65, .ref q66, .int 0, .ref q67])), (q52, .inl (cI, 12, .inl (fun _ => (-9)))), (q67, .inl (cI, 12, .inl (fun _ => 0)))] := hD
                                  refine lv_aload_n hx hb dL_law_947 rfl (lv_at hl 1 rfl) ?_
                                  refine lv_aload_n hx hb dL_law_948 rfl (lv_at hl 3 rfl) ?_
                                  refine lv_iload_n hx hb dL_law_949 rfl (lv_at hl 0 rfl) ?_
                                  refine lv_iconst (v := 1) hx hb dL_law_950 (by decide) ?_
                                  refine lv_iadd hx hb dL_law_951 (tk_i (v := 1) (by decide +kernel) ?_)
                                  refine va_sld hx hb hX hbl hbA hS (vin (by decide +kernel)) dL_law_952 (tk_i (v := a1) ha1 ?_)
                                  refine lv_aload_n hx hb dL_law_953 rfl (lv_at hl 3 rfl) ?_
                                  refine lv_iload_n hx hb dL_law_954 rfl (lv_at hl 0 rfl) ?_
                                  refine lv_iconst (v := 2) hx hb dL_law_955 (by decide) ?_
                                  refine lv_iadd hx hb dL_law_956 (tk_i (v := 2) (by decide +kernel) ?_)
                                  refine va_sld hx hb hX hbl hbA hS (vin (by decide +kernel)) dL_law_957 (tk_i (v := a2) ha2 ?_)
                                  refine lv_aload_n hx hb dL_law_958 rfl (lv_at hl 3 rfl) ?_
                                  refine lv_iload_n hx hb dL_law_959 rfl (lv_at hl 0 rfl) ?_
                                  refine lv_iconst (v := 3) hx hb dL_law_960 (by decide) ?_
                                  refine lv_iadd hx hb dL_law_961 (tk_i (v := 3) (by decide +kernel) ?_)
                                  refine va_sld hx hb hX hbl hbA hS (vin (by decide +kernel)) dL_law_962 (tk_i (v := 7) ha3 ?_)
                                  refine kcall_i (D := (dC, dI)) (S := Unit) (v := 1) (wc := [(q49, .inr (12, [.int 0, .ref q50, .int 0, .ref q51, .int 0, .ref q52, .ref q53, .int 0, .ref q54, .int 0, .ref q55, .int (-9), .int 0, .int 0, .ref q56, .ref q57, .ref q58, .ref q59, .ref q60, .int 0, .ref q61, .ref q62, .ref q63, .int 0, .ref q64, .ref q65, .ref q66, .int 0, .ref q67])), (q52, .inl (cI, 12, .inl (fun _ => (-9)))), (q67, .inl (cI, 12, .inl (fun _ => 0)))]) (wr := []) (w1 := fun _ => []) (fun hPc hDc => va_runV (As := [.int a1, .int a2, .int 7]) (rest := [.int 1]) ⟨hx, hb, hml, hown, hts⟩ (kX12_copy_44 l dC dI cI c2 q49 q52 q67 q50 q51 q53 q54 q55 q56 q57 q58 q59 q60 q61 q62 q63 q64 q65 q66 H.size a1 a2 (by omega) (by omega) (by omega) (by omega)) (cwV 3 hts gL_law_X12_copy rfl rfl rfl (by decide +kernel) ⟨Nat.le_of_ble_eq_true rfl, Nat.le_of_ble_eq_true rfl⟩) (pre_V hPc hK hDc hN (ci := 12) (q0 := 0) rfl rfl) rfl rfl hl.1 rfl (lv_room (Nat.le_of_ble_eq_true rfl)) dL_law_963 ⟨Nat.le_of_ble_eq_true rfl, Nat.le_of_ble_eq_true rfl⟩) hP hD hS hA [0, 1, 2] [] rfl rfl (by decide) (by decide) (by decide) (fun u H locs hP hD hS => ?_)
                                  have hP : va_P (dC, dI) vwCl [] H := hP
                                  have hD : va_D A [] := hD
                                  refine lv_icmp_eq (tgt := 1080) hx hb dL_law_966 (by decide) (fun _ => ?_) (fun h9 => absurd (by decide +kernel) h9)
                                  refine lv_iinc (v := 4) (lv' := [(3, .int 4), (2, .ref q49), (1, .ref q1), (0, .ref b)]) hx hb dL_law_1080 hl (k := 0) rfl (by decide +kernel) (by decide) rfl (fun ls hl => ?_)
                                  refine lv_goto (tgt := 18) hx hb dL_law_1083 (by decide) ?_
                                  refine lv_iload_n hx hb dL_law_18 rfl (lv_at hl 0 rfl) ?_
                                  refine lv_aload_n hx hb dL_law_19 rfl (lv_at hl 3 rfl) ?_
                                  refine va_slen hx hb hX hbl hbA hS dL_law_20 (tk_i (v := 4) (by decide +kernel) ?_)
                                  refine lv_iconst (v := 4) hx hb dL_law_21 (by decide) ?_
                                  refine lv_isub hx hb dL_law_22 (tk_i (v := 0) (by decide +kernel) ?_)
                                  refine lv_icmp_gt (tgt := 1086) hx hb dL_law_23 (by decide) (fun _ => ?_) (fun h9 => absurd (by decide +kernel) h9)
                                  refine lv_iconst (v := 1) hx hb dL_law_1086 (by decide) ?_
                                  refine va_forget (fun q hq => by have h9 := hS.2.2 q hq; rw [← hAe] at h9; exact h9) ?_
                                  refine W.widen (k := 600000) (n := 7302250) (by decide) (by decide) ?_
                                  exact lw_ret hx hb hr hlocks dL_law_1087
                                ·
                                  have e_a3 : a3 = 7 := ib_eq (X := 7) (by omega) (by decide +kernel)
                                  subst e_a3
                                  refine lv_aload_n hx hb dL_law_928 rfl (lv_at hl 2 rfl) ?_
                                  refine lv_aload_n hx hb dL_law_929 rfl (lv_at hl 3 rfl) ?_
                                  refine lv_iload_n hx hb dL_law_930 rfl (lv_at hl 0 rfl) ?_
                                  refine lv_iconst (v := 1) hx hb dL_law_931 (by decide) ?_
                                  refine lv_iadd hx hb dL_law_932 (tk_i (v := 1) (by decide +kernel) ?_)
                                  refine va_sld hx hb hX hbl hbA hS (vin (by decide +kernel)) dL_law_933 (tk_i (v := a1) ha1 ?_)
                                  refine lv_aload_n hx hb dL_law_934 rfl (lv_at hl 3 rfl) ?_
                                  refine lv_iload_n hx hb dL_law_935 rfl (lv_at hl 0 rfl) ?_
                                  refine lv_iconst (v := 2) hx hb dL_law_936 (by decide) ?_
                                  refine lv_iadd hx hb dL_law_937 (tk_i (v := 2) (by decide +kernel) ?_)
                                  refine va_sld hx hb hX hbl hbA hS (vin (by decide +kernel)) dL_law_938 (tk_i (v := a2) ha2 ?_)
                                  refine lv_aload_n hx hb dL_law_939 rfl (lv_at hl 3 rfl) ?_
                                  refine lv_iload_n hx hb dL_law_940 rfl (lv_at hl 0 rfl) ?_
                                  refine lv_iconst (v := 3) hx hb dL_law_941 (by decide) ?_
                                  refine lv_iadd hx hb dL_law_942 (tk_i (v := 3) (by decide +kernel) ?_)
                                  refine va_sld hx hb hX hbl hbA hS (vin (by decide +kernel)) dL_law_943 (tk_i (v := 7) ha3 ?_)
                                  refine kcall_i (D := (dC, dI)) (S := Unit) (v := (-3)) (wc := [(q1, .inr (11, [.ref q2, .ref q4, .ref q6, .ref q18, .ref q23, .ref q28, .ref q33, .ref q36, .ref q37, .ref q40, .ref q44, .ref q48, .int 0])), (q4, .inr (10, [.ref q5, .int 0, .int 0])), (q48, .inl (cI, 5, .inl (fun _ => 0)))]) (wr := [(q49, .inr (12, [.int 0, .ref q50, .int 0, .ref q51, .int 0, .ref q52, .ref q53, .int 0, .ref q54, .int 0, .ref q55, .int (-9), .int 0, .int 0, .ref q56, .ref q57, .ref q58, .ref q59, .ref q60, .int 0, .ref q61, .ref q62, .ref q63, .int 0, .ref q64, .ref q65, .ref q66, .int 0, .ref q67])), (q50, .inl (cI, 5, .inl (fun _ => 0)))]) (w1 := fun _ => []) (fun hPc hDc => va_runV (As := [.int a1, .int a2, .int 7]) (rest := []) ⟨hx, hb, hml, hown, hts⟩ (kX11_copy_45 l dC dI cI c2 q1 q4 q48 q2 q6 q18 q23 q28 q33 q36 q37 q40 q44 q5 H.size a1 a2 (by omega) (by omega) (by omega) (by omega)) (cwV 3 hts gL_law_X11_copy rfl rfl rfl (by decide +kernel) ⟨Nat.le_of_ble_eq_true rfl, Nat.le_of_ble_eq_true rfl⟩) (pre_V hPc hK hDc hN (ci := 11) (q0 := 0) rfl rfl) rfl rfl hl.1 rfl (lv_room (Nat.le_of_ble_eq_true rfl)) dL_law_944 ⟨Nat.le_of_ble_eq_true rfl, Nat.le_of_ble_eq_true rfl⟩) hP hD hS hA [0, 3, 27] [28, 29] rfl rfl (by decide) (by decide) (by decide) (fun u H locs hP hD hS => ?_)
                                  have hP : va_P (dC, dI) vwCl [(q49, .inr (12, [.int 0, .ref q50, .int 0, .ref q51, .int 0, .ref q52, .ref q53, .int 0, .ref q54, .int 0, .ref q55, .int (-9), .int 0, .int 0, .ref q56, .ref q57, .ref q58, .ref q59, .ref q60, .int 0, .ref q61, .ref q62, .ref q63, .int 0, .ref q64, .ref q65, .ref q66, .int 0, .ref q67])), (q50, .inl (cI, 5, .inl (fun _ => 0)))] H := hP
                                  have hD : va_D A [(q49, .inr (12, [.int 0, .ref q50, .int 0, .ref q51, .int 0, .ref q52, .ref q53, .int 0, .ref q54, .int 0, .ref q55, .int (-9), .int 0, .int 0, .ref q56, .ref q57, .ref q58, .ref q59, .ref q60, .int 0, .ref q61, .ref q62, .ref q63, .int 0, .ref q64, .ref q65, .ref q66, .int 0, .ref q67])), (q50, .inl (cI, 5, .inl (fun _ => 0)))] := hD
                                  refine lv_aload_n hx hb dL_law_947 rfl (lv_at hl 1 rfl) ?_
                                  refine lv_aload_n hx hb dL_law_948 rfl (lv_at hl 3 rfl) ?_
                                  refine lv_iload_n hx hb dL_law_949 rfl (lv_at hl 0 rfl) ?_
                                  refine lv_iconst (v := 1) hx hb dL_law_950 (by decide) ?_
                                  refine lv_iadd hx hb dL_law_951 (tk_i (v := 1) (by decide +kernel) ?_)
                                  refine va_sld hx hb hX hbl hbA hS (vin (by decide +kernel)) dL_law_952 (tk_i (v := a1) ha1 ?_)
                                  refine lv_aload_n hx hb dL_law_953 rfl (lv_at hl 3 rfl) ?_
                                  refine lv_iload_n hx hb dL_law_954 rfl (lv_at hl 0 rfl) ?_
                                  refine lv_iconst (v := 2) hx hb dL_law_955 (by decide) ?_
                                  refine lv_iadd hx hb dL_law_956 (tk_i (v := 2) (by decide +kernel) ?_)
                                  refine va_sld hx hb hX hbl hbA hS (vin (by decide +kernel)) dL_law_957 (tk_i (v := a2) ha2 ?_)
                                  refine lv_aload_n hx hb dL_law_958 rfl (lv_at hl 3 rfl) ?_
                                  refine lv_iload_n hx hb dL_law_959 rfl (lv_at hl 0 rfl) ?_
                                  refine lv_iconst (v := 3) hx hb dL_law_960 (by decide) ?_
                                  refine lv_iadd hx hb dL_law_961 (tk_i (v := 3) (by decide +kernel) ?_)
                                  refine va_sld hx hb hX hbl hbA hS (vin (by decide +kernel)) dL_law_962 (tk_i (v := 7) ha3 ?_)
                                  refine kcall_i (D := (dC, dI)) (S := Unit) (v := (-3)) (wc := [(q49, .inr (12, [.int 0, .ref q50, .int 0, .ref q51, .int 0, .ref q52, .ref q53, .int 0, .ref q54, .int 0, .ref q55, .int (-9), .int 0, .int 0, .ref q56, .ref q57, .ref q58, .ref q59, .ref q60, .int 0, .ref q61, .ref q62, .ref q63, .int 0, .ref q64, .ref q65, .ref q66, .int 0, .ref q67])), (q50, .inl (cI, 5, .inl (fun _ => 0)))]) (wr := []) (w1 := fun _ => []) (fun hPc hDc => va_runV (As := [.int a1, .int a2, .int 7]) (rest := [.int (-3)]) ⟨hx, hb, hml, hown, hts⟩ (kX12_copy_45 l dC dI cI c2 q49 q50 q51 q52 q53 q54 q55 q56 q57 q58 q59 q60 q61 q62 q63 q64 q65 q66 q67 H.size a1 a2 (by omega) (by omega) (by omega) (by omega)) (cwV 3 hts gL_law_X12_copy rfl rfl rfl (by decide +kernel) ⟨Nat.le_of_ble_eq_true rfl, Nat.le_of_ble_eq_true rfl⟩) (pre_V hPc hK hDc hN (ci := 12) (q0 := 0) rfl rfl) rfl rfl hl.1 rfl (lv_room (Nat.le_of_ble_eq_true rfl)) dL_law_963 ⟨Nat.le_of_ble_eq_true rfl, Nat.le_of_ble_eq_true rfl⟩) hP hD hS hA [0, 1] [] rfl rfl (by decide) (by decide) (by decide) (fun u H locs hP hD hS => ?_)
                                  have hP : va_P (dC, dI) vwCl [] H := hP
                                  have hD : va_D A [] := hD
                                  refine lv_icmp_eq (tgt := 1080) hx hb dL_law_966 (by decide) (fun _ => ?_) (fun h9 => absurd (by decide +kernel) h9)
                                  refine lv_iinc (v := 4) (lv' := [(3, .int 4), (2, .ref q49), (1, .ref q1), (0, .ref b)]) hx hb dL_law_1080 hl (k := 0) rfl (by decide +kernel) (by decide) rfl (fun ls hl => ?_)
                                  refine lv_goto (tgt := 18) hx hb dL_law_1083 (by decide) ?_
                                  refine lv_iload_n hx hb dL_law_18 rfl (lv_at hl 0 rfl) ?_
                                  refine lv_aload_n hx hb dL_law_19 rfl (lv_at hl 3 rfl) ?_
                                  refine va_slen hx hb hX hbl hbA hS dL_law_20 (tk_i (v := 4) (by decide +kernel) ?_)
                                  refine lv_iconst (v := 4) hx hb dL_law_21 (by decide) ?_
                                  refine lv_isub hx hb dL_law_22 (tk_i (v := 0) (by decide +kernel) ?_)
                                  refine lv_icmp_gt (tgt := 1086) hx hb dL_law_23 (by decide) (fun _ => ?_) (fun h9 => absurd (by decide +kernel) h9)
                                  refine lv_iconst (v := 1) hx hb dL_law_1086 (by decide) ?_
                                  refine va_forget (fun q hq => by have h9 := hS.2.2 q hq; rw [← hAe] at h9; exact h9) ?_
                                  refine W.widen (k := 600000) (n := 7302250) (by decide) (by decide) ?_
                                  exact lw_ret hx hb hr hlocks dL_law_1087
                              ·
                                have e_a3 : a3 = 7 := ib_eq (X := 7) (by omega) (by decide +kernel)
                                subst e_a3
                                refine lv_aload_n hx hb dL_law_928 rfl (lv_at hl 2 rfl) ?_
                                refine lv_aload_n hx hb dL_law_929 rfl (lv_at hl 3 rfl) ?_
                                refine lv_iload_n hx hb dL_law_930 rfl (lv_at hl 0 rfl) ?_
                                refine lv_iconst (v := 1) hx hb dL_law_931 (by decide) ?_
                                refine lv_iadd hx hb dL_law_932 (tk_i (v := 1) (by decide +kernel) ?_)
                                refine va_sld hx hb hX hbl hbA hS (vin (by decide +kernel)) dL_law_933 (tk_i (v := a1) ha1 ?_)
                                refine lv_aload_n hx hb dL_law_934 rfl (lv_at hl 3 rfl) ?_
                                refine lv_iload_n hx hb dL_law_935 rfl (lv_at hl 0 rfl) ?_
                                refine lv_iconst (v := 2) hx hb dL_law_936 (by decide) ?_
                                refine lv_iadd hx hb dL_law_937 (tk_i (v := 2) (by decide +kernel) ?_)
                                refine va_sld hx hb hX hbl hbA hS (vin (by decide +kernel)) dL_law_938 (tk_i (v := a2) ha2 ?_)
                                refine lv_aload_n hx hb dL_law_939 rfl (lv_at hl 3 rfl) ?_
                                refine lv_iload_n hx hb dL_law_940 rfl (lv_at hl 0 rfl) ?_
                                refine lv_iconst (v := 3) hx hb dL_law_941 (by decide) ?_
                                refine lv_iadd hx hb dL_law_942 (tk_i (v := 3) (by decide +kernel) ?_)
                                refine va_sld hx hb hX hbl hbA hS (vin (by decide +kernel)) dL_law_943 (tk_i (v := 7) ha3 ?_)
                                refine kcall_i (D := (dC, dI)) (S := Unit) (v := (-3)) (wc := [(q1, .inr (11, [.ref q2, .ref q4, .ref q6, .ref q18, .ref q23, .ref q28, .ref q33, .ref q36, .ref q37, .ref q40, .ref q44, .ref q48, .int 0])), (q4, .inr (10, [.ref q5, .int 0, .int 0])), (q48, .inl (cI, 5, .inl (fun _ => 0)))]) (wr := [(q49, .inr (12, [.int 0, .ref q50, .int 0, .ref q51, .int 0, .ref q52, .ref q53, .int 0, .ref q54, .int 0, .ref q55, .int (-9), .int 0, .int 0, .ref q56, .ref q57, .ref q58, .ref q59, .ref q60, .int 0, .ref q61, .ref q62, .ref q63, .int 0, .ref q64, .ref q65, .ref q66, .int 0, .ref q67])), (q50, .inl (cI, 5, .inl (fun _ => 0)))]) (w1 := fun _ => []) (fun hPc hDc => va_runV (As := [.int a1, .int a2, .int 7]) (rest := []) ⟨hx, hb, hml, hown, hts⟩ (kX11_copy_46 l dC dI cI c2 q1 q4 q48 q2 q6 q18 q23 q28 q33 q36 q37 q40 q44 q5 H.size a1 a2 (by omega) (by omega) (by omega) (by omega)) (cwV 3 hts gL_law_X11_copy rfl rfl rfl (by decide +kernel) ⟨Nat.le_of_ble_eq_true rfl, Nat.le_of_ble_eq_true rfl⟩) (pre_V hPc hK hDc hN (ci := 11) (q0 := 0) rfl rfl) rfl rfl hl.1 rfl (lv_room (Nat.le_of_ble_eq_true rfl)) dL_law_944 ⟨Nat.le_of_ble_eq_true rfl, Nat.le_of_ble_eq_true rfl⟩) hP hD hS hA [0, 3, 27] [28, 29] rfl rfl (by decide) (by decide) (by decide) (fun u H locs hP hD hS => ?_)
                                have hP : va_P (dC, dI) vwCl [(q49, .inr (12, [.int 0, .ref q50, .int 0, .ref q51, .int 0, .ref q52, .ref q53, .int 0, .ref q54, .int 0, .ref q55, .int (-9), .int 0, .int 0, .ref q56, .ref q57, .ref q58, .ref q59, .ref q60, .int 0, .ref q61, .ref q62, .ref q63, .int 0, .ref q64, .ref q65, .ref q66, .int 0, .ref q67])), (q50, .inl (cI, 5, .inl (fun _ => 0)))] H := hP
                                have hD : va_D A [(q49, .inr (12, [.int 0, .ref q50, .int 0, .ref q51, .int 0, .ref q52, .ref q53, .int 0, .ref q54, .int 0, .ref q55, .int (-9), .int 0, .int 0, .ref q56, .ref q57, .ref q58, .ref q59, .ref q60, .int 0, .ref q61, .ref q62, .ref q63, .int 0, .ref q64, .ref q65, .ref q66, .int 0, .ref q67])), (q50, .inl (cI, 5, .inl (fun _ => 0)))] := hD
                                refine lv_aload_n hx hb dL_law_947 rfl (lv_at hl 1 rfl) ?_
                                refine lv_aload_n hx hb dL_law_948 rfl (lv_at hl 3 rfl) ?_
                                refine lv_iload_n hx hb dL_law_949 rfl (lv_at hl 0 rfl) ?_
                                refine lv_iconst (v := 1) hx hb dL_law_950 (by decide) ?_
                                refine lv_iadd hx hb dL_law_951 (tk_i (v := 1) (by decide +kernel) ?_)
                                refine va_sld hx hb hX hbl hbA hS (vin (by decide +kernel)) dL_law_952 (tk_i (v := a1) ha1 ?_)
                                refine lv_aload_n hx hb dL_law_953 rfl (lv_at hl 3 rfl) ?_
                                refine lv_iload_n hx hb dL_law_954 rfl (lv_at hl 0 rfl) ?_
                                refine lv_iconst (v := 2) hx hb dL_law_955 (by decide) ?_
                                refine lv_iadd hx hb dL_law_956 (tk_i (v := 2) (by decide +kernel) ?_)
                                refine va_sld hx hb hX hbl hbA hS (vin (by decide +kernel)) dL_law_957 (tk_i (v := a2) ha2 ?_)
                                refine lv_aload_n hx hb dL_law_958 rfl (lv_at hl 3 rfl) ?_
                                refine lv_iload_n hx hb dL_law_959 rfl (lv_at hl 0 rfl) ?_
                                refine lv_iconst (v := 3) hx hb dL_law_960 (by decide) ?_
                                refine lv_iadd hx hb dL_law_961 (tk_i (v := 3) (by decide +kernel) ?_)
                                refine va_sld hx hb hX hbl hbA hS (vin (by decide +kernel)) dL_law_962 (tk_i (v := 7) ha3 ?_)
                                refine kcall_i (D := (dC, dI)) (S := Unit) (v := (-3)) (wc := [(q49, .inr (12, [.int 0, .ref q50, .int 0, .ref q51, .int 0, .ref q52, .ref q53, .int 0, .ref q54, .int 0, .ref q55, .int (-9), .int 0, .int 0, .ref q56, .ref q57, .ref q58, .ref q59, .ref q60, .int 0, .ref q61, .ref q62, .ref q63, .int 0, .ref q64, .ref q65, .ref q66, .int 0, .ref q67])), (q50, .inl (cI, 5, .inl (fun _ => 0)))]) (wr := []) (w1 := fun _ => []) (fun hPc hDc => va_runV (As := [.int a1, .int a2, .int 7]) (rest := [.int (-3)]) ⟨hx, hb, hml, hown, hts⟩ (kX12_copy_46 l dC dI cI c2 q49 q50 q51 q52 q53 q54 q55 q56 q57 q58 q59 q60 q61 q62 q63 q64 q65 q66 q67 H.size a1 a2 (by omega) (by omega) (by omega) (by omega)) (cwV 3 hts gL_law_X12_copy rfl rfl rfl (by decide +kernel) ⟨Nat.le_of_ble_eq_true rfl, Nat.le_of_ble_eq_true rfl⟩) (pre_V hPc hK hDc hN (ci := 12) (q0 := 0) rfl rfl) rfl rfl hl.1 rfl (lv_room (Nat.le_of_ble_eq_true rfl)) dL_law_963 ⟨Nat.le_of_ble_eq_true rfl, Nat.le_of_ble_eq_true rfl⟩) hP hD hS hA [0, 1] [] rfl rfl (by decide) (by decide) (by decide) (fun u H locs hP hD hS => ?_)
                                have hP : va_P (dC, dI) vwCl [] H := hP
                                have hD : va_D A [] := hD
                                refine lv_icmp_eq (tgt := 1080) hx hb dL_law_966 (by decide) (fun _ => ?_) (fun h9 => absurd (by decide +kernel) h9)
                                refine lv_iinc (v := 4) (lv' := [(3, .int 4), (2, .ref q49), (1, .ref q1), (0, .ref b)]) hx hb dL_law_1080 hl (k := 0) rfl (by decide +kernel) (by decide) rfl (fun ls hl => ?_)
                                refine lv_goto (tgt := 18) hx hb dL_law_1083 (by decide) ?_
                                refine lv_iload_n hx hb dL_law_18 rfl (lv_at hl 0 rfl) ?_
                                refine lv_aload_n hx hb dL_law_19 rfl (lv_at hl 3 rfl) ?_
                                refine va_slen hx hb hX hbl hbA hS dL_law_20 (tk_i (v := 4) (by decide +kernel) ?_)
                                refine lv_iconst (v := 4) hx hb dL_law_21 (by decide) ?_
                                refine lv_isub hx hb dL_law_22 (tk_i (v := 0) (by decide +kernel) ?_)
                                refine lv_icmp_gt (tgt := 1086) hx hb dL_law_23 (by decide) (fun _ => ?_) (fun h9 => absurd (by decide +kernel) h9)
                                refine lv_iconst (v := 1) hx hb dL_law_1086 (by decide) ?_
                                refine va_forget (fun q hq => by have h9 := hS.2.2 q hq; rw [← hAe] at h9; exact h9) ?_
                                refine W.widen (k := 600000) (n := 7302250) (by decide) (by decide) ?_
                                exact lw_ret hx hb hr hlocks dL_law_1087
                          ·
                            rcases (show a2.toInt ≤ (-1) ∨ 0 ≤ a2.toInt by omega) with g_a2_0 | g_a2_0
                            ·
                              have e_a3 : a3 = 7 := ib_eq (X := 7) (by omega) (by decide +kernel)
                              subst e_a3
                              refine lv_aload_n hx hb dL_law_928 rfl (lv_at hl 2 rfl) ?_
                              refine lv_aload_n hx hb dL_law_929 rfl (lv_at hl 3 rfl) ?_
                              refine lv_iload_n hx hb dL_law_930 rfl (lv_at hl 0 rfl) ?_
                              refine lv_iconst (v := 1) hx hb dL_law_931 (by decide) ?_
                              refine lv_iadd hx hb dL_law_932 (tk_i (v := 1) (by decide +kernel) ?_)
                              refine va_sld hx hb hX hbl hbA hS (vin (by decide +kernel)) dL_law_933 (tk_i (v := a1) ha1 ?_)
                              refine lv_aload_n hx hb dL_law_934 rfl (lv_at hl 3 rfl) ?_
                              refine lv_iload_n hx hb dL_law_935 rfl (lv_at hl 0 rfl) ?_
                              refine lv_iconst (v := 2) hx hb dL_law_936 (by decide) ?_
                              refine lv_iadd hx hb dL_law_937 (tk_i (v := 2) (by decide +kernel) ?_)
                              refine va_sld hx hb hX hbl hbA hS (vin (by decide +kernel)) dL_law_938 (tk_i (v := a2) ha2 ?_)
                              refine lv_aload_n hx hb dL_law_939 rfl (lv_at hl 3 rfl) ?_
                              refine lv_iload_n hx hb dL_law_940 rfl (lv_at hl 0 rfl) ?_
                              refine lv_iconst (v := 3) hx hb dL_law_941 (by decide) ?_
                              refine lv_iadd hx hb dL_law_942 (tk_i (v := 3) (by decide +kernel) ?_)
                              refine va_sld hx hb hX hbl hbA hS (vin (by decide +kernel)) dL_law_943 (tk_i (v := 7) ha3 ?_)
                              refine kcall_i (D := (dC, dI)) (S := Unit) (v := (-3)) (wc := [(q1, .inr (11, [.ref q2, .ref q4, .ref q6, .ref q18, .ref q23, .ref q28, .ref q33, .ref q36, .ref q37, .ref q40, .ref q44, .ref q48, .int 0])), (q4, .inr (10, [.ref q5, .int 0, .int 0])), (q48, .inl (cI, 5, .inl (fun _ => 0)))]) (wr := [(q49, .inr (12, [.int 0, .ref q50, .int 0, .ref q51, .int 0, .ref q52, .ref q53, .int 0, .ref q54, .int 0, .ref q55, .int (-9), .int 0, .int 0, .ref q56, .ref q57, .ref q58, .ref q59, .ref q60, .int 0, .ref q61, .ref q62, .ref q63, .int 0, .ref q64, .ref q65, .ref q66, .int 0, .ref q67])), (q50, .inl (cI, 5, .inl (fun _ => 0)))]) (w1 := fun _ => []) (fun hPc hDc => va_runV (As := [.int a1, .int a2, .int 7]) (rest := []) ⟨hx, hb, hml, hown, hts⟩ (kX11_copy_47 l dC dI cI c2 q1 q4 q48 q2 q6 q18 q23 q28 q33 q36 q37 q40 q44 q5 H.size a1 a2 (by omega) (by omega) (by omega) (by omega)) (cwV 3 hts gL_law_X11_copy rfl rfl rfl (by decide +kernel) ⟨Nat.le_of_ble_eq_true rfl, Nat.le_of_ble_eq_true rfl⟩) (pre_V hPc hK hDc hN (ci := 11) (q0 := 0) rfl rfl) rfl rfl hl.1 rfl (lv_room (Nat.le_of_ble_eq_true rfl)) dL_law_944 ⟨Nat.le_of_ble_eq_true rfl, Nat.le_of_ble_eq_true rfl⟩) hP hD hS hA [0, 3, 27] [28, 29] rfl rfl (by decide) (by decide) (by decide) (fun u H locs hP hD hS => ?_)
                              have hP : va_P (dC, dI) vwCl [(q49, .inr (12, [.int 0, .ref q50, .int 0, .ref q51, .int 0, .ref q52, .ref q53, .int 0, .ref q54, .int 0, .ref q55, .int (-9), .int 0, .int 0, .ref q56, .ref q57, .ref q58, .ref q59, .ref q60, .int 0, .ref q61, .ref q62, .ref q63, .int 0, .ref q64, .ref q65, .ref q66, .int 0, .ref q67])), (q50, .inl (cI, 5, .inl (fun _ => 0)))] H := hP
                              have hD : va_D A [(q49, .inr (12, [.int 0, .ref q50, .int 0, .ref q51, .int 0, .ref q52, .ref q53, .int 0, .ref q54, .int 0, .ref q55, .int (-9), .int 0, .int 0, .ref q56, .ref q57, .ref q58, .ref q59, .ref q60, .int 0, .ref q61, .ref q62, .ref q63, .int 0, .ref q64, .ref q65, .ref q66, .int 0, .ref q67])), (q50, .inl (cI, 5, .inl (fun _ => 0)))] := hD
                              refine lv_aload_n hx hb dL_law_947 rfl (lv_at hl 1 rfl) ?_
                              refine lv_aload_n hx hb dL_law_948 rfl (lv_at hl 3 rfl) ?_
                              refine lv_iload_n hx hb dL_law_949 rfl (lv_at hl 0 rfl) ?_
                              refine lv_iconst (v := 1) hx hb dL_law_950 (by decide) ?_
                              refine lv_iadd hx hb dL_law_951 (tk_i (v := 1) (by decide +kernel) ?_)
                              refine va_sld hx hb hX hbl hbA hS (vin (by decide +kernel)) dL_law_952 (tk_i (v := a1) ha1 ?_)
                              refine lv_aload_n hx hb dL_law_953 rfl (lv_at hl 3 rfl) ?_
                              refine lv_iload_n hx hb dL_law_954 rfl (lv_at hl 0 rfl) ?_
                              refine lv_iconst (v := 2) hx hb dL_law_955 (by decide) ?_
                              refine lv_iadd hx hb dL_law_956 (tk_i (v := 2) (by decide +kernel) ?_)
                              refine va_sld hx hb hX hbl hbA hS (vin (by decide +kernel)) dL_law_957 (tk_i (v := a2) ha2 ?_)
                              refine lv_aload_n hx hb dL_law_958 rfl (lv_at hl 3 rfl) ?_
                              refine lv_iload_n hx hb dL_law_959 rfl (lv_at hl 0 rfl) ?_
                              refine lv_iconst (v := 3) hx hb dL_law_960 (by decide) ?_
                              refine lv_iadd hx hb dL_law_961 (tk_i (v := 3) (by decide +kernel) ?_)
                              refine va_sld hx hb hX hbl hbA hS (vin (by decide +kernel)) dL_law_962 (tk_i (v := 7) ha3 ?_)
                              refine kcall_i (D := (dC, dI)) (S := Unit) (v := (-3)) (wc := [(q49, .inr (12, [.int 0, .ref q50, .int 0, .ref q51, .int 0, .ref q52, .ref q53, .int 0, .ref q54, .int 0, .ref q55, .int (-9), .int 0, .int 0, .ref q56, .ref q57, .ref q58, .ref q59, .ref q60, .int 0, .ref q61, .ref q62, .ref q63, .int 0, .ref q64, .ref q65, .ref q66, .int 0, .ref q67])), (q50, .inl (cI, 5, .inl (fun _ => 0)))]) (wr := []) (w1 := fun _ => []) (fun hPc hDc => va_runV (As := [.int a1, .int a2, .int 7]) (rest := [.int (-3)]) ⟨hx, hb, hml, hown, hts⟩ (kX12_copy_47 l dC dI cI c2 q49 q50 q51 q52 q53 q54 q55 q56 q57 q58 q59 q60 q61 q62 q63 q64 q65 q66 q67 H.size a1 a2 (by omega) (by omega) (by omega) (by omega)) (cwV 3 hts gL_law_X12_copy rfl rfl rfl (by decide +kernel) ⟨Nat.le_of_ble_eq_true rfl, Nat.le_of_ble_eq_true rfl⟩) (pre_V hPc hK hDc hN (ci := 12) (q0 := 0) rfl rfl) rfl rfl hl.1 rfl (lv_room (Nat.le_of_ble_eq_true rfl)) dL_law_963 ⟨Nat.le_of_ble_eq_true rfl, Nat.le_of_ble_eq_true rfl⟩) hP hD hS hA [0, 1] [] rfl rfl (by decide) (by decide) (by decide) (fun u H locs hP hD hS => ?_)
                              have hP : va_P (dC, dI) vwCl [] H := hP
                              have hD : va_D A [] := hD
                              refine lv_icmp_eq (tgt := 1080) hx hb dL_law_966 (by decide) (fun _ => ?_) (fun h9 => absurd (by decide +kernel) h9)
                              refine lv_iinc (v := 4) (lv' := [(3, .int 4), (2, .ref q49), (1, .ref q1), (0, .ref b)]) hx hb dL_law_1080 hl (k := 0) rfl (by decide +kernel) (by decide) rfl (fun ls hl => ?_)
                              refine lv_goto (tgt := 18) hx hb dL_law_1083 (by decide) ?_
                              refine lv_iload_n hx hb dL_law_18 rfl (lv_at hl 0 rfl) ?_
                              refine lv_aload_n hx hb dL_law_19 rfl (lv_at hl 3 rfl) ?_
                              refine va_slen hx hb hX hbl hbA hS dL_law_20 (tk_i (v := 4) (by decide +kernel) ?_)
                              refine lv_iconst (v := 4) hx hb dL_law_21 (by decide) ?_
                              refine lv_isub hx hb dL_law_22 (tk_i (v := 0) (by decide +kernel) ?_)
                              refine lv_icmp_gt (tgt := 1086) hx hb dL_law_23 (by decide) (fun _ => ?_) (fun h9 => absurd (by decide +kernel) h9)
                              refine lv_iconst (v := 1) hx hb dL_law_1086 (by decide) ?_
                              refine va_forget (fun q hq => by have h9 := hS.2.2 q hq; rw [← hAe] at h9; exact h9) ?_
                              refine W.widen (k := 600000) (n := 7302250) (by decide) (by decide) ?_
                              exact lw_ret hx hb hr hlocks dL_law_1087
                            ·
                              have e_a3 : a3 = 7 := ib_eq (X := 7) (by omega) (by decide +kernel)
                              subst e_a3
                              refine lv_aload_n hx hb dL_law_928 rfl (lv_at hl 2 rfl) ?_
                              refine lv_aload_n hx hb dL_law_929 rfl (lv_at hl 3 rfl) ?_
                              refine lv_iload_n hx hb dL_law_930 rfl (lv_at hl 0 rfl) ?_
                              refine lv_iconst (v := 1) hx hb dL_law_931 (by decide) ?_
                              refine lv_iadd hx hb dL_law_932 (tk_i (v := 1) (by decide +kernel) ?_)
                              refine va_sld hx hb hX hbl hbA hS (vin (by decide +kernel)) dL_law_933 (tk_i (v := a1) ha1 ?_)
                              refine lv_aload_n hx hb dL_law_934 rfl (lv_at hl 3 rfl) ?_
                              refine lv_iload_n hx hb dL_law_935 rfl (lv_at hl 0 rfl) ?_
                              refine lv_iconst (v := 2) hx hb dL_law_936 (by decide) ?_
                              refine lv_iadd hx hb dL_law_937 (tk_i (v := 2) (by decide +kernel) ?_)
                              refine va_sld hx hb hX hbl hbA hS (vin (by decide +kernel)) dL_law_938 (tk_i (v := a2) ha2 ?_)
                              refine lv_aload_n hx hb dL_law_939 rfl (lv_at hl 3 rfl) ?_
                              refine lv_iload_n hx hb dL_law_940 rfl (lv_at hl 0 rfl) ?_
                              refine lv_iconst (v := 3) hx hb dL_law_941 (by decide) ?_
                              refine lv_iadd hx hb dL_law_942 (tk_i (v := 3) (by decide +kernel) ?_)
                              refine va_sld hx hb hX hbl hbA hS (vin (by decide +kernel)) dL_law_943 (tk_i (v := 7) ha3 ?_)
                              refine kcall_i (D := (dC, dI)) (S := Unit) (v := (-3)) (wc := [(q1, .inr (11, [.ref q2, .ref q4, .ref q6, .ref q18, .ref q23, .ref q28, .ref q33, .ref q36, .ref q37, .ref q40, .ref q44, .ref q48, .int 0])), (q4, .inr (10, [.ref q5, .int 0, .int 0])), (q48, .inl (cI, 5, .inl (fun _ => 0)))]) (wr := [(q49, .inr (12, [.int 0, .ref q50, .int 0, .ref q51, .int 0, .ref q52, .ref q53, .int 0, .ref q54, .int 0, .ref q55, .int (-9), .int 0, .int 0, .ref q56, .ref q57, .ref q58, .ref q59, .ref q60, .int 0, .ref q61, .ref q62, .ref q63, .int 0, .ref q64, .ref q65, .ref q66, .int 0, .ref q67])), (q50, .inl (cI, 5, .inl (fun _ => 0)))]) (w1 := fun _ => []) (fun hPc hDc => va_runV (As := [.int a1, .int a2, .int 7]) (rest := []) ⟨hx, hb, hml, hown, hts⟩ (kX11_copy_48 l dC dI cI c2 q1 q4 q48 q2 q6 q18 q23 q28 q33 q36 q37 q40 q44 q5 H.size a1 a2 (by omega) (by omega) (by omega) (by omega)) (cwV 3 hts gL_law_X11_copy rfl rfl rfl (by decide +kernel) ⟨Nat.le_of_ble_eq_true rfl, Nat.le_of_ble_eq_true rfl⟩) (pre_V hPc hK hDc hN (ci := 11) (q0 := 0) rfl rfl) rfl rfl hl.1 rfl (lv_room (Nat.le_of_ble_eq_true rfl)) dL_law_944 ⟨Nat.le_of_ble_eq_true rfl, Nat.le_of_ble_eq_true rfl⟩) hP hD hS hA [0, 3, 27] [28, 29] rfl rfl (by decide) (by decide) (by decide) (fun u H locs hP hD hS => ?_)
                              have hP : va_P (dC, dI) vwCl [(q49, .inr (12, [.int 0, .ref q50, .int 0, .ref q51, .int 0, .ref q52, .ref q53, .int 0, .ref q54, .int 0, .ref q55, .int (-9), .int 0, .int 0, .ref q56, .ref q57, .ref q58, .ref q59, .ref q60, .int 0, .ref q61, .ref q62, .ref q63, .int 0, .ref q64, .ref q65, .ref q66, .int 0, .ref q67])), (q50, .inl (cI, 5, .inl (fun _ => 0)))] H := hP
                              have hD : va_D A [(q49, .inr (12, [.int 0, .ref q50, .int 0, .ref q51, .int 0, .ref q52, .ref q53, .int 0, .ref q54, .int 0, .ref q55, .int (-9), .int 0, .int 0, .ref q56, .ref q57, .ref q58, .ref q59, .ref q60, .int 0, .ref q61, .ref q62, .ref q63, .int 0, .ref q64, .ref q65, .ref q66, .int 0, .ref q67])), (q50, .inl (cI, 5, .inl (fun _ => 0)))] := hD
                              refine lv_aload_n hx hb dL_law_947 rfl (lv_at hl 1 rfl) ?_
                              refine lv_aload_n hx hb dL_law_948 rfl (lv_at hl 3 rfl) ?_
                              refine lv_iload_n hx hb dL_law_949 rfl (lv_at hl 0 rfl) ?_
                              refine lv_iconst (v := 1) hx hb dL_law_950 (by decide) ?_
                              refine lv_iadd hx hb dL_law_951 (tk_i (v := 1) (by decide +kernel) ?_)
                              refine va_sld hx hb hX hbl hbA hS (vin (by decide +kernel)) dL_law_952 (tk_i (v := a1) ha1 ?_)
                              refine lv_aload_n hx hb dL_law_953 rfl (lv_at hl 3 rfl) ?_
                              refine lv_iload_n hx hb dL_law_954 rfl (lv_at hl 0 rfl) ?_
                              refine lv_iconst (v := 2) hx hb dL_law_955 (by decide) ?_
                              refine lv_iadd hx hb dL_law_956 (tk_i (v := 2) (by decide +kernel) ?_)
                              refine va_sld hx hb hX hbl hbA hS (vin (by decide +kernel)) dL_law_957 (tk_i (v := a2) ha2 ?_)
                              refine lv_aload_n hx hb dL_law_958 rfl (lv_at hl 3 rfl) ?_
                              refine lv_iload_n hx hb dL_law_959 rfl (lv_at hl 0 rfl) ?_
                              refine lv_iconst (v := 3) hx hb dL_law_960 (by decide) ?_
                              refine lv_iadd hx hb dL_law_961 (tk_i (v := 3) (by decide +kernel) ?_)
                              refine va_sld hx hb hX hbl hbA hS (vin (by decide +kernel)) dL_law_962 (tk_i (v := 7) ha3 ?_)
                              refine kcall_i (D := (dC, dI)) (S := Unit) (v := (-3)) (wc := [(q49, .inr (12, [.int 0, .ref q50, .int 0, .ref q51, .int 0, .ref q52, .ref q53, .int 0, .ref q54, .int 0, .ref q55, .int (-9), .int 0, .int 0, .ref q56, .ref q57, .ref q58, .ref q59, .ref q60, .int 0, .ref q61, .ref q62, .ref q63, .int 0, .ref q64, .ref q65, .ref q66, .int 0, .ref q67])), (q50, .inl (cI, 5, .inl (fun _ => 0)))]) (wr := []) (w1 := fun _ => []) (fun hPc hDc => va_runV (As := [.int a1, .int a2, .int 7]) (rest := [.int (-3)]) ⟨hx, hb, hml, hown, hts⟩ (kX12_copy_48 l dC dI cI c2 q49 q50 q51 q52 q53 q54 q55 q56 q57 q58 q59 q60 q61 q62 q63 q64 q65 q66 q67 H.size a1 a2 (by omega) (by omega) (by omega) (by omega)) (cwV 3 hts gL_law_X12_copy rfl rfl rfl (by decide +kernel) ⟨Nat.le_of_ble_eq_true rfl, Nat.le_of_ble_eq_true rfl⟩) (pre_V hPc hK hDc hN (ci := 12) (q0 := 0) rfl rfl) rfl rfl hl.1 rfl (lv_room (Nat.le_of_ble_eq_true rfl)) dL_law_963 ⟨Nat.le_of_ble_eq_true rfl, Nat.le_of_ble_eq_true rfl⟩) hP hD hS hA [0, 1] [] rfl rfl (by decide) (by decide) (by decide) (fun u H locs hP hD hS => ?_)
                              have hP : va_P (dC, dI) vwCl [] H := hP
                              have hD : va_D A [] := hD
                              refine lv_icmp_eq (tgt := 1080) hx hb dL_law_966 (by decide) (fun _ => ?_) (fun h9 => absurd (by decide +kernel) h9)
                              refine lv_iinc (v := 4) (lv' := [(3, .int 4), (2, .ref q49), (1, .ref q1), (0, .ref b)]) hx hb dL_law_1080 hl (k := 0) rfl (by decide +kernel) (by decide) rfl (fun ls hl => ?_)
                              refine lv_goto (tgt := 18) hx hb dL_law_1083 (by decide) ?_
                              refine lv_iload_n hx hb dL_law_18 rfl (lv_at hl 0 rfl) ?_
                              refine lv_aload_n hx hb dL_law_19 rfl (lv_at hl 3 rfl) ?_
                              refine va_slen hx hb hX hbl hbA hS dL_law_20 (tk_i (v := 4) (by decide +kernel) ?_)
                              refine lv_iconst (v := 4) hx hb dL_law_21 (by decide) ?_
                              refine lv_isub hx hb dL_law_22 (tk_i (v := 0) (by decide +kernel) ?_)
                              refine lv_icmp_gt (tgt := 1086) hx hb dL_law_23 (by decide) (fun _ => ?_) (fun h9 => absurd (by decide +kernel) h9)
                              refine lv_iconst (v := 1) hx hb dL_law_1086 (by decide) ?_
                              refine va_forget (fun q hq => by have h9 := hS.2.2 q hq; rw [← hAe] at h9; exact h9) ?_
                              refine W.widen (k := 600000) (n := 7302250) (by decide) (by decide) ?_
                              exact lw_ret hx hb hr hlocks dL_law_1087
                        ·
                          rcases (show a3.toInt ≤ 8 ∨ 9 ≤ a3.toInt by omega) with g_a3_9 | g_a3_9
                          ·
                            rcases (show a1.toInt ≤ 4 ∨ 5 ≤ a1.toInt by omega) with g_a1_5 | g_a1_5
                            ·
                              rcases (show a2.toInt ≤ (-1) ∨ 0 ≤ a2.toInt by omega) with g_a2_0 | g_a2_0
                              ·
                                have e_a3 : a3 = 8 := ib_eq (X := 8) (by omega) (by decide +kernel)
                                subst e_a3
                                refine lv_aload_n hx hb dL_law_928 rfl (lv_at hl 2 rfl) ?_
                                refine lv_aload_n hx hb dL_law_929 rfl (lv_at hl 3 rfl) ?_
                                refine lv_iload_n hx hb dL_law_930 rfl (lv_at hl 0 rfl) ?_
                                refine lv_iconst (v := 1) hx hb dL_law_931 (by decide) ?_
                                refine lv_iadd hx hb dL_law_932 (tk_i (v := 1) (by decide +kernel) ?_)
                                refine va_sld hx hb hX hbl hbA hS (vin (by decide +kernel)) dL_law_933 (tk_i (v := a1) ha1 ?_)
                                refine lv_aload_n hx hb dL_law_934 rfl (lv_at hl 3 rfl) ?_
                                refine lv_iload_n hx hb dL_law_935 rfl (lv_at hl 0 rfl) ?_
                                refine lv_iconst (v := 2) hx hb dL_law_936 (by decide) ?_
                                refine lv_iadd hx hb dL_law_937 (tk_i (v := 2) (by decide +kernel) ?_)
                                refine va_sld hx hb hX hbl hbA hS (vin (by decide +kernel)) dL_law_938 (tk_i (v := a2) ha2 ?_)
                                refine lv_aload_n hx hb dL_law_939 rfl (lv_at hl 3 rfl) ?_
                                refine lv_iload_n hx hb dL_law_940 rfl (lv_at hl 0 rfl) ?_
                                refine lv_iconst (v := 3) hx hb dL_law_941 (by decide) ?_
                                refine lv_iadd hx hb dL_law_942 (tk_i (v := 3) (by decide +kernel) ?_)
                                refine va_sld hx hb hX hbl hbA hS (vin (by decide +kernel)) dL_law_943 (tk_i (v := 8) ha3 ?_)
                                refine kcall_i (D := (dC, dI)) (S := Unit) (v := (-3)) (wc := [(q1, .inr (11, [.ref q2, .ref q4, .ref q6, .ref q18, .ref q23, .ref q28, .ref q33, .ref q36, .ref q37, .ref q40, .ref q44, .ref q48, .int 0])), (q4, .inr (10, [.ref q5, .int 0, .int 0])), (q48, .inl (cI, 5, .inl (fun _ => 0)))]) (wr := [(q49, .inr (12, [.int 0, .ref q50, .int 0, .ref q51, .int 0, .ref q52, .ref q53, .int 0, .ref q54, .int 0, .ref q55, .int (-9), .int 0, .int 0, .ref q56, .ref q57, .ref q58, .ref q59, .ref q60, .int 0, .ref q61, .ref q62, .ref q63, .int 0, .ref q64, .ref q65, .ref q66, .int 0, .ref q67])), (q50, .inl (cI, 5, .inl (fun _ => 0)))]) (w1 := fun _ => []) (fun hPc hDc => va_runV (As := [.int a1, .int a2, .int 8]) (rest := []) ⟨hx, hb, hml, hown, hts⟩ (kX11_copy_49 l dC dI cI c2 q1 q4 q48 q2 q6 q18 q23 q28 q33 q36 q37 q40 q44 q5 H.size a1 a2 (by omega) (by omega) (by omega) (by omega)) (cwV 3 hts gL_law_X11_copy rfl rfl rfl (by decide +kernel) ⟨Nat.le_of_ble_eq_true rfl, Nat.le_of_ble_eq_true rfl⟩) (pre_V hPc hK hDc hN (ci := 11) (q0 := 0) rfl rfl) rfl rfl hl.1 rfl (lv_room (Nat.le_of_ble_eq_true rfl)) dL_law_944 ⟨Nat.le_of_ble_eq_true rfl, Nat.le_of_ble_eq_true rfl⟩) hP hD hS hA [0, 3, 27] [28, 29] rfl rfl (by decide) (by decide) (by decide) (fun u H locs hP hD hS => ?_)
                                have hP : va_P (dC, dI) vwCl [(q49, .inr (12, [.int 0, .ref q50, .int 0, .ref q51, .int 0, .ref q52, .ref q53, .int 0, .ref q54, .int 0, .ref q55, .int (-9), .int 0, .int 0, .ref q56, .ref q57, .ref q58, .ref q59, .ref q60, .int 0, .ref q61, .ref q62, .ref q63, .int 0, .ref q64, .ref q65, .ref q66, .int 0, .ref q67])), (q50, .inl (cI, 5, .inl (fun _ => 0)))] H := hP
                                have hD : va_D A [(q49, .inr (12, [.int 0, .ref q50, .int 0, .ref q51, .int 0, .ref q52, .ref q53, .int 0, .ref q54, .int 0, .ref q55, .int (-9), .int 0, .int 0, .ref q56, .ref q57, .ref q58, .ref q59, .ref q60, .int 0, .ref q61, .ref q62, .ref q63, .int 0, .ref q64, .ref q65, .ref q66, .int 0, .ref q67])), (q50, .inl (cI, 5, .inl (fun _ => 0)))] := hD
                                refine lv_aload_n hx hb dL_law_947 rfl (lv_at hl 1 rfl) ?_
                                refine lv_aload_n hx hb dL_law_948 rfl (lv_at hl 3 rfl) ?_
                                refine lv_iload_n hx hb dL_law_949 rfl (lv_at hl 0 rfl) ?_
                                refine lv_iconst (v := 1) hx hb dL_law_950 (by decide) ?_
                                refine lv_iadd hx hb dL_law_951 (tk_i (v := 1) (by decide +kernel) ?_)
                                refine va_sld hx hb hX hbl hbA hS (vin (by decide +kernel)) dL_law_952 (tk_i (v := a1) ha1 ?_)
                                refine lv_aload_n hx hb dL_law_953 rfl (lv_at hl 3 rfl) ?_
                                refine lv_iload_n hx hb dL_law_954 rfl (lv_at hl 0 rfl) ?_
                                refine lv_iconst (v := 2) hx hb dL_law_955 (by decide) ?_
                                refine lv_iadd hx hb dL_law_956 (tk_i (v := 2) (by decide +kernel) ?_)
                                refine va_sld hx hb hX hbl hbA hS (vin (by decide +kernel)) dL_law_957 (tk_i (v := a2) ha2 ?_)
                                refine lv_aload_n hx hb dL_law_958 rfl (lv_at hl 3 rfl) ?_
                                refine lv_iload_n hx hb dL_law_959 rfl (lv_at hl 0 rfl) ?_
                                refine lv_iconst (v := 3) hx hb dL_law_960 (by decide) ?_
                                refine lv_iadd hx hb dL_law_961 (tk_i (v := 3) (by decide +kernel) ?_)
                                refine va_sld hx hb hX hbl hbA hS (vin (by decide +kernel)) dL_law_962 (tk_i (v := 8) ha3 ?_)
                                refine kcall_i (D := (dC, dI)) (S := Unit) (v := (-3)) (wc := [(q49, .inr (12, [.int 0, .ref q50, .int 0, .ref q51, .int 0, .ref q52, .ref q53, .int 0, .ref q54, .int 0, .ref q55, .int (-9), .int 0, .int 0, .ref q56, .ref q57, .ref q58, .ref q59, .ref q60, .int 0, .ref q61, .ref q62, .ref q63, .int 0, .ref q64, .ref q65, .ref q66, .int 0, .ref q67])), (q50, .inl (cI, 5, .inl (fun _ => 0)))]) (wr := []) (w1 := fun _ => []) (fun hPc hDc => va_runV (As := [.int a1, .int a2, .int 8]) (rest := [.int (-3)]) ⟨hx, hb, hml, hown, hts⟩ (kX12_copy_49 l dC dI cI c2 q49 q50 q51 q52 q53 q54 q55 q56 q57 q58 q59 q60 q61 q62 q63 q64 q65 q66 q67 H.size a1 a2 (by omega) (by omega) (by omega) (by omega)) (cwV 3 hts gL_law_X12_copy rfl rfl rfl (by decide +kernel) ⟨Nat.le_of_ble_eq_true rfl, Nat.le_of_ble_eq_true rfl⟩) (pre_V hPc hK hDc hN (ci := 12) (q0 := 0) rfl rfl) rfl rfl hl.1 rfl (lv_room (Nat.le_of_ble_eq_true rfl)) dL_law_963 ⟨Nat.le_of_ble_eq_true rfl, Nat.le_of_ble_eq_true rfl⟩) hP hD hS hA [0, 1] [] rfl rfl (by decide) (by decide) (by decide) (fun u H locs hP hD hS => ?_)
                                have hP : va_P (dC, dI) vwCl [] H := hP
                                have hD : va_D A [] := hD
                                refine lv_icmp_eq (tgt := 1080) hx hb dL_law_966 (by decide) (fun _ => ?_) (fun h9 => absurd (by decide +kernel) h9)
                                refine lv_iinc (v := 4) (lv' := [(3, .int 4), (2, .ref q49), (1, .ref q1), (0, .ref b)]) hx hb dL_law_1080 hl (k := 0) rfl (by decide +kernel) (by decide) rfl (fun ls hl => ?_)
                                refine lv_goto (tgt := 18) hx hb dL_law_1083 (by decide) ?_
                                refine lv_iload_n hx hb dL_law_18 rfl (lv_at hl 0 rfl) ?_
                                refine lv_aload_n hx hb dL_law_19 rfl (lv_at hl 3 rfl) ?_
                                refine va_slen hx hb hX hbl hbA hS dL_law_20 (tk_i (v := 4) (by decide +kernel) ?_)
                                refine lv_iconst (v := 4) hx hb dL_law_21 (by decide) ?_
                                refine lv_isub hx hb dL_law_22 (tk_i (v := 0) (by decide +kernel) ?_)
                                refine lv_icmp_gt (tgt := 1086) hx hb dL_law_23 (by decide) (fun _ => ?_) (fun h9 => absurd (by decide +kernel) h9)
                                refine lv_iconst (v := 1) hx hb dL_law_1086 (by decide) ?_
                                refine va_forget (fun q hq => by have h9 := hS.2.2 q hq; rw [← hAe] at h9; exact h9) ?_
                                refine W.widen (k := 600000) (n := 7302250) (by decide) (by decide) ?_
                                exact lw_ret hx hb hr hlocks dL_law_1087
                              ·
                                rcases (show a2.toInt ≤ 12 ∨ 13 ≤ a2.toInt by omega) with g_a2_13 | g_a2_13
                                ·
                                  rcases (show a2.toInt ≤ 4 ∨ 5 ≤ a2.toInt by omega) with g_a2_5 | g_a2_5
                                  ·
                                    have e_a3 : a3 = 8 := ib_eq (X := 8) (by omega) (by decide +kernel)
                                    subst e_a3
                                    refine lv_aload_n hx hb dL_law_928 rfl (lv_at hl 2 rfl) ?_
                                    refine lv_aload_n hx hb dL_law_929 rfl (lv_at hl 3 rfl) ?_
                                    refine lv_iload_n hx hb dL_law_930 rfl (lv_at hl 0 rfl) ?_
                                    refine lv_iconst (v := 1) hx hb dL_law_931 (by decide) ?_
                                    refine lv_iadd hx hb dL_law_932 (tk_i (v := 1) (by decide +kernel) ?_)
                                    refine va_sld hx hb hX hbl hbA hS (vin (by decide +kernel)) dL_law_933 (tk_i (v := a1) ha1 ?_)
                                    refine lv_aload_n hx hb dL_law_934 rfl (lv_at hl 3 rfl) ?_
                                    refine lv_iload_n hx hb dL_law_935 rfl (lv_at hl 0 rfl) ?_
                                    refine lv_iconst (v := 2) hx hb dL_law_936 (by decide) ?_
                                    refine lv_iadd hx hb dL_law_937 (tk_i (v := 2) (by decide +kernel) ?_)
                                    refine va_sld hx hb hX hbl hbA hS (vin (by decide +kernel)) dL_law_938 (tk_i (v := a2) ha2 ?_)
                                    refine lv_aload_n hx hb dL_law_939 rfl (lv_at hl 3 rfl) ?_
                                    refine lv_iload_n hx hb dL_law_940 rfl (lv_at hl 0 rfl) ?_
                                    refine lv_iconst (v := 3) hx hb dL_law_941 (by decide) ?_
                                    refine lv_iadd hx hb dL_law_942 (tk_i (v := 3) (by decide +kernel) ?_)
                                    refine va_sld hx hb hX hbl hbA hS (vin (by decide +kernel)) dL_law_943 (tk_i (v := 8) ha3 ?_)
                                    refine kcall_i (D := (dC, dI)) (S := Unit) (v := 1) (wc := [(q1, .inr (11, [.ref q2, .ref q4, .ref q6, .ref q18, .ref q23, .ref q28, .ref q33, .ref q36, .ref q37, .ref q40, .ref q44, .ref q48, .int 0])), (q4, .inr (10, [.ref q5, .int 0, .int 0])), (q5, .inl (cI, 12, .inl (fun _ => (-1))))]) (wr := [(q49, .inr (12, [.int 0, .ref q50, .int 0, .ref q51, .int 0, .ref q52, .ref q53, .int 0, .ref q54, .int 0, .ref q55, .int (-9), .int 0, .int 0, .ref q56, .ref q57, .ref q58, .ref q59, .ref q60, .int 0, .ref q61, .ref q62, .ref q63, .int 0, .ref q64, .ref q65, .ref q66, .int 0, .ref q67])), (q52, .inl (cI, 12, .inl (fun _ => (-9)))), (q67, .inl (cI, 12, .inl (fun _ => 0)))]) (w1 := fun _ => []) (fun hPc hDc => va_runV (As := [.int a1, .int a2, .int 8]) (rest := []) ⟨hx, hb, hml, hown, hts⟩ (kX11_copy_50 l dC dI cI c2 q1 q4 q5 q2 q6 q18 q23 q28 q33 q36 q37 q40 q44 q48 H.size a1 a2 (by omega) (by omega) (by omega) (by omega)) (cwV 3 hts gL_law_X11_copy rfl rfl rfl (by decide +kernel) ⟨Nat.le_of_ble_eq_true rfl, Nat.le_of_ble_eq_true rfl⟩) (pre_V hPc hK hDc hN (ci := 11) (q0 := 0) rfl rfl) rfl rfl hl.1 rfl (lv_room (Nat.le_of_ble_eq_true rfl)) dL_law_944 ⟨Nat.le_of_ble_eq_true rfl, Nat.le_of_ble_eq_true rfl⟩) hP hD hS hA [0, 3, 4] [28, 31, 36] rfl rfl (by decide) (by decide) (by decide) (fun u H locs hP hD hS => ?_)
                                    have hP : va_P (dC, dI) vwCl [(q49, .inr (12, [.int 0, .ref q50, .int 0, .ref q51, .int 0, .ref q52, .ref q53, .int 0, .ref q54, .int 0, .ref q55, .int (-9), .int 0, .int 0, .ref q56, .ref q57, .ref q58, .ref q59, .ref q60, .int 0, .ref q61, .ref q62, .ref q63, .int 0, .ref q64, .ref q65, .ref q66, .int 0, .ref q67])), (q52, .inl (cI, 12, .inl (fun _ => (-9)))), (q67, .inl (cI, 12, .inl (fun _ => 0)))] H := hP
                                    have hD : va_D A [(q49, .inr (12, [.int 0, .ref q50, .int 0, .ref q51, .int 0, .ref q52, .ref q53, .int 0, .ref q54, .int 0, .ref q55, .int (-9), .int 0, .int 0, .ref q56, .ref q57, .ref q58, .ref q59, .ref q60, .int 0, .ref q61, .ref q62, .ref q63, .int 0, .ref q64, .ref q65, .ref q66, .int 0, .ref q67])), (q52, .inl (cI, 12, .inl (fun _ => (-9)))), (q67, .inl (cI, 12, .inl (fun _ => 0)))] := hD
                                    refine lv_aload_n hx hb dL_law_947 rfl (lv_at hl 1 rfl) ?_
                                    refine lv_aload_n hx hb dL_law_948 rfl (lv_at hl 3 rfl) ?_
                                    refine lv_iload_n hx hb dL_law_949 rfl (lv_at hl 0 rfl) ?_
                                    refine lv_iconst (v := 1) hx hb dL_law_950 (by decide) ?_
                                    refine lv_iadd hx hb dL_law_951 (tk_i (v := 1) (by decide +kernel) ?_)
                                    refine va_sld hx hb hX hbl hbA hS (vin (by decide +kernel)) dL_law_952 (tk_i (v := a1) ha1 ?_)
                                    refine lv_aload_n hx hb dL_law_953 rfl (lv_at hl 3 rfl) ?_
                                    refine lv_iload_n hx hb dL_law_954 rfl (lv_at hl 0 rfl) ?_
                                    refine lv_iconst (v := 2) hx hb dL_law_955 (by decide) ?_
                                    refine lv_iadd hx hb dL_law_956 (tk_i (v := 2) (by decide +kernel) ?_)
                                    refine va_sld hx hb hX hbl hbA hS (vin (by decide +kernel)) dL_law_957 (tk_i (v := a2) ha2 ?_)
                                    refine lv_aload_n hx hb dL_law_958 rfl (lv_at hl 3 rfl) ?_
                                    refine lv_iload_n hx hb dL_law_959 rfl (lv_at hl 0 rfl) ?_
                                    refine lv_iconst (v := 3) hx hb dL_law_960 (by decide) ?_
                                    refine lv_iadd hx hb dL_law_961 (tk_i (v := 3) (by decide +kernel) ?_)
                                    refine va_sld hx hb hX hbl hbA hS (vin (by decide +kernel)) dL_law_962 (tk_i (v := 8) ha3 ?_)
                                    refine kcall_i (D := (dC, dI)) (S := Unit) (v := 1) (wc := [(q49, .inr (12, [.int 0, .ref q50, .int 0, .ref q51, .int 0, .ref q52, .ref q53, .int 0, .ref q54, .int 0, .ref q55, .int (-9), .int 0, .int 0, .ref q56, .ref q57, .ref q58, .ref q59, .ref q60, .int 0, .ref q61, .ref q62, .ref q63, .int 0, .ref q64, .ref q65, .ref q66, .int 0, .ref q67])), (q52, .inl (cI, 12, .inl (fun _ => (-9)))), (q67, .inl (cI, 12, .inl (fun _ => 0)))]) (wr := []) (w1 := fun _ => []) (fun hPc hDc => va_runV (As := [.int a1, .int a2, .int 8]) (rest := [.int 1]) ⟨hx, hb, hml, hown, hts⟩ (kX12_copy_50 l dC dI cI c2 q49 q52 q67 q50 q51 q53 q54 q55 q56 q57 q58 q59 q60 q61 q62 q63 q64 q65 q66 H.size a1 a2 (by omega) (by omega) (by omega) (by omega)) (cwV 3 hts gL_law_X12_copy rfl rfl rfl (by decide +kernel) ⟨Nat.le_of_ble_eq_true rfl, Nat.le_of_ble_eq_true rfl⟩) (pre_V hPc hK hDc hN (ci := 12) (q0 := 0) rfl rfl) rfl rfl hl.1 rfl (lv_room (Nat.le_of_ble_eq_true rfl)) dL_law_963 ⟨Nat.le_of_ble_eq_true rfl, Nat.le_of_ble_eq_true rfl⟩) hP hD hS hA [0, 1, 2] [] rfl rfl (by decide) (by decide) (by decide) (fun u H locs hP hD hS => ?_)
                                    have hP : va_P (dC, dI) vwCl [] H := hP
                                    have hD : va_D A [] := hD
                                    refine lv_icmp_eq (tgt := 1080) hx hb dL_law_966 (by decide) (fun _ => ?_) (fun h9 => absurd (by decide +kernel) h9)
                                    refine lv_iinc (v := 4) (lv' := [(3, .int 4), (2, .ref q49), (1, .ref q1), (0, .ref b)]) hx hb dL_law_1080 hl (k := 0) rfl (by decide +kernel) (by decide) rfl (fun ls hl => ?_)
                                    refine lv_goto (tgt := 18) hx hb dL_law_1083 (by decide) ?_
                                    refine lv_iload_n hx hb dL_law_18 rfl (lv_at hl 0 rfl) ?_
                                    refine lv_aload_n hx hb dL_law_19 rfl (lv_at hl 3 rfl) ?_
                                    refine va_slen hx hb hX hbl hbA hS dL_law_20 (tk_i (v := 4) (by decide +kernel) ?_)
                                    refine lv_iconst (v := 4) hx hb dL_law_21 (by decide) ?_
                                    refine lv_isub hx hb dL_law_22 (tk_i (v := 0) (by decide +kernel) ?_)
                                    refine lv_icmp_gt (tgt := 1086) hx hb dL_law_23 (by decide) (fun _ => ?_) (fun h9 => absurd (by decide +kernel) h9)
                                    refine lv_iconst (v := 1) hx hb dL_law_1086 (by decide) ?_
                                    refine va_forget (fun q hq => by have h9 := hS.2.2 q hq; rw [← hAe] at h9; exact h9) ?_
                                    refine W.widen (k := 600000) (n := 7302250) (by decide) (by decide) ?_
                                    exact lw_ret hx hb hr hlocks dL_law_1087
                                  ·
                                    have e_a3 : a3 = 8 := ib_eq (X := 8) (by omega) (by decide +kernel)
                                    subst e_a3
                                    refine lv_aload_n hx hb dL_law_928 rfl (lv_at hl 2 rfl) ?_
                                    refine lv_aload_n hx hb dL_law_929 rfl (lv_at hl 3 rfl) ?_
                                    refine lv_iload_n hx hb dL_law_930 rfl (lv_at hl 0 rfl) ?_
                                    refine lv_iconst (v := 1) hx hb dL_law_931 (by decide) ?_
                                    refine lv_iadd hx hb dL_law_932 (tk_i (v := 1) (by decide +kernel) ?_)
                                    refine va_sld hx hb hX hbl hbA hS (vin (by decide +kernel)) dL_law_933 (tk_i (v := a1) ha1 ?_)
                                    refine lv_aload_n hx hb dL_law_934 rfl (lv_at hl 3 rfl) ?_
                                    refine lv_iload_n hx hb dL_law_935 rfl (lv_at hl 0 rfl) ?_
                                    refine lv_iconst (v := 2) hx hb dL_law_936 (by decide) ?_
                                    refine lv_iadd hx hb dL_law_937 (tk_i (v := 2) (by decide +kernel) ?_)
                                    refine va_sld hx hb hX hbl hbA hS (vin (by decide +kernel)) dL_law_938 (tk_i (v := a2) ha2 ?_)
                                    refine lv_aload_n hx hb dL_law_939 rfl (lv_at hl 3 rfl) ?_
                                    refine lv_iload_n hx hb dL_law_940 rfl (lv_at hl 0 rfl) ?_
                                    refine lv_iconst (v := 3) hx hb dL_law_941 (by decide) ?_
                                    refine lv_iadd hx hb dL_law_942 (tk_i (v := 3) (by decide +kernel) ?_)
                                    refine va_sld hx hb hX hbl hbA hS (vin (by decide +kernel)) dL_law_943 (tk_i (v := 8) ha3 ?_)
                                    refine kcall_i (D := (dC, dI)) (S := Unit) (v := (-3)) (wc := [(q1, .inr (11, [.ref q2, .ref q4, .ref q6, .ref q18, .ref q23, .ref q28, .ref q33, .ref q36, .ref q37, .ref q40, .ref q44, .ref q48, .int 0])), (q4, .inr (10, [.ref q5, .int 0, .int 0])), (q48, .inl (cI, 5, .inl (fun _ => 0)))]) (wr := [(q49, .inr (12, [.int 0, .ref q50, .int 0, .ref q51, .int 0, .ref q52, .ref q53, .int 0, .ref q54, .int 0, .ref q55, .int (-9), .int 0, .int 0, .ref q56, .ref q57, .ref q58, .ref q59, .ref q60, .int 0, .ref q61, .ref q62, .ref q63, .int 0, .ref q64, .ref q65, .ref q66, .int 0, .ref q67])), (q50, .inl (cI, 5, .inl (fun _ => 0)))]) (w1 := fun _ => []) (fun hPc hDc => va_runV (As := [.int a1, .int a2, .int 8]) (rest := []) ⟨hx, hb, hml, hown, hts⟩ (kX11_copy_51 l dC dI cI c2 q1 q4 q48 q2 q6 q18 q23 q28 q33 q36 q37 q40 q44 q5 H.size a1 a2 (by omega) (by omega) (by omega) (by omega)) (cwV 3 hts gL_law_X11_copy rfl rfl rfl (by decide +kernel) ⟨Nat.le_of_ble_eq_true rfl, Nat.le_of_ble_eq_true rfl⟩) (pre_V hPc hK hDc hN (ci := 11) (q0 := 0) rfl rfl) rfl rfl hl.1 rfl (lv_room (Nat.le_of_ble_eq_true rfl)) dL_law_944 ⟨Nat.le_of_ble_eq_true rfl, Nat.le_of_ble_eq_true rfl⟩) hP hD hS hA [0, 3, 27] [28, 29] rfl rfl (by decide) (by decide) (by decide) (fun u H locs hP hD hS => ?_)
                                    have hP : va_P (dC, dI) vwCl [(q49, .inr (12, [.int 0, .ref q50, .int 0, .ref q51, .int 0, .ref q52, .ref q53, .int 0, .ref q54, .int 0, .ref q55, .int (-9), .int 0, .int 0, .ref q56, .ref q57, .ref q58, .ref q59, .ref q60, .int 0, .ref q61, .ref q62, .ref q63, .int 0, .ref q64, .ref q65, .ref q66, .int 0, .ref q67])), (q50, .inl (cI, 5, .inl (fun _ => 0)))] H := hP
                                    have hD : va_D A [(q49, .inr (12, [.int 0, .ref q50, .int 0, .ref q51, .int 0, .ref q52, .ref q53, .int 0, .ref q54, .int 0, .ref q55, .int (-9), .int 0, .int 0, .ref q56, .ref q57, .ref q58, .ref q59, .ref q60, .int 0, .ref q61, .ref q62, .ref q63, .int 0, .ref q64, .ref q65, .ref q66, .int 0, .ref q67])), (q50, .inl (cI, 5, .inl (fun _ => 0)))] := hD
                                    refine lv_aload_n hx hb dL_law_947 rfl (lv_at hl 1 rfl) ?_
                                    refine lv_aload_n hx hb dL_law_948 rfl (lv_at hl 3 rfl) ?_
                                    refine lv_iload_n hx hb dL_law_949 rfl (lv_at hl 0 rfl) ?_
                                    refine lv_iconst (v := 1) hx hb dL_law_950 (by decide) ?_
                                    refine lv_iadd hx hb dL_law_951 (tk_i (v := 1) (by decide +kernel) ?_)
                                    refine va_sld hx hb hX hbl hbA hS (vin (by decide +kernel)) dL_law_952 (tk_i (v := a1) ha1 ?_)
                                    refine lv_aload_n hx hb dL_law_953 rfl (lv_at hl 3 rfl) ?_
                                    refine lv_iload_n hx hb dL_law_954 rfl (lv_at hl 0 rfl) ?_
                                    refine lv_iconst (v := 2) hx hb dL_law_955 (by decide) ?_
                                    refine lv_iadd hx hb dL_law_956 (tk_i (v := 2) (by decide +kernel) ?_)
                                    refine va_sld hx hb hX hbl hbA hS (vin (by decide +kernel)) dL_law_957 (tk_i (v := a2) ha2 ?_)
                                    refine lv_aload_n hx hb dL_law_958 rfl (lv_at hl 3 rfl) ?_
                                    refine lv_iload_n hx hb dL_law_959 rfl (lv_at hl 0 rfl) ?_
                                    refine lv_iconst (v := 3) hx hb dL_law_960 (by decide) ?_
                                    refine lv_iadd hx hb dL_law_961 (tk_i (v := 3) (by decide +kernel) ?_)
                                    refine va_sld hx hb hX hbl hbA hS (vin (by decide +kernel)) dL_law_962 (tk_i (v := 8) ha3 ?_)
                                    refine kcall_i (D := (dC, dI)) (S := Unit) (v := (-3)) (wc := [(q49, .inr (12, [.int 0, .ref q50, .int 0, .ref q51, .int 0, .ref q52, .ref q53, .int 0, .ref q54, .int 0, .ref q55, .int (-9), .int 0, .int 0, .ref q56, .ref q57, .ref q58, .ref q59, .ref q60, .int 0, .ref q61, .ref q62, .ref q63, .int 0, .ref q64, .ref q65, .ref q66, .int 0, .ref q67])), (q50, .inl (cI, 5, .inl (fun _ => 0)))]) (wr := []) (w1 := fun _ => []) (fun hPc hDc => va_runV (As := [.int a1, .int a2, .int 8]) (rest := [.int (-3)]) ⟨hx, hb, hml, hown, hts⟩ (kX12_copy_51 l dC dI cI c2 q49 q50 q51 q52 q53 q54 q55 q56 q57 q58 q59 q60 q61 q62 q63 q64 q65 q66 q67 H.size a1 a2 (by omega) (by omega) (by omega) (by omega)) (cwV 3 hts gL_law_X12_copy rfl rfl rfl (by decide +kernel) ⟨Nat.le_of_ble_eq_true rfl, Nat.le_of_ble_eq_true rfl⟩) (pre_V hPc hK hDc hN (ci := 12) (q0 := 0) rfl rfl) rfl rfl hl.1 rfl (lv_room (Nat.le_of_ble_eq_true rfl)) dL_law_963 ⟨Nat.le_of_ble_eq_true rfl, Nat.le_of_ble_eq_true rfl⟩) hP hD hS hA [0, 1] [] rfl rfl (by decide) (by decide) (by decide) (fun u H locs hP hD hS => ?_)
                                    have hP : va_P (dC, dI) vwCl [] H := hP
                                    have hD : va_D A [] := hD
                                    refine lv_icmp_eq (tgt := 1080) hx hb dL_law_966 (by decide) (fun _ => ?_) (fun h9 => absurd (by decide +kernel) h9)
                                    refine lv_iinc (v := 4) (lv' := [(3, .int 4), (2, .ref q49), (1, .ref q1), (0, .ref b)]) hx hb dL_law_1080 hl (k := 0) rfl (by decide +kernel) (by decide) rfl (fun ls hl => ?_)
                                    refine lv_goto (tgt := 18) hx hb dL_law_1083 (by decide) ?_
                                    refine lv_iload_n hx hb dL_law_18 rfl (lv_at hl 0 rfl) ?_
                                    refine lv_aload_n hx hb dL_law_19 rfl (lv_at hl 3 rfl) ?_
                                    refine va_slen hx hb hX hbl hbA hS dL_law_20 (tk_i (v := 4) (by decide +kernel) ?_)
                                    refine lv_iconst (v := 4) hx hb dL_law_21 (by decide) ?_
                                    refine lv_isub hx hb dL_law_22 (tk_i (v := 0) (by decide +kernel) ?_)
                                    refine lv_icmp_gt (tgt := 1086) hx hb dL_law_23 (by decide) (fun _ => ?_) (fun h9 => absurd (by decide +kernel) h9)
                                    refine lv_iconst (v := 1) hx hb dL_law_1086 (by decide) ?_
                                    refine va_forget (fun q hq => by have h9 := hS.2.2 q hq; rw [← hAe] at h9; exact h9) ?_
                                    refine W.widen (k := 600000) (n := 7302250) (by decide) (by decide) ?_
                                    exact lw_ret hx hb hr hlocks dL_law_1087
                                ·
                                  have e_a3 : a3 = 8 := ib_eq (X := 8) (by omega) (by decide +kernel)
                                  subst e_a3
                                  refine lv_aload_n hx hb dL_law_928 rfl (lv_at hl 2 rfl) ?_
                                  refine lv_aload_n hx hb dL_law_929 rfl (lv_at hl 3 rfl) ?_
                                  refine lv_iload_n hx hb dL_law_930 rfl (lv_at hl 0 rfl) ?_
                                  refine lv_iconst (v := 1) hx hb dL_law_931 (by decide) ?_
                                  refine lv_iadd hx hb dL_law_932 (tk_i (v := 1) (by decide +kernel) ?_)
                                  refine va_sld hx hb hX hbl hbA hS (vin (by decide +kernel)) dL_law_933 (tk_i (v := a1) ha1 ?_)
                                  refine lv_aload_n hx hb dL_law_934 rfl (lv_at hl 3 rfl) ?_
                                  refine lv_iload_n hx hb dL_law_935 rfl (lv_at hl 0 rfl) ?_
                                  refine lv_iconst (v := 2) hx hb dL_law_936 (by decide) ?_
                                  refine lv_iadd hx hb dL_law_937 (tk_i (v := 2) (by decide +kernel) ?_)
                                  refine va_sld hx hb hX hbl hbA hS (vin (by decide +kernel)) dL_law_938 (tk_i (v := a2) ha2 ?_)
                                  refine lv_aload_n hx hb dL_law_939 rfl (lv_at hl 3 rfl) ?_
                                  refine lv_iload_n hx hb dL_law_940 rfl (lv_at hl 0 rfl) ?_
                                  refine lv_iconst (v := 3) hx hb dL_law_941 (by decide) ?_
                                  refine lv_iadd hx hb dL_law_942 (tk_i (v := 3) (by decide +kernel) ?_)
                                  refine va_sld hx hb hX hbl hbA hS (vin (by decide +kernel)) dL_law_943 (tk_i (v := 8) ha3 ?_)
                                  refine kcall_i (D := (dC, dI)) (S := Unit) (v := (-3)) (wc := [(q1, .inr (11, [.ref q2, .ref q4, .ref q6, .ref q18, .ref q23, .ref q28, .ref q33, .ref q36, .ref q37, .ref q40, .ref q44, .ref q48, .int 0])), (q4, .inr (10, [.ref q5, .int 0, .int 0])), (q48, .inl (cI, 5, .inl (fun _ => 0)))]) (wr := [(q49, .inr (12, [.int 0, .ref q50, .int 0, .ref q51, .int 0, .ref q52, .ref q53, .int 0, .ref q54, .int 0, .ref q55, .int (-9), .int 0, .int 0, .ref q56, .ref q57, .ref q58, .ref q59, .ref q60, .int 0, .ref q61, .ref q62, .ref q63, .int 0, .ref q64, .ref q65, .ref q66, .int 0, .ref q67])), (q50, .inl (cI, 5, .inl (fun _ => 0)))]) (w1 := fun _ => []) (fun hPc hDc => va_runV (As := [.int a1, .int a2, .int 8]) (rest := []) ⟨hx, hb, hml, hown, hts⟩ (kX11_copy_52 l dC dI cI c2 q1 q4 q48 q2 q6 q18 q23 q28 q33 q36 q37 q40 q44 q5 H.size a1 a2 (by omega) (by omega) (by omega) (by omega)) (cwV 3 hts gL_law_X11_copy rfl rfl rfl (by decide +kernel) ⟨Nat.le_of_ble_eq_true rfl, Nat.le_of_ble_eq_true rfl⟩) (pre_V hPc hK hDc hN (ci := 11) (q0 := 0) rfl rfl) rfl rfl hl.1 rfl (lv_room (Nat.le_of_ble_eq_true rfl)) dL_law_944 ⟨Nat.le_of_ble_eq_true rfl, Nat.le_of_ble_eq_true rfl⟩) hP hD hS hA [0, 3, 27] [28, 29] rfl rfl (by decide) (by decide) (by decide) (fun u H locs hP hD hS => ?_)
                                  have hP : va_P (dC, dI) vwCl [(q49, .inr (12, [.int 0, .ref q50, .int 0, .ref q51, .int 0, .ref q52, .ref q53, .int 0, .ref q54, .int 0, .ref q55, .int (-9), .int 0, .int 0, .ref q56, .ref q57, .ref q58, .ref q59, .ref q60, .int 0, .ref q61, .ref q62, .ref q63, .int 0, .ref q64, .ref q65, .ref q66, .int 0, .ref q67])), (q50, .inl (cI, 5, .inl (fun _ => 0)))] H := hP
                                  have hD : va_D A [(q49, .inr (12, [.int 0, .ref q50, .int 0, .ref q51, .int 0, .ref q52, .ref q53, .int 0, .ref q54, .int 0, .ref q55, .int (-9), .int 0, .int 0, .ref q56, .ref q57, .ref q58, .ref q59, .ref q60, .int 0, .ref q61, .ref q62, .ref q63, .int 0, .ref q64, .ref q65, .ref q66, .int 0, .ref q67])), (q50, .inl (cI, 5, .inl (fun _ => 0)))] := hD
                                  refine lv_aload_n hx hb dL_law_947 rfl (lv_at hl 1 rfl) ?_
                                  refine lv_aload_n hx hb dL_law_948 rfl (lv_at hl 3 rfl) ?_
                                  refine lv_iload_n hx hb dL_law_949 rfl (lv_at hl 0 rfl) ?_
                                  refine lv_iconst (v := 1) hx hb dL_law_950 (by decide) ?_
                                  refine lv_iadd hx hb dL_law_951 (tk_i (v := 1) (by decide +kernel) ?_)
                                  refine va_sld hx hb hX hbl hbA hS (vin (by decide +kernel)) dL_law_952 (tk_i (v := a1) ha1 ?_)
                                  refine lv_aload_n hx hb dL_law_953 rfl (lv_at hl 3 rfl) ?_
                                  refine lv_iload_n hx hb dL_law_954 rfl (lv_at hl 0 rfl) ?_
                                  refine lv_iconst (v := 2) hx hb dL_law_955 (by decide) ?_
                                  refine lv_iadd hx hb dL_law_956 (tk_i (v := 2) (by decide +kernel) ?_)
                                  refine va_sld hx hb hX hbl hbA hS (vin (by decide +kernel)) dL_law_957 (tk_i (v := a2) ha2 ?_)
                                  refine lv_aload_n hx hb dL_law_958 rfl (lv_at hl 3 rfl) ?_
                                  refine lv_iload_n hx hb dL_law_959 rfl (lv_at hl 0 rfl) ?_
                                  refine lv_iconst (v := 3) hx hb dL_law_960 (by decide) ?_
                                  refine lv_iadd hx hb dL_law_961 (tk_i (v := 3) (by decide +kernel) ?_)
                                  refine va_sld hx hb hX hbl hbA hS (vin (by decide +kernel)) dL_law_962 (tk_i (v := 8) ha3 ?_)
                                  refine kcall_i (D := (dC, dI)) (S := Unit) (v := (-3)) (wc := [(q49, .inr (12, [.int 0, .ref q50, .int 0, .ref q51, .int 0, .ref q52, .ref q53, .int 0, .ref q54, .int 0, .ref q55, .int (-9), .int 0, .int 0, .ref q56, .ref q57, .ref q58, .ref q59, .ref q60, .int 0, .ref q61, .ref q62, .ref q63, .int 0, .ref q64, .ref q65, .ref q66, .int 0, .ref q67])), (q50, .inl (cI, 5, .inl (fun _ => 0)))]) (wr := []) (w1 := fun _ => []) (fun hPc hDc => va_runV (As := [.int a1, .int a2, .int 8]) (rest := [.int (-3)]) ⟨hx, hb, hml, hown, hts⟩ (kX12_copy_52 l dC dI cI c2 q49 q50 q51 q52 q53 q54 q55 q56 q57 q58 q59 q60 q61 q62 q63 q64 q65 q66 q67 H.size a1 a2 (by omega) (by omega) (by omega) (by omega)) (cwV 3 hts gL_law_X12_copy rfl rfl rfl (by decide +kernel) ⟨Nat.le_of_ble_eq_true rfl, Nat.le_of_ble_eq_true rfl⟩) (pre_V hPc hK hDc hN (ci := 12) (q0 := 0) rfl rfl) rfl rfl hl.1 rfl (lv_room (Nat.le_of_ble_eq_true rfl)) dL_law_963 ⟨Nat.le_of_ble_eq_true rfl, Nat.le_of_ble_eq_true rfl⟩) hP hD hS hA [0, 1] [] rfl rfl (by decide) (by decide) (by decide) (fun u H locs hP hD hS => ?_)
                                  have hP : va_P (dC, dI) vwCl [] H := hP
                                  have hD : va_D A [] := hD
                                  refine lv_icmp_eq (tgt := 1080) hx hb dL_law_966 (by decide) (fun _ => ?_) (fun h9 => absurd (by decide +kernel) h9)
                                  refine lv_iinc (v := 4) (lv' := [(3, .int 4), (2, .ref q49), (1, .ref q1), (0, .ref b)]) hx hb dL_law_1080 hl (k := 0) rfl (by decide +kernel) (by decide) rfl (fun ls hl => ?_)
                                  refine lv_goto (tgt := 18) hx hb dL_law_1083 (by decide) ?_
                                  refine lv_iload_n hx hb dL_law_18 rfl (lv_at hl 0 rfl) ?_
                                  refine lv_aload_n hx hb dL_law_19 rfl (lv_at hl 3 rfl) ?_
                                  refine va_slen hx hb hX hbl hbA hS dL_law_20 (tk_i (v := 4) (by decide +kernel) ?_)
                                  refine lv_iconst (v := 4) hx hb dL_law_21 (by decide) ?_
                                  refine lv_isub hx hb dL_law_22 (tk_i (v := 0) (by decide +kernel) ?_)
                                  refine lv_icmp_gt (tgt := 1086) hx hb dL_law_23 (by decide) (fun _ => ?_) (fun h9 => absurd (by decide +kernel) h9)
                                  refine lv_iconst (v := 1) hx hb dL_law_1086 (by decide) ?_
                                  refine va_forget (fun q hq => by have h9 := hS.2.2 q hq; rw [← hAe] at h9; exact h9) ?_
                                  refine W.widen (k := 600000) (n := 7302250) (by decide) (by decide) ?_
                                  exact lw_ret hx hb hr hlocks dL_law_1087
                            ·
                              rcases (show a2.toInt ≤ (-1) ∨ 0 ≤ a2.toInt by omega) with g_a2_0 | g_a2_0
                              ·
                                have e_a3 : a3 = 8 := ib_eq (X := 8) (by omega) (by decide +kernel)
                                subst e_a3
                                refine lv_aload_n hx hb dL_law_928 rfl (lv_at hl 2 rfl) ?_
                                refine lv_aload_n hx hb dL_law_929 rfl (lv_at hl 3 rfl) ?_
                                refine lv_iload_n hx hb dL_law_930 rfl (lv_at hl 0 rfl) ?_
                                refine lv_iconst (v := 1) hx hb dL_law_931 (by decide) ?_
                                refine lv_iadd hx hb dL_law_932 (tk_i (v := 1) (by decide +kernel) ?_)
                                refine va_sld hx hb hX hbl hbA hS (vin (by decide +kernel)) dL_law_933 (tk_i (v := a1) ha1 ?_)
                                refine lv_aload_n hx hb dL_law_934 rfl (lv_at hl 3 rfl) ?_
                                refine lv_iload_n hx hb dL_law_935 rfl (lv_at hl 0 rfl) ?_
                                refine lv_iconst (v := 2) hx hb dL_law_936 (by decide) ?_
                                refine lv_iadd hx hb dL_law_937 (tk_i (v := 2) (by decide +kernel) ?_)
                                refine va_sld hx hb hX hbl hbA hS (vin (by decide +kernel)) dL_law_938 (tk_i (v := a2) ha2 ?_)
                                refine lv_aload_n hx hb dL_law_939 rfl (lv_at hl 3 rfl) ?_
                                refine lv_iload_n hx hb dL_law_940 rfl (lv_at hl 0 rfl) ?_
                                refine lv_iconst (v := 3) hx hb dL_law_941 (by decide) ?_
                                refine lv_iadd hx hb dL_law_942 (tk_i (v := 3) (by decide +kernel) ?_)
                                refine va_sld hx hb hX hbl hbA hS (vin (by decide +kernel)) dL_law_943 (tk_i (v := 8) ha3 ?_)
                                refine kcall_i (D := (dC, dI)) (S := Unit) (v := (-3)) (wc := [(q1, .inr (11, [.ref q2, .ref q4, .ref q6, .ref q18, .ref q23, .ref q28, .ref q33, .ref q36, .ref q37, .ref q40, .ref q44, .ref q48, .int 0])), (q4, .inr (10, [.ref q5, .int 0, .int 0])), (q48, .inl (cI, 5, .inl (fun _ => 0)))]) (wr := [(q49, .inr (12, [.int 0, .ref q50, .int 0, .ref q51, .int 0, .ref q52, .ref q53, .int 0, .ref q54, .int 0, .ref q55, .int (-9), .int 0, .int 0, .ref q56, .ref q57, .ref q58, .ref q59, .ref q60, .int 0, .ref q61, .ref q62, .ref q63, .int 0, .ref q64, .ref q65, .ref q66, .int 0, .ref q67])), (q50, .inl (cI, 5, .inl (fun _ => 0)))]) (w1 := fun _ => []) (fun hPc hDc => va_runV (As := [.int a1, .int a2, .int 8]) (rest := []) ⟨hx, hb, hml, hown, hts⟩ (kX11_copy_53 l dC dI cI c2 q1 q4 q48 q2 q6 q18 q23 q28 q33 q36 q37 q40 q44 q5 H.size a1 a2 (by omega) (by omega) (by omega) (by omega)) (cwV 3 hts gL_law_X11_copy rfl rfl rfl (by decide +kernel) ⟨Nat.le_of_ble_eq_true rfl, Nat.le_of_ble_eq_true rfl⟩) (pre_V hPc hK hDc hN (ci := 11) (q0 := 0) rfl rfl) rfl rfl hl.1 rfl (lv_room (Nat.le_of_ble_eq_true rfl)) dL_law_944 ⟨Nat.le_of_ble_eq_true rfl, Nat.le_of_ble_eq_true rfl⟩) hP hD hS hA [0, 3, 27] [28, 29] rfl rfl (by decide) (by decide) (by decide) (fun u H locs hP hD hS => ?_)
                                have hP : va_P (dC, dI) vwCl [(q49, .inr (12, [.int 0, .ref q50, .int 0, .ref q51, .int 0, .ref q52, .ref q53, .int 0, .ref q54, .int 0, .ref q55, .int (-9), .int 0, .int 0, .ref q56, .ref q57, .ref q58, .ref q59, .ref q60, .int 0, .ref q61, .ref q62, .ref q63, .int 0, .ref q64, .ref q65, .ref q66, .int 0, .ref q67])), (q50, .inl (cI, 5, .inl (fun _ => 0)))] H := hP
                                have hD : va_D A [(q49, .inr (12, [.int 0, .ref q50, .int 0, .ref q51, .int 0, .ref q52, .ref q53, .int 0, .ref q54, .int 0, .ref q55, .int (-9), .int 0, .int 0, .ref q56, .ref q57, .ref q58, .ref q59, .ref q60, .int 0, .ref q61, .ref q62, .ref q63, .int 0, .ref q64, .ref q65, .ref q66, .int 0, .ref q67])), (q50, .inl (cI, 5, .inl (fun _ => 0)))] := hD
                                refine lv_aload_n hx hb dL_law_947 rfl (lv_at hl 1 rfl) ?_
                                refine lv_aload_n hx hb dL_law_948 rfl (lv_at hl 3 rfl) ?_
                                refine lv_iload_n hx hb dL_law_949 rfl (lv_at hl 0 rfl) ?_
                                refine lv_iconst (v := 1) hx hb dL_law_950 (by decide) ?_
                                refine lv_iadd hx hb dL_law_951 (tk_i (v := 1) (by decide +kernel) ?_)
                                refine va_sld hx hb hX hbl hbA hS (vin (by decide +kernel)) dL_law_952 (tk_i (v := a1) ha1 ?_)
                                refine lv_aload_n hx hb dL_law_953 rfl (lv_at hl 3 rfl) ?_
                                refine lv_iload_n hx hb dL_law_954 rfl (lv_at hl 0 rfl) ?_
                                refine lv_iconst (v := 2) hx hb dL_law_955 (by decide) ?_
                                refine lv_iadd hx hb dL_law_956 (tk_i (v := 2) (by decide +kernel) ?_)
                                refine va_sld hx hb hX hbl hbA hS (vin (by decide +kernel)) dL_law_957 (tk_i (v := a2) ha2 ?_)
                                refine lv_aload_n hx hb dL_law_958 rfl (lv_at hl 3 rfl) ?_
                                refine lv_iload_n hx hb dL_law_959 rfl (lv_at hl 0 rfl) ?_
                                refine lv_iconst (v := 3) hx hb dL_law_960 (by decide) ?_
                                refine lv_iadd hx hb dL_law_961 (tk_i (v := 3) (by decide +kernel) ?_)
                                refine va_sld hx hb hX hbl hbA hS (vin (by decide +kernel)) dL_law_962 (tk_i (v := 8) ha3 ?_)
                                refine kcall_i (D := (dC, dI)) (S := Unit) (v := (-3)) (wc := [(q49, .inr (12, [.int 0, .ref q50, .int 0, .ref q51, .int 0, .ref q52, .ref q53, .int 0, .ref q54, .int 0, .ref q55, .int (-9), .int 0, .int 0, .ref q56, .ref q57, .ref q58, .ref q59, .ref q60, .int 0, .ref q61, .ref q62, .ref q63, .int 0, .ref q64, .ref q65, .ref q66, .int 0, .ref q67])), (q50, .inl (cI, 5, .inl (fun _ => 0)))]) (wr := []) (w1 := fun _ => []) (fun hPc hDc => va_runV (As := [.int a1, .int a2, .int 8]) (rest := [.int (-3)]) ⟨hx, hb, hml, hown, hts⟩ (kX12_copy_53 l dC dI cI c2 q49 q50 q51 q52 q53 q54 q55 q56 q57 q58 q59 q60 q61 q62 q63 q64 q65 q66 q67 H.size a1 a2 (by omega) (by omega) (by omega) (by omega)) (cwV 3 hts gL_law_X12_copy rfl rfl rfl (by decide +kernel) ⟨Nat.le_of_ble_eq_true rfl, Nat.le_of_ble_eq_true rfl⟩) (pre_V hPc hK hDc hN (ci := 12) (q0 := 0) rfl rfl) rfl rfl hl.1 rfl (lv_room (Nat.le_of_ble_eq_true rfl)) dL_law_963 ⟨Nat.le_of_ble_eq_true rfl, Nat.le_of_ble_eq_true rfl⟩) hP hD hS hA [0, 1] [] rfl rfl (by decide) (by decide) (by decide) (fun u H locs hP hD hS => ?_)
                                have hP : va_P (dC, dI) vwCl [] H := hP
                                have hD : va_D A [] := hD
                                refine lv_icmp_eq (tgt := 1080) hx hb dL_law_966 (by decide) (fun _ => ?_) (fun h9 => absurd (by decide +kernel) h9)
                                refine lv_iinc (v := 4) (lv' := [(3, .int 4), (2, .ref q49), (1, .ref q1), (0, .ref b)]) hx hb dL_law_1080 hl (k := 0) rfl (by decide +kernel) (by decide) rfl (fun ls hl => ?_)
                                refine lv_goto (tgt := 18) hx hb dL_law_1083 (by decide) ?_
                                refine lv_iload_n hx hb dL_law_18 rfl (lv_at hl 0 rfl) ?_
                                refine lv_aload_n hx hb dL_law_19 rfl (lv_at hl 3 rfl) ?_
                                refine va_slen hx hb hX hbl hbA hS dL_law_20 (tk_i (v := 4) (by decide +kernel) ?_)
                                refine lv_iconst (v := 4) hx hb dL_law_21 (by decide) ?_
                                refine lv_isub hx hb dL_law_22 (tk_i (v := 0) (by decide +kernel) ?_)
                                refine lv_icmp_gt (tgt := 1086) hx hb dL_law_23 (by decide) (fun _ => ?_) (fun h9 => absurd (by decide +kernel) h9)
                                refine lv_iconst (v := 1) hx hb dL_law_1086 (by decide) ?_
                                refine va_forget (fun q hq => by have h9 := hS.2.2 q hq; rw [← hAe] at h9; exact h9) ?_
                                refine W.widen (k := 600000) (n := 7302250) (by decide) (by decide) ?_
                                exact lw_ret hx hb hr hlocks dL_law_1087
                              ·
                                have e_a3 : a3 = 8 := ib_eq (X := 8) (by omega) (by decide +kernel)
                                subst e_a3
                                refine lv_aload_n hx hb dL_law_928 rfl (lv_at hl 2 rfl) ?_
                                refine lv_aload_n hx hb dL_law_929 rfl (lv_at hl 3 rfl) ?_
                                refine lv_iload_n hx hb dL_law_930 rfl (lv_at hl 0 rfl) ?_
                                refine lv_iconst (v := 1) hx hb dL_law_931 (by decide) ?_
                                refine lv_iadd hx hb dL_law_932 (tk_i (v := 1) (by decide +kernel) ?_)
                                refine va_sld hx hb hX hbl hbA hS (vin (by decide +kernel)) dL_law_933 (tk_i (v := a1) ha1 ?_)
                                refine lv_aload_n hx hb dL_law_934 rfl (lv_at hl 3 rfl) ?_
                                refine lv_iload_n hx hb dL_law_935 rfl (lv_at hl 0 rfl) ?_
                                refine lv_iconst (v := 2) hx hb dL_law_936 (by decide) ?_
                                refine lv_iadd hx hb dL_law_937 (tk_i (v := 2) (by decide +kernel) ?_)
                                refine va_sld hx hb hX hbl hbA hS (vin (by decide +kernel)) dL_law_938 (tk_i (v := a2) ha2 ?_)
                                refine lv_aload_n hx hb dL_law_939 rfl (lv_at hl 3 rfl) ?_
                                refine lv_iload_n hx hb dL_law_940 rfl (lv_at hl 0 rfl) ?_
                                refine lv_iconst (v := 3) hx hb dL_law_941 (by decide) ?_
                                refine lv_iadd hx hb dL_law_942 (tk_i (v := 3) (by decide +kernel) ?_)
                                refine va_sld hx hb hX hbl hbA hS (vin (by decide +kernel)) dL_law_943 (tk_i (v := 8) ha3 ?_)
                                refine kcall_i (D := (dC, dI)) (S := Unit) (v := (-3)) (wc := [(q1, .inr (11, [.ref q2, .ref q4, .ref q6, .ref q18, .ref q23, .ref q28, .ref q33, .ref q36, .ref q37, .ref q40, .ref q44, .ref q48, .int 0])), (q4, .inr (10, [.ref q5, .int 0, .int 0])), (q48, .inl (cI, 5, .inl (fun _ => 0)))]) (wr := [(q49, .inr (12, [.int 0, .ref q50, .int 0, .ref q51, .int 0, .ref q52, .ref q53, .int 0, .ref q54, .int 0, .ref q55, .int (-9), .int 0, .int 0, .ref q56, .ref q57, .ref q58, .ref q59, .ref q60, .int 0, .ref q61, .ref q62, .ref q63, .int 0, .ref q64, .ref q65, .ref q66, .int 0, .ref q67])), (q50, .inl (cI, 5, .inl (fun _ => 0)))]) (w1 := fun _ => []) (fun hPc hDc => va_runV (As := [.int a1, .int a2, .int 8]) (rest := []) ⟨hx, hb, hml, hown, hts⟩ (kX11_copy_54 l dC dI cI c2 q1 q4 q48 q2 q6 q18 q23 q28 q33 q36 q37 q40 q44 q5 H.size a1 a2 (by omega) (by omega) (by omega) (by omega)) (cwV 3 hts gL_law_X11_copy rfl rfl rfl (by decide +kernel) ⟨Nat.le_of_ble_eq_true rfl, Nat.le_of_ble_eq_true rfl⟩) (pre_V hPc hK hDc hN (ci := 11) (q0 := 0) rfl rfl) rfl rfl hl.1 rfl (lv_room (Nat.le_of_ble_eq_true rfl)) dL_law_944 ⟨Nat.le_of_ble_eq_true rfl, Nat.le_of_ble_eq_true rfl⟩) hP hD hS hA [0, 3, 27] [28, 29] rfl rfl (by decide) (by decide) (by decide) (fun u H locs hP hD hS => ?_)
                                have hP : va_P (dC, dI) vwCl [(q49, .inr (12, [.int 0, .ref q50, .int 0, .ref q51, .int 0, .ref q52, .ref q53, .int 0, .ref q54, .int 0, .ref q55, .int (-9), .int 0, .int 0, .ref q56, .ref q57, .ref q58, .ref q59, .ref q60, .int 0, .ref q61, .ref q62, .ref q63, .int 0, .ref q64, .ref q65, .ref q66, .int 0, .ref q67])), (q50, .inl (cI, 5, .inl (fun _ => 0)))] H := hP
                                have hD : va_D A [(q49, .inr (12, [.int 0, .ref q50, .int 0, .ref q51, .int 0, .ref q52, .ref q53, .int 0, .ref q54, .int 0, .ref q55, .int (-9), .int 0, .int 0, .ref q56, .ref q57, .ref q58, .ref q59, .ref q60, .int 0, .ref q61, .ref q62, .ref q63, .int 0, .ref q64, .ref q65, .ref q66, .int 0, .ref q67])), (q50, .inl (cI, 5, .inl (fun _ => 0)))] := hD
                                refine lv_aload_n hx hb dL_law_947 rfl (lv_at hl 1 rfl) ?_
                                refine lv_aload_n hx hb dL_law_948 rfl (lv_at hl 3 rfl) ?_
                                refine lv_iload_n hx hb dL_law_949 rfl (lv_at hl 0 rfl) ?_
                                refine lv_iconst (v := 1) hx hb dL_law_950 (by decide) ?_
                                refine lv_iadd hx hb dL_law_951 (tk_i (v := 1) (by decide +kernel) ?_)
                                refine va_sld hx hb hX hbl hbA hS (vin (by decide +kernel)) dL_law_952 (tk_i (v := a1) ha1 ?_)
                                refine lv_aload_n hx hb dL_law_953 rfl (lv_at hl 3 rfl) ?_
                                refine lv_iload_n hx hb dL_law_954 rfl (lv_at hl 0 rfl) ?_
                                refine lv_iconst (v := 2) hx hb dL_law_955 (by decide) ?_
                                refine lv_iadd hx hb dL_law_956 (tk_i (v := 2) (by decide +kernel) ?_)
                                refine va_sld hx hb hX hbl hbA hS (vin (by decide +kernel)) dL_law_957 (tk_i (v := a2) ha2 ?_)
                                refine lv_aload_n hx hb dL_law_958 rfl (lv_at hl 3 rfl) ?_
                                refine lv_iload_n hx hb dL_law_959 rfl (lv_at hl 0 rfl) ?_
                                refine lv_iconst (v := 3) hx hb dL_law_960 (by decide) ?_
                                refine lv_iadd hx hb dL_law_961 (tk_i (v := 3) (by decide +kernel) ?_)
                                refine va_sld hx hb hX hbl hbA hS (vin (by decide +kernel)) dL_law_962 (tk_i (v := 8) ha3 ?_)
                                refine kcall_i (D := (dC, dI)) (S := Unit) (v := (-3)) (wc := [(q49, .inr (12, [.int 0, .ref q50, .int 0, .ref q51, .int 0, .ref q52, .ref q53, .int 0, .ref q54, .int 0, .ref q55, .int (-9), .int 0, .int 0, .ref q56, .ref q57, .ref q58, .ref q59, .ref q60, .int 0, .ref q61, .ref q62, .ref q63, .int 0, .ref q64, .ref q65, .ref q66, .int 0, .ref q67])), (q50, .inl (cI, 5, .inl (fun _ => 0)))]) (wr := []) (w1 := fun _ => []) (fun hPc hDc => va_runV (As := [.int a1, .int a2, .int 8]) (rest := [.int (-3)]) ⟨hx, hb, hml, hown, hts⟩ (kX12_copy_54 l dC dI cI c2 q49 q50 q51 q52 q53 q54 q55 q56 q57 q58 q59 q60 q61 q62 q63 q64 q65 q66 q67 H.size a1 a2 (by omega) (by omega) (by omega) (by omega)) (cwV 3 hts gL_law_X12_copy rfl rfl rfl (by decide +kernel) ⟨Nat.le_of_ble_eq_true rfl, Nat.le_of_ble_eq_true rfl⟩) (pre_V hPc hK hDc hN (ci := 12) (q0 := 0) rfl rfl) rfl rfl hl.1 rfl (lv_room (Nat.le_of_ble_eq_true rfl)) dL_law_963 ⟨Nat.le_of_ble_eq_true rfl, Nat.le_of_ble_eq_true rfl⟩) hP hD hS hA [0, 1] [] rfl rfl (by decide) (by decide) (by decide) (fun u H locs hP hD hS => ?_)
                                have hP : va_P (dC, dI) vwCl [] H := hP
                                have hD : va_D A [] := hD
                                refine lv_icmp_eq (tgt := 1080) hx hb dL_law_966 (by decide) (fun _ => ?_) (fun h9 => absurd (by decide +kernel) h9)
                                refine lv_iinc (v := 4) (lv' := [(3, .int 4), (2, .ref q49), (1, .ref q1), (0, .ref b)]) hx hb dL_law_1080 hl (k := 0) rfl (by decide +kernel) (by decide) rfl (fun ls hl => ?_)
                                refine lv_goto (tgt := 18) hx hb dL_law_1083 (by decide) ?_
                                refine lv_iload_n hx hb dL_law_18 rfl (lv_at hl 0 rfl) ?_
                                refine lv_aload_n hx hb dL_law_19 rfl (lv_at hl 3 rfl) ?_
                                refine va_slen hx hb hX hbl hbA hS dL_law_20 (tk_i (v := 4) (by decide +kernel) ?_)
                                refine lv_iconst (v := 4) hx hb dL_law_21 (by decide) ?_
                                refine lv_isub hx hb dL_law_22 (tk_i (v := 0) (by decide +kernel) ?_)
                                refine lv_icmp_gt (tgt := 1086) hx hb dL_law_23 (by decide) (fun _ => ?_) (fun h9 => absurd (by decide +kernel) h9)
                                refine lv_iconst (v := 1) hx hb dL_law_1086 (by decide) ?_
                                refine va_forget (fun q hq => by have h9 := hS.2.2 q hq; rw [← hAe] at h9; exact h9) ?_
                                refine W.widen (k := 600000) (n := 7302250) (by decide) (by decide) ?_
                                exact lw_ret hx hb hr hlocks dL_law_1087
                          ·
                            rcases (show a3.toInt ≤ 9 ∨ 10 ≤ a3.toInt by omega) with g_a3_10 | g_a3_10
                            ·
                              rcases (show a1.toInt ≤ 3 ∨ 4 ≤ a1.toInt by omega) with g_a1_4 | g_a1_4
                              ·
                                rcases (show a2.toInt ≤ (-1) ∨ 0 ≤ a2.toInt by omega) with g_a2_0 | g_a2_0
                                ·
                                  have e_a3 : a3 = 9 := ib_eq (X := 9) (by omega) (by decide +kernel)
                                  subst e_a3
                                  refine lv_aload_n hx hb dL_law_928 rfl (lv_at hl 2 rfl) ?_
                                  refine lv_aload_n hx hb dL_law_929 rfl (lv_at hl 3 rfl) ?_
                                  refine lv_iload_n hx hb dL_law_930 rfl (lv_at hl 0 rfl) ?_
                                  refine lv_iconst (v := 1) hx hb dL_law_931 (by decide) ?_
                                  refine lv_iadd hx hb dL_law_932 (tk_i (v := 1) (by decide +kernel) ?_)
                                  refine va_sld hx hb hX hbl hbA hS (vin (by decide +kernel)) dL_law_933 (tk_i (v := a1) ha1 ?_)
                                  refine lv_aload_n hx hb dL_law_934 rfl (lv_at hl 3 rfl) ?_
                                  refine lv_iload_n hx hb dL_law_935 rfl (lv_at hl 0 rfl) ?_
                                  refine lv_iconst (v := 2) hx hb dL_law_936 (by decide) ?_
                                  refine lv_iadd hx hb dL_law_937 (tk_i (v := 2) (by decide +kernel) ?_)
                                  refine va_sld hx hb hX hbl hbA hS (vin (by decide +kernel)) dL_law_938 (tk_i (v := a2) ha2 ?_)
                                  refine lv_aload_n hx hb dL_law_939 rfl (lv_at hl 3 rfl) ?_
                                  refine lv_iload_n hx hb dL_law_940 rfl (lv_at hl 0 rfl) ?_
                                  refine lv_iconst (v := 3) hx hb dL_law_941 (by decide) ?_
                                  refine lv_iadd hx hb dL_law_942 (tk_i (v := 3) (by decide +kernel) ?_)
                                  refine va_sld hx hb hX hbl hbA hS (vin (by decide +kernel)) dL_law_943 (tk_i (v := 9) ha3 ?_)
                                  refine kcall_i (D := (dC, dI)) (S := Unit) (v := (-3)) (wc := [(q1, .inr (11, [.ref q2, .ref q4, .ref q6, .ref q18, .ref q23, .ref q28, .ref q33, .ref q36, .ref q37, .ref q40, .ref q44, .ref q48, .int 0])), (q4, .inr (10, [.ref q5, .int 0, .int 0])), (q48, .inl (cI, 5, .inl (fun _ => 0)))]) (wr := [(q49, .inr (12, [.int 0, .ref q50, .int 0, .ref q51, .int 0, .ref q52, .ref q53, .int 0, .ref q54, .int 0, .ref q55, .int (-9), .int 0, .int 0, .ref q56, .ref q57, .ref q58, .ref q59, .ref q60, .int 0, .ref q61, .ref q62, .ref q63, .int 0, .ref q64, .ref q65, .ref q66, .int 0, .ref q67])), (q50, .inl (cI, 5, .inl (fun _ => 0)))]) (w1 := fun _ => []) (fun hPc hDc => va_runV (As := [.int a1, .int a2, .int 9]) (rest := []) ⟨hx, hb, hml, hown, hts⟩ (kX11_copy_55 l dC dI cI c2 q1 q4 q48 q2 q6 q18 q23 q28 q33 q36 q37 q40 q44 q5 H.size a1 a2 (by omega) (by omega) (by omega) (by omega)) (cwV 3 hts gL_law_X11_copy rfl rfl rfl (by decide +kernel) ⟨Nat.le_of_ble_eq_true rfl, Nat.le_of_ble_eq_true rfl⟩) (pre_V hPc hK hDc hN (ci := 11) (q0 := 0) rfl rfl) rfl rfl hl.1 rfl (lv_room (Nat.le_of_ble_eq_true rfl)) dL_law_944 ⟨Nat.le_of_ble_eq_true rfl, Nat.le_of_ble_eq_true rfl⟩) hP hD hS hA [0, 3, 27] [28, 29] rfl rfl (by decide) (by decide) (by decide) (fun u H locs hP hD hS => ?_)
                                  have hP : va_P (dC, dI) vwCl [(q49, .inr (12, [.int 0, .ref q50, .int 0, .ref q51, .int 0, .ref q52, .ref q53, .int 0, .ref q54, .int 0, .ref q55, .int (-9), .int 0, .int 0, .ref q56, .ref q57, .ref q58, .ref q59, .ref q60, .int 0, .ref q61, .ref q62, .ref q63, .int 0, .ref q64, .ref q65, .ref q66, .int 0, .ref q67])), (q50, .inl (cI, 5, .inl (fun _ => 0)))] H := hP
                                  have hD : va_D A [(q49, .inr (12, [.int 0, .ref q50, .int 0, .ref q51, .int 0, .ref q52, .ref q53, .int 0, .ref q54, .int 0, .ref q55, .int (-9), .int 0, .int 0, .ref q56, .ref q57, .ref q58, .ref q59, .ref q60, .int 0, .ref q61, .ref q62, .ref q63, .int 0, .ref q64, .ref q65, .ref q66, .int 0, .ref q67])), (q50, .inl (cI, 5, .inl (fun _ => 0)))] := hD
                                  refine lv_aload_n hx hb dL_law_947 rfl (lv_at hl 1 rfl) ?_
                                  refine lv_aload_n hx hb dL_law_948 rfl (lv_at hl 3 rfl) ?_
                                  refine lv_iload_n hx hb dL_law_949 rfl (lv_at hl 0 rfl) ?_
                                  refine lv_iconst (v := 1) hx hb dL_law_950 (by decide) ?_
                                  refine lv_iadd hx hb dL_law_951 (tk_i (v := 1) (by decide +kernel) ?_)
                                  refine va_sld hx hb hX hbl hbA hS (vin (by decide +kernel)) dL_law_952 (tk_i (v := a1) ha1 ?_)
                                  refine lv_aload_n hx hb dL_law_953 rfl (lv_at hl 3 rfl) ?_
                                  refine lv_iload_n hx hb dL_law_954 rfl (lv_at hl 0 rfl) ?_
                                  refine lv_iconst (v := 2) hx hb dL_law_955 (by decide) ?_
                                  refine lv_iadd hx hb dL_law_956 (tk_i (v := 2) (by decide +kernel) ?_)
                                  refine va_sld hx hb hX hbl hbA hS (vin (by decide +kernel)) dL_law_957 (tk_i (v := a2) ha2 ?_)
                                  refine lv_aload_n hx hb dL_law_958 rfl (lv_at hl 3 rfl) ?_
                                  refine lv_iload_n hx hb dL_law_959 rfl (lv_at hl 0 rfl) ?_
                                  refine lv_iconst (v := 3) hx hb dL_law_960 (by decide) ?_
                                  refine lv_iadd hx hb dL_law_961 (tk_i (v := 3) (by decide +kernel) ?_)
                                  refine va_sld hx hb hX hbl hbA hS (vin (by decide +kernel)) dL_law_962 (tk_i (v := 9) ha3 ?_)
                                  refine kcall_i (D := (dC, dI)) (S := Unit) (v := (-3)) (wc := [(q49, .inr (12, [.int 0, .ref q50, .int 0, .ref q51, .int 0, .ref q52, .ref q53, .int 0, .ref q54, .int 0, .ref q55, .int (-9), .int 0, .int 0, .ref q56, .ref q57, .ref q58, .ref q59, .ref q60, .int 0, .ref q61, .ref q62, .ref q63, .int 0, .ref q64, .ref q65, .ref q66, .int 0, .ref q67])), (q50, .inl (cI, 5, .inl (fun _ => 0)))]) (wr := []) (w1 := fun _ => []) (fun hPc hDc => va_runV (As := [.int a1, .int a2, .int 9]) (rest := [.int (-3)]) ⟨hx, hb, hml, hown, hts⟩ (kX12_copy_55 l dC dI cI c2 q49 q50 q51 q52 q53 q54 q55 q56 q57 q58 q59 q60 q61 q62 q63 q64 q65 q66 q67 H.size a1 a2 (by omega) (by omega) (by omega) (by omega)) (cwV 3 hts gL_law_X12_copy rfl rfl rfl (by decide +kernel) ⟨Nat.le_of_ble_eq_true rfl, Nat.le_of_ble_eq_true rfl⟩) (pre_V hPc hK hDc hN (ci := 12) (q0 := 0) rfl rfl) rfl rfl hl.1 rfl (lv_room (Nat.le_of_ble_eq_true rfl)) dL_law_963 ⟨Nat.le_of_ble_eq_true rfl, Nat.le_of_ble_eq_true rfl⟩) hP hD hS hA [0, 1] [] rfl rfl (by decide) (by decide) (by decide) (fun u H locs hP hD hS => ?_)
                                  have hP : va_P (dC, dI) vwCl [] H := hP
                                  have hD : va_D A [] := hD
                                  refine lv_icmp_eq (tgt := 1080) hx hb dL_law_966 (by decide) (fun _ => ?_) (fun h9 => absurd (by decide +kernel) h9)
                                  refine lv_iinc (v := 4) (lv' := [(3, .int 4), (2, .ref q49), (1, .ref q1), (0, .ref b)]) hx hb dL_law_1080 hl (k := 0) rfl (by decide +kernel) (by decide) rfl (fun ls hl => ?_)
                                  refine lv_goto (tgt := 18) hx hb dL_law_1083 (by decide) ?_
                                  refine lv_iload_n hx hb dL_law_18 rfl (lv_at hl 0 rfl) ?_
                                  refine lv_aload_n hx hb dL_law_19 rfl (lv_at hl 3 rfl) ?_
                                  refine va_slen hx hb hX hbl hbA hS dL_law_20 (tk_i (v := 4) (by decide +kernel) ?_)
                                  refine lv_iconst (v := 4) hx hb dL_law_21 (by decide) ?_
                                  refine lv_isub hx hb dL_law_22 (tk_i (v := 0) (by decide +kernel) ?_)
                                  refine lv_icmp_gt (tgt := 1086) hx hb dL_law_23 (by decide) (fun _ => ?_) (fun h9 => absurd (by decide +kernel) h9)
                                  refine lv_iconst (v := 1) hx hb dL_law_1086 (by decide) ?_
                                  refine va_forget (fun q hq => by have h9 := hS.2.2 q hq; rw [← hAe] at h9; exact h9) ?_
                                  refine W.widen (k := 600000) (n := 7302250) (by decide) (by decide) ?_
                                  exact lw_ret hx hb hr hlocks dL_law_1087
                                ·
                                  rcases (show a2.toInt ≤ 12 ∨ 13 ≤ a2.toInt by omega) with g_a2_13 | g_a2_13
                                  ·
                                    rcases (show a2.toInt ≤ 3 ∨ 4 ≤ a2.toInt by omega) with g_a2_4 | g_a2_4
                                    ·
                                      have e_a3 : a3 = 9 := ib_eq (X := 9) (by omega) (by decide +kernel)
                                      subst e_a3
                                      refine lv_aload_n hx hb dL_law_928 rfl (lv_at hl 2 rfl) ?_
                                      refine lv_aload_n hx hb dL_law_929 rfl (lv_at hl 3 rfl) ?_
                                      refine lv_iload_n hx hb dL_law_930 rfl (lv_at hl 0 rfl) ?_
                                      refine lv_iconst (v := 1) hx hb dL_law_931 (by decide) ?_
                                      refine lv_iadd hx hb dL_law_932 (tk_i (v := 1) (by decide +kernel) ?_)
                                      refine va_sld hx hb hX hbl hbA hS (vin (by decide +kernel)) dL_law_933 (tk_i (v := a1) ha1 ?_)
                                      refine lv_aload_n hx hb dL_law_934 rfl (lv_at hl 3 rfl) ?_
                                      refine lv_iload_n hx hb dL_law_935 rfl (lv_at hl 0 rfl) ?_
                                      refine lv_iconst (v := 2) hx hb dL_law_936 (by decide) ?_
                                      refine lv_iadd hx hb dL_law_937 (tk_i (v := 2) (by decide +kernel) ?_)
                                      refine va_sld hx hb hX hbl hbA hS (vin (by decide +kernel)) dL_law_938 (tk_i (v := a2) ha2 ?_)
                                      refine lv_aload_n hx hb dL_law_939 rfl (lv_at hl 3 rfl) ?_
                                      refine lv_iload_n hx hb dL_law_940 rfl (lv_at hl 0 rfl) ?_
                                      refine lv_iconst (v := 3) hx hb dL_law_941 (by decide) ?_
                                      refine lv_iadd hx hb dL_law_942 (tk_i (v := 3) (by decide +kernel) ?_)
                                      refine va_sld hx hb hX hbl hbA hS (vin (by decide +kernel)) dL_law_943 (tk_i (v := 9) ha3 ?_)
                                      refine kcall_i (D := (dC, dI)) (S := Unit) (v := 1) (wc := [(q1, .inr (11, [.ref q2, .ref q4, .ref q6, .ref q18, .ref q23, .ref q28, .ref q33, .ref q36, .ref q37, .ref q40, .ref q44, .ref q48, .int 0])), (q4, .inr (10, [.ref q5, .int 0, .int 0])), (q5, .inl (cI, 12, .inl (fun _ => (-1))))]) (wr := [(q49, .inr (12, [.int 0, .ref q50, .int 0, .ref q51, .int 0, .ref q52, .ref q53, .int 0, .ref q54, .int 0, .ref q55, .int (-9), .int 0, .int 0, .ref q56, .ref q57, .ref q58, .ref q59, .ref q60, .int 0, .ref q61, .ref q62, .ref q63, .int 0, .ref q64, .ref q65, .ref q66, .int 0, .ref q67])), (q52, .inl (cI, 12, .inl (fun _ => (-9)))), (q67, .inl (cI, 12, .inl (fun _ => 0)))]) (w1 := fun _ => []) (fun hPc hDc => va_runV (As := [.int a1, .int a2, .int 9]) (rest := []) ⟨hx, hb, hml, hown, hts⟩ (kX11_copy_56 l dC dI cI c2 q1 q4 q5 q2 q6 q18 q23 q28 q33 q36 q37 q40 q44 q48 H.size a1 a2 (by omega) (by omega) (by omega) (by omega)) (cwV 3 hts gL_law_X11_copy rfl rfl rfl (by decide +kernel) ⟨Nat.le_of_ble_eq_true rfl, Nat.le_of_ble_eq_true rfl⟩) (pre_V hPc hK hDc hN (ci := 11) (q0 := 0) rfl rfl) rfl rfl hl.1 rfl (lv_room (Nat.le_of_ble_eq_true rfl)) dL_law_944 ⟨Nat.le_of_ble_eq_true rfl, Nat.le_of_ble_eq_true rfl⟩) hP hD hS hA [0, 3, 4] [28, 31, 36] rfl rfl (by decide) (by decide) (by decide) (fun u H locs hP hD hS => ?_)
                                      have hP : va_P (dC, dI) vwCl [(q49, .inr (12, [.int 0, .ref q50, .int 0, .ref q51, .int 0, .ref q52, .ref q53, .int 0, .ref q54, .int 0, .ref q55, .int (-9), .int 0, .int 0, .ref q56, .ref q57, .ref q58, .ref q59, .ref q60, .int 0, .ref q61, .ref q62, .ref q63, .int 0, .ref q64, .ref q65, .ref q66, .int 0, .ref q67])), (q52, .inl (cI, 12, .inl (fun _ => (-9)))), (q67, .inl (cI, 12, .inl (fun _ => 0)))] H := hP
                                      have hD : va_D A [(q49, .inr (12, [.int 0, .ref q50, .int 0, .ref q51, .int 0, .ref q52, .ref q53, .int 0, .ref q54, .int 0, .ref q55, .int (-9), .int 0, .int 0, .ref q56, .ref q57, .ref q58, .ref q59, .ref q60, .int 0, .ref q61, .ref q62, .ref q63, .int 0, .ref q64, .ref q65, .ref q66, .int 0, .ref q67])), (q52, .inl (cI, 12, .inl (fun _ => (-9)))), (q67, .inl (cI, 12, .inl (fun _ => 0)))] := hD
                                      refine lv_aload_n hx hb dL_law_947 rfl (lv_at hl 1 rfl) ?_
                                      refine lv_aload_n hx hb dL_law_948 rfl (lv_at hl 3 rfl) ?_
                                      refine lv_iload_n hx hb dL_law_949 rfl (lv_at hl 0 rfl) ?_
                                      refine lv_iconst (v := 1) hx hb dL_law_950 (by decide) ?_
                                      refine lv_iadd hx hb dL_law_951 (tk_i (v := 1) (by decide +kernel) ?_)
                                      refine va_sld hx hb hX hbl hbA hS (vin (by decide +kernel)) dL_law_952 (tk_i (v := a1) ha1 ?_)
                                      refine lv_aload_n hx hb dL_law_953 rfl (lv_at hl 3 rfl) ?_
                                      refine lv_iload_n hx hb dL_law_954 rfl (lv_at hl 0 rfl) ?_
                                      refine lv_iconst (v := 2) hx hb dL_law_955 (by decide) ?_
                                      refine lv_iadd hx hb dL_law_956 (tk_i (v := 2) (by decide +kernel) ?_)
                                      refine va_sld hx hb hX hbl hbA hS (vin (by decide +kernel)) dL_law_957 (tk_i (v := a2) ha2 ?_)
                                      refine lv_aload_n hx hb dL_law_958 rfl (lv_at hl 3 rfl) ?_
                                      refine lv_iload_n hx hb dL_law_959 rfl (lv_at hl 0 rfl) ?_
                                      refine lv_iconst (v := 3) hx hb dL_law_960 (by decide) ?_
                                      refine lv_iadd hx hb dL_law_961 (tk_i (v := 3) (by decide +kernel) ?_)
                                      refine va_sld hx hb hX hbl hbA hS (vin (by decide +kernel)) dL_law_962 (tk_i (v := 9) ha3 ?_)
                                      refine kcall_i (D := (dC, dI)) (S := Unit) (v := 1) (wc := [(q49, .inr (12, [.int 0, .ref q50, .int 0, .ref q51, .int 0, .ref q52, .ref q53, .int 0, .ref q54, .int 0, .ref q55, .int (-9), .int 0, .int 0, .ref q56, .ref q57, .ref q58, .ref q59, .ref q60, .int 0, .ref q61, .ref q62, .ref q63, .int 0, .ref q64, .ref q65, .ref q66, .int 0, .ref q67])), (q52, .inl (cI, 12, .inl (fun _ => (-9)))), (q67, .inl (cI, 12, .inl (fun _ => 0)))]) (wr := []) (w1 := fun _ => []) (fun hPc hDc => va_runV (As := [.int a1, .int a2, .int 9]) (rest := [.int 1]) ⟨hx, hb, hml, hown, hts⟩ (kX12_copy_56 l dC dI cI c2 q49 q52 q67 q50 q51 q53 q54 q55 q56 q57 q58 q59 q60 q61 q62 q63 q64 q65 q66 H.size a1 a2 (by omega) (by omega) (by omega) (by omega)) (cwV 3 hts gL_law_X12_copy rfl rfl rfl (by decide +kernel) ⟨Nat.le_of_ble_eq_true rfl, Nat.le_of_ble_eq_true rfl⟩) (pre_V hPc hK hDc hN (ci := 12) (q0 := 0) rfl rfl) rfl rfl hl.1 rfl (lv_room (Nat.le_of_ble_eq_true rfl)) dL_law_963 ⟨Nat.le_of_ble_eq_true rfl, Nat.le_of_ble_eq_true rfl⟩) hP hD hS hA [0, 1, 2] [] rfl rfl (by decide) (by decide) (by decide) (fun u H locs hP hD hS => ?_)
                                      have hP : va_P (dC, dI) vwCl [] H := hP
                                      have hD : va_D A [] := hD
                                      refine lv_icmp_eq (tgt := 1080) hx hb dL_law_966 (by decide) (fun _ => ?_) (fun h9 => absurd (by decide +kernel) h9)
                                      refine lv_iinc (v := 4) (lv' := [(3, .int 4), (2, .ref q49), (1, .ref q1), (0, .ref b)]) hx hb dL_law_1080 hl (k := 0) rfl (by decide +kernel) (by decide) rfl (fun ls hl => ?_)
                                      refine lv_goto (tgt := 18) hx hb dL_law_1083 (by decide) ?_
                                      refine lv_iload_n hx hb dL_law_18 rfl (lv_at hl 0 rfl) ?_
                                      refine lv_aload_n hx hb dL_law_19 rfl (lv_at hl 3 rfl) ?_
                                      refine va_slen hx hb hX hbl hbA hS dL_law_20 (tk_i (v := 4) (by decide +kernel) ?_)
                                      refine lv_iconst (v := 4) hx hb dL_law_21 (by decide) ?_
                                      refine lv_isub hx hb dL_law_22 (tk_i (v := 0) (by decide +kernel) ?_)
                                      refine lv_icmp_gt (tgt := 1086) hx hb dL_law_23 (by decide) (fun _ => ?_) (fun h9 => absurd (by decide +kernel) h9)
                                      refine lv_iconst (v := 1) hx hb dL_law_1086 (by decide) ?_
                                      refine va_forget (fun q hq => by have h9 := hS.2.2 q hq; rw [← hAe] at h9; exact h9) ?_
                                      refine W.widen (k := 600000) (n := 7302250) (by decide) (by decide) ?_
                                      exact lw_ret hx hb hr hlocks dL_law_1087
                                    ·
                                      have e_a3 : a3 = 9 := ib_eq (X := 9) (by omega) (by decide +kernel)
                                      subst e_a3
                                      refine lv_aload_n hx hb dL_law_928 rfl (lv_at hl 2 rfl) ?_
                                      refine lv_aload_n hx hb dL_law_929 rfl (lv_at hl 3 rfl) ?_
                                      refine lv_iload_n hx hb dL_law_930 rfl (lv_at hl 0 rfl) ?_
                                      refine lv_iconst (v := 1) hx hb dL_law_931 (by decide) ?_
                                      refine lv_iadd hx hb dL_law_932 (tk_i (v := 1) (by decide +kernel) ?_)
                                      refine va_sld hx hb hX hbl hbA hS (vin (by decide +kernel)) dL_law_933 (tk_i (v := a1) ha1 ?_)
                                      refine lv_aload_n hx hb dL_law_934 rfl (lv_at hl 3 rfl) ?_
                                      refine lv_iload_n hx hb dL_law_935 rfl (lv_at hl 0 rfl) ?_
                                      refine lv_iconst (v := 2) hx hb dL_law_936 (by decide) ?_
                                      refine lv_iadd hx hb dL_law_937 (tk_i (v := 2) (by decide +kernel) ?_)
                                      refine va_sld hx hb hX hbl hbA hS (vin (by decide +kernel)) dL_law_938 (tk_i (v := a2) ha2 ?_)
                                      refine lv_aload_n hx hb dL_law_939 rfl (lv_at hl 3 rfl) ?_
                                      refine lv_iload_n hx hb dL_law_940 rfl (lv_at hl 0 rfl) ?_
                                      refine lv_iconst (v := 3) hx hb dL_law_941 (by decide) ?_
                                      refine lv_iadd hx hb dL_law_942 (tk_i (v := 3) (by decide +kernel) ?_)
                                      refine va_sld hx hb hX hbl hbA hS (vin (by decide +kernel)) dL_law_943 (tk_i (v := 9) ha3 ?_)
                                      refine kcall_i (D := (dC, dI)) (S := Unit) (v := (-3)) (wc := [(q1, .inr (11, [.ref q2, .ref q4, .ref q6, .ref q18, .ref q23, .ref q28, .ref q33, .ref q36, .ref q37, .ref q40, .ref q44, .ref q48, .int 0])), (q4, .inr (10, [.ref q5, .int 0, .int 0])), (q48, .inl (cI, 5, .inl (fun _ => 0)))]) (wr := [(q49, .inr (12, [.int 0, .ref q50, .int 0, .ref q51, .int 0, .ref q52, .ref q53, .int 0, .ref q54, .int 0, .ref q55, .int (-9), .int 0, .int 0, .ref q56, .ref q57, .ref q58, .ref q59, .ref q60, .int 0, .ref q61, .ref q62, .ref q63, .int 0, .ref q64, .ref q65, .ref q66, .int 0, .ref q67])), (q50, .inl (cI, 5, .inl (fun _ => 0)))]) (w1 := fun _ => []) (fun hPc hDc => va_runV (As := [.int a1, .int a2, .int 9]) (rest := []) ⟨hx, hb, hml, hown, hts⟩ (kX11_copy_57 l dC dI cI c2 q1 q4 q48 q2 q6 q18 q23 q28 q33 q36 q37 q40 q44 q5 H.size a1 a2 (by omega) (by omega) (by omega) (by omega)) (cwV 3 hts gL_law_X11_copy rfl rfl rfl (by decide +kernel) ⟨Nat.le_of_ble_eq_true rfl, Nat.le_of_ble_eq_true rfl⟩) (pre_V hPc hK hDc hN (ci := 11) (q0 := 0) rfl rfl) rfl rfl hl.1 rfl (lv_room (Nat.le_of_ble_eq_true rfl)) dL_law_944 ⟨Nat.le_of_ble_eq_true rfl, Nat.le_of_ble_eq_true rfl⟩) hP hD hS hA [0, 3, 27] [28, 29] rfl rfl (by decide) (by decide) (by decide) (fun u H locs hP hD hS => ?_)
                                      have hP : va_P (dC, dI) vwCl [(q49, .inr (12, [.int 0, .ref q50, .int 0, .ref q51, .int 0, .ref q52, .ref q53, .int 0, .ref q54, .int 0, .ref q55, .int (-9), .int 0, .int 0, .ref q56, .ref q57, .ref q58, .ref q59, .ref q60, .int 0, .ref q61, .ref q62, .ref q63, .int 0, .ref q64, .ref q65, .ref q66, .int 0, .ref q67])), (q50, .inl (cI, 5, .inl (fun _ => 0)))] H := hP
                                      have hD : va_D A [(q49, .inr (12, [.int 0, .ref q50, .int 0, .ref q51, .int 0, .ref q52, .ref q53, .int 0, .ref q54, .int 0, .ref q55, .int (-9), .int 0, .int 0, .ref q56, .ref q57, .ref q58, .ref q59, .ref q60, .int 0, .ref q61, .ref q62, .ref q63, .int 0, .ref q64, .ref q65, .ref q66, .int 0, .ref q67])), (q50, .inl (cI, 5, .inl (fun _ => 0)))] := hD
                                      refine lv_aload_n hx hb dL_law_947 rfl (lv_at hl 1 rfl) ?_
                                      refine lv_aload_n hx hb dL_law_948 rfl (lv_at hl 3 rfl) ?_
                                      refine lv_iload_n hx hb dL_law_949 rfl (lv_at hl 0 rfl) ?_
                                      refine lv_iconst (v := 1) hx hb dL_law_950 (by decide) ?_
                                      refine lv_iadd hx hb dL_law_951 (tk_i (v := 1) (by decide +kernel) ?_)
                                      refine va_sld hx hb hX hbl hbA hS (vin (by decide +kernel)) dL_law_952 (tk_i (v := a1) ha1 ?_)
                                      refine lv_aload_n hx hb dL_law_953 rfl (lv_at hl 3 rfl) ?_
                                      refine lv_iload_n hx hb dL_law_954 rfl (lv_at hl 0 rfl) ?_
                                      refine lv_iconst (v := 2) hx hb dL_law_955 (by decide) ?_
                                      refine lv_iadd hx hb dL_law_956 (tk_i (v := 2) (by decide +kernel) ?_)
                                      refine va_sld hx hb hX hbl hbA hS (vin (by decide +kernel)) dL_law_957 (tk_i (v := a2) ha2 ?_)
                                      refine lv_aload_n hx hb dL_law_958 rfl (lv_at hl 3 rfl) ?_
                                      refine lv_iload_n hx hb dL_law_959 rfl (lv_at hl 0 rfl) ?_
                                      refine lv_iconst (v := 3) hx hb dL_law_960 (by decide) ?_
                                      refine lv_iadd hx hb dL_law_961 (tk_i (v := 3) (by decide +kernel) ?_)
                                      refine va_sld hx hb hX hbl hbA hS (vin (by decide +kernel)) dL_law_962 (tk_i (v := 9) ha3 ?_)
                                      refine kcall_i (D := (dC, dI)) (S := Unit) (v := (-3)) (wc := [(q49, .inr (12, [.int 0, .ref q50, .int 0, .ref q51, .int 0, .ref q52, .ref q53, .int 0, .ref q54, .int 0, .ref q55, .int (-9), .int 0, .int 0, .ref q56, .ref q57, .ref q58, .ref q59, .ref q60, .int 0, .ref q61, .ref q62, .ref q63, .int 0, .ref q64, .ref q65, .ref q66, .int 0, .ref q67])), (q50, .inl (cI, 5, .inl (fun _ => 0)))]) (wr := []) (w1 := fun _ => []) (fun hPc hDc => va_runV (As := [.int a1, .int a2, .int 9]) (rest := [.int (-3)]) ⟨hx, hb, hml, hown, hts⟩ (kX12_copy_57 l dC dI cI c2 q49 q50 q51 q52 q53 q54 q55 q56 q57 q58 q59 q60 q61 q62 q63 q64 q65 q66 q67 H.size a1 a2 (by omega) (by omega) (by omega) (by omega)) (cwV 3 hts gL_law_X12_copy rfl rfl rfl (by decide +kernel) ⟨Nat.le_of_ble_eq_true rfl, Nat.le_of_ble_eq_true rfl⟩) (pre_V hPc hK hDc hN (ci := 12) (q0 := 0) rfl rfl) rfl rfl hl.1 rfl (lv_room (Nat.le_of_ble_eq_true rfl)) dL_law_963 ⟨Nat.le_of_ble_eq_true rfl, Nat.le_of_ble_eq_true rfl⟩) hP hD hS hA [0, 1] [] rfl rfl (by decide) (by decide) (by decide) (fun u H locs hP hD hS => ?_)
                                      have hP : va_P (dC, dI) vwCl [] H := hP
                                      have hD : va_D A [] := hD
                                      refine lv_icmp_eq (tgt := 1080) hx hb dL_law_966 (by decide) (fun _ => ?_) (fun h9 => absurd (by decide +kernel) h9)
                                      refine lv_iinc (v := 4) (lv' := [(3, .int 4), (2, .ref q49), (1, .ref q1), (0, .ref b)]) hx hb dL_law_1080 hl (k := 0) rfl (by decide +kernel) (by decide) rfl (fun ls hl => ?_)
                                      refine lv_goto (tgt := 18) hx hb dL_law_1083 (by decide) ?_
                                      refine lv_iload_n hx hb dL_law_18 rfl (lv_at hl 0 rfl) ?_
                                      refine lv_aload_n hx hb dL_law_19 rfl (lv_at hl 3 rfl) ?_
                                      refine va_slen hx hb hX hbl hbA hS dL_law_20 (tk_i (v := 4) (by decide +kernel) ?_)
                                      refine lv_iconst (v := 4) hx hb dL_law_21 (by decide) ?_
                                      refine lv_isub hx hb dL_law_22 (tk_i (v := 0) (by decide +kernel) ?_)
                                      refine lv_icmp_gt (tgt := 1086) hx hb dL_law_23 (by decide) (fun _ => ?_) (fun h9 => absurd (by decide +kernel) h9)
                                      refine lv_iconst (v := 1) hx hb dL_law_1086 (by decide) ?_
                                      refine va_forget (fun q hq => by have h9 := hS.2.2 q hq; rw [← hAe] at h9; exact h9) ?_
                                      refine W.widen (k := 600000) (n := 7302250) (by decide) (by decide) ?_
                                      exact lw_ret hx hb hr hlocks dL_law_1087
                                  ·
                                    have e_a3 : a3 = 9 := ib_eq (X := 9) (by omega) (by decide +kernel)
                                    subst e_a3
                                    refine lv_aload_n hx hb dL_law_928 rfl (lv_at hl 2 rfl) ?_
                                    refine lv_aload_n hx hb dL_law_929 rfl (lv_at hl 3 rfl) ?_
                                    refine lv_iload_n hx hb dL_law_930 rfl (lv_at hl 0 rfl) ?_
                                    refine lv_iconst (v := 1) hx hb dL_law_931 (by decide) ?_
                                    refine lv_iadd hx hb dL_law_932 (tk_i (v := 1) (by decide +kernel) ?_)
                                    refine va_sld hx hb hX hbl hbA hS (vin (by decide +kernel)) dL_law_933 (tk_i (v := a1) ha1 ?_)
                                    refine lv_aload_n hx hb dL_law_934 rfl (lv_at hl 3 rfl) ?_
                                    refine lv_iload_n hx hb dL_law_935 rfl (lv_at hl 0 rfl) ?_
                                    refine lv_iconst (v := 2) hx hb dL_law_936 (by decide) ?_
                                    refine lv_iadd hx hb dL_law_937 (tk_i (v := 2) (by decide +kernel) ?_)
                                    refine va_sld hx hb hX hbl hbA hS (vin (by decide +kernel)) dL_law_938 (tk_i (v := a2) ha2 ?_)
                                    refine lv_aload_n hx hb dL_law_939 rfl (lv_at hl 3 rfl) ?_
                                    refine lv_iload_n hx hb dL_law_940 rfl (lv_at hl 0 rfl) ?_
                                    refine lv_iconst (v := 3) hx hb dL_law_941 (by decide) ?_
                                    refine lv_iadd hx hb dL_law_942 (tk_i (v := 3) (by decide +kernel) ?_)
                                    refine va_sld hx hb hX hbl hbA hS (vin (by decide +kernel)) dL_law_943 (tk_i (v := 9) ha3 ?_)
                                    refine kcall_i (D := (dC, dI)) (S := Unit) (v := (-3)) (wc := [(q1, .inr (11, [.ref q2, .ref q4, .ref q6, .ref q18, .ref q23, .ref q28, .ref q33, .ref q36, .ref q37, .ref q40, .ref q44, .ref q48, .int 0])), (q4, .inr (10, [.ref q5, .int 0, .int 0])), (q48, .inl (cI, 5, .inl (fun _ => 0)))]) (wr := [(q49, .inr (12, [.int 0, .ref q50, .int 0, .ref q51, .int 0, .ref q52, .ref q53, .int 0, .ref q54, .int 0, .ref q55, .int (-9), .int 0, .int 0, .ref q56, .ref q57, .ref q58, .ref q59, .ref q60, .int 0, .ref q61, .ref q62, .ref q63, .int 0, .ref q64, .ref q65, .ref q66, .int 0, .ref q67])), (q50, .inl (cI, 5, .inl (fun _ => 0)))]) (w1 := fun _ => []) (fun hPc hDc => va_runV (As := [.int a1, .int a2, .int 9]) (rest := []) ⟨hx, hb, hml, hown, hts⟩ (kX11_copy_58 l dC dI cI c2 q1 q4 q48 q2 q6 q18 q23 q28 q33 q36 q37 q40 q44 q5 H.size a1 a2 (by omega) (by omega) (by omega) (by omega)) (cwV 3 hts gL_law_X11_copy rfl rfl rfl (by decide +kernel) ⟨Nat.le_of_ble_eq_true rfl, Nat.le_of_ble_eq_true rfl⟩) (pre_V hPc hK hDc hN (ci := 11) (q0 := 0) rfl rfl) rfl rfl hl.1 rfl (lv_room (Nat.le_of_ble_eq_true rfl)) dL_law_944 ⟨Nat.le_of_ble_eq_true rfl, Nat.le_of_ble_eq_true rfl⟩) hP hD hS hA [0, 3, 27] [28, 29] rfl rfl (by decide) (by decide) (by decide) (fun u H locs hP hD hS => ?_)
                                    have hP : va_P (dC, dI) vwCl [(q49, .inr (12, [.int 0, .ref q50, .int 0, .ref q51, .int 0, .ref q52, .ref q53, .int 0, .ref q54, .int 0, .ref q55, .int (-9), .int 0, .int 0, .ref q56, .ref q57, .ref q58, .ref q59, .ref q60, .int 0, .ref q61, .ref q62, .ref q63, .int 0, .ref q64, .ref q65, .ref q66, .int 0, .ref q67])), (q50, .inl (cI, 5, .inl (fun _ => 0)))] H := hP
                                    have hD : va_D A [(q49, .inr (12, [.int 0, .ref q50, .int 0, .ref q51, .int 0, .ref q52, .ref q53, .int 0, .ref q54, .int 0, .ref q55, .int (-9), .int 0, .int 0, .ref q56, .ref q57, .ref q58, .ref q59, .ref q60, .int 0, .ref q61, .ref q62, .ref q63, .int 0, .ref q64, .ref q65, .ref q66, .int 0, .ref q67])), (q50, .inl (cI, 5, .inl (fun _ => 0)))] := hD
                                    refine lv_aload_n hx hb dL_law_947 rfl (lv_at hl 1 rfl) ?_
                                    refine lv_aload_n hx hb dL_law_948 rfl (lv_at hl 3 rfl) ?_
                                    refine lv_iload_n hx hb dL_law_949 rfl (lv_at hl 0 rfl) ?_
                                    refine lv_iconst (v := 1) hx hb dL_law_950 (by decide) ?_
                                    refine lv_iadd hx hb dL_law_951 (tk_i (v := 1) (by decide +kernel) ?_)
                                    refine va_sld hx hb hX hbl hbA hS (vin (by decide +kernel)) dL_law_952 (tk_i (v := a1) ha1 ?_)
                                    refine lv_aload_n hx hb dL_law_953 rfl (lv_at hl 3 rfl) ?_
                                    refine lv_iload_n hx hb dL_law_954 rfl (lv_at hl 0 rfl) ?_
                                    refine lv_iconst (v := 2) hx hb dL_law_955 (by decide) ?_
                                    refine lv_iadd hx hb dL_law_956 (tk_i (v := 2) (by decide +kernel) ?_)
                                    refine va_sld hx hb hX hbl hbA hS (vin (by decide +kernel)) dL_law_957 (tk_i (v := a2) ha2 ?_)
                                    refine lv_aload_n hx hb dL_law_958 rfl (lv_at hl 3 rfl) ?_
                                    refine lv_iload_n hx hb dL_law_959 rfl (lv_at hl 0 rfl) ?_
                                    refine lv_iconst (v := 3) hx hb dL_law_960 (by decide) ?_
                                    refine lv_iadd hx hb dL_law_961 (tk_i (v := 3) (by decide +kernel) ?_)
                                    refine va_sld hx hb hX hbl hbA hS (vin (by decide +kernel)) dL_law_962 (tk_i (v := 9) ha3 ?_)
                                    refine kcall_i (D := (dC, dI)) (S := Unit) (v := (-3)) (wc := [(q49, .inr (12, [.int 0, .ref q50, .int 0, .ref q51, .int 0, .ref q52, .ref q53, .int 0, .ref q54, .int 0, .ref q55, .int (-9), .int 0, .int 0, .ref q56, .ref q57, .ref q58, .ref q59, .ref q60, .int 0, .ref q61, .ref q62, .ref q63, .int 0, .ref q64, .ref q65, .ref q66, .int 0, .ref q67])), (q50, .inl (cI, 5, .inl (fun _ => 0)))]) (wr := []) (w1 := fun _ => []) (fun hPc hDc => va_runV (As := [.int a1, .int a2, .int 9]) (rest := [.int (-3)]) ⟨hx, hb, hml, hown, hts⟩ (kX12_copy_58 l dC dI cI c2 q49 q50 q51 q52 q53 q54 q55 q56 q57 q58 q59 q60 q61 q62 q63 q64 q65 q66 q67 H.size a1 a2 (by omega) (by omega) (by omega) (by omega)) (cwV 3 hts gL_law_X12_copy rfl rfl rfl (by decide +kernel) ⟨Nat.le_of_ble_eq_true rfl, Nat.le_of_ble_eq_true rfl⟩) (pre_V hPc hK hDc hN (ci := 12) (q0 := 0) rfl rfl) rfl rfl hl.1 rfl (lv_room (Nat.le_of_ble_eq_true rfl)) dL_law_963 ⟨Nat.le_of_ble_eq_true rfl, Nat.le_of_ble_eq_true rfl⟩) hP hD hS hA [0, 1] [] rfl rfl (by decide) (by decide) (by decide) (fun u H locs hP hD hS => ?_)
                                    have hP : va_P (dC, dI) vwCl [] H := hP
                                    have hD : va_D A [] := hD
                                    refine lv_icmp_eq (tgt := 1080) hx hb dL_law_966 (by decide) (fun _ => ?_) (fun h9 => absurd (by decide +kernel) h9)
                                    refine lv_iinc (v := 4) (lv' := [(3, .int 4), (2, .ref q49), (1, .ref q1), (0, .ref b)]) hx hb dL_law_1080 hl (k := 0) rfl (by decide +kernel) (by decide) rfl (fun ls hl => ?_)
                                    refine lv_goto (tgt := 18) hx hb dL_law_1083 (by decide) ?_
                                    refine lv_iload_n hx hb dL_law_18 rfl (lv_at hl 0 rfl) ?_
                                    refine lv_aload_n hx hb dL_law_19 rfl (lv_at hl 3 rfl) ?_
                                    refine va_slen hx hb hX hbl hbA hS dL_law_20 (tk_i (v := 4) (by decide +kernel) ?_)
                                    refine lv_iconst (v := 4) hx hb dL_law_21 (by decide) ?_
                                    refine lv_isub hx hb dL_law_22 (tk_i (v := 0) (by decide +kernel) ?_)
                                    refine lv_icmp_gt (tgt := 1086) hx hb dL_law_23 (by decide) (fun _ => ?_) (fun h9 => absurd (by decide +kernel) h9)
                                    refine lv_iconst (v := 1) hx hb dL_law_1086 (by decide) ?_
                                    refine va_forget (fun q hq => by have h9 := hS.2.2 q hq; rw [← hAe] at h9; exact h9) ?_
                                    refine W.widen (k := 600000) (n := 7302250) (by decide) (by decide) ?_
                                    exact lw_ret hx hb hr hlocks dL_law_1087
                              ·
                                rcases (show a2.toInt ≤ (-1) ∨ 0 ≤ a2.toInt by omega) with g_a2_0 | g_a2_0
                                ·
                                  have e_a3 : a3 = 9 := ib_eq (X := 9) (by omega) (by decide +kernel)
                                  subst e_a3
                                  refine lv_aload_n hx hb dL_law_928 rfl (lv_at hl 2 rfl) ?_
                                  refine lv_aload_n hx hb dL_law_929 rfl (lv_at hl 3 rfl) ?_
                                  refine lv_iload_n hx hb dL_law_930 rfl (lv_at hl 0 rfl) ?_
                                  refine lv_iconst (v := 1) hx hb dL_law_931 (by decide) ?_
                                  refine lv_iadd hx hb dL_law_932 (tk_i (v := 1) (by decide +kernel) ?_)
                                  refine va_sld hx hb hX hbl hbA hS (vin (by decide +kernel)) dL_law_933 (tk_i (v := a1) ha1 ?_)
                                  refine lv_aload_n hx hb dL_law_934 rfl (lv_at hl 3 rfl) ?_
                                  refine lv_iload_n hx hb dL_law_935 rfl (lv_at hl 0 rfl) ?_
                                  refine lv_iconst (v := 2) hx hb dL_law_936 (by decide) ?_
                                  refine lv_iadd hx hb dL_law_937 (tk_i (v := 2) (by decide +kernel) ?_)
                                  refine va_sld hx hb hX hbl hbA hS (vin (by decide +kernel)) dL_law_938 (tk_i (v := a2) ha2 ?_)
                                  refine lv_aload_n hx hb dL_law_939 rfl (lv_at hl 3 rfl) ?_
                                  refine lv_iload_n hx hb dL_law_940 rfl (lv_at hl 0 rfl) ?_
                                  refine lv_iconst (v := 3) hx hb dL_law_941 (by decide) ?_
                                  refine lv_iadd hx hb dL_law_942 (tk_i (v := 3) (by decide +kernel) ?_)
                                  refine va_sld hx hb hX hbl hbA hS (vin (by decide +kernel)) dL_law_943 (tk_i (v := 9) ha3 ?_)
                                  refine kcall_i (D := (dC, dI)) (S := Unit) (v := (-3)) (wc := [(q1, .inr (11, [.ref q2, .ref q4, .ref q6, .ref q18, .ref q23, .ref q28, .ref q33, .ref q36, .ref q37, .ref q40, .ref q44, .ref q48, .int 0])), (q4, .inr (10, [.ref q5, .int 0, .int 0])), (q48, .inl (cI, 5, .inl (fun _ => 0)))]) (wr := [(q49, .inr (12, [.int 0, .ref q50, .int 0, .ref q51, .int 0, .ref q52, .ref q53, .int 0, .ref q54, .int 0, .ref q55, .int (-9), .int 0, .int 0, .ref q56, .ref q57, .ref q58, .ref q59, .ref q60, .int 0, .ref q61, .ref q62, .ref q63, .int 0, .ref q64, .ref q65, .ref q66, .int 0, .ref q67])), (q50, .inl (cI, 5, .inl (fun _ => 0)))]) (w1 := fun _ => []) (fun hPc hDc => va_runV (As := [.int a1, .int a2, .int 9]) (rest := []) ⟨hx, hb, hml, hown, hts⟩ (kX11_copy_59 l dC dI cI c2 q1 q4 q48 q2 q6 q18 q23 q28 q33 q36 q37 q40 q44 q5 H.size a1 a2 (by omega) (by omega) (by omega) (by omega)) (cwV 3 hts gL_law_X11_copy rfl rfl rfl (by decide +kernel) ⟨Nat.le_of_ble_eq_true rfl, Nat.le_of_ble_eq_true rfl⟩) (pre_V hPc hK hDc hN (ci := 11) (q0 := 0) rfl rfl) rfl rfl hl.1 rfl (lv_room (Nat.le_of_ble_eq_true rfl)) dL_law_944 ⟨Nat.le_of_ble_eq_true rfl, Nat.le_of_ble_eq_true rfl⟩) hP hD hS hA [0, 3, 27] [28, 29] rfl rfl (by decide) (by decide) (by decide) (fun u H locs hP hD hS => ?_)
                                  have hP : va_P (dC, dI) vwCl [(q49, .inr (12, [.int 0, .ref q50, .int 0, .ref q51, .int 0, .ref q52, .ref q53, .int 0, .ref q54, .int 0, .ref q55, .int (-9), .int 0, .int 0, .ref q56, .ref q57, .ref q58, .ref q59, .ref q60, .int 0, .ref q61, .ref q62, .ref q63, .int 0, .ref q64, .ref q65, .ref q66, .int 0, .ref q67])), (q50, .inl (cI, 5, .inl (fun _ => 0)))] H := hP
                                  have hD : va_D A [(q49, .inr (12, [.int 0, .ref q50, .int 0, .ref q51, .int 0, .ref q52, .ref q53, .int 0, .ref q54, .int 0, .ref q55, .int (-9), .int 0, .int 0, .ref q56, .ref q57, .ref q58, .ref q59, .ref q60, .int 0, .ref q61, .ref q62, .ref q63, .int 0, .ref q64, .ref q65, .ref q66, .int 0, .ref q67])), (q50, .inl (cI, 5, .inl (fun _ => 0)))] := hD
                                  refine lv_aload_n hx hb dL_law_947 rfl (lv_at hl 1 rfl) ?_
                                  refine lv_aload_n hx hb dL_law_948 rfl (lv_at hl 3 rfl) ?_
                                  refine lv_iload_n hx hb dL_law_949 rfl (lv_at hl 0 rfl) ?_
                                  refine lv_iconst (v := 1) hx hb dL_law_950 (by decide) ?_
                                  refine lv_iadd hx hb dL_law_951 (tk_i (v := 1) (by decide +kernel) ?_)
                                  refine va_sld hx hb hX hbl hbA hS (vin (by decide +kernel)) dL_law_952 (tk_i (v := a1) ha1 ?_)
                                  refine lv_aload_n hx hb dL_law_953 rfl (lv_at hl 3 rfl) ?_
                                  refine lv_iload_n hx hb dL_law_954 rfl (lv_at hl 0 rfl) ?_
                                  refine lv_iconst (v := 2) hx hb dL_law_955 (by decide) ?_
                                  refine lv_iadd hx hb dL_law_956 (tk_i (v := 2) (by decide +kernel) ?_)
                                  refine va_sld hx hb hX hbl hbA hS (vin (by decide +kernel)) dL_law_957 (tk_i (v := a2) ha2 ?_)
                                  refine lv_aload_n hx hb dL_law_958 rfl (lv_at hl 3 rfl) ?_
                                  refine lv_iload_n hx hb dL_law_959 rfl (lv_at hl 0 rfl) ?_
                                  refine lv_iconst (v := 3) hx hb dL_law_960 (by decide) ?_
                                  refine lv_iadd hx hb dL_law_961 (tk_i (v := 3) (by decide +kernel) ?_)
                                  refine va_sld hx hb hX hbl hbA hS (vin (by decide +kernel)) dL_law_962 (tk_i (v := 9) ha3 ?_)
                                  refine kcall_i (D := (dC, dI)) (S := Unit) (v := (-3)) (wc := [(q49, .inr (12, [.int 0, .ref q50, .int 0, .ref q51, .int 0, .ref q52, .ref q53, .int 0, .ref q54, .int 0, .ref q55, .int (-9), .int 0, .int 0, .ref q56, .ref q57, .ref q58, .ref q59, .ref q60, .int 0, .ref q61, .ref q62, .ref q63, .int 0, .ref q64, .ref q65, .ref q66, .int 0, .ref q67])), (q50, .inl (cI, 5, .inl (fun _ => 0)))]) (wr := []) (w1 := fun _ => []) (fun hPc hDc => va_runV (As := [.int a1, .int a2, .int 9]) (rest := [.int (-3)]) ⟨hx, hb, hml, hown, hts⟩ (kX12_copy_59 l dC dI cI c2 q49 q50 q51 q52 q53 q54 q55 q56 q57 q58 q59 q60 q61 q62 q63 q64 q65 q66 q67 H.size a1 a2 (by omega) (by omega) (by omega) (by omega)) (cwV 3 hts gL_law_X12_copy rfl rfl rfl (by decide +kernel) ⟨Nat.le_of_ble_eq_true rfl, Nat.le_of_ble_eq_true rfl⟩) (pre_V hPc hK hDc hN (ci := 12) (q0 := 0) rfl rfl) rfl rfl hl.1 rfl (lv_room (Nat.le_of_ble_eq_true rfl)) dL_law_963 ⟨Nat.le_of_ble_eq_true rfl, Nat.le_of_ble_eq_true rfl⟩) hP hD hS hA [0, 1] [] rfl rfl (by decide) (by decide) (by decide) (fun u H locs hP hD hS => ?_)
                                  have hP : va_P (dC, dI) vwCl [] H := hP
                                  have hD : va_D A [] := hD
                                  refine lv_icmp_eq (tgt := 1080) hx hb dL_law_966 (by decide) (fun _ => ?_) (fun h9 => absurd (by decide +kernel) h9)
                                  refine lv_iinc (v := 4) (lv' := [(3, .int 4), (2, .ref q49), (1, .ref q1), (0, .ref b)]) hx hb dL_law_1080 hl (k := 0) rfl (by decide +kernel) (by decide) rfl (fun ls hl => ?_)
                                  refine lv_goto (tgt := 18) hx hb dL_law_1083 (by decide) ?_
                                  refine lv_iload_n hx hb dL_law_18 rfl (lv_at hl 0 rfl) ?_
                                  refine lv_aload_n hx hb dL_law_19 rfl (lv_at hl 3 rfl) ?_
                                  refine va_slen hx hb hX hbl hbA hS dL_law_20 (tk_i (v := 4) (by decide +kernel) ?_)
                                  refine lv_iconst (v := 4) hx hb dL_law_21 (by decide) ?_
                                  refine lv_isub hx hb dL_law_22 (tk_i (v := 0) (by decide +kernel) ?_)
                                  refine lv_icmp_gt (tgt := 1086) hx hb dL_law_23 (by decide) (fun _ => ?_) (fun h9 => absurd (by decide +kernel) h9)
                                  refine lv_iconst (v := 1) hx hb dL_law_1086 (by decide) ?_
                                  refine va_forget (fun q hq => by have h9 := hS.2.2 q hq; rw [← hAe] at h9; exact h9) ?_
                                  refine W.widen (k := 600000) (n := 7302250) (by decide) (by decide) ?_
                                  exact lw_ret hx hb hr hlocks dL_law_1087
                                ·
                                  have e_a3 : a3 = 9 := ib_eq (X := 9) (by omega) (by decide +kernel)
                                  subst e_a3
                                  refine lv_aload_n hx hb dL_law_928 rfl (lv_at hl 2 rfl) ?_
                                  refine lv_aload_n hx hb dL_law_929 rfl (lv_at hl 3 rfl) ?_
                                  refine lv_iload_n hx hb dL_law_930 rfl (lv_at hl 0 rfl) ?_
                                  refine lv_iconst (v := 1) hx hb dL_law_931 (by decide) ?_
                                  refine lv_iadd hx hb dL_law_932 (tk_i (v := 1) (by decide +kernel) ?_)
                                  refine va_sld hx hb hX hbl hbA hS (vin (by decide +kernel)) dL_law_933 (tk_i (v := a1) ha1 ?_)
                                  refine lv_aload_n hx hb dL_law_934 rfl (lv_at hl 3 rfl) ?_
                                  refine lv_iload_n hx hb dL_law_935 rfl (lv_at hl 0 rfl) ?_
                                  refine lv_iconst (v := 2) hx hb dL_law_936 (by decide) ?_
                                  refine lv_iadd hx hb dL_law_937 (tk_i (v := 2) (by decide +kernel) ?_)
                                  refine va_sld hx hb hX hbl hbA hS (vin (by decide +kernel)) dL_law_938 (tk_i (v := a2) ha2 ?_)
                                  refine lv_aload_n hx hb dL_law_939 rfl (lv_at hl 3 rfl) ?_
                                  refine lv_iload_n hx hb dL_law_940 rfl (lv_at hl 0 rfl) ?_
                                  refine lv_iconst (v := 3) hx hb dL_law_941 (by decide) ?_
                                  refine lv_iadd hx hb dL_law_942 (tk_i (v := 3) (by decide +kernel) ?_)
                                  refine va_sld hx hb hX hbl hbA hS (vin (by decide +kernel)) dL_law_943 (tk_i (v := 9) ha3 ?_)
                                  refine kcall_i (D := (dC, dI)) (S := Unit) (v := (-3)) (wc := [(q1, .inr (11, [.ref q2, .ref q4, .ref q6, .ref q18, .ref q23, .ref q28, .ref q33, .ref q36, .ref q37, .ref q40, .ref q44, .ref q48, .int 0])), (q4, .inr (10, [.ref q5, .int 0, .int 0])), (q48, .inl (cI, 5, .inl (fun _ => 0)))]) (wr := [(q49, .inr (12, [.int 0, .ref q50, .int 0, .ref q51, .int 0, .ref q52, .ref q53, .int 0, .ref q54, .int 0, .ref q55, .int (-9), .int 0, .int 0, .ref q56, .ref q57, .ref q58, .ref q59, .ref q60, .int 0, .ref q61, .ref q62, .ref q63, .int 0, .ref q64, .ref q65, .ref q66, .int 0, .ref q67])), (q50, .inl (cI, 5, .inl (fun _ => 0)))]) (w1 := fun _ => []) (fun hPc hDc => va_runV (As := [.int a1, .int a2, .int 9]) (rest := []) ⟨hx, hb, hml, hown, hts⟩ (kX11_copy_60 l dC dI cI c2 q1 q4 q48 q2 q6 q18 q23 q28 q33 q36 q37 q40 q44 q5 H.size a1 a2 (by omega) (by omega) (by omega) (by omega)) (cwV 3 hts gL_law_X11_copy rfl rfl rfl (by decide +kernel) ⟨Nat.le_of_ble_eq_true rfl, Nat.le_of_ble_eq_true rfl⟩) (pre_V hPc hK hDc hN (ci := 11) (q0 := 0) rfl rfl) rfl rfl hl.1 rfl (lv_room (Nat.le_of_ble_eq_true rfl)) dL_law_944 ⟨Nat.le_of_ble_eq_true rfl, Nat.le_of_ble_eq_true rfl⟩) hP hD hS hA [0, 3, 27] [28, 29] rfl rfl (by decide) (by decide) (by decide) (fun u H locs hP hD hS => ?_)
                                  have hP : va_P (dC, dI) vwCl [(q49, .inr (12, [.int 0, .ref q50, .int 0, .ref q51, .int 0, .ref q52, .ref q53, .int 0, .ref q54, .int 0, .ref q55, .int (-9), .int 0, .int 0, .ref q56, .ref q57, .ref q58, .ref q59, .ref q60, .int 0, .ref q61, .ref q62, .ref q63, .int 0, .ref q64, .ref q65, .ref q66, .int 0, .ref q67])), (q50, .inl (cI, 5, .inl (fun _ => 0)))] H := hP
                                  have hD : va_D A [(q49, .inr (12, [.int 0, .ref q50, .int 0, .ref q51, .int 0, .ref q52, .ref q53, .int 0, .ref q54, .int 0, .ref q55, .int (-9), .int 0, .int 0, .ref q56, .ref q57, .ref q58, .ref q59, .ref q60, .int 0, .ref q61, .ref q62, .ref q63, .int 0, .ref q64, .ref q65, .ref q66, .int 0, .ref q67])), (q50, .inl (cI, 5, .inl (fun _ => 0)))] := hD
                                  refine lv_aload_n hx hb dL_law_947 rfl (lv_at hl 1 rfl) ?_
                                  refine lv_aload_n hx hb dL_law_948 rfl (lv_at hl 3 rfl) ?_
                                  refine lv_iload_n hx hb dL_law_949 rfl (lv_at hl 0 rfl) ?_
                                  refine lv_iconst (v := 1) hx hb dL_law_950 (by decide) ?_
                                  refine lv_iadd hx hb dL_law_951 (tk_i (v := 1) (by decide +kernel) ?_)
                                  refine va_sld hx hb hX hbl hbA hS (vin (by decide +kernel)) dL_law_952 (tk_i (v := a1) ha1 ?_)
                                  refine lv_aload_n hx hb dL_law_953 rfl (lv_at hl 3 rfl) ?_
                                  refine lv_iload_n hx hb dL_law_954 rfl (lv_at hl 0 rfl) ?_
                                  refine lv_iconst (v := 2) hx hb dL_law_955 (by decide) ?_
                                  refine lv_iadd hx hb dL_law_956 (tk_i (v := 2) (by decide +kernel) ?_)
                                  refine va_sld hx hb hX hbl hbA hS (vin (by decide +kernel)) dL_law_957 (tk_i (v := a2) ha2 ?_)
                                  refine lv_aload_n hx hb dL_law_958 rfl (lv_at hl 3 rfl) ?_
                                  refine lv_iload_n hx hb dL_law_959 rfl (lv_at hl 0 rfl) ?_
                                  refine lv_iconst (v := 3) hx hb dL_law_960 (by decide) ?_
                                  refine lv_iadd hx hb dL_law_961 (tk_i (v := 3) (by decide +kernel) ?_)
                                  refine va_sld hx hb hX hbl hbA hS (vin (by decide +kernel)) dL_law_962 (tk_i (v := 9) ha3 ?_)
                                  refine kcall_i (D := (dC, dI)) (S := Unit) (v := (-3)) (wc := [(q49, .inr (12, [.int 0, .ref q50, .int 0, .ref q51, .int 0, .ref q52, .ref q53, .int 0, .ref q54, .int 0, .ref q55, .int (-9), .int 0, .int 0, .ref q56, .ref q57, .ref q58, .ref q59, .ref q60, .int 0, .ref q61, .ref q62, .ref q63, .int 0, .ref q64, .ref q65, .ref q66, .int 0, .ref q67])), (q50, .inl (cI, 5, .inl (fun _ => 0)))]) (wr := []) (w1 := fun _ => []) (fun hPc hDc => va_runV (As := [.int a1, .int a2, .int 9]) (rest := [.int (-3)]) ⟨hx, hb, hml, hown, hts⟩ (kX12_copy_60 l dC dI cI c2 q49 q50 q51 q52 q53 q54 q55 q56 q57 q58 q59 q60 q61 q62 q63 q64 q65 q66 q67 H.size a1 a2 (by omega) (by omega) (by omega) (by omega)) (cwV 3 hts gL_law_X12_copy rfl rfl rfl (by decide +kernel) ⟨Nat.le_of_ble_eq_true rfl, Nat.le_of_ble_eq_true rfl⟩) (pre_V hPc hK hDc hN (ci := 12) (q0 := 0) rfl rfl) rfl rfl hl.1 rfl (lv_room (Nat.le_of_ble_eq_true rfl)) dL_law_963 ⟨Nat.le_of_ble_eq_true rfl, Nat.le_of_ble_eq_true rfl⟩) hP hD hS hA [0, 1] [] rfl rfl (by decide) (by decide) (by decide) (fun u H locs hP hD hS => ?_)
                                  have hP : va_P (dC, dI) vwCl [] H := hP
                                  have hD : va_D A [] := hD
                                  refine lv_icmp_eq (tgt := 1080) hx hb dL_law_966 (by decide) (fun _ => ?_) (fun h9 => absurd (by decide +kernel) h9)
                                  refine lv_iinc (v := 4) (lv' := [(3, .int 4), (2, .ref q49), (1, .ref q1), (0, .ref b)]) hx hb dL_law_1080 hl (k := 0) rfl (by decide +kernel) (by decide) rfl (fun ls hl => ?_)
                                  refine lv_goto (tgt := 18) hx hb dL_law_1083 (by decide) ?_
                                  refine lv_iload_n hx hb dL_law_18 rfl (lv_at hl 0 rfl) ?_
                                  refine lv_aload_n hx hb dL_law_19 rfl (lv_at hl 3 rfl) ?_
                                  refine va_slen hx hb hX hbl hbA hS dL_law_20 (tk_i (v := 4) (by decide +kernel) ?_)
                                  refine lv_iconst (v := 4) hx hb dL_law_21 (by decide) ?_
                                  refine lv_isub hx hb dL_law_22 (tk_i (v := 0) (by decide +kernel) ?_)
                                  refine lv_icmp_gt (tgt := 1086) hx hb dL_law_23 (by decide) (fun _ => ?_) (fun h9 => absurd (by decide +kernel) h9)
                                  refine lv_iconst (v := 1) hx hb dL_law_1086 (by decide) ?_
                                  refine va_forget (fun q hq => by have h9 := hS.2.2 q hq; rw [← hAe] at h9; exact h9) ?_
                                  refine W.widen (k := 600000) (n := 7302250) (by decide) (by decide) ?_
                                  exact lw_ret hx hb hr hlocks dL_law_1087
                            ·
                              rcases (show a3.toInt ≤ 10 ∨ 11 ≤ a3.toInt by omega) with g_a3_11 | g_a3_11
                              ·
                                rcases (show a1.toInt ≤ 2 ∨ 3 ≤ a1.toInt by omega) with g_a1_3 | g_a1_3
                                ·
                                  rcases (show a2.toInt ≤ (-1) ∨ 0 ≤ a2.toInt by omega) with g_a2_0 | g_a2_0
                                  ·
                                    have e_a3 : a3 = 10 := ib_eq (X := 10) (by omega) (by decide +kernel)
                                    subst e_a3
                                    refine lv_aload_n hx hb dL_law_928 rfl (lv_at hl 2 rfl) ?_
                                    refine lv_aload_n hx hb dL_law_929 rfl (lv_at hl 3 rfl) ?_
                                    refine lv_iload_n hx hb dL_law_930 rfl (lv_at hl 0 rfl) ?_
                                    refine lv_iconst (v := 1) hx hb dL_law_931 (by decide) ?_
                                    refine lv_iadd hx hb dL_law_932 (tk_i (v := 1) (by decide +kernel) ?_)
                                    refine va_sld hx hb hX hbl hbA hS (vin (by decide +kernel)) dL_law_933 (tk_i (v := a1) ha1 ?_)
                                    refine lv_aload_n hx hb dL_law_934 rfl (lv_at hl 3 rfl) ?_
                                    refine lv_iload_n hx hb dL_law_935 rfl (lv_at hl 0 rfl) ?_
                                    refine lv_iconst (v := 2) hx hb dL_law_936 (by decide) ?_
                                    refine lv_iadd hx hb dL_law_937 (tk_i (v := 2) (by decide +kernel) ?_)
                                    refine va_sld hx hb hX hbl hbA hS (vin (by decide +kernel)) dL_law_938 (tk_i (v := a2) ha2 ?_)
                                    refine lv_aload_n hx hb dL_law_939 rfl (lv_at hl 3 rfl) ?_
                                    refine lv_iload_n hx hb dL_law_940 rfl (lv_at hl 0 rfl) ?_
                                    refine lv_iconst (v := 3) hx hb dL_law_941 (by decide) ?_
                                    refine lv_iadd hx hb dL_law_942 (tk_i (v := 3) (by decide +kernel) ?_)
                                    refine va_sld hx hb hX hbl hbA hS (vin (by decide +kernel)) dL_law_943 (tk_i (v := 10) ha3 ?_)
                                    refine kcall_i (D := (dC, dI)) (S := Unit) (v := (-3)) (wc := [(q1, .inr (11, [.ref q2, .ref q4, .ref q6, .ref q18, .ref q23, .ref q28, .ref q33, .ref q36, .ref q37, .ref q40, .ref q44, .ref q48, .int 0])), (q4, .inr (10, [.ref q5, .int 0, .int 0])), (q48, .inl (cI, 5, .inl (fun _ => 0)))]) (wr := [(q49, .inr (12, [.int 0, .ref q50, .int 0, .ref q51, .int 0, .ref q52, .ref q53, .int 0, .ref q54, .int 0, .ref q55, .int (-9), .int 0, .int 0, .ref q56, .ref q57, .ref q58, .ref q59, .ref q60, .int 0, .ref q61, .ref q62, .ref q63, .int 0, .ref q64, .ref q65, .ref q66, .int 0, .ref q67])), (q50, .inl (cI, 5, .inl (fun _ => 0)))]) (w1 := fun _ => []) (fun hPc hDc => va_runV (As := [.int a1, .int a2, .int 10]) (rest := []) ⟨hx, hb, hml, hown, hts⟩ (kX11_copy_61 l dC dI cI c2 q1 q4 q48 q2 q6 q18 q23 q28 q33 q36 q37 q40 q44 q5 H.size a1 a2 (by omega) (by omega) (by omega) (by omega)) (cwV 3 hts gL_law_X11_copy rfl rfl rfl (by decide +kernel) ⟨Nat.le_of_ble_eq_true rfl, Nat.le_of_ble_eq_true rfl⟩) (pre_V hPc hK hDc hN (ci := 11) (q0 := 0) rfl rfl) rfl rfl hl.1 rfl (lv_room (Nat.le_of_ble_eq_true rfl)) dL_law_944 ⟨Nat.le_of_ble_eq_true rfl, Nat.le_of_ble_eq_true rfl⟩) hP hD hS hA [0, 3, 27] [28, 29] rfl rfl (by decide) (by decide) (by decide) (fun u H locs hP hD hS => ?_)
                                    have hP : va_P (dC, dI) vwCl [(q49, .inr (12, [.int 0, .ref q50, .int 0, .ref q51, .int 0, .ref q52, .ref q53, .int 0, .ref q54, .int 0, .ref q55, .int (-9), .int 0, .int 0, .ref q56, .ref q57, .ref q58, .ref q59, .ref q60, .int 0, .ref q61, .ref q62, .ref q63, .int 0, .ref q64, .ref q65, .ref q66, .int 0, .ref q67])), (q50, .inl (cI, 5, .inl (fun _ => 0)))] H := hP
                                    have hD : va_D A [(q49, .inr (12, [.int 0, .ref q50, .int 0, .ref q51, .int 0, .ref q52, .ref q53, .int 0, .ref q54, .int 0, .ref q55, .int (-9), .int 0, .int 0, .ref q56, .ref q57, .ref q58, .ref q59, .ref q60, .int 0, .ref q61, .ref q62, .ref q63, .int 0, .ref q64, .ref q65, .ref q66, .int 0, .ref q67])), (q50, .inl (cI, 5, .inl (fun _ => 0)))] := hD
                                    refine lv_aload_n hx hb dL_law_947 rfl (lv_at hl 1 rfl) ?_
                                    refine lv_aload_n hx hb dL_law_948 rfl (lv_at hl 3 rfl) ?_
                                    refine lv_iload_n hx hb dL_law_949 rfl (lv_at hl 0 rfl) ?_
                                    refine lv_iconst (v := 1) hx hb dL_law_950 (by decide) ?_
                                    refine lv_iadd hx hb dL_law_951 (tk_i (v := 1) (by decide +kernel) ?_)
                                    refine va_sld hx hb hX hbl hbA hS (vin (by decide +kernel)) dL_law_952 (tk_i (v := a1) ha1 ?_)
                                    refine lv_aload_n hx hb dL_law_953 rfl (lv_at hl 3 rfl) ?_
                                    refine lv_iload_n hx hb dL_law_954 rfl (lv_at hl 0 rfl) ?_
                                    refine lv_iconst (v := 2) hx hb dL_law_955 (by decide) ?_
                                    refine lv_iadd hx hb dL_law_956 (tk_i (v := 2) (by decide +kernel) ?_)
                                    refine va_sld hx hb hX hbl hbA hS (vin (by decide +kernel)) dL_law_957 (tk_i (v := a2) ha2 ?_)
                                    refine lv_aload_n hx hb dL_law_958 rfl (lv_at hl 3 rfl) ?_
                                    refine lv_iload_n hx hb dL_law_959 rfl (lv_at hl 0 rfl) ?_
                                    refine lv_iconst (v := 3) hx hb dL_law_960 (by decide) ?_
                                    refine lv_iadd hx hb dL_law_961 (tk_i (v := 3) (by decide +kernel) ?_)
                                    refine va_sld hx hb hX hbl hbA hS (vin (by decide +kernel)) dL_law_962 (tk_i (v := 10) ha3 ?_)
                                    refine kcall_i (D := (dC, dI)) (S := Unit) (v := (-3)) (wc := [(q49, .inr (12, [.int 0, .ref q50, .int 0, .ref q51, .int 0, .ref q52, .ref q53, .int 0, .ref q54, .int 0, .ref q55, .int (-9), .int 0, .int 0, .ref q56, .ref q57, .ref q58, .ref q59, .ref q60, .int 0, .ref q61, .ref q62, .ref q63, .int 0, .ref q64, .ref q65, .ref q66, .int 0, .ref q67])), (q50, .inl (cI, 5, .inl (fun _ => 0)))]) (wr := []) (w1 := fun _ => []) (fun hPc hDc => va_runV (As := [.int a1, .int a2, .int 10]) (rest := [.int (-3)]) ⟨hx, hb, hml, hown, hts⟩ (kX12_copy_61 l dC dI cI c2 q49 q50 q51 q52 q53 q54 q55 q56 q57 q58 q59 q60 q61 q62 q63 q64 q65 q66 q67 H.size a1 a2 (by omega) (by omega) (by omega) (by omega)) (cwV 3 hts gL_law_X12_copy rfl rfl rfl (by decide +kernel) ⟨Nat.le_of_ble_eq_true rfl, Nat.le_of_ble_eq_true rfl⟩) (pre_V hPc hK hDc hN (ci := 12) (q0 := 0) rfl rfl) rfl rfl hl.1 rfl (lv_room (Nat.le_of_ble_eq_true rfl)) dL_law_963 ⟨Nat.le_of_ble_eq_true rfl, Nat.le_of_ble_eq_true rfl⟩) hP hD hS hA [0, 1] [] rfl rfl (by decide) (by decide) (by decide) (fun u H locs hP hD hS => ?_)
                                    have hP : va_P (dC, dI) vwCl [] H := hP
                                    have hD : va_D A [] := hD
                                    refine lv_icmp_eq (tgt := 1080) hx hb dL_law_966 (by decide) (fun _ => ?_) (fun h9 => absurd (by decide +kernel) h9)
                                    refine lv_iinc (v := 4) (lv' := [(3, .int 4), (2, .ref q49), (1, .ref q1), (0, .ref b)]) hx hb dL_law_1080 hl (k := 0) rfl (by decide +kernel) (by decide) rfl (fun ls hl => ?_)
                                    refine lv_goto (tgt := 18) hx hb dL_law_1083 (by decide) ?_
                                    refine lv_iload_n hx hb dL_law_18 rfl (lv_at hl 0 rfl) ?_
                                    refine lv_aload_n hx hb dL_law_19 rfl (lv_at hl 3 rfl) ?_
                                    refine va_slen hx hb hX hbl hbA hS dL_law_20 (tk_i (v := 4) (by decide +kernel) ?_)
                                    refine lv_iconst (v := 4) hx hb dL_law_21 (by decide) ?_
                                    refine lv_isub hx hb dL_law_22 (tk_i (v := 0) (by decide +kernel) ?_)
                                    refine lv_icmp_gt (tgt := 1086) hx hb dL_law_23 (by decide) (fun _ => ?_) (fun h9 => absurd (by decide +kernel) h9)
                                    refine lv_iconst (v := 1) hx hb dL_law_1086 (by decide) ?_
                                    refine va_forget (fun q hq => by have h9 := hS.2.2 q hq; rw [← hAe] at h9; exact h9) ?_
                                    refine W.widen (k := 600000) (n := 7302250) (by decide) (by decide) ?_
                                    exact lw_ret hx hb hr hlocks dL_law_1087
                                  ·
                                    rcases (show a2.toInt ≤ 12 ∨ 13 ≤ a2.toInt by omega) with g_a2_13 | g_a2_13
                                    ·
                                      rcases (show a2.toInt ≤ 2 ∨ 3 ≤ a2.toInt by omega) with g_a2_3 | g_a2_3
                                      ·
                                        have e_a3 : a3 = 10 := ib_eq (X := 10) (by omega) (by decide +kernel)
                                        subst e_a3
                                        refine lv_aload_n hx hb dL_law_928 rfl (lv_at hl 2 rfl) ?_
                                        refine lv_aload_n hx hb dL_law_929 rfl (lv_at hl 3 rfl) ?_
                                        refine lv_iload_n hx hb dL_law_930 rfl (lv_at hl 0 rfl) ?_
                                        refine lv_iconst (v := 1) hx hb dL_law_931 (by decide) ?_
                                        refine lv_iadd hx hb dL_law_932 (tk_i (v := 1) (by decide +kernel) ?_)
                                        refine va_sld hx hb hX hbl hbA hS (vin (by decide +kernel)) dL_law_933 (tk_i (v := a1) ha1 ?_)
                                        refine lv_aload_n hx hb dL_law_934 rfl (lv_at hl 3 rfl) ?_
                                        refine lv_iload_n hx hb dL_law_935 rfl (lv_at hl 0 rfl) ?_
                                        refine lv_iconst (v := 2) hx hb dL_law_936 (by decide) ?_
                                        refine lv_iadd hx hb dL_law_937 (tk_i (v := 2) (by decide +kernel) ?_)
                                        refine va_sld hx hb hX hbl hbA hS (vin (by decide +kernel)) dL_law_938 (tk_i (v := a2) ha2 ?_)
                                        refine lv_aload_n hx hb dL_law_939 rfl (lv_at hl 3 rfl) ?_
                                        refine lv_iload_n hx hb dL_law_940 rfl (lv_at hl 0 rfl) ?_
                                        refine lv_iconst (v := 3) hx hb dL_law_941 (by decide) ?_
                                        refine lv_iadd hx hb dL_law_942 (tk_i (v := 3) (by decide +kernel) ?_)
                                        refine va_sld hx hb hX hbl hbA hS (vin (by decide +kernel)) dL_law_943 (tk_i (v := 10) ha3 ?_)
                                        refine kcall_i (D := (dC, dI)) (S := Unit) (v := 1) (wc := [(q1, .inr (11, [.ref q2, .ref q4, .ref q6, .ref q18, .ref q23, .ref q28, .ref q33, .ref q36, .ref q37, .ref q40, .ref q44, .ref q48, .int 0])), (q4, .inr (10, [.ref q5, .int 0, .int 0])), (q5, .inl (cI, 12, .inl (fun _ => (-1))))]) (wr := [(q49, .inr (12, [.int 0, .ref q50, .int 0, .ref q51, .int 0, .ref q52, .ref q53, .int 0, .ref q54, .int 0, .ref q55, .int (-9), .int 0, .int 0, .ref q56, .ref q57, .ref q58, .ref q59, .ref q60, .int 0, .ref q61, .ref q62, .ref q63, .int 0, .ref q64, .ref q65, .ref q66, .int 0, .ref q67])), (q52, .inl (cI, 12, .inl (fun _ => (-9)))), (q67, .inl (cI, 12, .inl (fun _ => 0)))]) (w1 := fun _ => []) (fun hPc hDc => va_runV (As := [.int a1, .int a2, .int 10]) (rest := []) ⟨hx, hb, hml, hown, hts⟩ (kX11_copy_62 l dC dI cI c2 q1 q4 q5 q2 q6 q18 q23 q28 q33 q36 q37 q40 q44 q48 H.size a1 a2 (by omega) (by omega) (by omega) (by omega)) (cwV 3 hts gL_law_X11_copy rfl rfl rfl (by decide +kernel) ⟨Nat.le_of_ble_eq_true rfl, Nat.le_of_ble_eq_true rfl⟩) (pre_V hPc hK hDc hN (ci := 11) (q0 := 0) rfl rfl) rfl rfl hl.1 rfl (lv_room (Nat.le_of_ble_eq_true rfl)) dL_law_944 ⟨Nat.le_of_ble_eq_true rfl, Nat.le_of_ble_eq_true rfl⟩) hP hD hS hA [0, 3, 4] [28, 31, 36] rfl rfl (by decide) (by decide) (by decide) (fun u H locs hP hD hS => ?_)
                                        have hP : va_P (dC, dI) vwCl [(q49, .inr (12, [.int 0, .ref q50, .int 0, .ref q51, .int 0, .ref q52, .ref q53, .int 0, .ref q54, .int 0, .ref q55, .int (-9), .int 0, .int 0, .ref q56, .ref q57, .ref q58, .ref q59, .ref q60, .int 0, .ref q61, .ref q62, .ref q63, .int 0, .ref q64, .ref q65, .ref q66, .int 0, .ref q67])), (q52, .inl (cI, 12, .inl (fun _ => (-9)))), (q67, .inl (cI, 12, .inl (fun _ => 0)))] H := hP
                                        have hD : va_D A [(q49, .inr (12, [.int 0, .ref q50, .int 0, .ref q51, .int 0, .ref q52, .ref q53, .int 0, .ref q54, .int 0, .ref q55, .int (-9), .int 0, .int 0, .ref q56, .ref q57, .ref q58, .ref q59, .ref q60, .int 0, .ref q61, .ref q62, .ref q63, .int 0, .ref q64, .ref q65, .ref q66, .int 0, .ref q67])), (q52, .inl (cI, 12, .inl (fun _ => (-9)))), (q67, .inl (cI, 12, .inl (fun _ => 0)))] := hD
                                        refine lv_aload_n hx hb dL_law_947 rfl (lv_at hl 1 rfl) ?_
                                        refine lv_aload_n hx hb dL_law_948 rfl (lv_at hl 3 rfl) ?_
                                        refine lv_iload_n hx hb dL_law_949 rfl (lv_at hl 0 rfl) ?_
                                        refine lv_iconst (v := 1) hx hb dL_law_950 (by decide) ?_
                                        refine lv_iadd hx hb dL_law_951 (tk_i (v := 1) (by decide +kernel) ?_)
                                        refine va_sld hx hb hX hbl hbA hS (vin (by decide +kernel)) dL_law_952 (tk_i (v := a1) ha1 ?_)
                                        refine lv_aload_n hx hb dL_law_953 rfl (lv_at hl 3 rfl) ?_
                                        refine lv_iload_n hx hb dL_law_954 rfl (lv_at hl 0 rfl) ?_
                                        refine lv_iconst (v := 2) hx hb dL_law_955 (by decide) ?_
                                        refine lv_iadd hx hb dL_law_956 (tk_i (v := 2) (by decide +kernel) ?_)
                                        refine va_sld hx hb hX hbl hbA hS (vin (by decide +kernel)) dL_law_957 (tk_i (v := a2) ha2 ?_)
                                        refine lv_aload_n hx hb dL_law_958 rfl (lv_at hl 3 rfl) ?_
                                        refine lv_iload_n hx hb dL_law_959 rfl (lv_at hl 0 rfl) ?_
                                        refine lv_iconst (v := 3) hx hb dL_law_960 (by decide) ?_
                                        refine lv_iadd hx hb dL_law_961 (tk_i (v := 3) (by decide +kernel) ?_)
                                        refine va_sld hx hb hX hbl hbA hS (vin (by decide +kernel)) dL_law_962 (tk_i (v := 10) ha3 ?_)
                                        refine kcall_i (D := (dC, dI)) (S := Unit) (v := 1) (wc := [(q49, .inr (12, [.int 0, .ref q50, .int 0, .ref q51, .int 0, .ref q52, .ref q53, .int 0, .ref q54, .int 0, .ref q55, .int (-9), .int 0, .int 0, .ref q56, .ref q57, .ref q58, .ref q59, .ref q60, .int 0, .ref q61, .ref q62, .ref q63, .int 0, .ref q64, .ref q65, .ref q66, .int 0, .ref q67])), (q52, .inl (cI, 12, .inl (fun _ => (-9)))), (q67, .inl (cI, 12, .inl (fun _ => 0)))]) (wr := []) (w1 := fun _ => []) (fun hPc hDc => va_runV (As := [.int a1, .int a2, .int 10]) (rest := [.int 1]) ⟨hx, hb, hml, hown, hts⟩ (kX12_copy_62 l dC dI cI c2 q49 q52 q67 q50 q51 q53 q54 q55 q56 q57 q58 q59 q60 q61 q62 q63 q64 q65 q66 H.size a1 a2 (by omega) (by omega) (by omega) (by omega)) (cwV 3 hts gL_law_X12_copy rfl rfl rfl (by decide +kernel) ⟨Nat.le_of_ble_eq_true rfl, Nat.le_of_ble_eq_true rfl⟩) (pre_V hPc hK hDc hN (ci := 12) (q0 := 0) rfl rfl) rfl rfl hl.1 rfl (lv_room (Nat.le_of_ble_eq_true rfl)) dL_law_963 ⟨Nat.le_of_ble_eq_true rfl, Nat.le_of_ble_eq_true rfl⟩) hP hD hS hA [0, 1, 2] [] rfl rfl (by decide) (by decide) (by decide) (fun u H locs hP hD hS => ?_)
                                        have hP : va_P (dC, dI) vwCl [] H := hP
                                        have hD : va_D A [] := hD
                                        refine lv_icmp_eq (tgt := 1080) hx hb dL_law_966 (by decide) (fun _ => ?_) (fun h9 => absurd (by decide +kernel) h9)
                                        refine lv_iinc (v := 4) (lv' := [(3, .int 4), (2, .ref q49), (1, .ref q1), (0, .ref b)]) hx hb dL_law_1080 hl (k := 0) rfl (by decide +kernel) (by decide) rfl (fun ls hl => ?_)
                                        refine lv_goto (tgt := 18) hx hb dL_law_1083 (by decide) ?_
                                        refine lv_iload_n hx hb dL_law_18 rfl (lv_at hl 0 rfl) ?_
                                        refine lv_aload_n hx hb dL_law_19 rfl (lv_at hl 3 rfl) ?_
                                        refine va_slen hx hb hX hbl hbA hS dL_law_20 (tk_i (v := 4) (by decide +kernel) ?_)
                                        refine lv_iconst (v := 4) hx hb dL_law_21 (by decide) ?_
                                        refine lv_isub hx hb dL_law_22 (tk_i (v := 0) (by decide +kernel) ?_)
                                        refine lv_icmp_gt (tgt := 1086) hx hb dL_law_23 (by decide) (fun _ => ?_) (fun h9 => absurd (by decide +kernel) h9)
                                        refine lv_iconst (v := 1) hx hb dL_law_1086 (by decide) ?_
                                        refine va_forget (fun q hq => by have h9 := hS.2.2 q hq; rw [← hAe] at h9; exact h9) ?_
                                        refine W.widen (k := 600000) (n := 7302250) (by decide) (by decide) ?_
                                        exact lw_ret hx hb hr hlocks dL_law_1087
                                      ·
                                        have e_a3 : a3 = 10 := ib_eq (X := 10) (by omega) (by decide +kernel)
                                        subst e_a3
                                        refine lv_aload_n hx hb dL_law_928 rfl (lv_at hl 2 rfl) ?_
                                        refine lv_aload_n hx hb dL_law_929 rfl (lv_at hl 3 rfl) ?_
                                        refine lv_iload_n hx hb dL_law_930 rfl (lv_at hl 0 rfl) ?_
                                        refine lv_iconst (v := 1) hx hb dL_law_931 (by decide) ?_
                                        refine lv_iadd hx hb dL_law_932 (tk_i (v := 1) (by decide +kernel) ?_)
                                        refine va_sld hx hb hX hbl hbA hS (vin (by decide +kernel)) dL_law_933 (tk_i (v := a1) ha1 ?_)
                                        refine lv_aload_n hx hb dL_law_934 rfl (lv_at hl 3 rfl) ?_
                                        refine lv_iload_n hx hb dL_law_935 rfl (lv_at hl 0 rfl) ?_
                                        refine lv_iconst (v := 2) hx hb dL_law_936 (by decide) ?_
                                        refine lv_iadd hx hb dL_law_937 (tk_i (v := 2) (by decide +kernel) ?_)
                                        refine va_sld hx hb hX hbl hbA hS (vin (by decide +kernel)) dL_law_938 (tk_i (v := a2) ha2 ?_)
                                        refine lv_aload_n hx hb dL_law_939 rfl (lv_at hl 3 rfl) ?_
                                        refine lv_iload_n hx hb dL_law_940 rfl (lv_at hl 0 rfl) ?_
                                        refine lv_iconst (v := 3) hx hb dL_law_941 (by decide) ?_
                                        refine lv_iadd hx hb dL_law_942 (tk_i (v := 3) (by decide +kernel) ?_)
                                        refine va_sld hx hb hX hbl hbA hS (vin (by decide +kernel)) dL_law_943 (tk_i (v := 10) ha3 ?_)
                                        refine kcall_i (D := (dC, dI)) (S := Unit) (v := (-3)) (wc := [(q1, .inr (11, [.ref q2, .ref q4, .ref q6, .ref q18, .ref q23, .ref q28, .ref q33, .ref q36, .ref q37, .ref q40, .ref q44, .ref q48, .int 0])), (q4, .inr (10, [.ref q5, .int 0, .int 0])), (q48, .inl (cI, 5, .inl (fun _ => 0)))]) (wr := [(q49, .inr (12, [.int 0, .ref q50, .int 0, .ref q51, .int 0, .ref q52, .ref q53, .int 0, .ref q54, .int 0, .ref q55, .int (-9), .int 0, .int 0, .ref q56, .ref q57, .ref q58, .ref q59, .ref q60, .int 0, .ref q61, .ref q62, .ref q63, .int 0, .ref q64, .ref q65, .ref q66, .int 0, .ref q67])), (q50, .inl (cI, 5, .inl (fun _ => 0)))]) (w1 := fun _ => []) (fun hPc hDc => va_runV (As := [.int a1, .int a2, .int 10]) (rest := []) ⟨hx, hb, hml, hown, hts⟩ (kX11_copy_63 l dC dI cI c2 q1 q4 q48 q2 q6 q18 q23 q28 q33 q36 q37 q40 q44 q5 H.size a1 a2 (by omega) (by omega) (by omega) (by omega)) (cwV 3 hts gL_law_X11_copy rfl rfl rfl (by decide +kernel) ⟨Nat.le_of_ble_eq_true rfl, Nat.le_of_ble_eq_true rfl⟩) (pre_V hPc hK hDc hN (ci := 11) (q0 := 0) rfl rfl) rfl rfl hl.1 rfl (lv_room (Nat.le_of_ble_eq_true rfl)) dL_law_944 ⟨Nat.le_of_ble_eq_true rfl, Nat.le_of_ble_eq_true rfl⟩) hP hD hS hA [0, 3, 27] [28, 29] rfl rfl (by decide) (by decide) (by decide) (fun u H locs hP hD hS => ?_)
                                        have hP : va_P (dC, dI) vwCl [(q49, .inr (12, [.int 0, .ref q50, .int 0, .ref q51, .int 0, .ref q52, .ref q53, .int 0, .ref q54, .int 0, .ref q55, .int (-9), .int 0, .int 0, .ref q56, .ref q57, .ref q58, .ref q59, .ref q60, .int 0, .ref q61, .ref q62, .ref q63, .int 0, .ref q64, .ref q65, .ref q66, .int 0, .ref q67])), (q50, .inl (cI, 5, .inl (fun _ => 0)))] H := hP
                                        have hD : va_D A [(q49, .inr (12, [.int 0, .ref q50, .int 0, .ref q51, .int 0, .ref q52, .ref q53, .int 0, .ref q54, .int 0, .ref q55, .int (-9), .int 0, .int 0, .ref q56, .ref q57, .ref q58, .ref q59, .ref q60, .int 0, .ref q61, .ref q62, .ref q63, .int 0, .ref q64, .ref q65, .ref q66, .int 0, .ref q67])), (q50, .inl (cI, 5, .inl (fun _ => 0)))] := hD
                                        refine lv_aload_n hx hb dL_law_947 rfl (lv_at hl 1 rfl) ?_
                                        refine lv_aload_n hx hb dL_law_948 rfl (lv_at hl 3 rfl) ?_
                                        refine lv_iload_n hx hb dL_law_949 rfl (lv_at hl 0 rfl) ?_
                                        refine lv_iconst (v := 1) hx hb dL_law_950 (by decide) ?_
                                        refine lv_iadd hx hb dL_law_951 (tk_i (v := 1) (by decide +kernel) ?_)
                                        refine va_sld hx hb hX hbl hbA hS (vin (by decide +kernel)) dL_law_952 (tk_i (v := a1) ha1 ?_)
                                        refine lv_aload_n hx hb dL_law_953 rfl (lv_at hl 3 rfl) ?_
                                        refine lv_iload_n hx hb dL_law_954 rfl (lv_at hl 0 rfl) ?_
                                        refine lv_iconst (v := 2) hx hb dL_law_955 (by decide) ?_
                                        refine lv_iadd hx hb dL_law_956 (tk_i (v := 2) (by decide +kernel) ?_)
                                        refine va_sld hx hb hX hbl hbA hS (vin (by decide +kernel)) dL_law_957 (tk_i (v := a2) ha2 ?_)
                                        refine lv_aload_n hx hb dL_law_958 rfl (lv_at hl 3 rfl) ?_
                                        refine lv_iload_n hx hb dL_law_959 rfl (lv_at hl 0 rfl) ?_
                                        refine lv_iconst (v := 3) hx hb dL_law_960 (by decide) ?_
                                        refine lv_iadd hx hb dL_law_961 (tk_i (v := 3) (by decide +kernel) ?_)
                                        refine va_sld hx hb hX hbl hbA hS (vin (by decide +kernel)) dL_law_962 (tk_i (v := 10) ha3 ?_)
                                        refine kcall_i (D := (dC, dI)) (S := Unit) (v := (-3)) (wc := [(q49, .inr (12, [.int 0, .ref q50, .int 0, .ref q51, .int 0, .ref q52, .ref q53, .int 0, .ref q54, .int 0, .ref q55, .int (-9), .int 0, .int 0, .ref q56, .ref q57, .ref q58, .ref q59, .ref q60, .int 0, .ref q61, .ref q62, .ref q63, .int 0, .ref q64, .ref q65, .ref q66, .int 0, .ref q67])), (q50, .inl (cI, 5, .inl (fun _ => 0)))]) (wr := []) (w1 := fun _ => []) (fun hPc hDc => va_runV (As := [.int a1, .int a2, .int 10]) (rest := [.int (-3)]) ⟨hx, hb, hml, hown, hts⟩ (kX12_copy_63 l dC dI cI c2 q49 q50 q51 q52 q53 q54 q55 q56 q57 q58 q59 q60 q61 q62 q63 q64 q65 q66 q67 H.size a1 a2 (by omega) (by omega) (by omega) (by omega)) (cwV 3 hts gL_law_X12_copy rfl rfl rfl (by decide +kernel) ⟨Nat.le_of_ble_eq_true rfl, Nat.le_of_ble_eq_true rfl⟩) (pre_V hPc hK hDc hN (ci := 12) (q0 := 0) rfl rfl) rfl rfl hl.1 rfl (lv_room (Nat.le_of_ble_eq_true rfl)) dL_law_963 ⟨Nat.le_of_ble_eq_true rfl, Nat.le_of_ble_eq_true rfl⟩) hP hD hS hA [0, 1] [] rfl rfl (by decide) (by decide) (by decide) (fun u H locs hP hD hS => ?_)
                                        have hP : va_P (dC, dI) vwCl [] H := hP
                                        have hD : va_D A [] := hD
                                        refine lv_icmp_eq (tgt := 1080) hx hb dL_law_966 (by decide) (fun _ => ?_) (fun h9 => absurd (by decide +kernel) h9)
                                        refine lv_iinc (v := 4) (lv' := [(3, .int 4), (2, .ref q49), (1, .ref q1), (0, .ref b)]) hx hb dL_law_1080 hl (k := 0) rfl (by decide +kernel) (by decide) rfl (fun ls hl => ?_)
                                        refine lv_goto (tgt := 18) hx hb dL_law_1083 (by decide) ?_
                                        refine lv_iload_n hx hb dL_law_18 rfl (lv_at hl 0 rfl) ?_
                                        refine lv_aload_n hx hb dL_law_19 rfl (lv_at hl 3 rfl) ?_
                                        refine va_slen hx hb hX hbl hbA hS dL_law_20 (tk_i (v := 4) (by decide +kernel) ?_)
                                        refine lv_iconst (v := 4) hx hb dL_law_21 (by decide) ?_
                                        refine lv_isub hx hb dL_law_22 (tk_i (v := 0) (by decide +kernel) ?_)
                                        refine lv_icmp_gt (tgt := 1086) hx hb dL_law_23 (by decide) (fun _ => ?_) (fun h9 => absurd (by decide +kernel) h9)
                                        refine lv_iconst (v := 1) hx hb dL_law_1086 (by decide) ?_
                                        refine va_forget (fun q hq => by have h9 := hS.2.2 q hq; rw [← hAe] at h9; exact h9) ?_
                                        refine W.widen (k := 600000) (n := 7302250) (by decide) (by decide) ?_
                                        exact lw_ret hx hb hr hlocks dL_law_1087
                                    ·
                                      have e_a3 : a3 = 10 := ib_eq (X := 10) (by omega) (by decide +kernel)
                                      subst e_a3
                                      refine lv_aload_n hx hb dL_law_928 rfl (lv_at hl 2 rfl) ?_
                                      refine lv_aload_n hx hb dL_law_929 rfl (lv_at hl 3 rfl) ?_
                                      refine lv_iload_n hx hb dL_law_930 rfl (lv_at hl 0 rfl) ?_
                                      refine lv_iconst (v := 1) hx hb dL_law_931 (by decide) ?_
                                      refine lv_iadd hx hb dL_law_932 (tk_i (v := 1) (by decide +kernel) ?_)
                                      refine va_sld hx hb hX hbl hbA hS (vin (by decide +kernel)) dL_law_933 (tk_i (v := a1) ha1 ?_)
                                      refine lv_aload_n hx hb dL_law_934 rfl (lv_at hl 3 rfl) ?_
                                      refine lv_iload_n hx hb dL_law_935 rfl (lv_at hl 0 rfl) ?_
                                      refine lv_iconst (v := 2) hx hb dL_law_936 (by decide) ?_
                                      refine lv_iadd hx hb dL_law_937 (tk_i (v := 2) (by decide +kernel) ?_)
                                      refine va_sld hx hb hX hbl hbA hS (vin (by decide +kernel)) dL_law_938 (tk_i (v := a2) ha2 ?_)
                                      refine lv_aload_n hx hb dL_law_939 rfl (lv_at hl 3 rfl) ?_
                                      refine lv_iload_n hx hb dL_law_940 rfl (lv_at hl 0 rfl) ?_
                                      refine lv_iconst (v := 3) hx hb dL_law_941 (by decide) ?_
                                      refine lv_iadd hx hb dL_law_942 (tk_i (v := 3) (by decide +kernel) ?_)
                                      refine va_sld hx hb hX hbl hbA hS (vin (by decide +kernel)) dL_law_943 (tk_i (v := 10) ha3 ?_)
                                      refine kcall_i (D := (dC, dI)) (S := Unit) (v := (-3)) (wc := [(q1, .inr (11, [.ref q2, .ref q4, .ref q6, .ref q18, .ref q23, .ref q28, .ref q33, .ref q36, .ref q37, .ref q40, .ref q44, .ref q48, .int 0])), (q4, .inr (10, [.ref q5, .int 0, .int 0])), (q48, .inl (cI, 5, .inl (fun _ => 0)))]) (wr := [(q49, .inr (12, [.int 0, .ref q50, .int 0, .ref q51, .int 0, .ref q52, .ref q53, .int 0, .ref q54, .int 0, .ref q55, .int (-9), .int 0, .int 0, .ref q56, .ref q57, .ref q58, .ref q59, .ref q60, .int 0, .ref q61, .ref q62, .ref q63, .int 0, .ref q64, .ref q65, .ref q66, .int 0, .ref q67])), (q50, .inl (cI, 5, .inl (fun _ => 0)))]) (w1 := fun _ => []) (fun hPc hDc => va_runV (As := [.int a1, .int a2, .int 10]) (rest := []) ⟨hx, hb, hml, hown, hts⟩ (kX11_copy_64 l dC dI cI c2 q1 q4 q48 q2 q6 q18 q23 q28 q33 q36 q37 q40 q44 q5 H.size a1 a2 (by omega) (by omega) (by omega) (by omega)) (cwV 3 hts gL_law_X11_copy rfl rfl rfl (by decide +kernel) ⟨Nat.le_of_ble_eq_true rfl, Nat.le_of_ble_eq_true rfl⟩) (pre_V hPc hK hDc hN (ci := 11) (q0 := 0) rfl rfl) rfl rfl hl.1 rfl (lv_room (Nat.le_of_ble_eq_true rfl)) dL_law_944 ⟨Nat.le_of_ble_eq_true rfl, Nat.le_of_ble_eq_true rfl⟩) hP hD hS hA [0, 3, 27] [28, 29] rfl rfl (by decide) (by decide) (by decide) (fun u H locs hP hD hS => ?_)
                                      have hP : va_P (dC, dI) vwCl [(q49, .inr (12, [.int 0, .ref q50, .int 0, .ref q51, .int 0, .ref q52, .ref q53, .int 0, .ref q54, .int 0, .ref q55, .int (-9), .int 0, .int 0, .ref q56, .ref q57, .ref q58, .ref q59, .ref q60, .int 0, .ref q61, .ref q62, .ref q63, .int 0, .ref q64, .ref q65, .ref q66, .int 0, .ref q67])), (q50, .inl (cI, 5, .inl (fun _ => 0)))] H := hP
                                      have hD : va_D A [(q49, .inr (12, [.int 0, .ref q50, .int 0, .ref q51, .int 0, .ref q52, .ref q53, .int 0, .ref q54, .int 0, .ref q55, .int (-9), .int 0, .int 0, .ref q56, .ref q57, .ref q58, .ref q59, .ref q60, .int 0, .ref q61, .ref q62, .ref q63, .int 0, .ref q64, .ref q65, .ref q66, .int 0, .ref q67])), (q50, .inl (cI, 5, .inl (fun _ => 0)))] := hD
                                      refine lv_aload_n hx hb dL_law_947 rfl (lv_at hl 1 rfl) ?_
                                      refine lv_aload_n hx hb dL_law_948 rfl (lv_at hl 3 rfl) ?_
                                      refine lv_iload_n hx hb dL_law_949 rfl (lv_at hl 0 rfl) ?_
                                      refine lv_iconst (v := 1) hx hb dL_law_950 (by decide) ?_
                                      refine lv_iadd hx hb dL_law_951 (tk_i (v := 1) (by decide +kernel) ?_)
                                      refine va_sld hx hb hX hbl hbA hS (vin (by decide +kernel)) dL_law_952 (tk_i (v := a1) ha1 ?_)
                                      refine lv_aload_n hx hb dL_law_953 rfl (lv_at hl 3 rfl) ?_
                                      refine lv_iload_n hx hb dL_law_954 rfl (lv_at hl 0 rfl) ?_
                                      refine lv_iconst (v := 2) hx hb dL_law_955 (by decide) ?_
                                      refine lv_iadd hx hb dL_law_956 (tk_i (v := 2) (by decide +kernel) ?_)
                                      refine va_sld hx hb hX hbl hbA hS (vin (by decide +kernel)) dL_law_957 (tk_i (v := a2) ha2 ?_)
                                      refine lv_aload_n hx hb dL_law_958 rfl (lv_at hl 3 rfl) ?_
                                      refine lv_iload_n hx hb dL_law_959 rfl (lv_at hl 0 rfl) ?_
                                      refine lv_iconst (v := 3) hx hb dL_law_960 (by decide) ?_
                                      refine lv_iadd hx hb dL_law_961 (tk_i (v := 3) (by decide +kernel) ?_)
                                      refine va_sld hx hb hX hbl hbA hS (vin (by decide +kernel)) dL_law_962 (tk_i (v := 10) ha3 ?_)
                                      refine kcall_i (D := (dC, dI)) (S := Unit) (v := (-3)) (wc := [(q49, .inr (12, [.int 0, .ref q50, .int 0, .ref q51, .int 0, .ref q52, .ref q53, .int 0, .ref q54, .int 0, .ref q55, .int (-9), .int 0, .int 0, .ref q56, .ref q57, .ref q58, .ref q59, .ref q60, .int 0, .ref q61, .ref q62, .ref q63, .int 0, .ref q64, .ref q65, .ref q66, .int 0, .ref q67])), (q50, .inl (cI, 5, .inl (fun _ => 0)))]) (wr := []) (w1 := fun _ => []) (fun hPc hDc => va_runV (As := [.int a1, .int a2, .int 10]) (rest := [.int (-3)]) ⟨hx, hb, hml, hown, hts⟩ (kX12_copy_64 l dC dI cI c2 q49 q50 q51 q52 q53 q54 q55 q56 q57 q58 q59 q60 q61 q62 q63 q64 q65 q66 q67 H.size a1 a2 (by omega) (by omega) (by omega) (by omega)) (cwV 3 hts gL_law_X12_copy rfl rfl rfl (by decide +kernel) ⟨Nat.le_of_ble_eq_true rfl, Nat.le_of_ble_eq_true rfl⟩) (pre_V hPc hK hDc hN (ci := 12) (q0 := 0) rfl rfl) rfl rfl hl.1 rfl (lv_room (Nat.le_of_ble_eq_true rfl)) dL_law_963 ⟨Nat.le_of_ble_eq_true rfl, Nat.le_of_ble_eq_true rfl⟩) hP hD hS hA [0, 1] [] rfl rfl (by decide) (by decide) (by decide) (fun u H locs hP hD hS => ?_)
                                      have hP : va_P (dC, dI) vwCl [] H := hP
                                      have hD : va_D A [] := hD
                                      refine lv_icmp_eq (tgt := 1080) hx hb dL_law_966 (by decide) (fun _ => ?_) (fun h9 => absurd (by decide +kernel) h9)
                                      refine lv_iinc (v := 4) (lv' := [(3, .int 4), (2, .ref q49), (1, .ref q1), (0, .ref b)]) hx hb dL_law_1080 hl (k := 0) rfl (by decide +kernel) (by decide) rfl (fun ls hl => ?_)
                                      refine lv_goto (tgt := 18) hx hb dL_law_1083 (by decide) ?_
                                      refine lv_iload_n hx hb dL_law_18 rfl (lv_at hl 0 rfl) ?_
                                      refine lv_aload_n hx hb dL_law_19 rfl (lv_at hl 3 rfl) ?_
                                      refine va_slen hx hb hX hbl hbA hS dL_law_20 (tk_i (v := 4) (by decide +kernel) ?_)
                                      refine lv_iconst (v := 4) hx hb dL_law_21 (by decide) ?_
                                      refine lv_isub hx hb dL_law_22 (tk_i (v := 0) (by decide +kernel) ?_)
                                      refine lv_icmp_gt (tgt := 1086) hx hb dL_law_23 (by decide) (fun _ => ?_) (fun h9 => absurd (by decide +kernel) h9)
                                      refine lv_iconst (v := 1) hx hb dL_law_1086 (by decide) ?_
                                      refine va_forget (fun q hq => by have h9 := hS.2.2 q hq; rw [← hAe] at h9; exact h9) ?_
                                      refine W.widen (k := 600000) (n := 7302250) (by decide) (by decide) ?_
                                      exact lw_ret hx hb hr hlocks dL_law_1087
                                ·
                                  rcases (show a2.toInt ≤ (-1) ∨ 0 ≤ a2.toInt by omega) with g_a2_0 | g_a2_0
                                  ·
                                    have e_a3 : a3 = 10 := ib_eq (X := 10) (by omega) (by decide +kernel)
                                    subst e_a3
                                    refine lv_aload_n hx hb dL_law_928 rfl (lv_at hl 2 rfl) ?_
                                    refine lv_aload_n hx hb dL_law_929 rfl (lv_at hl 3 rfl) ?_
                                    refine lv_iload_n hx hb dL_law_930 rfl (lv_at hl 0 rfl) ?_
                                    refine lv_iconst (v := 1) hx hb dL_law_931 (by decide) ?_
                                    refine lv_iadd hx hb dL_law_932 (tk_i (v := 1) (by decide +kernel) ?_)
                                    refine va_sld hx hb hX hbl hbA hS (vin (by decide +kernel)) dL_law_933 (tk_i (v := a1) ha1 ?_)
                                    refine lv_aload_n hx hb dL_law_934 rfl (lv_at hl 3 rfl) ?_
                                    refine lv_iload_n hx hb dL_law_935 rfl (lv_at hl 0 rfl) ?_
                                    refine lv_iconst (v := 2) hx hb dL_law_936 (by decide) ?_
                                    refine lv_iadd hx hb dL_law_937 (tk_i (v := 2) (by decide +kernel) ?_)
                                    refine va_sld hx hb hX hbl hbA hS (vin (by decide +kernel)) dL_law_938 (tk_i (v := a2) ha2 ?_)
                                    refine lv_aload_n hx hb dL_law_939 rfl (lv_at hl 3 rfl) ?_
                                    refine lv_iload_n hx hb dL_law_940 rfl (lv_at hl 0 rfl) ?_
                                    refine lv_iconst (v := 3) hx hb dL_law_941 (by decide) ?_
                                    refine lv_iadd hx hb dL_law_942 (tk_i (v := 3) (by decide +kernel) ?_)
                                    refine va_sld hx hb hX hbl hbA hS (vin (by decide +kernel)) dL_law_943 (tk_i (v := 10) ha3 ?_)
                                    refine kcall_i (D := (dC, dI)) (S := Unit) (v := (-3)) (wc := [(q1, .inr (11, [.ref q2, .ref q4, .ref q6, .ref q18, .ref q23, .ref q28, .ref q33, .ref q36, .ref q37, .ref q40, .ref q44, .ref q48, .int 0])), (q4, .inr (10, [.ref q5, .int 0, .int 0])), (q48, .inl (cI, 5, .inl (fun _ => 0)))]) (wr := [(q49, .inr (12, [.int 0, .ref q50, .int 0, .ref q51, .int 0, .ref q52, .ref q53, .int 0, .ref q54, .int 0, .ref q55, .int (-9), .int 0, .int 0, .ref q56, .ref q57, .ref q58, .ref q59, .ref q60, .int 0, .ref q61, .ref q62, .ref q63, .int 0, .ref q64, .ref q65, .ref q66, .int 0, .ref q67])), (q50, .inl (cI, 5, .inl (fun _ => 0)))]) (w1 := fun _ => []) (fun hPc hDc => va_runV (As := [.int a1, .int a2, .int 10]) (rest := []) ⟨hx, hb, hml, hown, hts⟩ (kX11_copy_65 l dC dI cI c2 q1 q4 q48 q2 q6 q18 q23 q28 q33 q36 q37 q40 q44 q5 H.size a1 a2 (by omega) (by omega) (by omega) (by omega)) (cwV 3 hts gL_law_X11_copy rfl rfl rfl (by decide +kernel) ⟨Nat.le_of_ble_eq_true rfl, Nat.le_of_ble_eq_true rfl⟩) (pre_V hPc hK hDc hN (ci := 11) (q0 := 0) rfl rfl) rfl rfl hl.1 rfl (lv_room (Nat.le_of_ble_eq_true rfl)) dL_law_944 ⟨Nat.le_of_ble_eq_true rfl, Nat.le_of_ble_eq_true rfl⟩) hP hD hS hA [0, 3, 27] [28, 29] rfl rfl (by decide) (by decide) (by decide) (fun u H locs hP hD hS => ?_)
                                    have hP : va_P (dC, dI) vwCl [(q49, .inr (12, [.int 0, .ref q50, .int 0, .ref q51, .int 0, .ref q52, .ref q53, .int 0, .ref q54, .int 0, .ref q55, .int (-9), .int 0, .int 0, .ref q56, .ref q57, .ref q58, .ref q59, .ref q60, .int 0, .ref q61, .ref q62, .ref q63, .int 0, .ref q64, .ref q65, .ref q66, .int 0, .ref q67])), (q50, .inl (cI, 5, .inl (fun _ => 0)))] H := hP
                                    have hD : va_D A [(q49, .inr (12, [.int 0, .ref q50, .int 0, .ref q51, .int 0, .ref q52, .ref q53, .int 0, .ref q54, .int 0, .ref q55, .int (-9), .int 0, .int 0, .ref q56, .ref q57, .ref q58, .ref q59, .ref q60, .int 0, .ref q61, .ref q62, .ref q63, .int 0, .ref q64, .ref q65, .ref q66, .int 0, .ref q67])), (q50, .inl (cI, 5, .inl (fun _ => 0)))] := hD
                                    refine lv_aload_n hx hb dL_law_947 rfl (lv_at hl 1 rfl) ?_
                                    refine lv_aload_n hx hb dL_law_948 rfl (lv_at hl 3 rfl) ?_
                                    refine lv_iload_n hx hb dL_law_949 rfl (lv_at hl 0 rfl) ?_
                                    refine lv_iconst (v := 1) hx hb dL_law_950 (by decide) ?_
                                    refine lv_iadd hx hb dL_law_951 (tk_i (v := 1) (by decide +kernel) ?_)
                                    refine va_sld hx hb hX hbl hbA hS (vin (by decide +kernel)) dL_law_952 (tk_i (v := a1) ha1 ?_)
                                    refine lv_aload_n hx hb dL_law_953 rfl (lv_at hl 3 rfl) ?_
                                    refine lv_iload_n hx hb dL_law_954 rfl (lv_at hl 0 rfl) ?_
                                    refine lv_iconst (v := 2) hx hb dL_law_955 (by decide) ?_
                                    refine lv_iadd hx hb dL_law_956 (tk_i (v := 2) (by decide +kernel) ?_)
                                    refine va_sld hx hb hX hbl hbA hS (vin (by decide +kernel)) dL_law_957 (tk_i (v := a2) ha2 ?_)
                                    refine lv_aload_n hx hb dL_law_958 rfl (lv_at hl 3 rfl) ?_
                                    refine lv_iload_n hx hb dL_law_959 rfl (lv_at hl 0 rfl) ?_
                                    refine lv_iconst (v := 3) hx hb dL_law_960 (by decide) ?_
                                    refine lv_iadd hx hb dL_law_961 (tk_i (v := 3) (by decide +kernel) ?_)
                                    refine va_sld hx hb hX hbl hbA hS (vin (by decide +kernel)) dL_law_962 (tk_i (v := 10) ha3 ?_)
                                    refine kcall_i (D := (dC, dI)) (S := Unit) (v := (-3)) (wc := [(q49, .inr (12, [.int 0, .ref q50, .int 0, .ref q51, .int 0, .ref q52, .ref q53, .int 0, .ref q54, .int 0, .ref q55, .int (-9), .int 0, .int 0, .ref q56, .ref q57, .ref q58, .ref q59, .ref q60, .int 0, .ref q61, .ref q62, .ref q63, .int 0, .ref q64, .ref q65, .ref q66, .int 0, .ref q67])), (q50, .inl (cI, 5, .inl (fun _ => 0)))]) (wr := []) (w1 := fun _ => []) (fun hPc hDc => va_runV (As := [.int a1, .int a2, .int 10]) (rest := [.int (-3)]) ⟨hx, hb, hml, hown, hts⟩ (kX12_copy_65 l dC dI cI c2 q49 q50 q51 q52 q53 q54 q55 q56 q57 q58 q59 q60 q61 q62 q63 q64 q65 q66 q67 H.size a1 a2 (by omega) (by omega) (by omega) (by omega)) (cwV 3 hts gL_law_X12_copy rfl rfl rfl (by decide +kernel) ⟨Nat.le_of_ble_eq_true rfl, Nat.le_of_ble_eq_true rfl⟩) (pre_V hPc hK hDc hN (ci := 12) (q0 := 0) rfl rfl) rfl rfl hl.1 rfl (lv_room (Nat.le_of_ble_eq_true rfl)) dL_law_963 ⟨Nat.le_of_ble_eq_true rfl, Nat.le_of_ble_eq_true rfl⟩) hP hD hS hA [0, 1] [] rfl rfl (by decide) (by decide) (by decide) (fun u H locs hP hD hS => ?_)
                                    have hP : va_P (dC, dI) vwCl [] H := hP
                                    have hD : va_D A [] := hD
                                    refine lv_icmp_eq (tgt := 1080) hx hb dL_law_966 (by decide) (fun _ => ?_) (fun h9 => absurd (by decide +kernel) h9)
                                    refine lv_iinc (v := 4) (lv' := [(3, .int 4), (2, .ref q49), (1, .ref q1), (0, .ref b)]) hx hb dL_law_1080 hl (k := 0) rfl (by decide +kernel) (by decide) rfl (fun ls hl => ?_)
                                    refine lv_goto (tgt := 18) hx hb dL_law_1083 (by decide) ?_
                                    refine lv_iload_n hx hb dL_law_18 rfl (lv_at hl 0 rfl) ?_
                                    refine lv_aload_n hx hb dL_law_19 rfl (lv_at hl 3 rfl) ?_
                                    refine va_slen hx hb hX hbl hbA hS dL_law_20 (tk_i (v := 4) (by decide +kernel) ?_)
                                    refine lv_iconst (v := 4) hx hb dL_law_21 (by decide) ?_
                                    refine lv_isub hx hb dL_law_22 (tk_i (v := 0) (by decide +kernel) ?_)
                                    refine lv_icmp_gt (tgt := 1086) hx hb dL_law_23 (by decide) (fun _ => ?_) (fun h9 => absurd (by decide +kernel) h9)
                                    refine lv_iconst (v := 1) hx hb dL_law_1086 (by decide) ?_
                                    refine va_forget (fun q hq => by have h9 := hS.2.2 q hq; rw [← hAe] at h9; exact h9) ?_
                                    refine W.widen (k := 600000) (n := 7302250) (by decide) (by decide) ?_
                                    exact lw_ret hx hb hr hlocks dL_law_1087
                                  ·
                                    have e_a3 : a3 = 10 := ib_eq (X := 10) (by omega) (by decide +kernel)
                                    subst e_a3
                                    refine lv_aload_n hx hb dL_law_928 rfl (lv_at hl 2 rfl) ?_
                                    refine lv_aload_n hx hb dL_law_929 rfl (lv_at hl 3 rfl) ?_
                                    refine lv_iload_n hx hb dL_law_930 rfl (lv_at hl 0 rfl) ?_
                                    refine lv_iconst (v := 1) hx hb dL_law_931 (by decide) ?_
                                    refine lv_iadd hx hb dL_law_932 (tk_i (v := 1) (by decide +kernel) ?_)
                                    refine va_sld hx hb hX hbl hbA hS (vin (by decide +kernel)) dL_law_933 (tk_i (v := a1) ha1 ?_)
                                    refine lv_aload_n hx hb dL_law_934 rfl (lv_at hl 3 rfl) ?_
                                    refine lv_iload_n hx hb dL_law_935 rfl (lv_at hl 0 rfl) ?_
                                    refine lv_iconst (v := 2) hx hb dL_law_936 (by decide) ?_
                                    refine lv_iadd hx hb dL_law_937 (tk_i (v := 2) (by decide +kernel) ?_)
                                    refine va_sld hx hb hX hbl hbA hS (vin (by decide +kernel)) dL_law_938 (tk_i (v := a2) ha2 ?_)
                                    refine lv_aload_n hx hb dL_law_939 rfl (lv_at hl 3 rfl) ?_
                                    refine lv_iload_n hx hb dL_law_940 rfl (lv_at hl 0 rfl) ?_
                                    refine lv_iconst (v := 3) hx hb dL_law_941 (by decide) ?_
                                    refine lv_iadd hx hb dL_law_942 (tk_i (v := 3) (by decide +kernel) ?_)
                                    refine va_sld hx hb hX hbl hbA hS (vin (by decide +kernel)) dL_law_943 (tk_i (v := 10) ha3 ?_)
                                    refine kcall_i (D := (dC, dI)) (S := Unit) (v := (-3)) (wc := [(q1, .inr (11, [.ref q2, .ref q4, .ref q6, .ref q18, .ref q23, .ref q28, .ref q33, .ref q36, .ref q37, .ref q40, .ref q44, .ref q48, .int 0])), (q4, .inr (10, [.ref q5, .int 0, .int 0])), (q48, .inl (cI, 5, .inl (fun _ => 0)))]) (wr := [(q49, .inr (12, [.int 0, .ref q50, .int 0, .ref q51, .int 0, .ref q52, .ref q53, .int 0, .ref q54, .int 0, .ref q55, .int (-9), .int 0, .int 0, .ref q56, .ref q57, .ref q58, .ref q59, .ref q60, .int 0, .ref q61, .ref q62, .ref q63, .int 0, .ref q64, .ref q65, .ref q66, .int 0, .ref q67])), (q50, .inl (cI, 5, .inl (fun _ => 0)))]) (w1 := fun _ => []) (fun hPc hDc => va_runV (As := [.int a1, .int a2, .int 10]) (rest := []) ⟨hx, hb, hml, hown, hts⟩ (kX11_copy_66 l dC dI cI c2 q1 q4 q48 q2 q6 q18 q23 q28 q33 q36 q37 q40 q44 q5 H.size a1 a2 (by omega) (by omega) (by omega) (by omega)) (cwV 3 hts gL_law_X11_copy rfl rfl rfl (by decide +kernel) ⟨Nat.le_of_ble_eq_true rfl, Nat.le_of_ble_eq_true rfl⟩) (pre_V hPc hK hDc hN (ci := 11) (q0 := 0) rfl rfl) rfl rfl hl.1 rfl (lv_room (Nat.le_of_ble_eq_true rfl)) dL_law_944 ⟨Nat.le_of_ble_eq_true rfl, Nat.le_of_ble_eq_true rfl⟩) hP hD hS hA [0, 3, 27] [28, 29] rfl rfl (by decide) (by decide) (by decide) (fun u H locs hP hD hS => ?_)
                                    have hP : va_P (dC, dI) vwCl [(q49, .inr (12, [.int 0, .ref q50, .int 0, .ref q51, .int 0, .ref q52, .ref q53, .int 0, .ref q54, .int 0, .ref q55, .int (-9), .int 0, .int 0, .ref q56, .ref q57, .ref q58, .ref q59, .ref q60, .int 0, .ref q61, .ref q62, .ref q63, .int 0, .ref q64, .ref q65, .ref q66, .int 0, .ref q67])), (q50, .inl (cI, 5, .inl (fun _ => 0)))] H := hP
                                    have hD : va_D A [(q49, .inr (12, [.int 0, .ref q50, .int 0, .ref q51, .int 0, .ref q52, .ref q53, .int 0, .ref q54, .int 0, .ref q55, .int (-9), .int 0, .int 0, .ref q56, .ref q57, .ref q58, .ref q59, .ref q60, .int 0, .ref q61, .ref q62, .ref q63, .int 0, .ref q64, .ref q65, .ref q66, .int 0, .ref q67])), (q50, .inl (cI, 5, .inl (fun _ => 0)))] := hD
                                    refine lv_aload_n hx hb dL_law_947 rfl (lv_at hl 1 rfl) ?_
                                    refine lv_aload_n hx hb dL_law_948 rfl (lv_at hl 3 rfl) ?_
                                    refine lv_iload_n hx hb dL_law_949 rfl (lv_at hl 0 rfl) ?_
                                    refine lv_iconst (v := 1) hx hb dL_law_950 (by decide) ?_
                                    refine lv_iadd hx hb dL_law_951 (tk_i (v := 1) (by decide +kernel) ?_)
                                    refine va_sld hx hb hX hbl hbA hS (vin (by decide +kernel)) dL_law_952 (tk_i (v := a1) ha1 ?_)
                                    refine lv_aload_n hx hb dL_law_953 rfl (lv_at hl 3 rfl) ?_
                                    refine lv_iload_n hx hb dL_law_954 rfl (lv_at hl 0 rfl) ?_
                                    refine lv_iconst (v := 2) hx hb dL_law_955 (by decide) ?_
                                    refine lv_iadd hx hb dL_law_956 (tk_i (v := 2) (by decide +kernel) ?_)
                                    refine va_sld hx hb hX hbl hbA hS (vin (by decide +kernel)) dL_law_957 (tk_i (v := a2) ha2 ?_)
                                    refine lv_aload_n hx hb dL_law_958 rfl (lv_at hl 3 rfl) ?_
                                    refine lv_iload_n hx hb dL_law_959 rfl (lv_at hl 0 rfl) ?_
                                    refine lv_iconst (v := 3) hx hb dL_law_960 (by decide) ?_
                                    refine lv_iadd hx hb dL_law_961 (tk_i (v := 3) (by decide +kernel) ?_)
                                    refine va_sld hx hb hX hbl hbA hS (vin (by decide +kernel)) dL_law_962 (tk_i (v := 10) ha3 ?_)
                                    refine kcall_i (D := (dC, dI)) (S := Unit) (v := (-3)) (wc := [(q49, .inr (12, [.int 0, .ref q50, .int 0, .ref q51, .int 0, .ref q52, .ref q53, .int 0, .ref q54, .int 0, .ref q55, .int (-9), .int 0, .int 0, .ref q56, .ref q57, .ref q58, .ref q59, .ref q60, .int 0, .ref q61, .ref q62, .ref q63, .int 0, .ref q64, .ref q65, .ref q66, .int 0, .ref q67])), (q50, .inl (cI, 5, .inl (fun _ => 0)))]) (wr := []) (w1 := fun _ => []) (fun hPc hDc => va_runV (As := [.int a1, .int a2, .int 10]) (rest := [.int (-3)]) ⟨hx, hb, hml, hown, hts⟩ (kX12_copy_66 l dC dI cI c2 q49 q50 q51 q52 q53 q54 q55 q56 q57 q58 q59 q60 q61 q62 q63 q64 q65 q66 q67 H.size a1 a2 (by omega) (by omega) (by omega) (by omega)) (cwV 3 hts gL_law_X12_copy rfl rfl rfl (by decide +kernel) ⟨Nat.le_of_ble_eq_true rfl, Nat.le_of_ble_eq_true rfl⟩) (pre_V hPc hK hDc hN (ci := 12) (q0 := 0) rfl rfl) rfl rfl hl.1 rfl (lv_room (Nat.le_of_ble_eq_true rfl)) dL_law_963 ⟨Nat.le_of_ble_eq_true rfl, Nat.le_of_ble_eq_true rfl⟩) hP hD hS hA [0, 1] [] rfl rfl (by decide) (by decide) (by decide) (fun u H locs hP hD hS => ?_)
                                    have hP : va_P (dC, dI) vwCl [] H := hP
                                    have hD : va_D A [] := hD
                                    refine lv_icmp_eq (tgt := 1080) hx hb dL_law_966 (by decide) (fun _ => ?_) (fun h9 => absurd (by decide +kernel) h9)
                                    refine lv_iinc (v := 4) (lv' := [(3, .int 4), (2, .ref q49), (1, .ref q1), (0, .ref b)]) hx hb dL_law_1080 hl (k := 0) rfl (by decide +kernel) (by decide) rfl (fun ls hl => ?_)
                                    refine lv_goto (tgt := 18) hx hb dL_law_1083 (by decide) ?_
                                    refine lv_iload_n hx hb dL_law_18 rfl (lv_at hl 0 rfl) ?_
                                    refine lv_aload_n hx hb dL_law_19 rfl (lv_at hl 3 rfl) ?_
                                    refine va_slen hx hb hX hbl hbA hS dL_law_20 (tk_i (v := 4) (by decide +kernel) ?_)
                                    refine lv_iconst (v := 4) hx hb dL_law_21 (by decide) ?_
                                    refine lv_isub hx hb dL_law_22 (tk_i (v := 0) (by decide +kernel) ?_)
                                    refine lv_icmp_gt (tgt := 1086) hx hb dL_law_23 (by decide) (fun _ => ?_) (fun h9 => absurd (by decide +kernel) h9)
                                    refine lv_iconst (v := 1) hx hb dL_law_1086 (by decide) ?_
                                    refine va_forget (fun q hq => by have h9 := hS.2.2 q hq; rw [← hAe] at h9; exact h9) ?_
                                    refine W.widen (k := 600000) (n := 7302250) (by decide) (by decide) ?_
                                    exact lw_ret hx hb hr hlocks dL_law_1087
                              ·
                                rcases (show a3.toInt ≤ 11 ∨ 12 ≤ a3.toInt by omega) with g_a3_12 | g_a3_12
                                ·
                                  rcases (show a1.toInt ≤ 1 ∨ 2 ≤ a1.toInt by omega) with g_a1_2 | g_a1_2
                                  ·
                                    rcases (show a2.toInt ≤ (-1) ∨ 0 ≤ a2.toInt by omega) with g_a2_0 | g_a2_0
                                    ·
                                      have e_a3 : a3 = 11 := ib_eq (X := 11) (by omega) (by decide +kernel)
                                      subst e_a3
                                      refine lv_aload_n hx hb dL_law_928 rfl (lv_at hl 2 rfl) ?_
                                      refine lv_aload_n hx hb dL_law_929 rfl (lv_at hl 3 rfl) ?_
                                      refine lv_iload_n hx hb dL_law_930 rfl (lv_at hl 0 rfl) ?_
                                      refine lv_iconst (v := 1) hx hb dL_law_931 (by decide) ?_
                                      refine lv_iadd hx hb dL_law_932 (tk_i (v := 1) (by decide +kernel) ?_)
                                      refine va_sld hx hb hX hbl hbA hS (vin (by decide +kernel)) dL_law_933 (tk_i (v := a1) ha1 ?_)
                                      refine lv_aload_n hx hb dL_law_934 rfl (lv_at hl 3 rfl) ?_
                                      refine lv_iload_n hx hb dL_law_935 rfl (lv_at hl 0 rfl) ?_
                                      refine lv_iconst (v := 2) hx hb dL_law_936 (by decide) ?_
                                      refine lv_iadd hx hb dL_law_937 (tk_i (v := 2) (by decide +kernel) ?_)
                                      refine va_sld hx hb hX hbl hbA hS (vin (by decide +kernel)) dL_law_938 (tk_i (v := a2) ha2 ?_)
                                      refine lv_aload_n hx hb dL_law_939 rfl (lv_at hl 3 rfl) ?_
                                      refine lv_iload_n hx hb dL_law_940 rfl (lv_at hl 0 rfl) ?_
                                      refine lv_iconst (v := 3) hx hb dL_law_941 (by decide) ?_
                                      refine lv_iadd hx hb dL_law_942 (tk_i (v := 3) (by decide +kernel) ?_)
                                      refine va_sld hx hb hX hbl hbA hS (vin (by decide +kernel)) dL_law_943 (tk_i (v := 11) ha3 ?_)
                                      refine kcall_i (D := (dC, dI)) (S := Unit) (v := (-3)) (wc := [(q1, .inr (11, [.ref q2, .ref q4, .ref q6, .ref q18, .ref q23, .ref q28, .ref q33, .ref q36, .ref q37, .ref q40, .ref q44, .ref q48, .int 0])), (q4, .inr (10, [.ref q5, .int 0, .int 0])), (q48, .inl (cI, 5, .inl (fun _ => 0)))]) (wr := [(q49, .inr (12, [.int 0, .ref q50, .int 0, .ref q51, .int 0, .ref q52, .ref q53, .int 0, .ref q54, .int 0, .ref q55, .int (-9), .int 0, .int 0, .ref q56, .ref q57, .ref q58, .ref q59, .ref q60, .int 0, .ref q61, .ref q62, .ref q63, .int 0, .ref q64, .ref q65, .ref q66, .int 0, .ref q67])), (q50, .inl (cI, 5, .inl (fun _ => 0)))]) (w1 := fun _ => []) (fun hPc hDc => va_runV (As := [.int a1, .int a2, .int 11]) (rest := []) ⟨hx, hb, hml, hown, hts⟩ (kX11_copy_67 l dC dI cI c2 q1 q4 q48 q2 q6 q18 q23 q28 q33 q36 q37 q40 q44 q5 H.size a1 a2 (by omega) (by omega) (by omega) (by omega)) (cwV 3 hts gL_law_X11_copy rfl rfl rfl (by decide +kernel) ⟨Nat.le_of_ble_eq_true rfl, Nat.le_of_ble_eq_true rfl⟩) (pre_V hPc hK hDc hN (ci := 11) (q0 := 0) rfl rfl) rfl rfl hl.1 rfl (lv_room (Nat.le_of_ble_eq_true rfl)) dL_law_944 ⟨Nat.le_of_ble_eq_true rfl, Nat.le_of_ble_eq_true rfl⟩) hP hD hS hA [0, 3, 27] [28, 29] rfl rfl (by decide) (by decide) (by decide) (fun u H locs hP hD hS => ?_)
                                      have hP : va_P (dC, dI) vwCl [(q49, .inr (12, [.int 0, .ref q50, .int 0, .ref q51, .int 0, .ref q52, .ref q53, .int 0, .ref q54, .int 0, .ref q55, .int (-9), .int 0, .int 0, .ref q56, .ref q57, .ref q58, .ref q59, .ref q60, .int 0, .ref q61, .ref q62, .ref q63, .int 0, .ref q64, .ref q65, .ref q66, .int 0, .ref q67])), (q50, .inl (cI, 5, .inl (fun _ => 0)))] H := hP
                                      have hD : va_D A [(q49, .inr (12, [.int 0, .ref q50, .int 0, .ref q51, .int 0, .ref q52, .ref q53, .int 0, .ref q54, .int 0, .ref q55, .int (-9), .int 0, .int 0, .ref q56, .ref q57, .ref q58, .ref q59, .ref q60, .int 0, .ref q61, .ref q62, .ref q63, .int 0, .ref q64, .ref q65, .ref q66, .int 0, .ref q67])), (q50, .inl (cI, 5, .inl (fun _ => 0)))] := hD
                                      refine lv_aload_n hx hb dL_law_947 rfl (lv_at hl 1 rfl) ?_
                                      refine lv_aload_n hx hb dL_law_948 rfl (lv_at hl 3 rfl) ?_
                                      refine lv_iload_n hx hb dL_law_949 rfl (lv_at hl 0 rfl) ?_
                                      refine lv_iconst (v := 1) hx hb dL_law_950 (by decide) ?_
                                      refine lv_iadd hx hb dL_law_951 (tk_i (v := 1) (by decide +kernel) ?_)
                                      refine va_sld hx hb hX hbl hbA hS (vin (by decide +kernel)) dL_law_952 (tk_i (v := a1) ha1 ?_)
                                      refine lv_aload_n hx hb dL_law_953 rfl (lv_at hl 3 rfl) ?_
                                      refine lv_iload_n hx hb dL_law_954 rfl (lv_at hl 0 rfl) ?_
                                      refine lv_iconst (v := 2) hx hb dL_law_955 (by decide) ?_
                                      refine lv_iadd hx hb dL_law_956 (tk_i (v := 2) (by decide +kernel) ?_)
                                      refine va_sld hx hb hX hbl hbA hS (vin (by decide +kernel)) dL_law_957 (tk_i (v := a2) ha2 ?_)
                                      refine lv_aload_n hx hb dL_law_958 rfl (lv_at hl 3 rfl) ?_
                                      refine lv_iload_n hx hb dL_law_959 rfl (lv_at hl 0 rfl) ?_
                                      refine lv_iconst (v := 3) hx hb dL_law_960 (by decide) ?_
                                      refine lv_iadd hx hb dL_law_961 (tk_i (v := 3) (by decide +kernel) ?_)
                                      refine va_sld hx hb hX hbl hbA hS (vin (by decide +kernel)) dL_law_962 (tk_i (v := 11) ha3 ?_)
                                      refine kcall_i (D := (dC, dI)) (S := Unit) (v := (-3)) (wc := [(q49, .inr (12, [.int 0, .ref q50, .int 0, .ref q51, .int 0, .ref q52, .ref q53, .int 0, .ref q54, .int 0, .ref q55, .int (-9), .int 0, .int 0, .ref q56, .ref q57, .ref q58, .ref q59, .ref q60, .int 0, .ref q61, .ref q62, .ref q63, .int 0, .ref q64, .ref q65, .ref q66, .int 0, .ref q67])), (q50, .inl (cI, 5, .inl (fun _ => 0)))]) (wr := []) (w1 := fun _ => []) (fun hPc hDc => va_runV (As := [.int a1, .int a2, .int 11]) (rest := [.int (-3)]) ⟨hx, hb, hml, hown, hts⟩ (kX12_copy_67 l dC dI cI c2 q49 q50 q51 q52 q53 q54 q55 q56 q57 q58 q59 q60 q61 q62 q63 q64 q65 q66 q67 H.size a1 a2 (by omega) (by omega) (by omega) (by omega)) (cwV 3 hts gL_law_X12_copy rfl rfl rfl (by decide +kernel) ⟨Nat.le_of_ble_eq_true rfl, Nat.le_of_ble_eq_true rfl⟩) (pre_V hPc hK hDc hN (ci := 12) (q0 := 0) rfl rfl) rfl rfl hl.1 rfl (lv_room (Nat.le_of_ble_eq_true rfl)) dL_law_963 ⟨Nat.le_of_ble_eq_true rfl, Nat.le_of_ble_eq_true rfl⟩) hP hD hS hA [0, 1] [] rfl rfl (by decide) (by decide) (by decide) (fun u H locs hP hD hS => ?_)
                                      have hP : va_P (dC, dI) vwCl [] H := hP
                                      have hD : va_D A [] := hD
                                      refine lv_icmp_eq (tgt := 1080) hx hb dL_law_966 (by decide) (fun _ => ?_) (fun h9 => absurd (by decide +kernel) h9)
                                      refine lv_iinc (v := 4) (lv' := [(3, .int 4), (2, .ref q49), (1, .ref q1), (0, .ref b)]) hx hb dL_law_1080 hl (k := 0) rfl (by decide +kernel) (by decide) rfl (fun ls hl => ?_)
                                      refine lv_goto (tgt := 18) hx hb dL_law_1083 (by decide) ?_
                                      refine lv_iload_n hx hb dL_law_18 rfl (lv_at hl 0 rfl) ?_
                                      refine lv_aload_n hx hb dL_law_19 rfl (lv_at hl 3 rfl) ?_
                                      refine va_slen hx hb hX hbl hbA hS dL_law_20 (tk_i (v := 4) (by decide +kernel) ?_)
                                      refine lv_iconst (v := 4) hx hb dL_law_21 (by decide) ?_
                                      refine lv_isub hx hb dL_law_22 (tk_i (v := 0) (by decide +kernel) ?_)
                                      refine lv_icmp_gt (tgt := 1086) hx hb dL_law_23 (by decide) (fun _ => ?_) (fun h9 => absurd (by decide +kernel) h9)
                                      refine lv_iconst (v := 1) hx hb dL_law_1086 (by decide) ?_
                                      refine va_forget (fun q hq => by have h9 := hS.2.2 q hq; rw [← hAe] at h9; exact h9) ?_
                                      refine W.widen (k := 600000) (n := 7302250) (by decide) (by decide) ?_
                                      exact lw_ret hx hb hr hlocks dL_law_1087
                                    ·
                                      rcases (show a2.toInt ≤ 12 ∨ 13 ≤ a2.toInt by omega) with g_a2_13 | g_a2_13
                                      ·
                                        rcases (show a2.toInt ≤ 1 ∨ 2 ≤ a2.toInt by omega) with g_a2_2 | g_a2_2
                                        ·
                                          have e_a3 : a3 = 11 := ib_eq (X := 11) (by omega) (by decide +kernel)
                                          subst e_a3
                                          refine lv_aload_n hx hb dL_law_928 rfl (lv_at hl 2 rfl) ?_
                                          refine lv_aload_n hx hb dL_law_929 rfl (lv_at hl 3 rfl) ?_
                                          refine lv_iload_n hx hb dL_law_930 rfl (lv_at hl 0 rfl) ?_
                                          refine lv_iconst (v := 1) hx hb dL_law_931 (by decide) ?_
                                          refine lv_iadd hx hb dL_law_932 (tk_i (v := 1) (by decide +kernel) ?_)
                                          refine va_sld hx hb hX hbl hbA hS (vin (by decide +kernel)) dL_law_933 (tk_i (v := a1) ha1 ?_)
                                          refine lv_aload_n hx hb dL_law_934 rfl (lv_at hl 3 rfl) ?_
                                          refine lv_iload_n hx hb dL_law_935 rfl (lv_at hl 0 rfl) ?_
                                          refine lv_iconst (v := 2) hx hb dL_law_936 (by decide) ?_
                                          refine lv_iadd hx hb dL_law_937 (tk_i (v := 2) (by decide +kernel) ?_)
                                          refine va_sld hx hb hX hbl hbA hS (vin (by decide +kernel)) dL_law_938 (tk_i (v := a2) ha2 ?_)
                                          refine lv_aload_n hx hb dL_law_939 rfl (lv_at hl 3 rfl) ?_
                                          refine lv_iload_n hx hb dL_law_940 rfl (lv_at hl 0 rfl) ?_
                                          refine lv_iconst (v := 3) hx hb dL_law_941 (by decide) ?_
                                          refine lv_iadd hx hb dL_law_942 (tk_i (v := 3) (by decide +kernel) ?_)
                                          refine va_sld hx hb hX hbl hbA hS (vin (by decide +kernel)) dL_law_943 (tk_i (v := 11) ha3 ?_)
                                          refine kcall_i (D := (dC, dI)) (S := Unit) (v := 1) (wc := [(q1, .inr (11, [.ref q2, .ref q4, .ref q6, .ref q18, .ref q23, .ref q28, .ref q33, .ref q36, .ref q37, .ref q40, .ref q44, .ref q48, .int 0])), (q4, .inr (10, [.ref q5, .int 0, .int 0])), (q5, .inl (cI, 12, .inl (fun _ => (-1))))]) (wr := [(q49, .inr (12, [.int 0, .ref q50, .int 0, .ref q51, .int 0, .ref q52, .ref q53, .int 0, .ref q54, .int 0, .ref q55, .int (-9), .int 0, .int 0, .ref q56, .ref q57, .ref q58, .ref q59, .ref q60, .int 0, .ref q61, .ref q62, .ref q63, .int 0, .ref q64, .ref q65, .ref q66, .int 0, .ref q67])), (q52, .inl (cI, 12, .inl (fun _ => (-9)))), (q67, .inl (cI, 12, .inl (fun _ => 0)))]) (w1 := fun _ => []) (fun hPc hDc => va_runV (As := [.int a1, .int a2, .int 11]) (rest := []) ⟨hx, hb, hml, hown, hts⟩ (kX11_copy_68 l dC dI cI c2 q1 q4 q5 q2 q6 q18 q23 q28 q33 q36 q37 q40 q44 q48 H.size a1 a2 (by omega) (by omega) (by omega) (by omega)) (cwV 3 hts gL_law_X11_copy rfl rfl rfl (by decide +kernel) ⟨Nat.le_of_ble_eq_true rfl, Nat.le_of_ble_eq_true rfl⟩) (pre_V hPc hK hDc hN (ci := 11) (q0 := 0) rfl rfl) rfl rfl hl.1 rfl (lv_room (Nat.le_of_ble_eq_true rfl)) dL_law_944 ⟨Nat.le_of_ble_eq_true rfl, Nat.le_of_ble_eq_true rfl⟩) hP hD hS hA [0, 3, 4] [28, 31, 36] rfl rfl (by decide) (by decide) (by decide) (fun u H locs hP hD hS => ?_)
                                          have hP : va_P (dC, dI) vwCl [(q49, .inr (12, [.int 0, .ref q50, .int 0, .ref q51, .int 0, .ref q52, .ref q53, .int 0, .ref q54, .int 0, .ref q55, .int (-9), .int 0, .int 0, .ref q56, .ref q57, .ref q58, .ref q59, .ref q60, .int 0, .ref q61, .ref q62, .ref q63, .int 0, .ref q64, .ref q65, .ref q66, .int 0, .ref q67])), (q52, .inl (cI, 12, .inl (fun _ => (-9)))), (q67, .inl (cI, 12, .inl (fun _ => 0)))] H := hP
                                          have hD : va_D A [(q49, .inr (12, [.int 0, .ref q50, .int 0, .ref q51, .int 0, .ref q52, .ref q53, .int 0, .ref q54, .int 0, .ref q55, .int (-9), .int 0, .int 0, .ref q56, .ref q57, .ref q58, .ref q59, .ref q60, .int 0, .ref q61, .ref q62, .ref q63, .int 0, .ref q64, .ref q65, .ref q66, .int 0, .ref q67])), (q52, .inl (cI, 12, .inl (fun _ => (-9)))), (q67, .inl (cI, 12, .inl (fun _ => 0)))] := hD
                                          refine lv_aload_n hx hb dL_law_947 rfl (lv_at hl 1 rfl) ?_
                                          refine lv_aload_n hx hb dL_law_948 rfl (lv_at hl 3 rfl) ?_
                                          refine lv_iload_n hx hb dL_law_949 rfl (lv_at hl 0 rfl) ?_
                                          refine lv_iconst (v := 1) hx hb dL_law_950 (by decide) ?_
                                          refine lv_iadd hx hb dL_law_951 (tk_i (v := 1) (by decide +kernel) ?_)
                                          refine va_sld hx hb hX hbl hbA hS (vin (by decide +kernel)) dL_law_952 (tk_i (v := a1) ha1 ?_)
                                          refine lv_aload_n hx hb dL_law_953 rfl (lv_at hl 3 rfl) ?_
                                          refine lv_iload_n hx hb dL_law_954 rfl (lv_at hl 0 rfl) ?_
                                          refine lv_iconst (v := 2) hx hb dL_law_955 (by decide) ?_
                                          refine lv_iadd hx hb dL_law_956 (tk_i (v := 2) (by decide +kernel) ?_)
                                          refine va_sld hx hb hX hbl hbA hS (vin (by decide +kernel)) dL_law_957 (tk_i (v := a2) ha2 ?_)
                                          refine lv_aload_n hx hb dL_law_958 rfl (lv_at hl 3 rfl) ?_
                                          refine lv_iload_n hx hb dL_law_959 rfl (lv_at hl 0 rfl) ?_
                                          refine lv_iconst (v := 3) hx hb dL_law_960 (by decide) ?_
                                          refine lv_iadd hx hb dL_law_961 (tk_i (v := 3) (by decide +kernel) ?_)
                                          refine va_sld hx hb hX hbl hbA hS (vin (by decide +kernel)) dL_law_962 (tk_i (v := 11) ha3 ?_)
                                          refine kcall_i (D := (dC, dI)) (S := Unit) (v := 1) (wc := [(q49, .inr (12, [.int 0, .ref q50, .int 0, .ref q51, .int 0, .ref q52, .ref q53, .int 0, .ref q54, .int 0, .ref q55, .int (-9), .int 0, .int 0, .ref q56, .ref q57, .ref q58, .ref q59, .ref q60, .int 0, .ref q61, .ref q62, .ref q63, .int 0, .ref q64, .ref q65, .ref q66, .int 0, .ref q67])), (q52, .inl (cI, 12, .inl (fun _ => (-9)))), (q67, .inl (cI, 12, .inl (fun _ => 0)))]) (wr := []) (w1 := fun _ => []) (fun hPc hDc => va_runV (As := [.int a1, .int a2, .int 11]) (rest := [.int 1]) ⟨hx, hb, hml, hown, hts⟩ (kX12_copy_68 l dC dI cI c2 q49 q52 q67 q50 q51 q53 q54 q55 q56 q57 q58 q59 q60 q61 q62 q63 q64 q65 q66 H.size a1 a2 (by omega) (by omega) (by omega) (by omega)) (cwV 3 hts gL_law_X12_copy rfl rfl rfl (by decide +kernel) ⟨Nat.le_of_ble_eq_true rfl, Nat.le_of_ble_eq_true rfl⟩) (pre_V hPc hK hDc hN (ci := 12) (q0 := 0) rfl rfl) rfl rfl hl.1 rfl (lv_room (Nat.le_of_ble_eq_true rfl)) dL_law_963 ⟨Nat.le_of_ble_eq_true rfl, Nat.le_of_ble_eq_true rfl⟩) hP hD hS hA [0, 1, 2] [] rfl rfl (by decide) (by decide) (by decide) (fun u H locs hP hD hS => ?_)
                                          have hP : va_P (dC, dI) vwCl [] H := hP
                                          have hD : va_D A [] := hD
                                          refine lv_icmp_eq (tgt := 1080) hx hb dL_law_966 (by decide) (fun _ => ?_) (fun h9 => absurd (by decide +kernel) h9)
                                          refine lv_iinc (v := 4) (lv' := [(3, .int 4), (2, .ref q49), (1, .ref q1), (0, .ref b)]) hx hb dL_law_1080 hl (k := 0) rfl (by decide +kernel) (by decide) rfl (fun ls hl => ?_)
                                          refine lv_goto (tgt := 18) hx hb dL_law_1083 (by decide) ?_
                                          refine lv_iload_n hx hb dL_law_18 rfl (lv_at hl 0 rfl) ?_
                                          refine lv_aload_n hx hb dL_law_19 rfl (lv_at hl 3 rfl) ?_
                                          refine va_slen hx hb hX hbl hbA hS dL_law_20 (tk_i (v := 4) (by decide +kernel) ?_)
                                          refine lv_iconst (v := 4) hx hb dL_law_21 (by decide) ?_
                                          refine lv_isub hx hb dL_law_22 (tk_i (v := 0) (by decide +kernel) ?_)
                                          refine lv_icmp_gt (tgt := 1086) hx hb dL_law_23 (by decide) (fun _ => ?_) (fun h9 => absurd (by decide +kernel) h9)
                                          refine lv_iconst (v := 1) hx hb dL_law_1086 (by decide) ?_
                                          refine va_forget (fun q hq => by have h9 := hS.2.2 q hq; rw [← hAe] at h9; exact h9) ?_
                                          refine W.widen (k := 600000) (n := 7302250) (by decide) (by decide) ?_
                                          exact lw_ret hx hb hr hlocks dL_law_1087
                                        ·
                                          have e_a3 : a3 = 11 := ib_eq (X := 11) (by omega) (by decide +kernel)
                                          subst e_a3
                                          refine lv_aload_n hx hb dL_law_928 rfl (lv_at hl 2 rfl) ?_
                                          refine lv_aload_n hx hb dL_law_929 rfl (lv_at hl 3 rfl) ?_
                                          refine lv_iload_n hx hb dL_law_930 rfl (lv_at hl 0 rfl) ?_
                                          refine lv_iconst (v := 1) hx hb dL_law_931 (by decide) ?_
                                          refine lv_iadd hx hb dL_law_932 (tk_i (v := 1) (by decide +kernel) ?_)
                                          refine va_sld hx hb hX hbl hbA hS (vin (by decide +kernel)) dL_law_933 (tk_i (v := a1) ha1 ?_)
                                          refine lv_aload_n hx hb dL_law_934 rfl (lv_at hl 3 rfl) ?_
                                          refine lv_iload_n hx hb dL_law_935 rfl (lv_at hl 0 rfl) ?_
                                          refine lv_iconst (v := 2) hx hb dL_law_936 (by decide) ?_
                                          refine lv_iadd hx hb dL_law_937 (tk_i (v := 2) (by decide +kernel) ?_)
                                          refine va_sld hx hb hX hbl hbA hS (vin (by decide +kernel)) dL_law_938 (tk_i (v := a2) ha2 ?_)
                                          refine lv_aload_n hx hb dL_law_939 rfl (lv_at hl 3 rfl) ?_
                                          refine lv_iload_n hx hb dL_law_940 rfl (lv_at hl 0 rfl) ?_
                                          refine lv_iconst (v := 3) hx hb dL_law_941 (by decide) ?_
                                          refine lv_iadd hx hb dL_law_942 (tk_i (v := 3) (by decide +kernel) ?_)
                                          refine va_sld hx hb hX hbl hbA hS (vin (by decide +kernel)) dL_law_943 (tk_i (v := 11) ha3 ?_)
                                          refine kcall_i (D := (dC, dI)) (S := Unit) (v := (-3)) (wc := [(q1, .inr (11, [.ref q2, .ref q4, .ref q6, .ref q18, .ref q23, .ref q28, .ref q33, .ref q36, .ref q37, .ref q40, .ref q44, .ref q48, .int 0])), (q4, .inr (10, [.ref q5, .int 0, .int 0])), (q48, .inl (cI, 5, .inl (fun _ => 0)))]) (wr := [(q49, .inr (12, [.int 0, .ref q50, .int 0, .ref q51, .int 0, .ref q52, .ref q53, .int 0, .ref q54, .int 0, .ref q55, .int (-9), .int 0, .int 0, .ref q56, .ref q57, .ref q58, .ref q59, .ref q60, .int 0, .ref q61, .ref q62, .ref q63, .int 0, .ref q64, .ref q65, .ref q66, .int 0, .ref q67])), (q50, .inl (cI, 5, .inl (fun _ => 0)))]) (w1 := fun _ => []) (fun hPc hDc => va_runV (As := [.int a1, .int a2, .int 11]) (rest := []) ⟨hx, hb, hml, hown, hts⟩ (kX11_copy_69 l dC dI cI c2 q1 q4 q48 q2 q6 q18 q23 q28 q33 q36 q37 q40 q44 q5 H.size a1 a2 (by omega) (by omega) (by omega) (by omega)) (cwV 3 hts gL_law_X11_copy rfl rfl rfl (by decide +kernel) ⟨Nat.le_of_ble_eq_true rfl, Nat.le_of_ble_eq_true rfl⟩) (pre_V hPc hK hDc hN (ci := 11) (q0 := 0) rfl rfl) rfl rfl hl.1 rfl (lv_room (Nat.le_of_ble_eq_true rfl)) dL_law_944 ⟨Nat.le_of_ble_eq_true rfl, Nat.le_of_ble_eq_true rfl⟩) hP hD hS hA [0, 3, 27] [28, 29] rfl rfl (by decide) (by decide) (by decide) (fun u H locs hP hD hS => ?_)
                                          have hP : va_P (dC, dI) vwCl [(q49, .inr (12, [.int 0, .ref q50, .int 0, .ref q51, .int 0, .ref q52, .ref q53, .int 0, .ref q54, .int 0, .ref q55, .int (-9), .int 0, .int 0, .ref q56, .ref q57, .ref q58, .ref q59, .ref q60, .int 0, .ref q61, .ref q62, .ref q63, .int 0, .ref q64, .ref q65, .ref q66, .int 0, .ref q67])), (q50, .inl (cI, 5, .inl (fun _ => 0)))] H := hP
                                          have hD : va_D A [(q49, .inr (12, [.int 0, .ref q50, .int 0, .ref q51, .int 0, .ref q52, .ref q53, .int 0, .ref q54, .int 0, .ref q55, .int (-9), .int 0, .int 0, .ref q56, .ref q57, .ref q58, .ref q59, .ref q60, .int 0, .ref q61, .ref q62, .ref q63, .int 0, .ref q64, .ref q65, .ref q66, .int 0, .ref q67])), (q50, .inl (cI, 5, .inl (fun _ => 0)))] := hD
                                          refine lv_aload_n hx hb dL_law_947 rfl (lv_at hl 1 rfl) ?_
                                          refine lv_aload_n hx hb dL_law_948 rfl (lv_at hl 3 rfl) ?_
                                          refine lv_iload_n hx hb dL_law_949 rfl (lv_at hl 0 rfl) ?_
                                          refine lv_iconst (v := 1) hx hb dL_law_950 (by decide) ?_
                                          refine lv_iadd hx hb dL_law_951 (tk_i (v := 1) (by decide +kernel) ?_)
                                          refine va_sld hx hb hX hbl hbA hS (vin (by decide +kernel)) dL_law_952 (tk_i (v := a1) ha1 ?_)
                                          refine lv_aload_n hx hb dL_law_953 rfl (lv_at hl 3 rfl) ?_
                                          refine lv_iload_n hx hb dL_law_954 rfl (lv_at hl 0 rfl) ?_
                                          refine lv_iconst (v := 2) hx hb dL_law_955 (by decide) ?_
                                          refine lv_iadd hx hb dL_law_956 (tk_i (v := 2) (by decide +kernel) ?_)
                                          refine va_sld hx hb hX hbl hbA hS (vin (by decide +kernel)) dL_law_957 (tk_i (v := a2) ha2 ?_)
                                          refine lv_aload_n hx hb dL_law_958 rfl (lv_at hl 3 rfl) ?_
                                          refine lv_iload_n hx hb dL_law_959 rfl (lv_at hl 0 rfl) ?_
                                          refine lv_iconst (v := 3) hx hb dL_law_960 (by decide) ?_
                                          refine lv_iadd hx hb dL_law_961 (tk_i (v := 3) (by decide +kernel) ?_)
                                          refine va_sld hx hb hX hbl hbA hS (vin (by decide +kernel)) dL_law_962 (tk_i (v := 11) ha3 ?_)
                                          refine kcall_i (D := (dC, dI)) (S := Unit) (v := (-3)) (wc := [(q49, .inr (12, [.int 0, .ref q50, .int 0, .ref q51, .int 0, .ref q52, .ref q53, .int 0, .ref q54, .int 0, .ref q55, .int (-9), .int 0, .int 0, .ref q56, .ref q57, .ref q58, .ref q59, .ref q60, .int 0, .ref q61, .ref q62, .ref q63, .int 0, .ref q64, .ref q65, .ref q66, .int 0, .ref q67])), (q50, .inl (cI, 5, .inl (fun _ => 0)))]) (wr := []) (w1 := fun _ => []) (fun hPc hDc => va_runV (As := [.int a1, .int a2, .int 11]) (rest := [.int (-3)]) ⟨hx, hb, hml, hown, hts⟩ (kX12_copy_69 l dC dI cI c2 q49 q50 q51 q52 q53 q54 q55 q56 q57 q58 q59 q60 q61 q62 q63 q64 q65 q66 q67 H.size a1 a2 (by omega) (by omega) (by omega) (by omega)) (cwV 3 hts gL_law_X12_copy rfl rfl rfl (by decide +kernel) ⟨Nat.le_of_ble_eq_true rfl, Nat.le_of_ble_eq_true rfl⟩) (pre_V hPc hK hDc hN (ci := 12) (q0 := 0) rfl rfl) rfl rfl hl.1 rfl (lv_room (Nat.le_of_ble_eq_true rfl)) dL_law_963 ⟨Nat.le_of_ble_eq_true rfl, Nat.le_of_ble_eq_true rfl⟩) hP hD hS hA [0, 1] [] rfl rfl (by decide) (by decide) (by decide) (fun u H locs hP hD hS => ?_)
                                          have hP : va_P (dC, dI) vwCl [] H := hP
                                          have hD : va_D A [] := hD
                                          refine lv_icmp_eq (tgt := 1080) hx hb dL_law_966 (by decide) (fun _ => ?_) (fun h9 => absurd (by decide +kernel) h9)
                                          refine lv_iinc (v := 4) (lv' := [(3, .int 4), (2, .ref q49), (1, .ref q1), (0, .ref b)]) hx hb dL_law_1080 hl (k := 0) rfl (by decide +kernel) (by decide) rfl (fun ls hl => ?_)
                                          refine lv_goto (tgt := 18) hx hb dL_law_1083 (by decide) ?_
                                          refine lv_iload_n hx hb dL_law_18 rfl (lv_at hl 0 rfl) ?_
                                          refine lv_aload_n hx hb dL_law_19 rfl (lv_at hl 3 rfl) ?_
                                          refine va_slen hx hb hX hbl hbA hS dL_law_20 (tk_i (v := 4) (by decide +kernel) ?_)
                                          refine lv_iconst (v := 4) hx hb dL_law_21 (by decide) ?_
                                          refine lv_isub hx hb dL_law_22 (tk_i (v := 0) (by decide +kernel) ?_)
                                          refine lv_icmp_gt (tgt := 1086) hx hb dL_law_23 (by decide) (fun _ => ?_) (fun h9 => absurd (by decide +kernel) h9)
                                          refine lv_iconst (v := 1) hx hb dL_law_1086 (by decide) ?_
                                          refine va_forget (fun q hq => by have h9 := hS.2.2 q hq; rw [← hAe] at h9; exact h9) ?_
                                          refine W.widen (k := 600000) (n := 7302250) (by decide) (by decide) ?_
                                          exact lw_ret hx hb hr hlocks dL_law_1087
                                      ·
                                        have e_a3 : a3 = 11 := ib_eq (X := 11) (by omega) (by decide +kernel)
                                        subst e_a3
                                        refine lv_aload_n hx hb dL_law_928 rfl (lv_at hl 2 rfl) ?_
                                        refine lv_aload_n hx hb dL_law_929 rfl (lv_at hl 3 rfl) ?_
                                        refine lv_iload_n hx hb dL_law_930 rfl (lv_at hl 0 rfl) ?_
                                        refine lv_iconst (v := 1) hx hb dL_law_931 (by decide) ?_
                                        refine lv_iadd hx hb dL_law_932 (tk_i (v := 1) (by decide +kernel) ?_)
                                        refine va_sld hx hb hX hbl hbA hS (vin (by decide +kernel)) dL_law_933 (tk_i (v := a1) ha1 ?_)
                                        refine lv_aload_n hx hb dL_law_934 rfl (lv_at hl 3 rfl) ?_
                                        refine lv_iload_n hx hb dL_law_935 rfl (lv_at hl 0 rfl) ?_
                                        refine lv_iconst (v := 2) hx hb dL_law_936 (by decide) ?_
                                        refine lv_iadd hx hb dL_law_937 (tk_i (v := 2) (by decide +kernel) ?_)
                                        refine va_sld hx hb hX hbl hbA hS (vin (by decide +kernel)) dL_law_938 (tk_i (v := a2) ha2 ?_)
                                        refine lv_aload_n hx hb dL_law_939 rfl (lv_at hl 3 rfl) ?_
                                        refine lv_iload_n hx hb dL_law_940 rfl (lv_at hl 0 rfl) ?_
                                        refine lv_iconst (v := 3) hx hb dL_law_941 (by decide) ?_
                                        refine lv_iadd hx hb dL_law_942 (tk_i (v := 3) (by decide +kernel) ?_)
                                        refine va_sld hx hb hX hbl hbA hS (vin (by decide +kernel)) dL_law_943 (tk_i (v := 11) ha3 ?_)
                                        refine kcall_i (D := (dC, dI)) (S := Unit) (v := (-3)) (wc := [(q1, .inr (11, [.ref q2, .ref q4, .ref q6, .ref q18, .ref q23, .ref q28, .ref q33, .ref q36, .ref q37, .ref q40, .ref q44, .ref q48, .int 0])), (q4, .inr (10, [.ref q5, .int 0, .int 0])), (q48, .inl (cI, 5, .inl (fun _ => 0)))]) (wr := [(q49, .inr (12, [.int 0, .ref q50, .int 0, .ref q51, .int 0, .ref q52, .ref q53, .int 0, .ref q54, .int 0, .ref q55, .int (-9), .int 0, .int 0, .ref q56, .ref q57, .ref q58, .ref q59, .ref q60, .int 0, .ref q61, .ref q62, .ref q63, .int 0, .ref q64, .ref q65, .ref q66, .int 0, .ref q67])), (q50, .inl (cI, 5, .inl (fun _ => 0)))]) (w1 := fun _ => []) (fun hPc hDc => va_runV (As := [.int a1, .int a2, .int 11]) (rest := []) ⟨hx, hb, hml, hown, hts⟩ (kX11_copy_70 l dC dI cI c2 q1 q4 q48 q2 q6 q18 q23 q28 q33 q36 q37 q40 q44 q5 H.size a1 a2 (by omega) (by omega) (by omega) (by omega)) (cwV 3 hts gL_law_X11_copy rfl rfl rfl (by decide +kernel) ⟨Nat.le_of_ble_eq_true rfl, Nat.le_of_ble_eq_true rfl⟩) (pre_V hPc hK hDc hN (ci := 11) (q0 := 0) rfl rfl) rfl rfl hl.1 rfl (lv_room (Nat.le_of_ble_eq_true rfl)) dL_law_944 ⟨Nat.le_of_ble_eq_true rfl, Nat.le_of_ble_eq_true rfl⟩) hP hD hS hA [0, 3, 27] [28, 29] rfl rfl (by decide) (by decide) (by decide) (fun u H locs hP hD hS => ?_)
                                        have hP : va_P (dC, dI) vwCl [(q49, .inr (12, [.int 0, .ref q50, .int 0, .ref q51, .int 0, .ref q52, .ref q53, .int 0, .ref q54, .int 0, .ref q55, .int (-9), .int 0, .int 0, .ref q56, .ref q57, .ref q58, .ref q59, .ref q60, .int 0, .ref q61, .ref q62, .ref q63, .int 0, .ref q64, .ref q65, .ref q66, .int 0, .ref q67])), (q50, .inl (cI, 5, .inl (fun _ => 0)))] H := hP
                                        have hD : va_D A [(q49, .inr (12, [.int 0, .ref q50, .int 0, .ref q51, .int 0, .ref q52, .ref q53, .int 0, .ref q54, .int 0, .ref q55, .int (-9), .int 0, .int 0, .ref q56, .ref q57, .ref q58, .ref q59, .ref q60, .int 0, .ref q61, .ref q62, .ref q63, .int 0, .ref q64, .ref q65, .ref q66, .int 0, .ref q67])), (q50, .inl (cI, 5, .inl (fun _ => 0)))] := hD
                                        refine lv_aload_n hx hb dL_law_947 rfl (lv_at hl 1 rfl) ?_
                                        refine lv_aload_n hx hb dL_law_948 rfl (lv_at hl 3 rfl) ?_
                                        refine lv_iload_n hx hb dL_law_949 rfl (lv_at hl 0 rfl) ?_
                                        refine lv_iconst (v := 1) hx hb dL_law_950 (by decide) ?_
                                        refine lv_iadd hx hb dL_law_951 (tk_i (v := 1) (by decide +kernel) ?_)
                                        refine va_sld hx hb hX hbl hbA hS (vin (by decide +kernel)) dL_law_952 (tk_i (v := a1) ha1 ?_)
                                        refine lv_aload_n hx hb dL_law_953 rfl (lv_at hl 3 rfl) ?_
                                        refine lv_iload_n hx hb dL_law_954 rfl (lv_at hl 0 rfl) ?_
                                        refine lv_iconst (v := 2) hx hb dL_law_955 (by decide) ?_
                                        refine lv_iadd hx hb dL_law_956 (tk_i (v := 2) (by decide +kernel) ?_)
                                        refine va_sld hx hb hX hbl hbA hS (vin (by decide +kernel)) dL_law_957 (tk_i (v := a2) ha2 ?_)
                                        refine lv_aload_n hx hb dL_law_958 rfl (lv_at hl 3 rfl) ?_
                                        refine lv_iload_n hx hb dL_law_959 rfl (lv_at hl 0 rfl) ?_
                                        refine lv_iconst (v := 3) hx hb dL_law_960 (by decide) ?_
                                        refine lv_iadd hx hb dL_law_961 (tk_i (v := 3) (by decide +kernel) ?_)
                                        refine va_sld hx hb hX hbl hbA hS (vin (by decide +kernel)) dL_law_962 (tk_i (v := 11) ha3 ?_)
                                        refine kcall_i (D := (dC, dI)) (S := Unit) (v := (-3)) (wc := [(q49, .inr (12, [.int 0, .ref q50, .int 0, .ref q51, .int 0, .ref q52, .ref q53, .int 0, .ref q54, .int 0, .ref q55, .int (-9), .int 0, .int 0, .ref q56, .ref q57, .ref q58, .ref q59, .ref q60, .int 0, .ref q61, .ref q62, .ref q63, .int 0, .ref q64, .ref q65, .ref q66, .int 0, .ref q67])), (q50, .inl (cI, 5, .inl (fun _ => 0)))]) (wr := []) (w1 := fun _ => []) (fun hPc hDc => va_runV (As := [.int a1, .int a2, .int 11]) (rest := [.int (-3)]) ⟨hx, hb, hml, hown, hts⟩ (kX12_copy_70 l dC dI cI c2 q49 q50 q51 q52 q53 q54 q55 q56 q57 q58 q59 q60 q61 q62 q63 q64 q65 q66 q67 H.size a1 a2 (by omega) (by omega) (by omega) (by omega)) (cwV 3 hts gL_law_X12_copy rfl rfl rfl (by decide +kernel) ⟨Nat.le_of_ble_eq_true rfl, Nat.le_of_ble_eq_true rfl⟩) (pre_V hPc hK hDc hN (ci := 12) (q0 := 0) rfl rfl) rfl rfl hl.1 rfl (lv_room (Nat.le_of_ble_eq_true rfl)) dL_law_963 ⟨Nat.le_of_ble_eq_true rfl, Nat.le_of_ble_eq_true rfl⟩) hP hD hS hA [0, 1] [] rfl rfl (by decide) (by decide) (by decide) (fun u H locs hP hD hS => ?_)
                                        have hP : va_P (dC, dI) vwCl [] H := hP
                                        have hD : va_D A [] := hD
                                        refine lv_icmp_eq (tgt := 1080) hx hb dL_law_966 (by decide) (fun _ => ?_) (fun h9 => absurd (by decide +kernel) h9)
                                        refine lv_iinc (v := 4) (lv' := [(3, .int 4), (2, .ref q49), (1, .ref q1), (0, .ref b)]) hx hb dL_law_1080 hl (k := 0) rfl (by decide +kernel) (by decide) rfl (fun ls hl => ?_)
                                        refine lv_goto (tgt := 18) hx hb dL_law_1083 (by decide) ?_
                                        refine lv_iload_n hx hb dL_law_18 rfl (lv_at hl 0 rfl) ?_
                                        refine lv_aload_n hx hb dL_law_19 rfl (lv_at hl 3 rfl) ?_
                                        refine va_slen hx hb hX hbl hbA hS dL_law_20 (tk_i (v := 4) (by decide +kernel) ?_)
                                        refine lv_iconst (v := 4) hx hb dL_law_21 (by decide) ?_
                                        refine lv_isub hx hb dL_law_22 (tk_i (v := 0) (by decide +kernel) ?_)
                                        refine lv_icmp_gt (tgt := 1086) hx hb dL_law_23 (by decide) (fun _ => ?_) (fun h9 => absurd (by decide +kernel) h9)
                                        refine lv_iconst (v := 1) hx hb dL_law_1086 (by decide) ?_
                                        refine va_forget (fun q hq => by have h9 := hS.2.2 q hq; rw [← hAe] at h9; exact h9) ?_
                                        refine W.widen (k := 600000) (n := 7302250) (by decide) (by decide) ?_
                                        exact lw_ret hx hb hr hlocks dL_law_1087
                                  ·
                                    rcases (show a2.toInt ≤ (-1) ∨ 0 ≤ a2.toInt by omega) with g_a2_0 | g_a2_0
                                    ·
                                      have e_a3 : a3 = 11 := ib_eq (X := 11) (by omega) (by decide +kernel)
                                      subst e_a3
                                      refine lv_aload_n hx hb dL_law_928 rfl (lv_at hl 2 rfl) ?_
                                      refine lv_aload_n hx hb dL_law_929 rfl (lv_at hl 3 rfl) ?_
                                      refine lv_iload_n hx hb dL_law_930 rfl (lv_at hl 0 rfl) ?_
                                      refine lv_iconst (v := 1) hx hb dL_law_931 (by decide) ?_
                                      refine lv_iadd hx hb dL_law_932 (tk_i (v := 1) (by decide +kernel) ?_)
                                      refine va_sld hx hb hX hbl hbA hS (vin (by decide +kernel)) dL_law_933 (tk_i (v := a1) ha1 ?_)
                                      refine lv_aload_n hx hb dL_law_934 rfl (lv_at hl 3 rfl) ?_
                                      refine lv_iload_n hx hb dL_law_935 rfl (lv_at hl 0 rfl) ?_
                                      refine lv_iconst (v := 2) hx hb dL_law_936 (by decide) ?_
                                      refine lv_iadd hx hb dL_law_937 (tk_i (v := 2) (by decide +kernel) ?_)
                                      refine va_sld hx hb hX hbl hbA hS (vin (by decide +kernel)) dL_law_938 (tk_i (v := a2) ha2 ?_)
                                      refine lv_aload_n hx hb dL_law_939 rfl (lv_at hl 3 rfl) ?_
                                      refine lv_iload_n hx hb dL_law_940 rfl (lv_at hl 0 rfl) ?_
                                      refine lv_iconst (v := 3) hx hb dL_law_941 (by decide) ?_
                                      refine lv_iadd hx hb dL_law_942 (tk_i (v := 3) (by decide +kernel) ?_)
                                      refine va_sld hx hb hX hbl hbA hS (vin (by decide +kernel)) dL_law_943 (tk_i (v := 11) ha3 ?_)
                                      refine kcall_i (D := (dC, dI)) (S := Unit) (v := (-3)) (wc := [(q1, .inr (11, [.ref q2, .ref q4, .ref q6, .ref q18, .ref q23, .ref q28, .ref q33, .ref q36, .ref q37, .ref q40, .ref q44, .ref q48, .int 0])), (q4, .inr (10, [.ref q5, .int 0, .int 0])), (q48, .inl (cI, 5, .inl (fun _ => 0)))]) (wr := [(q49, .inr (12, [.int 0, .ref q50, .int 0, .ref q51, .int 0, .ref q52, .ref q53, .int 0, .ref q54, .int 0, .ref q55, .int (-9), .int 0, .int 0, .ref q56, .ref q57, .ref q58, .ref q59, .ref q60, .int 0, .ref q61, .ref q62, .ref q63, .int 0, .ref q64, .ref q65, .ref q66, .int 0, .ref q67])), (q50, .inl (cI, 5, .inl (fun _ => 0)))]) (w1 := fun _ => []) (fun hPc hDc => va_runV (As := [.int a1, .int a2, .int 11]) (rest := []) ⟨hx, hb, hml, hown, hts⟩ (kX11_copy_71 l dC dI cI c2 q1 q4 q48 q2 q6 q18 q23 q28 q33 q36 q37 q40 q44 q5 H.size a1 a2 (by omega) (by omega) (by omega) (by omega)) (cwV 3 hts gL_law_X11_copy rfl rfl rfl (by decide +kernel) ⟨Nat.le_of_ble_eq_true rfl, Nat.le_of_ble_eq_true rfl⟩) (pre_V hPc hK hDc hN (ci := 11) (q0 := 0) rfl rfl) rfl rfl hl.1 rfl (lv_room (Nat.le_of_ble_eq_true rfl)) dL_law_944 ⟨Nat.le_of_ble_eq_true rfl, Nat.le_of_ble_eq_true rfl⟩) hP hD hS hA [0, 3, 27] [28, 29] rfl rfl (by decide) (by decide) (by decide) (fun u H locs hP hD hS => ?_)
                                      have hP : va_P (dC, dI) vwCl [(q49, .inr (12, [.int 0, .ref q50, .int 0, .ref q51, .int 0, .ref q52, .ref q53, .int 0, .ref q54, .int 0, .ref q55, .int (-9), .int 0, .int 0, .ref q56, .ref q57, .ref q58, .ref q59, .ref q60, .int 0, .ref q61, .ref q62, .ref q63, .int 0, .ref q64, .ref q65, .ref q66, .int 0, .ref q67])), (q50, .inl (cI, 5, .inl (fun _ => 0)))] H := hP
                                      have hD : va_D A [(q49, .inr (12, [.int 0, .ref q50, .int 0, .ref q51, .int 0, .ref q52, .ref q53, .int 0, .ref q54, .int 0, .ref q55, .int (-9), .int 0, .int 0, .ref q56, .ref q57, .ref q58, .ref q59, .ref q60, .int 0, .ref q61, .ref q62, .ref q63, .int 0, .ref q64, .ref q65, .ref q66, .int 0, .ref q67])), (q50, .inl (cI, 5, .inl (fun _ => 0)))] := hD
                                      refine lv_aload_n hx hb dL_law_947 rfl (lv_at hl 1 rfl) ?_
                                      refine lv_aload_n hx hb dL_law_948 rfl (lv_at hl 3 rfl) ?_
                                      refine lv_iload_n hx hb dL_law_949 rfl (lv_at hl 0 rfl) ?_
                                      refine lv_iconst (v := 1) hx hb dL_law_950 (by decide) ?_
                                      refine lv_iadd hx hb dL_law_951 (tk_i (v := 1) (by decide +kernel) ?_)
                                      refine va_sld hx hb hX hbl hbA hS (vin (by decide +kernel)) dL_law_952 (tk_i (v := a1) ha1 ?_)
                                      refine lv_aload_n hx hb dL_law_953 rfl (lv_at hl 3 rfl) ?_
                                      refine lv_iload_n hx hb dL_law_954 rfl (lv_at hl 0 rfl) ?_
                                      refine lv_iconst (v := 2) hx hb dL_law_955 (by decide) ?_
                                      refine lv_iadd hx hb dL_law_956 (tk_i (v := 2) (by decide +kernel) ?_)
                                      refine va_sld hx hb hX hbl hbA hS (vin (by decide +kernel)) dL_law_957 (tk_i (v := a2) ha2 ?_)
                                      refine lv_aload_n hx hb dL_law_958 rfl (lv_at hl 3 rfl) ?_
                                      refine lv_iload_n hx hb dL_law_959 rfl (lv_at hl 0 rfl) ?_
                                      refine lv_iconst (v := 3) hx hb dL_law_960 (by decide) ?_
                                      refine lv_iadd hx hb dL_law_961 (tk_i (v := 3) (by decide +kernel) ?_)
                                      refine va_sld hx hb hX hbl hbA hS (vin (by decide +kernel)) dL_law_962 (tk_i (v := 11) ha3 ?_)
                                      refine kcall_i (D := (dC, dI)) (S := Unit) (v := (-3)) (wc := [(q49, .inr (12, [.int 0, .ref q50, .int 0, .ref q51, .int 0, .ref q52, .ref q53, .int 0, .ref q54, .int 0, .ref q55, .int (-9), .int 0, .int 0, .ref q56, .ref q57, .ref q58, .ref q59, .ref q60, .int 0, .ref q61, .ref q62, .ref q63, .int 0, .ref q64, .ref q65, .ref q66, .int 0, .ref q67])), (q50, .inl (cI, 5, .inl (fun _ => 0)))]) (wr := []) (w1 := fun _ => []) (fun hPc hDc => va_runV (As := [.int a1, .int a2, .int 11]) (rest := [.int (-3)]) ⟨hx, hb, hml, hown, hts⟩ (kX12_copy_71 l dC dI cI c2 q49 q50 q51 q52 q53 q54 q55 q56 q57 q58 q59 q60 q61 q62 q63 q64 q65 q66 q67 H.size a1 a2 (by omega) (by omega) (by omega) (by omega)) (cwV 3 hts gL_law_X12_copy rfl rfl rfl (by decide +kernel) ⟨Nat.le_of_ble_eq_true rfl, Nat.le_of_ble_eq_true rfl⟩) (pre_V hPc hK hDc hN (ci := 12) (q0 := 0) rfl rfl) rfl rfl hl.1 rfl (lv_room (Nat.le_of_ble_eq_true rfl)) dL_law_963 ⟨Nat.le_of_ble_eq_true rfl, Nat.le_of_ble_eq_true rfl⟩) hP hD hS hA [0, 1] [] rfl rfl (by decide) (by decide) (by decide) (fun u H locs hP hD hS => ?_)
                                      have hP : va_P (dC, dI) vwCl [] H := hP
                                      have hD : va_D A [] := hD
                                      refine lv_icmp_eq (tgt := 1080) hx hb dL_law_966 (by decide) (fun _ => ?_) (fun h9 => absurd (by decide +kernel) h9)
                                      refine lv_iinc (v := 4) (lv' := [(3, .int 4), (2, .ref q49), (1, .ref q1), (0, .ref b)]) hx hb dL_law_1080 hl (k := 0) rfl (by decide +kernel) (by decide) rfl (fun ls hl => ?_)
                                      refine lv_goto (tgt := 18) hx hb dL_law_1083 (by decide) ?_
                                      refine lv_iload_n hx hb dL_law_18 rfl (lv_at hl 0 rfl) ?_
                                      refine lv_aload_n hx hb dL_law_19 rfl (lv_at hl 3 rfl) ?_
                                      refine va_slen hx hb hX hbl hbA hS dL_law_20 (tk_i (v := 4) (by decide +kernel) ?_)
                                      refine lv_iconst (v := 4) hx hb dL_law_21 (by decide) ?_
                                      refine lv_isub hx hb dL_law_22 (tk_i (v := 0) (by decide +kernel) ?_)
                                      refine lv_icmp_gt (tgt := 1086) hx hb dL_law_23 (by decide) (fun _ => ?_) (fun h9 => absurd (by decide +kernel) h9)
                                      refine lv_iconst (v := 1) hx hb dL_law_1086 (by decide) ?_
                                      refine va_forget (fun q hq => by have h9 := hS.2.2 q hq; rw [← hAe] at h9; exact h9) ?_
                                      refine W.widen (k := 600000) (n := 7302250) (by decide) (by decide) ?_
                                      exact lw_ret hx hb hr hlocks dL_law_1087
                                    ·
                                      have e_a3 : a3 = 11 := ib_eq (X := 11) (by omega) (by decide +kernel)
                                      subst e_a3
                                      refine lv_aload_n hx hb dL_law_928 rfl (lv_at hl 2 rfl) ?_
                                      refine lv_aload_n hx hb dL_law_929 rfl (lv_at hl 3 rfl) ?_
                                      refine lv_iload_n hx hb dL_law_930 rfl (lv_at hl 0 rfl) ?_
                                      refine lv_iconst (v := 1) hx hb dL_law_931 (by decide) ?_
                                      refine lv_iadd hx hb dL_law_932 (tk_i (v := 1) (by decide +kernel) ?_)
                                      refine va_sld hx hb hX hbl hbA hS (vin (by decide +kernel)) dL_law_933 (tk_i (v := a1) ha1 ?_)
                                      refine lv_aload_n hx hb dL_law_934 rfl (lv_at hl 3 rfl) ?_
                                      refine lv_iload_n hx hb dL_law_935 rfl (lv_at hl 0 rfl) ?_
                                      refine lv_iconst (v := 2) hx hb dL_law_936 (by decide) ?_
                                      refine lv_iadd hx hb dL_law_937 (tk_i (v := 2) (by decide +kernel) ?_)
                                      refine va_sld hx hb hX hbl hbA hS (vin (by decide +kernel)) dL_law_938 (tk_i (v := a2) ha2 ?_)
                                      refine lv_aload_n hx hb dL_law_939 rfl (lv_at hl 3 rfl) ?_
                                      refine lv_iload_n hx hb dL_law_940 rfl (lv_at hl 0 rfl) ?_
                                      refine lv_iconst (v := 3) hx hb dL_law_941 (by decide) ?_
                                      refine lv_iadd hx hb dL_law_942 (tk_i (v := 3) (by decide +kernel) ?_)
                                      refine va_sld hx hb hX hbl hbA hS (vin (by decide +kernel)) dL_law_943 (tk_i (v := 11) ha3 ?_)
                                      refine kcall_i (D := (dC, dI)) (S := Unit) (v := (-3)) (wc := [(q1, .inr (11, [.ref q2, .ref q4, .ref q6, .ref q18, .ref q23, .ref q28, .ref q33, .ref q36, .ref q37, .ref q40, .ref q44, .ref q48, .int 0])), (q4, .inr (10, [.ref q5, .int 0, .int 0])), (q48, .inl (cI, 5, .inl (fun _ => 0)))]) (wr := [(q49, .inr (12, [.int 0, .ref q50, .int 0, .ref q51, .int 0, .ref q52, .ref q53, .int 0, .ref q54, .int 0, .ref q55, .int (-9), .int 0, .int 0, .ref q56, .ref q57, .ref q58, .ref q59, .ref q60, .int 0, .ref q61, .ref q62, .ref q63, .int 0, .ref q64, .ref q65, .ref q66, .int 0, .ref q67])), (q50, .inl (cI, 5, .inl (fun _ => 0)))]) (w1 := fun _ => []) (fun hPc hDc => va_runV (As := [.int a1, .int a2, .int 11]) (rest := []) ⟨hx, hb, hml, hown, hts⟩ (kX11_copy_72 l dC dI cI c2 q1 q4 q48 q2 q6 q18 q23 q28 q33 q36 q37 q40 q44 q5 H.size a1 a2 (by omega) (by omega) (by omega) (by omega)) (cwV 3 hts gL_law_X11_copy rfl rfl rfl (by decide +kernel) ⟨Nat.le_of_ble_eq_true rfl, Nat.le_of_ble_eq_true rfl⟩) (pre_V hPc hK hDc hN (ci := 11) (q0 := 0) rfl rfl) rfl rfl hl.1 rfl (lv_room (Nat.le_of_ble_eq_true rfl)) dL_law_944 ⟨Nat.le_of_ble_eq_true rfl, Nat.le_of_ble_eq_true rfl⟩) hP hD hS hA [0, 3, 27] [28, 29] rfl rfl (by decide) (by decide) (by decide) (fun u H locs hP hD hS => ?_)
                                      have hP : va_P (dC, dI) vwCl [(q49, .inr (12, [.int 0, .ref q50, .int 0, .ref q51, .int 0, .ref q52, .ref q53, .int 0, .ref q54, .int 0, .ref q55, .int (-9), .int 0, .int 0, .ref q56, .ref q57, .ref q58, .ref q59, .ref q60, .int 0, .ref q61, .ref q62, .ref q63, .int 0, .ref q64, .ref q65, .ref q66, .int 0, .ref q67])), (q50, .inl (cI, 5, .inl (fun _ => 0)))] H := hP
                                      have hD : va_D A [(q49, .inr (12, [.int 0, .ref q50, .int 0, .ref q51, .int 0, .ref q52, .ref q53, .int 0, .ref q54, .int 0, .ref q55, .int (-9), .int 0, .int 0, .ref q56, .ref q57, .ref q58, .ref q59, .ref q60, .int 0, .ref q61, .ref q62, .ref q63, .int 0, .ref q64, .ref q65, .ref q66, .int 0, .ref q67])), (q50, .inl (cI, 5, .inl (fun _ => 0)))] := hD
                                      refine lv_aload_n hx hb dL_law_947 rfl (lv_at hl 1 rfl) ?_
                                      refine lv_aload_n hx hb dL_law_948 rfl (lv_at hl 3 rfl) ?_
                                      refine lv_iload_n hx hb dL_law_949 rfl (lv_at hl 0 rfl) ?_
                                      refine lv_iconst (v := 1) hx hb dL_law_950 (by decide) ?_
                                      refine lv_iadd hx hb dL_law_951 (tk_i (v := 1) (by decide +kernel) ?_)
                                      refine va_sld hx hb hX hbl hbA hS (vin (by decide +kernel)) dL_law_952 (tk_i (v := a1) ha1 ?_)
                                      refine lv_aload_n hx hb dL_law_953 rfl (lv_at hl 3 rfl) ?_
                                      refine lv_iload_n hx hb dL_law_954 rfl (lv_at hl 0 rfl) ?_
                                      refine lv_iconst (v := 2) hx hb dL_law_955 (by decide) ?_
                                      refine lv_iadd hx hb dL_law_956 (tk_i (v := 2) (by decide +kernel) ?_)
                                      refine va_sld hx hb hX hbl hbA hS (vin (by decide +kernel)) dL_law_957 (tk_i (v := a2) ha2 ?_)
                                      refine lv_aload_n hx hb dL_law_958 rfl (lv_at hl 3 rfl) ?_
                                      refine lv_iload_n hx hb dL_law_959 rfl (lv_at hl 0 rfl) ?_
                                      refine lv_iconst (v := 3) hx hb dL_law_960 (by decide) ?_
                                      refine lv_iadd hx hb dL_law_961 (tk_i (v := 3) (by decide +kernel) ?_)
                                      refine va_sld hx hb hX hbl hbA hS (vin (by decide +kernel)) dL_law_962 (tk_i (v := 11) ha3 ?_)
                                      refine kcall_i (D := (dC, dI)) (S := Unit) (v := (-3)) (wc := [(q49, .inr (12, [.int 0, .ref q50, .int 0, .ref q51, .int 0, .ref q52, .ref q53, .int 0, .ref q54, .int 0, .ref q55, .int (-9), .int 0, .int 0, .ref q56, .ref q57, .ref q58, .ref q59, .ref q60, .int 0, .ref q61, .ref q62, .ref q63, .int 0, .ref q64, .ref q65, .ref q66, .int 0, .ref q67])), (q50, .inl (cI, 5, .inl (fun _ => 0)))]) (wr := []) (w1 := fun _ => []) (fun hPc hDc => va_runV (As := [.int a1, .int a2, .int 11]) (rest := [.int (-3)]) ⟨hx, hb, hml, hown, hts⟩ (kX12_copy_72 l dC dI cI c2 q49 q50 q51 q52 q53 q54 q55 q56 q57 q58 q59 q60 q61 q62 q63 q64 q65 q66 q67 H.size a1 a2 (by omega) (by omega) (by omega) (by omega)) (cwV 3 hts gL_law_X12_copy rfl rfl rfl (by decide +kernel) ⟨Nat.le_of_ble_eq_true rfl, Nat.le_of_ble_eq_true rfl⟩) (pre_V hPc hK hDc hN (ci := 12) (q0 := 0) rfl rfl) rfl rfl hl.1 rfl (lv_room (Nat.le_of_ble_eq_true rfl)) dL_law_963 ⟨Nat.le_of_ble_eq_true rfl, Nat.le_of_ble_eq_true rfl⟩) hP hD hS hA [0, 1] [] rfl rfl (by decide) (by decide) (by decide) (fun u H locs hP hD hS => ?_)
                                      have hP : va_P (dC, dI) vwCl [] H := hP
                                      have hD : va_D A [] := hD
                                      refine lv_icmp_eq (tgt := 1080) hx hb dL_law_966 (by decide) (fun _ => ?_) (fun h9 => absurd (by decide +kernel) h9)
                                      refine lv_iinc (v := 4) (lv' := [(3, .int 4), (2, .ref q49), (1, .ref q1), (0, .ref b)]) hx hb dL_law_1080 hl (k := 0) rfl (by decide +kernel) (by decide) rfl (fun ls hl => ?_)
                                      refine lv_goto (tgt := 18) hx hb dL_law_1083 (by decide) ?_
                                      refine lv_iload_n hx hb dL_law_18 rfl (lv_at hl 0 rfl) ?_
                                      refine lv_aload_n hx hb dL_law_19 rfl (lv_at hl 3 rfl) ?_
                                      refine va_slen hx hb hX hbl hbA hS dL_law_20 (tk_i (v := 4) (by decide +kernel) ?_)
                                      refine lv_iconst (v := 4) hx hb dL_law_21 (by decide) ?_
                                      refine lv_isub hx hb dL_law_22 (tk_i (v := 0) (by decide +kernel) ?_)
                                      refine lv_icmp_gt (tgt := 1086) hx hb dL_law_23 (by decide) (fun _ => ?_) (fun h9 => absurd (by decide +kernel) h9)
                                      refine lv_iconst (v := 1) hx hb dL_law_1086 (by decide) ?_
                                      refine va_forget (fun q hq => by have h9 := hS.2.2 q hq; rw [← hAe] at h9; exact h9) ?_
                                      refine W.widen (k := 600000) (n := 7302250) (by decide) (by decide) ?_
                                      exact lw_ret hx hb hr hlocks dL_law_1087
                                ·
                                  rcases (show a1.toInt ≤ 0 ∨ 1 ≤ a1.toInt by omega) with g_a1_1 | g_a1_1
                                  ·
                                    rcases (show a2.toInt ≤ (-1) ∨ 0 ≤ a2.toInt by omega) with g_a2_0 | g_a2_0
                                    ·
                                      have e_a1 : a1 = 0 := ib_eq (X := 0) (by omega) (by decide +kernel)
                                      subst e_a1
                                      have e_a3 : a3 = 12 := ib_eq (X := 12) (by omega) (by decide +kernel)
                                      subst e_a3
                                      refine lv_aload_n hx hb dL_law_928 rfl (lv_at hl 2 rfl) ?_
                                      refine lv_aload_n hx hb dL_law_929 rfl (lv_at hl 3 rfl) ?_
                                      refine lv_iload_n hx hb dL_law_930 rfl (lv_at hl 0 rfl) ?_
                                      refine lv_iconst (v := 1) hx hb dL_law_931 (by decide) ?_
                                      refine lv_iadd hx hb dL_law_932 (tk_i (v := 1) (by decide +kernel) ?_)
                                      refine va_sld hx hb hX hbl hbA hS (vin (by decide +kernel)) dL_law_933 (tk_i (v := 0) ha1 ?_)
                                      refine lv_aload_n hx hb dL_law_934 rfl (lv_at hl 3 rfl) ?_
                                      refine lv_iload_n hx hb dL_law_935 rfl (lv_at hl 0 rfl) ?_
                                      refine lv_iconst (v := 2) hx hb dL_law_936 (by decide) ?_
                                      refine lv_iadd hx hb dL_law_937 (tk_i (v := 2) (by decide +kernel) ?_)
                                      refine va_sld hx hb hX hbl hbA hS (vin (by decide +kernel)) dL_law_938 (tk_i (v := a2) ha2 ?_)
                                      refine lv_aload_n hx hb dL_law_939 rfl (lv_at hl 3 rfl) ?_
                                      refine lv_iload_n hx hb dL_law_940 rfl (lv_at hl 0 rfl) ?_
                                      refine lv_iconst (v := 3) hx hb dL_law_941 (by decide) ?_
                                      refine lv_iadd hx hb dL_law_942 (tk_i (v := 3) (by decide +kernel) ?_)
                                      refine va_sld hx hb hX hbl hbA hS (vin (by decide +kernel)) dL_law_943 (tk_i (v := 12) ha3 ?_)
                                      refine kcall_i (D := (dC, dI)) (S := Unit) (v := (-3)) (wc := [(q1, .inr (11, [.ref q2, .ref q4, .ref q6, .ref q18, .ref q23, .ref q28, .ref q33, .ref q36, .ref q37, .ref q40, .ref q44, .ref q48, .int 0])), (q4, .inr (10, [.ref q5, .int 0, .int 0])), (q48, .inl (cI, 5, .inl (fun _ => 0)))]) (wr := [(q49, .inr (12, [.int 0, .ref q50, .int 0, .ref q51, .int 0, .ref q52, .ref q53, .int 0, .ref q54, .int 0, .ref q55, .int (-9), .int 0, .int 0, .ref q56, .ref q57, .ref q58, .ref q59, .ref q60, .int 0, .ref q61, .ref q62, .ref q63, .int 0, .ref q64, .ref q65, .ref q66, .int 0, .ref q67])), (q50, .inl (cI, 5, .inl (fun _ => 0)))]) (w1 := fun _ => []) (fun hPc hDc => va_runV (As := [.int 0, .int a2, .int 12]) (rest := []) ⟨hx, hb, hml, hown, hts⟩ (kX11_copy_73 l dC dI cI c2 q1 q4 q48 q2 q6 q18 q23 q28 q33 q36 q37 q40 q44 q5 H.size a2 (by omega) (by omega)) (cwV 3 hts gL_law_X11_copy rfl rfl rfl (by decide +kernel) ⟨Nat.le_of_ble_eq_true rfl, Nat.le_of_ble_eq_true rfl⟩) (pre_V hPc hK hDc hN (ci := 11) (q0 := 0) rfl rfl) rfl rfl hl.1 rfl (lv_room (Nat.le_of_ble_eq_true rfl)) dL_law_944 ⟨Nat.le_of_ble_eq_true rfl, Nat.le_of_ble_eq_true rfl⟩) hP hD hS hA [0, 3, 27] [28, 29] rfl rfl (by decide) (by decide) (by decide) (fun u H locs hP hD hS => ?_)
                                      have hP : va_P (dC, dI) vwCl [(q49, .inr (12, [.int 0, .ref q50, .int 0, .ref q51, .int 0, .ref q52, .ref q53, .int 0, .ref q54, .int 0, .ref q55, .int (-9), .int 0, .int 0, .ref q56, .ref q57, .ref q58, .ref q59, .ref q60, .int 0, .ref q61, .ref q62, .ref q63, .int 0, .ref q64, .ref q65, .ref q66, .int 0, .ref q67])), (q50, .inl (cI, 5, .inl (fun _ => 0)))] H := hP
                                      have hD : va_D A [(q49, .inr (12, [.int 0, .ref q50, .int 0, .ref q51, .int 0, .ref q52, .ref q53, .int 0, .ref q54, .int 0, .ref q55, .int (-9), .int 0, .int 0, .ref q56, .ref q57, .ref q58, .ref q59, .ref q60, .int 0, .ref q61, .ref q62, .ref q63, .int 0, .ref q64, .ref q65, .ref q66, .int 0, .ref q67])), (q50, .inl (cI, 5, .inl (fun _ => 0)))] := hD
                                      refine lv_aload_n hx hb dL_law_947 rfl (lv_at hl 1 rfl) ?_
                                      refine lv_aload_n hx hb dL_law_948 rfl (lv_at hl 3 rfl) ?_
                                      refine lv_iload_n hx hb dL_law_949 rfl (lv_at hl 0 rfl) ?_
                                      refine lv_iconst (v := 1) hx hb dL_law_950 (by decide) ?_
                                      refine lv_iadd hx hb dL_law_951 (tk_i (v := 1) (by decide +kernel) ?_)
                                      refine va_sld hx hb hX hbl hbA hS (vin (by decide +kernel)) dL_law_952 (tk_i (v := 0) ha1 ?_)
                                      refine lv_aload_n hx hb dL_law_953 rfl (lv_at hl 3 rfl) ?_
                                      refine lv_iload_n hx hb dL_law_954 rfl (lv_at hl 0 rfl) ?_
                                      refine lv_iconst (v := 2) hx hb dL_law_955 (by decide) ?_
                                      refine lv_iadd hx hb dL_law_956 (tk_i (v := 2) (by decide +kernel) ?_)
                                      refine va_sld hx hb hX hbl hbA hS (vin (by decide +kernel)) dL_law_957 (tk_i (v := a2) ha2 ?_)
                                      refine lv_aload_n hx hb dL_law_958 rfl (lv_at hl 3 rfl) ?_
                                      refine lv_iload_n hx hb dL_law_959 rfl (lv_at hl 0 rfl) ?_
                                      refine lv_iconst (v := 3) hx hb dL_law_960 (by decide) ?_
                                      refine lv_iadd hx hb dL_law_961 (tk_i (v := 3) (by decide +kernel) ?_)
                                      refine va_sld hx hb hX hbl hbA hS (vin (by decide +kernel)) dL_law_962 (tk_i (v := 12) ha3 ?_)
                                      refine kcall_i (D := (dC, dI)) (S := Unit) (v := (-3)) (wc := [(q49, .inr (12, [.int 0, .ref q50, .int 0, .ref q51, .int 0, .ref q52, .ref q53, .int 0, .ref q54, .int 0, .ref q55, .int (-9), .int 0, .int 0, .ref q56, .ref q57, .ref q58, .ref q59, .ref q60, .int 0, .ref q61, .ref q62, .ref q63, .int 0, .ref q64, .ref q65, .ref q66, .int 0, .ref q67])), (q50, .inl (cI, 5, .inl (fun _ => 0)))]) (wr := []) (w1 := fun _ => []) (fun hPc hDc => va_runV (As := [.int 0, .int a2, .int 12]) (rest := [.int (-3)]) ⟨hx, hb, hml, hown, hts⟩ (kX12_copy_73 l dC dI cI c2 q49 q50 q51 q52 q53 q54 q55 q56 q57 q58 q59 q60 q61 q62 q63 q64 q65 q66 q67 H.size a2 (by omega) (by omega)) (cwV 3 hts gL_law_X12_copy rfl rfl rfl (by decide +kernel) ⟨Nat.le_of_ble_eq_true rfl, Nat.le_of_ble_eq_true rfl⟩) (pre_V hPc hK hDc hN (ci := 12) (q0 := 0) rfl rfl) rfl rfl hl.1 rfl (lv_room (Nat.le_of_ble_eq_true rfl)) dL_law_963 ⟨Nat.le_of_ble_eq_true rfl, Nat.le_of_ble_eq_true rfl⟩) hP hD hS hA [0, 1] [] rfl rfl (by decide) (by decide) (by decide) (fun u H locs hP hD hS => ?_)
                                      have hP : va_P (dC, dI) vwCl [] H := hP
                                      have hD : va_D A [] := hD
                                      refine lv_icmp_eq (tgt := 1080) hx hb dL_law_966 (by decide) (fun _ => ?_) (fun h9 => absurd (by decide +kernel) h9)
                                      refine lv_iinc (v := 4) (lv' := [(3, .int 4), (2, .ref q49), (1, .ref q1), (0, .ref b)]) hx hb dL_law_1080 hl (k := 0) rfl (by decide +kernel) (by decide) rfl (fun ls hl => ?_)
                                      refine lv_goto (tgt := 18) hx hb dL_law_1083 (by decide) ?_
                                      refine lv_iload_n hx hb dL_law_18 rfl (lv_at hl 0 rfl) ?_
                                      refine lv_aload_n hx hb dL_law_19 rfl (lv_at hl 3 rfl) ?_
                                      refine va_slen hx hb hX hbl hbA hS dL_law_20 (tk_i (v := 4) (by decide +kernel) ?_)
                                      refine lv_iconst (v := 4) hx hb dL_law_21 (by decide) ?_
                                      refine lv_isub hx hb dL_law_22 (tk_i (v := 0) (by decide +kernel) ?_)
                                      refine lv_icmp_gt (tgt := 1086) hx hb dL_law_23 (by decide) (fun _ => ?_) (fun h9 => absurd (by decide +kernel) h9)
                                      refine lv_iconst (v := 1) hx hb dL_law_1086 (by decide) ?_
                                      refine va_forget (fun q hq => by have h9 := hS.2.2 q hq; rw [← hAe] at h9; exact h9) ?_
                                      refine W.widen (k := 600000) (n := 7302250) (by decide) (by decide) ?_
                                      exact lw_ret hx hb hr hlocks dL_law_1087
                                    ·
                                      rcases (show a2.toInt ≤ 12 ∨ 13 ≤ a2.toInt by omega) with g_a2_13 | g_a2_13
                                      ·
                                        rcases (show a2.toInt ≤ 0 ∨ 1 ≤ a2.toInt by omega) with g_a2_1 | g_a2_1
                                        ·
                                          have e_a1 : a1 = 0 := ib_eq (X := 0) (by omega) (by decide +kernel)
                                          subst e_a1
                                          have e_a2 : a2 = 0 := ib_eq (X := 0) (by omega) (by decide +kernel)
                                          subst e_a2
                                          have e_a3 : a3 = 12 := ib_eq (X := 12) (by omega) (by decide +kernel)
                                          subst e_a3
                                          refine lv_aload_n hx hb dL_law_928 rfl (lv_at hl 2 rfl) ?_
                                          refine lv_aload_n hx hb dL_law_929 rfl (lv_at hl 3 rfl) ?_
                                          refine lv_iload_n hx hb dL_law_930 rfl (lv_at hl 0 rfl) ?_
                                          refine lv_iconst (v := 1) hx hb dL_law_931 (by decide) ?_
                                          refine lv_iadd hx hb dL_law_932 (tk_i (v := 1) (by decide +kernel) ?_)
                                          refine va_sld hx hb hX hbl hbA hS (vin (by decide +kernel)) dL_law_933 (tk_i (v := 0) ha1 ?_)
                                          refine lv_aload_n hx hb dL_law_934 rfl (lv_at hl 3 rfl) ?_
                                          refine lv_iload_n hx hb dL_law_935 rfl (lv_at hl 0 rfl) ?_
                                          refine lv_iconst (v := 2) hx hb dL_law_936 (by decide) ?_
                                          refine lv_iadd hx hb dL_law_937 (tk_i (v := 2) (by decide +kernel) ?_)
                                          refine va_sld hx hb hX hbl hbA hS (vin (by decide +kernel)) dL_law_938 (tk_i (v := 0) ha2 ?_)
                                          refine lv_aload_n hx hb dL_law_939 rfl (lv_at hl 3 rfl) ?_
                                          refine lv_iload_n hx hb dL_law_940 rfl (lv_at hl 0 rfl) ?_
                                          refine lv_iconst (v := 3) hx hb dL_law_941 (by decide) ?_
                                          refine lv_iadd hx hb dL_law_942 (tk_i (v := 3) (by decide +kernel) ?_)
                                          refine va_sld hx hb hX hbl hbA hS (vin (by decide +kernel)) dL_law_943 (tk_i (v := 12) ha3 ?_)
                                          refine kcall_i (D := (dC, dI)) (S := Unit) (v := 1) (wc := [(q1, .inr (11, [.ref q2, .ref q4, .ref q6, .ref q18, .ref q23, .ref q28, .ref q33, .ref q36, .ref q37, .ref q40, .ref q44, .ref q48, .int 0])), (q4, .inr (10, [.ref q5, .int 0, .int 0])), (q5, .inl (cI, 12, .inl (fun _ => (-1))))]) (wr := [(q49, .inr (12, [.int 0, .ref q50, .int 0, .ref q51, .int 0, .ref q52, .ref q53, .int 0, .ref q54, .int 0, .ref q55, .int (-9), .int 0, .int 0, .ref q56, .ref q57, .ref q58, .ref q59, .ref q60, .int 0, .ref q61, .ref q62, .ref q63, .int 0, .ref q64, .ref q65, .ref q66, .int 0, .ref q67])), (q52, .inl (cI, 12, .inl (fun _ => (-9)))), (q67, .inl (cI, 12, .inl (fun _ => 0)))]) (w1 := fun _ => []) (fun hPc hDc => va_runV (As := [.int 0, .int 0, .int 12]) (rest := []) ⟨hx, hb, hml, hown, hts⟩ (kX11_copy_74 l dC dI cI c2 q1 q4 q5 q2 q6 q18 q23 q28 q33 q36 q37 q40 q44 q48 H.size) (cwV 3 hts gL_law_X11_copy rfl rfl rfl (by decide +kernel) ⟨Nat.le_of_ble_eq_true rfl, Nat.le_of_ble_eq_true rfl⟩) (pre_V hPc hK hDc hN (ci := 11) (q0 := 0) rfl rfl) rfl rfl hl.1 rfl (lv_room (Nat.le_of_ble_eq_true rfl)) dL_law_944 ⟨Nat.le_of_ble_eq_true rfl, Nat.le_of_ble_eq_true rfl⟩) hP hD hS hA [0, 3, 4] [28, 31, 36] rfl rfl (by decide) (by decide) (by decide) (fun u H locs hP hD hS => ?_)
                                          have hP : va_P (dC, dI) vwCl [(q49, .inr (12, [.int 0, .ref q50, .int 0, .ref q51, .int 0, .ref q52, .ref q53, .int 0, .ref q54, .int 0, .ref q55, .int (-9), .int 0, .int 0, .ref q56, .ref q57, .ref q58, .ref q59, .ref q60, .int 0, .ref q61, .ref q62, .ref q63, .int 0, .ref q64, .ref q65, .ref q66, .int 0, .ref q67])), (q52, .inl (cI, 12, .inl (fun _ => (-9)))), (q67, .inl (cI, 12, .inl (fun _ => 0)))] H := hP
                                          have hD : va_D A [(q49, .inr (12, [.int 0, .ref q50, .int 0, .ref q51, .int 0, .ref q52, .ref q53, .int 0, .ref q54, .int 0, .ref q55, .int (-9), .int 0, .int 0, .ref q56, .ref q57, .ref q58, .ref q59, .ref q60, .int 0, .ref q61, .ref q62, .ref q63, .int 0, .ref q64, .ref q65, .ref q66, .int 0, .ref q67])), (q52, .inl (cI, 12, .inl (fun _ => (-9)))), (q67, .inl (cI, 12, .inl (fun _ => 0)))] := hD
                                          refine lv_aload_n hx hb dL_law_947 rfl (lv_at hl 1 rfl) ?_
                                          refine lv_aload_n hx hb dL_law_948 rfl (lv_at hl 3 rfl) ?_
                                          refine lv_iload_n hx hb dL_law_949 rfl (lv_at hl 0 rfl) ?_
                                          refine lv_iconst (v := 1) hx hb dL_law_950 (by decide) ?_
                                          refine lv_iadd hx hb dL_law_951 (tk_i (v := 1) (by decide +kernel) ?_)
                                          refine va_sld hx hb hX hbl hbA hS (vin (by decide +kernel)) dL_law_952 (tk_i (v := 0) ha1 ?_)
                                          refine lv_aload_n hx hb dL_law_953 rfl (lv_at hl 3 rfl) ?_
                                          refine lv_iload_n hx hb dL_law_954 rfl (lv_at hl 0 rfl) ?_
                                          refine lv_iconst (v := 2) hx hb dL_law_955 (by decide) ?_
                                          refine lv_iadd hx hb dL_law_956 (tk_i (v := 2) (by decide +kernel) ?_)
                                          refine va_sld hx hb hX hbl hbA hS (vin (by decide +kernel)) dL_law_957 (tk_i (v := 0) ha2 ?_)
                                          refine lv_aload_n hx hb dL_law_958 rfl (lv_at hl 3 rfl) ?_
                                          refine lv_iload_n hx hb dL_law_959 rfl (lv_at hl 0 rfl) ?_
                                          refine lv_iconst (v := 3) hx hb dL_law_960 (by decide) ?_
                                          refine lv_iadd hx hb dL_law_961 (tk_i (v := 3) (by decide +kernel) ?_)
                                          refine va_sld hx hb hX hbl hbA hS (vin (by decide +kernel)) dL_law_962 (tk_i (v := 12) ha3 ?_)
                                          refine kcall_i (D := (dC, dI)) (S := Unit) (v := 1) (wc := [(q49, .inr (12, [.int 0, .ref q50, .int 0, .ref q51, .int 0, .ref q52, .ref q53, .int 0, .ref q54, .int 0, .ref q55, .int (-9), .int 0, .int 0, .ref q56, .ref q57, .ref q58, .ref q59, .ref q60, .int 0, .ref q61, .ref q62, .ref q63, .int 0, .ref q64, .ref q65, .ref q66, .int 0, .ref q67])), (q52, .inl (cI, 12, .inl (fun _ => (-9)))), (q67, .inl (cI, 12, .inl (fun _ => 0)))]) (wr := []) (w1 := fun _ => []) (fun hPc hDc => va_runV (As := [.int 0, .int 0, .int 12]) (rest := [.int 1]) ⟨hx, hb, hml, hown, hts⟩ (kX12_copy_74 l dC dI cI c2 q49 q52 q67 q50 q51 q53 q54 q55 q56 q57 q58 q59 q60 q61 q62 q63 q64 q65 q66 H.size) (cwV 3 hts gL_law_X12_copy rfl rfl rfl (by decide +kernel) ⟨Nat.le_of_ble_eq_true rfl, Nat.le_of_ble_eq_true rfl⟩) (pre_V hPc hK hDc hN (ci := 12) (q0 := 0) rfl rfl) rfl rfl hl.1 rfl (lv_room (Nat.le_of_ble_eq_true rfl)) dL_law_963 ⟨Nat.le_of_ble_eq_true rfl, Nat.le_of_ble_eq_true rfl⟩) hP hD hS hA [0, 1, 2] [] rfl rfl (by decide) (by decide) (by decide) (fun u H locs hP hD hS => ?_)
                                          have hP : va_P (dC, dI) vwCl [] H := hP
                                          have hD : va_D A [] := hD
                                          refine lv_icmp_eq (tgt := 1080) hx hb dL_law_966 (by decide) (fun _ => ?_) (fun h9 => absurd (by decide +kernel) h9)
                                          refine lv_iinc (v := 4) (lv' := [(3, .int 4), (2, .ref q49), (1, .ref q1), (0, .ref b)]) hx hb dL_law_1080 hl (k := 0) rfl (by decide +kernel) (by decide) rfl (fun ls hl => ?_)
                                          refine lv_goto (tgt := 18) hx hb dL_law_1083 (by decide) ?_
                                          refine lv_iload_n hx hb dL_law_18 rfl (lv_at hl 0 rfl) ?_
                                          refine lv_aload_n hx hb dL_law_19 rfl (lv_at hl 3 rfl) ?_
                                          refine va_slen hx hb hX hbl hbA hS dL_law_20 (tk_i (v := 4) (by decide +kernel) ?_)
                                          refine lv_iconst (v := 4) hx hb dL_law_21 (by decide) ?_
                                          refine lv_isub hx hb dL_law_22 (tk_i (v := 0) (by decide +kernel) ?_)
                                          refine lv_icmp_gt (tgt := 1086) hx hb dL_law_23 (by decide) (fun _ => ?_) (fun h9 => absurd (by decide +kernel) h9)
                                          refine lv_iconst (v := 1) hx hb dL_law_1086 (by decide) ?_
                                          refine va_forget (fun q hq => by have h9 := hS.2.2 q hq; rw [← hAe] at h9; exact h9) ?_
                                          refine W.widen (k := 600000) (n := 7302250) (by decide) (by decide) ?_
                                          exact lw_ret hx hb hr hlocks dL_law_1087
                                        ·
                                          have e_a1 : a1 = 0 := ib_eq (X := 0) (by omega) (by decide +kernel)
                                          subst e_a1
                                          have e_a3 : a3 = 12 := ib_eq (X := 12) (by omega) (by decide +kernel)
                                          subst e_a3
                                          refine lv_aload_n hx hb dL_law_928 rfl (lv_at hl 2 rfl) ?_
                                          refine lv_aload_n hx hb dL_law_929 rfl (lv_at hl 3 rfl) ?_
                                          refine lv_iload_n hx hb dL_law_930 rfl (lv_at hl 0 rfl) ?_
                                          refine lv_iconst (v := 1) hx hb dL_law_931 (by decide) ?_
                                          refine lv_iadd hx hb dL_law_932 (tk_i (v := 1) (by decide +kernel) ?_)
                                          refine va_sld hx hb hX hbl hbA hS (vin (by decide +kernel)) dL_law_933 (tk_i (v := 0) ha1 ?_)
                                          refine lv_aload_n hx hb dL_law_934 rfl (lv_at hl 3 rfl) ?_
                                          refine lv_iload_n hx hb dL_law_935 rfl (lv_at hl 0 rfl) ?_
                                          refine lv_iconst (v := 2) hx hb dL_law_936 (by decide) ?_
                                          refine lv_iadd hx hb dL_law_937 (tk_i (v := 2) (by decide +kernel) ?_)
                                          refine va_sld hx hb hX hbl hbA hS (vin (by decide +kernel)) dL_law_938 (tk_i (v := a2) ha2 ?_)
                                          refine lv_aload_n hx hb dL_law_939 rfl (lv_at hl 3 rfl) ?_
                                          refine lv_iload_n hx hb dL_law_940 rfl (lv_at hl 0 rfl) ?_
                                          refine lv_iconst (v := 3) hx hb dL_law_941 (by decide) ?_
                                          refine lv_iadd hx hb dL_law_942 (tk_i (v := 3) (by decide +kernel) ?_)
                                          refine va_sld hx hb hX hbl hbA hS (vin (by decide +kernel)) dL_law_943 (tk_i (v := 12) ha3 ?_)
                                          refine kcall_i (D := (dC, dI)) (S := Unit) (v := (-3)) (wc := [(q1, .inr (11, [.ref q2, .ref q4, .ref q6, .ref q18, .ref q23, .ref q28, .ref q33, .ref q36, .ref q37, .ref q40, .ref q44, .ref q48, .int 0])), (q4, .inr (10, [.ref q5, .int 0, .int 0])), (q48, .inl (cI, 5, .inl (fun _ => 0)))]) (wr := [(q49, .inr (12, [.int 0, .ref q50, .int 0, .ref q51, .int 0, .ref q52, .ref q53, .int 0, .ref q54, .int 0, .ref q55, .int (-9), .int 0, .int 0, .ref q56, .ref q57, .ref q58, .ref q59, .ref q60, .int 0, .ref q61, .ref q62, .ref q63, .int 0, .ref q64, .ref q65, .ref q66, .int 0, .ref q67])), (q50, .inl (cI, 5, .inl (fun _ => 0)))]) (w1 := fun _ => []) (fun hPc hDc => va_runV (As := [.int 0, .int a2, .int 12]) (rest := []) ⟨hx, hb, hml, hown, hts⟩ (kX11_copy_75 l dC dI cI c2 q1 q4 q48 q2 q6 q18 q23 q28 q33 q36 q37 q40 q44 q5 H.size a2 (by omega) (by omega)) (cwV 3 hts gL_law_X11_copy rfl rfl rfl (by decide +kernel) ⟨Nat.le_of_ble_eq_true rfl, Nat.le_of_ble_eq_true rfl⟩) (pre_V hPc hK hDc hN (ci := 11) (q0 := 0) rfl rfl) rfl rfl hl.1 rfl (lv_room (Nat.le_of_ble_eq_true rfl)) dL_law_944 ⟨Nat.le_of_ble_eq_true rfl, Nat.le_of_ble_eq_true rfl⟩) hP hD hS hA [0, 3, 27] [28, 29] rfl rfl (by decide) (by decide) (by decide) (fun u H locs hP hD hS => ?_)
                                          have hP : va_P (dC, dI) vwCl [(q49, .inr (12, [.int 0, .ref q50, .int 0, .ref q51, .int 0, .ref q52, .ref q53, .int 0, .ref q54, .int 0, .ref q55, .int (-9), .int 0, .int 0, .ref q56, .ref q57, .ref q58, .ref q59, .ref q60, .int 0, .ref q61, .ref q62, .ref q63, .int 0, .ref q64, .ref q65, .ref q66, .int 0, .ref q67])), (q50, .inl (cI, 5, .inl (fun _ => 0)))] H := hP
                                          have hD : va_D A [(q49, .inr (12, [.int 0, .ref q50, .int 0, .ref q51, .int 0, .ref q52, .ref q53, .int 0, .ref q54, .int 0, .ref q55, .int (-9), .int 0, .int 0, .ref q56, .ref q57, .ref q58, .ref q59, .ref q60, .int 0, .ref q61, .ref q62, .ref q63, .int 0, .ref q64, .ref q65, .ref q66, .int 0, .ref q67])), (q50, .inl (cI, 5, .inl (fun _ => 0)))] := hD
                                          refine lv_aload_n hx hb dL_law_947 rfl (lv_at hl 1 rfl) ?_
                                          refine lv_aload_n hx hb dL_law_948 rfl (lv_at hl 3 rfl) ?_
                                          refine lv_iload_n hx hb dL_law_949 rfl (lv_at hl 0 rfl) ?_
                                          refine lv_iconst (v := 1) hx hb dL_law_950 (by decide) ?_
                                          refine lv_iadd hx hb dL_law_951 (tk_i (v := 1) (by decide +kernel) ?_)
                                          refine va_sld hx hb hX hbl hbA hS (vin (by decide +kernel)) dL_law_952 (tk_i (v := 0) ha1 ?_)
                                          refine lv_aload_n hx hb dL_law_953 rfl (lv_at hl 3 rfl) ?_
                                          refine lv_iload_n hx hb dL_law_954 rfl (lv_at hl 0 rfl) ?_
                                          refine lv_iconst (v := 2) hx hb dL_law_955 (by decide) ?_
                                          refine lv_iadd hx hb dL_law_956 (tk_i (v := 2) (by decide +kernel) ?_)
                                          refine va_sld hx hb hX hbl hbA hS (vin (by decide +kernel)) dL_law_957 (tk_i (v := a2) ha2 ?_)
                                          refine lv_aload_n hx hb dL_law_958 rfl (lv_at hl 3 rfl) ?_
                                          refine lv_iload_n hx hb dL_law_959 rfl (lv_at hl 0 rfl) ?_
                                          refine lv_iconst (v := 3) hx hb dL_law_960 (by decide) ?_
                                          refine lv_iadd hx hb dL_law_961 (tk_i (v := 3) (by decide +kernel) ?_)
                                          refine va_sld hx hb hX hbl hbA hS (vin (by decide +kernel)) dL_law_962 (tk_i (v := 12) ha3 ?_)
                                          refine kcall_i (D := (dC, dI)) (S := Unit) (v := (-3)) (wc := [(q49, .inr (12, [.int 0, .ref q50, .int 0, .ref q51, .int 0, .ref q52, .ref q53, .int 0, .ref q54, .int 0, .ref q55, .int (-9), .int 0, .int 0, .ref q56, .ref q57, .ref q58, .ref q59, .ref q60, .int 0, .ref q61, .ref q62, .ref q63, .int 0, .ref q64, .ref q65, .ref q66, .int 0, .ref q67])), (q50, .inl (cI, 5, .inl (fun _ => 0)))]) (wr := []) (w1 := fun _ => []) (fun hPc hDc => va_runV (As := [.int 0, .int a2, .int 12]) (rest := [.int (-3)]) ⟨hx, hb, hml, hown, hts⟩ (kX12_copy_75 l dC dI cI c2 q49 q50 q51 q52 q53 q54 q55 q56 q57 q58 q59 q60 q61 q62 q63 q64 q65 q66 q67 H.size a2 (by omega) (by omega)) (cwV 3 hts gL_law_X12_copy rfl rfl rfl (by decide +kernel) ⟨Nat.le_of_ble_eq_true rfl, Nat.le_of_ble_eq_true rfl⟩) (pre_V hPc hK hDc hN (ci := 12) (q0 := 0) rfl rfl) rfl rfl hl.1 rfl (lv_room (Nat.le_of_ble_eq_true rfl)) dL_law_963 ⟨Nat.le_of_ble_eq_true rfl, Nat.le_of_ble_eq_true rfl⟩) hP hD hS hA [0, 1] [] rfl rfl (by decide) (by decide) (by decide) (fun u H locs hP hD hS => ?_)
                                          have hP : va_P (dC, dI) vwCl [] H := hP
                                          have hD : va_D A [] := hD
                                          refine lv_icmp_eq (tgt := 1080) hx hb dL_law_966 (by decide) (fun _ => ?_) (fun h9 => absurd (by decide +kernel) h9)
                                          refine lv_iinc (v := 4) (lv' := [(3, .int 4), (2, .ref q49), (1, .ref q1), (0, .ref b)]) hx hb dL_law_1080 hl (k := 0) rfl (by decide +kernel) (by decide) rfl (fun ls hl => ?_)
                                          refine lv_goto (tgt := 18) hx hb dL_law_1083 (by decide) ?_
                                          refine lv_iload_n hx hb dL_law_18 rfl (lv_at hl 0 rfl) ?_
                                          refine lv_aload_n hx hb dL_law_19 rfl (lv_at hl 3 rfl) ?_
                                          refine va_slen hx hb hX hbl hbA hS dL_law_20 (tk_i (v := 4) (by decide +kernel) ?_)
                                          refine lv_iconst (v := 4) hx hb dL_law_21 (by decide) ?_
                                          refine lv_isub hx hb dL_law_22 (tk_i (v := 0) (by decide +kernel) ?_)
                                          refine lv_icmp_gt (tgt := 1086) hx hb dL_law_23 (by decide) (fun _ => ?_) (fun h9 => absurd (by decide +kernel) h9)
                                          refine lv_iconst (v := 1) hx hb dL_law_1086 (by decide) ?_
                                          refine va_forget (fun q hq => by have h9 := hS.2.2 q hq; rw [← hAe] at h9; exact h9) ?_
                                          refine W.widen (k := 600000) (n := 7302250) (by decide) (by decide) ?_
                                          exact lw_ret hx hb hr hlocks dL_law_1087
                                      ·
                                        have e_a1 : a1 = 0 := ib_eq (X := 0) (by omega) (by decide +kernel)
                                        subst e_a1
                                        have e_a3 : a3 = 12 := ib_eq (X := 12) (by omega) (by decide +kernel)
                                        subst e_a3
                                        refine lv_aload_n hx hb dL_law_928 rfl (lv_at hl 2 rfl) ?_
                                        refine lv_aload_n hx hb dL_law_929 rfl (lv_at hl 3 rfl) ?_
                                        refine lv_iload_n hx hb dL_law_930 rfl (lv_at hl 0 rfl) ?_
                                        refine lv_iconst (v := 1) hx hb dL_law_931 (by decide) ?_
                                        refine lv_iadd hx hb dL_law_932 (tk_i (v := 1) (by decide +kernel) ?_)
                                        refine va_sld hx hb hX hbl hbA hS (vin (by decide +kernel)) dL_law_933 (tk_i (v := 0) ha1 ?_)
                                        refine lv_aload_n hx hb dL_law_934 rfl (lv_at hl 3 rfl) ?_
                                        refine lv_iload_n hx hb dL_law_935 rfl (lv_at hl 0 rfl) ?_
                                        refine lv_iconst (v := 2) hx hb dL_law_936 (by decide) ?_
                                        refine lv_iadd hx hb dL_law_937 (tk_i (v := 2) (by decide +kernel) ?_)
                                        refine va_sld hx hb hX hbl hbA hS (vin (by decide +kernel)) dL_law_938 (tk_i (v := a2) ha2 ?_)
                                        refine lv_aload_n hx hb dL_law_939 rfl (lv_at hl 3 rfl) ?_
                                        refine lv_iload_n hx hb dL_law_940 rfl (lv_at hl 0 rfl) ?_
                                        refine lv_iconst (v := 3) hx hb dL_law_941 (by decide) ?_
                                        refine lv_iadd hx hb dL_law_942 (tk_i (v := 3) (by decide +kernel) ?_)
                                        refine va_sld hx hb hX hbl hbA hS (vin (by decide +kernel)) dL_law_943 (tk_i (v := 12) ha3 ?_)
                                        refine kcall_i (D := (dC, dI)) (S := Unit) (v := (-3)) (wc := [(q1, .inr (11, [.ref q2, .ref q4, .ref q6, .ref q18, .ref q23, .ref q28, .ref q33, .ref q36, .ref q37, .ref q40, .ref q44, .ref q48, .int 0])), (q4, .inr (10, [.ref q5, .int 0, .int 0])), (q48, .inl (cI, 5, .inl (fun _ => 0)))]) (wr := [(q49, .inr (12, [.int 0, .ref q50, .int 0, .ref q51, .int 0, .ref q52, .ref q53, .int 0, .ref q54, .int 0, .ref q55, .int (-9), .int 0, .int 0, .ref q56, .ref q57, .ref q58, .ref q59, .ref q60, .int 0, .ref q61, .ref q62, .ref q63, .int 0, .ref q64, .ref q65, .ref q66, .int 0, .ref q67])), (q50, .inl (cI, 5, .inl (fun _ => 0)))]) (w1 := fun _ => []) (fun hPc hDc => va_runV (As := [.int 0, .int a2, .int 12]) (rest := []) ⟨hx, hb, hml, hown, hts⟩ (kX11_copy_76 l dC dI cI c2 q1 q4 q48 q2 q6 q18 q23 q28 q33 q36 q37 q40 q44 q5 H.size a2 (by omega) (by omega)) (cwV 3 hts gL_law_X11_copy rfl rfl rfl (by decide +kernel) ⟨Nat.le_of_ble_eq_true rfl, Nat.le_of_ble_eq_true rfl⟩) (pre_V hPc hK hDc hN (ci := 11) (q0 := 0) rfl rfl) rfl rfl hl.1 rfl (lv_room (Nat.le_of_ble_eq_true rfl)) dL_law_944 ⟨Nat.le_of_ble_eq_true rfl, Nat.le_of_ble_eq_true rfl⟩) hP hD hS hA [0, 3, 27] [28, 29] rfl rfl (by decide) (by decide) (by decide) (fun u H locs hP hD hS => ?_)
                                        have hP : va_P (dC, dI) vwCl [(q49, .inr (12, [.int 0, .ref q50, .int 0, .ref q51, .int 0, .ref q52, .ref q53, .int 0, .ref q54, .int 0, .ref q55, .int (-9), .int 0, .int 0, .ref q56, .ref q57, .ref q58, .ref q59, .ref q60, .int 0, .ref q61, .ref q62, .ref q63, .int 0, .ref q64, .ref q65, .ref q66, .int 0, .ref q67])), (q50, .inl (cI, 5, .inl (fun _ => 0)))] H := hP
                                        have hD : va_D A [(q49, .inr (12, [.int 0, .ref q50, .int 0, .ref q51, .int 0, .ref q52, .ref q53, .int 0, .ref q54, .int 0, .ref q55, .int (-9), .int 0, .int 0, .ref q56, .ref q57, .ref q58, .ref q59, .ref q60, .int 0, .ref q61, .ref q62, .ref q63, .int 0, .ref q64, .ref q65, .ref q66, .int 0, .ref q67])), (q50, .inl (cI, 5, .inl (fun _ => 0)))] := hD
                                        refine lv_aload_n hx hb dL_law_947 rfl (lv_at hl 1 rfl) ?_
                                        refine lv_aload_n hx hb dL_law_948 rfl (lv_at hl 3 rfl) ?_
                                        refine lv_iload_n hx hb dL_law_949 rfl (lv_at hl 0 rfl) ?_
                                        refine lv_iconst (v := 1) hx hb dL_law_950 (by decide) ?_
                                        refine lv_iadd hx hb dL_law_951 (tk_i (v := 1) (by decide +kernel) ?_)
                                        refine va_sld hx hb hX hbl hbA hS (vin (by decide +kernel)) dL_law_952 (tk_i (v := 0) ha1 ?_)
                                        refine lv_aload_n hx hb dL_law_953 rfl (lv_at hl 3 rfl) ?_
                                        refine lv_iload_n hx hb dL_law_954 rfl (lv_at hl 0 rfl) ?_
                                        refine lv_iconst (v := 2) hx hb dL_law_955 (by decide) ?_
                                        refine lv_iadd hx hb dL_law_956 (tk_i (v := 2) (by decide +kernel) ?_)
                                        refine va_sld hx hb hX hbl hbA hS (vin (by decide +kernel)) dL_law_957 (tk_i (v := a2) ha2 ?_)
                                        refine lv_aload_n hx hb dL_law_958 rfl (lv_at hl 3 rfl) ?_
                                        refine lv_iload_n hx hb dL_law_959 rfl (lv_at hl 0 rfl) ?_
                                        refine lv_iconst (v := 3) hx hb dL_law_960 (by decide) ?_
                                        refine lv_iadd hx hb dL_law_961 (tk_i (v := 3) (by decide +kernel) ?_)
                                        refine va_sld hx hb hX hbl hbA hS (vin (by decide +kernel)) dL_law_962 (tk_i (v := 12) ha3 ?_)
                                        refine kcall_i (D := (dC, dI)) (S := Unit) (v := (-3)) (wc := [(q49, .inr (12, [.int 0, .ref q50, .int 0, .ref q51, .int 0, .ref q52, .ref q53, .int 0, .ref q54, .int 0, .ref q55, .int (-9), .int 0, .int 0, .ref q56, .ref q57, .ref q58, .ref q59, .ref q60, .int 0, .ref q61, .ref q62, .ref q63, .int 0, .ref q64, .ref q65, .ref q66, .int 0, .ref q67])), (q50, .inl (cI, 5, .inl (fun _ => 0)))]) (wr := []) (w1 := fun _ => []) (fun hPc hDc => va_runV (As := [.int 0, .int a2, .int 12]) (rest := [.int (-3)]) ⟨hx, hb, hml, hown, hts⟩ (kX12_copy_76 l dC dI cI c2 q49 q50 q51 q52 q53 q54 q55 q56 q57 q58 q59 q60 q61 q62 q63 q64 q65 q66 q67 H.size a2 (by omega) (by omega)) (cwV 3 hts gL_law_X12_copy rfl rfl rfl (by decide +kernel) ⟨Nat.le_of_ble_eq_true rfl, Nat.le_of_ble_eq_true rfl⟩) (pre_V hPc hK hDc hN (ci := 12) (q0 := 0) rfl rfl) rfl rfl hl.1 rfl (lv_room (Nat.le_of_ble_eq_true rfl)) dL_law_963 ⟨Nat.le_of_ble_eq_true rfl, Nat.le_of_ble_eq_true rfl⟩) hP hD hS hA [0, 1] [] rfl rfl (by decide) (by decide) (by decide) (fun u H locs hP hD hS => ?_)
                                        have hP : va_P (dC, dI) vwCl [] H := hP
                                        have hD : va_D A [] := hD
                                        refine lv_icmp_eq (tgt := 1080) hx hb dL_law_966 (by decide) (fun _ => ?_) (fun h9 => absurd (by decide +kernel) h9)
                                        refine lv_iinc (v := 4) (lv' := [(3, .int 4), (2, .ref q49), (1, .ref q1), (0, .ref b)]) hx hb dL_law_1080 hl (k := 0) rfl (by decide +kernel) (by decide) rfl (fun ls hl => ?_)
                                        refine lv_goto (tgt := 18) hx hb dL_law_1083 (by decide) ?_
                                        refine lv_iload_n hx hb dL_law_18 rfl (lv_at hl 0 rfl) ?_
                                        refine lv_aload_n hx hb dL_law_19 rfl (lv_at hl 3 rfl) ?_
                                        refine va_slen hx hb hX hbl hbA hS dL_law_20 (tk_i (v := 4) (by decide +kernel) ?_)
                                        refine lv_iconst (v := 4) hx hb dL_law_21 (by decide) ?_
                                        refine lv_isub hx hb dL_law_22 (tk_i (v := 0) (by decide +kernel) ?_)
                                        refine lv_icmp_gt (tgt := 1086) hx hb dL_law_23 (by decide) (fun _ => ?_) (fun h9 => absurd (by decide +kernel) h9)
                                        refine lv_iconst (v := 1) hx hb dL_law_1086 (by decide) ?_
                                        refine va_forget (fun q hq => by have h9 := hS.2.2 q hq; rw [← hAe] at h9; exact h9) ?_
                                        refine W.widen (k := 600000) (n := 7302250) (by decide) (by decide) ?_
                                        exact lw_ret hx hb hr hlocks dL_law_1087
                                  ·
                                    rcases (show a2.toInt ≤ (-1) ∨ 0 ≤ a2.toInt by omega) with g_a2_0 | g_a2_0
                                    ·
                                      have e_a3 : a3 = 12 := ib_eq (X := 12) (by omega) (by decide +kernel)
                                      subst e_a3
                                      refine lv_aload_n hx hb dL_law_928 rfl (lv_at hl 2 rfl) ?_
                                      refine lv_aload_n hx hb dL_law_929 rfl (lv_at hl 3 rfl) ?_
                                      refine lv_iload_n hx hb dL_law_930 rfl (lv_at hl 0 rfl) ?_
                                      refine lv_iconst (v := 1) hx hb dL_law_931 (by decide) ?_
                                      refine lv_iadd hx hb dL_law_932 (tk_i (v := 1) (by decide +kernel) ?_)
                                      refine va_sld hx hb hX hbl hbA hS (vin (by decide +kernel)) dL_law_933 (tk_i (v := a1) ha1 ?_)
                                      refine lv_aload_n hx hb dL_law_934 rfl (lv_at hl 3 rfl) ?_
                                      refine lv_iload_n hx hb dL_law_935 rfl (lv_at hl 0 rfl) ?_
                                      refine lv_iconst (v := 2) hx hb dL_law_936 (by decide) ?_
                                      refine lv_iadd hx hb dL_law_937 (tk_i (v := 2) (by decide +kernel) ?_)
                                      refine va_sld hx hb hX hbl hbA hS (vin (by decide +kernel)) dL_law_938 (tk_i (v := a2) ha2 ?_)
                                      refine lv_aload_n hx hb dL_law_939 rfl (lv_at hl 3 rfl) ?_
                                      refine lv_iload_n hx hb dL_law_940 rfl (lv_at hl 0 rfl) ?_
                                      refine lv_iconst (v := 3) hx hb dL_law_941 (by decide) ?_
                                      refine lv_iadd hx hb dL_law_942 (tk_i (v := 3) (by decide +kernel) ?_)
                                      refine va_sld hx hb hX hbl hbA hS (vin (by decide +kernel)) dL_law_943 (tk_i (v := 12) ha3 ?_)
                                      refine kcall_i (D := (dC, dI)) (S := Unit) (v := (-3)) (wc := [(q1, .inr (11, [.ref q2, .ref q4, .ref q6, .ref q18, .ref q23, .ref q28, .ref q33, .ref q36, .ref q37, .ref q40, .ref q44, .ref q48, .int 0])), (q4, .inr (10, [.ref q5, .int 0, .int 0])), (q48, .inl (cI, 5, .inl (fun _ => 0)))]) (wr := [(q49, .inr (12, [.int 0, .ref q50, .int 0, .ref q51, .int 0, .ref q52, .ref q53, .int 0, .ref q54, .int 0, .ref q55, .int (-9), .int 0, .int 0, .ref q56, .ref q57, .ref q58, .ref q59, .ref q60, .int 0, .ref q61, .ref q62, .ref q63, .int 0, .ref q64, .ref q65, .ref q66, .int 0, .ref q67])), (q50, .inl (cI, 5, .inl (fun _ => 0)))]) (w1 := fun _ => []) (fun hPc hDc => va_runV (As := [.int a1, .int a2, .int 12]) (rest := []) ⟨hx, hb, hml, hown, hts⟩ (kX11_copy_77 l dC dI cI c2 q1 q4 q48 q2 q6 q18 q23 q28 q33 q36 q37 q40 q44 q5 H.size a1 a2 (by omega) (by omega) (by omega) (by omega)) (cwV 3 hts gL_law_X11_copy rfl rfl rfl (by decide +kernel) ⟨Nat.le_of_ble_eq_true rfl, Nat.le_of_ble_eq_true rfl⟩) (pre_V hPc hK hDc hN (ci := 11) (q0 := 0) rfl rfl) rfl rfl hl.1 rfl (lv_room (Nat.le_of_ble_eq_true rfl)) dL_law_944 ⟨Nat.le_of_ble_eq_true rfl, Nat.le_of_ble_eq_true rfl⟩) hP hD hS hA [0, 3, 27] [28, 29] rfl rfl (by decide) (by decide) (by decide) (fun u H locs hP hD hS => ?_)
                                      have hP : va_P (dC, dI) vwCl [(q49, .inr (12, [.int 0, .ref q50, .int 0, .ref q51, .int 0, .ref q52, .ref q53, .int 0, .ref q54, .int 0, .ref q55, .int (-9), .int 0, .int 0, .ref q56, .ref q57, .ref q58, .ref q59, .ref q60, .int 0, .ref q61, .ref q62, .ref q63, .int 0, .ref q64, .ref q65, .ref q66, .int 0, .ref q67])), (q50, .inl (cI, 5, .inl (fun _ => 0)))] H := hP
                                      have hD : va_D A [(q49, .inr (12, [.int 0, .ref q50, .int 0, .ref q51, .int 0, .ref q52, .ref q53, .int 0, .ref q54, .int 0, .ref q55, .int (-9), .int 0, .int 0, .ref q56, .ref q57, .ref q58, .ref q59, .ref q60, .int 0, .ref q61, .ref q62, .ref q63, .int 0, .ref q64, .ref q65, .ref q66, .int 0, .ref q67])), (q50, .inl (cI, 5, .inl (fun _ => 0)))] := hD
                                      refine lv_aload_n hx hb dL_law_947 rfl (lv_at hl 1 rfl) ?_
                                      refine lv_aload_n hx hb dL_law_948 rfl (lv_at hl 3 rfl) ?_
                                      refine lv_iload_n hx hb dL_law_949 rfl (lv_at hl 0 rfl) ?_
                                      refine lv_iconst (v := 1) hx hb dL_law_950 (by decide) ?_
                                      refine lv_iadd hx hb dL_law_951 (tk_i (v := 1) (by decide +kernel) ?_)
                                      refine va_sld hx hb hX hbl hbA hS (vin (by decide +kernel)) dL_law_952 (tk_i (v := a1) ha1 ?_)
                                      refine lv_aload_n hx hb dL_law_953 rfl (lv_at hl 3 rfl) ?_
                                      refine lv_iload_n hx hb dL_law_954 rfl (lv_at hl 0 rfl) ?_
                                      refine lv_iconst (v := 2) hx hb dL_law_955 (by decide) ?_
                                      refine lv_iadd hx hb dL_law_956 (tk_i (v := 2) (by decide +kernel) ?_)
                                      refine va_sld hx hb hX hbl hbA hS (vin (by decide +kernel)) dL_law_957 (tk_i (v := a2) ha2 ?_)
                                      refine lv_aload_n hx hb dL_law_958 rfl (lv_at hl 3 rfl) ?_
                                      refine lv_iload_n hx hb dL_law_959 rfl (lv_at hl 0 rfl) ?_
                                      refine lv_iconst (v := 3) hx hb dL_law_960 (by decide) ?_
                                      refine lv_iadd hx hb dL_law_961 (tk_i (v := 3) (by decide +kernel) ?_)
                                      refine va_sld hx hb hX hbl hbA hS (vin (by decide +kernel)) dL_law_962 (tk_i (v := 12) ha3 ?_)
                                      refine kcall_i (D := (dC, dI)) (S := Unit) (v := (-3)) (wc := [(q49, .inr (12, [.int 0, .ref q50, .int 0, .ref q51, .int 0, .ref q52, .ref q53, .int 0, .ref q54, .int 0, .ref q55, .int (-9), .int 0, .int 0, .ref q56, .ref q57, .ref q58, .ref q59, .ref q60, .int 0, .ref q61, .ref q62, .ref q63, .int 0, .ref q64, .ref q65, .ref q66, .int 0, .ref q67])), (q50, .inl (cI, 5, .inl (fun _ => 0)))]) (wr := []) (w1 := fun _ => []) (fun hPc hDc => va_runV (As := [.int a1, .int a2, .int 12]) (rest := [.int (-3)]) ⟨hx, hb, hml, hown, hts⟩ (kX12_copy_77 l dC dI cI c2 q49 q50 q51 q52 q53 q54 q55 q56 q57 q58 q59 q60 q61 q62 q63 q64 q65 q66 q67 H.size a1 a2 (by omega) (by omega) (by omega) (by omega)) (cwV 3 hts gL_law_X12_copy rfl rfl rfl (by decide +kernel) ⟨Nat.le_of_ble_eq_true rfl, Nat.le_of_ble_eq_true rfl⟩) (pre_V hPc hK hDc hN (ci := 12) (q0 := 0) rfl rfl) rfl rfl hl.1 rfl (lv_room (Nat.le_of_ble_eq_true rfl)) dL_law_963 ⟨Nat.le_of_ble_eq_true rfl, Nat.le_of_ble_eq_true rfl⟩) hP hD hS hA [0, 1] [] rfl rfl (by decide) (by decide) (by decide) (fun u H locs hP hD hS => ?_)
                                      have hP : va_P (dC, dI) vwCl [] H := hP
                                      have hD : va_D A [] := hD
                                      refine lv_icmp_eq (tgt := 1080) hx hb dL_law_966 (by decide) (fun _ => ?_) (fun h9 => absurd (by decide +kernel) h9)
                                      refine lv_iinc (v := 4) (lv' := [(3, .int 4), (2, .ref q49), (1, .ref q1), (0, .ref b)]) hx hb dL_law_1080 hl (k := 0) rfl (by decide +kernel) (by decide) rfl (fun ls hl => ?_)
                                      refine lv_goto (tgt := 18) hx hb dL_law_1083 (by decide) ?_
                                      refine lv_iload_n hx hb dL_law_18 rfl (lv_at hl 0 rfl) ?_
                                      refine lv_aload_n hx hb dL_law_19 rfl (lv_at hl 3 rfl) ?_
                                      refine va_slen hx hb hX hbl hbA hS dL_law_20 (tk_i (v := 4) (by decide +kernel) ?_)
                                      refine lv_iconst (v := 4) hx hb dL_law_21 (by decide) ?_
                                      refine lv_isub hx hb dL_law_22 (tk_i (v := 0) (by decide +kernel) ?_)
                                      refine lv_icmp_gt (tgt := 1086) hx hb dL_law_23 (by decide) (fun _ => ?_) (fun h9 => absurd (by decide +kernel) h9)
                                      refine lv_iconst (v := 1) hx hb dL_law_1086 (by decide) ?_
                                      refine va_forget (fun q hq => by have h9 := hS.2.2 q hq; rw [← hAe] at h9; exact h9) ?_
                                      refine W.widen (k := 600000) (n := 7302250) (by decide) (by decide) ?_
                                      exact lw_ret hx hb hr hlocks dL_law_1087
                                    ·
                                      have e_a3 : a3 = 12 := ib_eq (X := 12) (by omega) (by decide +kernel)
                                      subst e_a3
                                      refine lv_aload_n hx hb dL_law_928 rfl (lv_at hl 2 rfl) ?_
                                      refine lv_aload_n hx hb dL_law_929 rfl (lv_at hl 3 rfl) ?_
                                      refine lv_iload_n hx hb dL_law_930 rfl (lv_at hl 0 rfl) ?_
                                      refine lv_iconst (v := 1) hx hb dL_law_931 (by decide) ?_
                                      refine lv_iadd hx hb dL_law_932 (tk_i (v := 1) (by decide +kernel) ?_)
                                      refine va_sld hx hb hX hbl hbA hS (vin (by decide +kernel)) dL_law_933 (tk_i (v := a1) ha1 ?_)
                                      refine lv_aload_n hx hb dL_law_934 rfl (lv_at hl 3 rfl) ?_
                                      refine lv_iload_n hx hb dL_law_935 rfl (lv_at hl 0 rfl) ?_
                                      refine lv_iconst (v := 2) hx hb dL_law_936 (by decide) ?_
                                      refine lv_iadd hx hb dL_law_937 (tk_i (v := 2) (by decide +kernel) ?_)
                                      refine va_sld hx hb hX hbl hbA hS (vin (by decide +kernel)) dL_law_938 (tk_i (v := a2) ha2 ?_)
                                      refine lv_aload_n hx hb dL_law_939 rfl (lv_at hl 3 rfl) ?_
                                      refine lv_iload_n hx hb dL_law_940 rfl (lv_at hl 0 rfl) ?_
                                      refine lv_iconst (v := 3) hx hb dL_law_941 (by decide) ?_
                                      refine lv_iadd hx hb dL_law_942 (tk_i (v := 3) (by decide +kernel) ?_)
                                      refine va_sld hx hb hX hbl hbA hS (vin (by decide +kernel)) dL_law_943 (tk_i (v := 12) ha3 ?_)
                                      refine kcall_i (D := (dC, dI)) (S := Unit) (v := (-3)) (wc := [(q1, .inr (11, [.ref q2, .ref q4, .ref q6, .ref q18, .ref q23, .ref q28, .ref q33, .ref q36, .ref q37, .ref q40, .ref q44, .ref q48, .int 0])), (q4, .inr (10, [.ref q5, .int 0, .int 0])), (q48, .inl (cI, 5, .inl (fun _ => 0)))]) (wr := [(q49, .inr (12, [.int 0, .ref q50, .int 0, .ref q51, .int 0, .ref q52, .ref q53, .int 0, .ref q54, .int 0, .ref q55, .int (-9), .int 0, .int 0, .ref q56, .ref q57, .ref q58, .ref q59, .ref q60, .int 0, .ref q61, .ref q62, .ref q63, .int 0, .ref q64, .ref q65, .ref q66, .int 0, .ref q67])), (q50, .inl (cI, 5, .inl (fun _ => 0)))]) (w1 := fun _ => []) (fun hPc hDc => va_runV (As := [.int a1, .int a2, .int 12]) (rest := []) ⟨hx, hb, hml, hown, hts⟩ (kX11_copy_78 l dC dI cI c2 q1 q4 q48 q2 q6 q18 q23 q28 q33 q36 q37 q40 q44 q5 H.size a1 a2 (by omega) (by omega) (by omega) (by omega)) (cwV 3 hts gL_law_X11_copy rfl rfl rfl (by decide +kernel) ⟨Nat.le_of_ble_eq_true rfl, Nat.le_of_ble_eq_true rfl⟩) (pre_V hPc hK hDc hN (ci := 11) (q0 := 0) rfl rfl) rfl rfl hl.1 rfl (lv_room (Nat.le_of_ble_eq_true rfl)) dL_law_944 ⟨Nat.le_of_ble_eq_true rfl, Nat.le_of_ble_eq_true rfl⟩) hP hD hS hA [0, 3, 27] [28, 29] rfl rfl (by decide) (by decide) (by decide) (fun u H locs hP hD hS => ?_)
                                      have hP : va_P (dC, dI) vwCl [(q49, .inr (12, [.int 0, .ref q50, .int 0, .ref q51, .int 0, .ref q52, .ref q53, .int 0, .ref q54, .int 0, .ref q55, .int (-9), .int 0, .int 0, .ref q56, .ref q57, .ref q58, .ref q59, .ref q60, .int 0, .ref q61, .ref q62, .ref q63, .int 0, .ref q64, .ref q65, .ref q66, .int 0, .ref q67])), (q50, .inl (cI, 5, .inl (fun _ => 0)))] H := hP
                                      have hD : va_D A [(q49, .inr (12, [.int 0, .ref q50, .int 0, .ref q51, .int 0, .ref q52, .ref q53, .int 0, .ref q54, .int 0, .ref q55, .int (-9), .int 0, .int 0, .ref q56, .ref q57, .ref q58, .ref q59, .ref q60, .int 0, .ref q61, .ref q62, .ref q63, .int 0, .ref q64, .ref q65, .ref q66, .int 0, .ref q67])), (q50, .inl (cI, 5, .inl (fun _ => 0)))] := hD
                                      refine lv_aload_n hx hb dL_law_947 rfl (lv_at hl 1 rfl) ?_
                                      refine lv_aload_n hx hb dL_law_948 rfl (lv_at hl 3 rfl) ?_
                                      refine lv_iload_n hx hb dL_law_949 rfl (lv_at hl 0 rfl) ?_
                                      refine lv_iconst (v := 1) hx hb dL_law_950 (by decide) ?_
                                      refine lv_iadd hx hb dL_law_951 (tk_i (v := 1) (by decide +kernel) ?_)
                                      refine va_sld hx hb hX hbl hbA hS (vin (by decide +kernel)) dL_law_952 (tk_i (v := a1) ha1 ?_)
                                      refine lv_aload_n hx hb dL_law_953 rfl (lv_at hl 3 rfl) ?_
                                      refine lv_iload_n hx hb dL_law_954 rfl (lv_at hl 0 rfl) ?_
                                      refine lv_iconst (v := 2) hx hb dL_law_955 (by decide) ?_
                                      refine lv_iadd hx hb dL_law_956 (tk_i (v := 2) (by decide +kernel) ?_)
                                      refine va_sld hx hb hX hbl hbA hS (vin (by decide +kernel)) dL_law_957 (tk_i (v := a2) ha2 ?_)
                                      refine lv_aload_n hx hb dL_law_958 rfl (lv_at hl 3 rfl) ?_
                                      refine lv_iload_n hx hb dL_law_959 rfl (lv_at hl 0 rfl) ?_
                                      refine lv_iconst (v := 3) hx hb dL_law_960 (by decide) ?_
                                      refine lv_iadd hx hb dL_law_961 (tk_i (v := 3) (by decide +kernel) ?_)
                                      refine va_sld hx hb hX hbl hbA hS (vin (by decide +kernel)) dL_law_962 (tk_i (v := 12) ha3 ?_)
                                      refine kcall_i (D := (dC, dI)) (S := Unit) (v := (-3)) (wc := [(q49, .inr (12, [.int 0, .ref q50, .int 0, .ref q51, .int 0, .ref q52, .ref q53, .int 0, .ref q54, .int 0, .ref q55, .int (-9), .int 0, .int 0, .ref q56, .ref q57, .ref q58, .ref q59, .ref q60, .int 0, .ref q61, .ref q62, .ref q63, .int 0, .ref q64, .ref q65, .ref q66, .int 0, .ref q67])), (q50, .inl (cI, 5, .inl (fun _ => 0)))]) (wr := []) (w1 := fun _ => []) (fun hPc hDc => va_runV (As := [.int a1, .int a2, .int 12]) (rest := [.int (-3)]) ⟨hx, hb, hml, hown, hts⟩ (kX12_copy_78 l dC dI cI c2 q49 q50 q51 q52 q53 q54 q55 q56 q57 q58 q59 q60 q61 q62 q63 q64 q65 q66 q67 H.size a1 a2 (by omega) (by omega) (by omega) (by omega)) (cwV 3 hts gL_law_X12_copy rfl rfl rfl (by decide +kernel) ⟨Nat.le_of_ble_eq_true rfl, Nat.le_of_ble_eq_true rfl⟩) (pre_V hPc hK hDc hN (ci := 12) (q0 := 0) rfl rfl) rfl rfl hl.1 rfl (lv_room (Nat.le_of_ble_eq_true rfl)) dL_law_963 ⟨Nat.le_of_ble_eq_true rfl, Nat.le_of_ble_eq_true rfl⟩) hP hD hS hA [0, 1] [] rfl rfl (by decide) (by decide) (by decide) (fun u H locs hP hD hS => ?_)
                                      have hP : va_P (dC, dI) vwCl [] H := hP
                                      have hD : va_D A [] := hD
                                      refine lv_icmp_eq (tgt := 1080) hx hb dL_law_966 (by decide) (fun _ => ?_) (fun h9 => absurd (by decide +kernel) h9)
                                      refine lv_iinc (v := 4) (lv' := [(3, .int 4), (2, .ref q49), (1, .ref q1), (0, .ref b)]) hx hb dL_law_1080 hl (k := 0) rfl (by decide +kernel) (by decide) rfl (fun ls hl => ?_)
                                      refine lv_goto (tgt := 18) hx hb dL_law_1083 (by decide) ?_
                                      refine lv_iload_n hx hb dL_law_18 rfl (lv_at hl 0 rfl) ?_
                                      refine lv_aload_n hx hb dL_law_19 rfl (lv_at hl 3 rfl) ?_
                                      refine va_slen hx hb hX hbl hbA hS dL_law_20 (tk_i (v := 4) (by decide +kernel) ?_)
                                      refine lv_iconst (v := 4) hx hb dL_law_21 (by decide) ?_
                                      refine lv_isub hx hb dL_law_22 (tk_i (v := 0) (by decide +kernel) ?_)
                                      refine lv_icmp_gt (tgt := 1086) hx hb dL_law_23 (by decide) (fun _ => ?_) (fun h9 => absurd (by decide +kernel) h9)
                                      refine lv_iconst (v := 1) hx hb dL_law_1086 (by decide) ?_
                                      refine va_forget (fun q hq => by have h9 := hS.2.2 q hq; rw [← hAe] at h9; exact h9) ?_
                                      refine W.widen (k := 600000) (n := 7302250) (by decide) (by decide) ?_
                                      exact lw_ret hx hb hr hlocks dL_law_1087
        ·
          rcases (show a2.toInt ≤ (-1) ∨ 0 ≤ a2.toInt by omega) with g_a2_0 | g_a2_0
          ·
            refine lv_aload_n hx hb dL_law_928 rfl (lv_at hl 2 rfl) ?_
            refine lv_aload_n hx hb dL_law_929 rfl (lv_at hl 3 rfl) ?_
            refine lv_iload_n hx hb dL_law_930 rfl (lv_at hl 0 rfl) ?_
            refine lv_iconst (v := 1) hx hb dL_law_931 (by decide) ?_
            refine lv_iadd hx hb dL_law_932 (tk_i (v := 1) (by decide +kernel) ?_)
            refine va_sld hx hb hX hbl hbA hS (vin (by decide +kernel)) dL_law_933 (tk_i (v := a1) ha1 ?_)
            refine lv_aload_n hx hb dL_law_934 rfl (lv_at hl 3 rfl) ?_
            refine lv_iload_n hx hb dL_law_935 rfl (lv_at hl 0 rfl) ?_
            refine lv_iconst (v := 2) hx hb dL_law_936 (by decide) ?_
            refine lv_iadd hx hb dL_law_937 (tk_i (v := 2) (by decide +kernel) ?_)
            refine va_sld hx hb hX hbl hbA hS (vin (by decide +kernel)) dL_law_938 (tk_i (v := a2) ha2 ?_)
            refine lv_aload_n hx hb dL_law_939 rfl (lv_at hl 3 rfl) ?_
            refine lv_iload_n hx hb dL_law_940 rfl (lv_at hl 0 rfl) ?_
            refine lv_iconst (v := 3) hx hb dL_law_941 (by decide) ?_
            refine lv_iadd hx hb dL_law_942 (tk_i (v := 3) (by decide +kernel) ?_)
            refine va_sld hx hb hX hbl hbA hS (vin (by decide +kernel)) dL_law_943 (tk_i (v := a3) ha3 ?_)
            refine kcall_i (D := (dC, dI)) (S := Unit) (v := (-3)) (wc := [(q1, .inr (11, [.ref q2, .ref q4, .ref q6, .ref q18, .ref q23, .ref q28, .ref q33, .ref q36, .ref q37, .ref q40, .ref q44, .ref q48, .int 0])), (q4, .inr (10, [.ref q5, .int 0, .int 0])), (q48, .inl (cI, 5, .inl (fun _ => 0)))]) (wr := [(q49, .inr (12, [.int 0, .ref q50, .int 0, .ref q51, .int 0, .ref q52, .ref q53, .int 0, .ref q54, .int 0, .ref q55, .int (-9), .int 0, .int 0, .ref q56, .ref q57, .ref q58, .ref q59, .ref q60, .int 0, .ref q61, .ref q62, .ref q63, .int 0, .ref q64, .ref q65, .ref q66, .int 0, .ref q67])), (q50, .inl (cI, 5, .inl (fun _ => 0)))]) (w1 := fun _ => []) (fun hPc hDc => va_runV (As := [.int a1, .int a2, .int a3]) (rest := []) ⟨hx, hb, hml, hown, hts⟩ (kX11_copy_79 l dC dI cI c2 q1 q4 q48 q2 q6 q18 q23 q28 q33 q36 q37 q40 q44 q5 H.size a1 a2 a3 (by omega) (by omega) (by omega) (by omega) (by omega) (by omega)) (cwV 3 hts gL_law_X11_copy rfl rfl rfl (by decide +kernel) ⟨Nat.le_of_ble_eq_true rfl, Nat.le_of_ble_eq_true rfl⟩) (pre_V hPc hK hDc hN (ci := 11) (q0 := 0) rfl rfl) rfl rfl hl.1 rfl (lv_room (Nat.le_of_ble_eq_true rfl)) dL_law_944 ⟨Nat.le_of_ble_eq_true rfl, Nat.le_of_ble_eq_true rfl⟩) hP hD hS hA [0, 3, 27] [28, 29] rfl rfl (by decide) (by decide) (by decide) (fun u H locs hP hD hS => ?_)
            have hP : va_P (dC, dI) vwCl [(q49, .inr (12, [.int 0, .ref q50, .int 0, .ref q51, .int 0, .ref q52, .ref q53, .int 0, .ref q54, .int 0, .ref q55, .int (-9), .int 0, .int 0, .ref q56, .ref q57, .ref q58, .ref q59, .ref q60, .int 0, .ref q61, .ref q62, .ref q63, .int 0, .ref q64, .ref q65, .ref q66, .int 0, .ref q67])), (q50, .inl (cI, 5, .inl (fun _ => 0)))] H := hP
            have hD : va_D A [(q49, .inr (12, [.int 0, .ref q50, .int 0, .ref q51, .int 0, .ref q52, .ref q53, .int 0, .ref q54, .int 0, .ref q55, .int (-9), .int 0, .int 0, .ref q56, .ref q57, .ref q58, .ref q59, .ref q60, .int 0, .ref q61, .ref q62, .ref q63, .int 0, .ref q64, .ref q65, .ref q66, .int 0, .ref q67])), (q50, .inl (cI, 5, .inl (fun _ => 0)))] := hD
            refine lv_aload_n hx hb dL_law_947 rfl (lv_at hl 1 rfl) ?_
            refine lv_aload_n hx hb dL_law_948 rfl (lv_at hl 3 rfl) ?_
            refine lv_iload_n hx hb dL_law_949 rfl (lv_at hl 0 rfl) ?_
            refine lv_iconst (v := 1) hx hb dL_law_950 (by decide) ?_
            refine lv_iadd hx hb dL_law_951 (tk_i (v := 1) (by decide +kernel) ?_)
            refine va_sld hx hb hX hbl hbA hS (vin (by decide +kernel)) dL_law_952 (tk_i (v := a1) ha1 ?_)
            refine lv_aload_n hx hb dL_law_953 rfl (lv_at hl 3 rfl) ?_
            refine lv_iload_n hx hb dL_law_954 rfl (lv_at hl 0 rfl) ?_
            refine lv_iconst (v := 2) hx hb dL_law_955 (by decide) ?_
            refine lv_iadd hx hb dL_law_956 (tk_i (v := 2) (by decide +kernel) ?_)
            refine va_sld hx hb hX hbl hbA hS (vin (by decide +kernel)) dL_law_957 (tk_i (v := a2) ha2 ?_)
            refine lv_aload_n hx hb dL_law_958 rfl (lv_at hl 3 rfl) ?_
            refine lv_iload_n hx hb dL_law_959 rfl (lv_at hl 0 rfl) ?_
            refine lv_iconst (v := 3) hx hb dL_law_960 (by decide) ?_
            refine lv_iadd hx hb dL_law_961 (tk_i (v := 3) (by decide +kernel) ?_)
            refine va_sld hx hb hX hbl hbA hS (vin (by decide +kernel)) dL_law_962 (tk_i (v := a3) ha3 ?_)
            refine kcall_i (D := (dC, dI)) (S := Unit) (v := (-3)) (wc := [(q49, .inr (12, [.int 0, .ref q50, .int 0, .ref q51, .int 0, .ref q52, .ref q53, .int 0, .ref q54, .int 0, .ref q55, .int (-9), .int 0, .int 0, .ref q56, .ref q57, .ref q58, .ref q59, .ref q60, .int 0, .ref q61, .ref q62, .ref q63, .int 0, .ref q64, .ref q65, .ref q66, .int 0, .ref q67])), (q50, .inl (cI, 5, .inl (fun _ => 0)))]) (wr := []) (w1 := fun _ => []) (fun hPc hDc => va_runV (As := [.int a1, .int a2, .int a3]) (rest := [.int (-3)]) ⟨hx, hb, hml, hown, hts⟩ (kX12_copy_79 l dC dI cI c2 q49 q50 q51 q52 q53 q54 q55 q56 q57 q58 q59 q60 q61 q62 q63 q64 q65 q66 q67 H.size a1 a2 a3 (by omega) (by omega) (by omega) (by omega) (by omega) (by omega)) (cwV 3 hts gL_law_X12_copy rfl rfl rfl (by decide +kernel) ⟨Nat.le_of_ble_eq_true rfl, Nat.le_of_ble_eq_true rfl⟩) (pre_V hPc hK hDc hN (ci := 12) (q0 := 0) rfl rfl) rfl rfl hl.1 rfl (lv_room (Nat.le_of_ble_eq_true rfl)) dL_law_963 ⟨Nat.le_of_ble_eq_true rfl, Nat.le_of_ble_eq_true rfl⟩) hP hD hS hA [0, 1] [] rfl rfl (by decide) (by decide) (by decide) (fun u H locs hP hD hS => ?_)
            have hP : va_P (dC, dI) vwCl [] H := hP
            have hD : va_D A [] := hD
            refine lv_icmp_eq (tgt := 1080) hx hb dL_law_966 (by decide) (fun _ => ?_) (fun h9 => absurd (by decide +kernel) h9)
            refine lv_iinc (v := 4) (lv' := [(3, .int 4), (2, .ref q49), (1, .ref q1), (0, .ref b)]) hx hb dL_law_1080 hl (k := 0) rfl (by decide +kernel) (by decide) rfl (fun ls hl => ?_)
            refine lv_goto (tgt := 18) hx hb dL_law_1083 (by decide) ?_
            refine lv_iload_n hx hb dL_law_18 rfl (lv_at hl 0 rfl) ?_
            refine lv_aload_n hx hb dL_law_19 rfl (lv_at hl 3 rfl) ?_
            refine va_slen hx hb hX hbl hbA hS dL_law_20 (tk_i (v := 4) (by decide +kernel) ?_)
            refine lv_iconst (v := 4) hx hb dL_law_21 (by decide) ?_
            refine lv_isub hx hb dL_law_22 (tk_i (v := 0) (by decide +kernel) ?_)
            refine lv_icmp_gt (tgt := 1086) hx hb dL_law_23 (by decide) (fun _ => ?_) (fun h9 => absurd (by decide +kernel) h9)
            refine lv_iconst (v := 1) hx hb dL_law_1086 (by decide) ?_
            refine va_forget (fun q hq => by have h9 := hS.2.2 q hq; rw [← hAe] at h9; exact h9) ?_
            refine W.widen (k := 600000) (n := 7302250) (by decide) (by decide) ?_
            exact lw_ret hx hb hr hlocks dL_law_1087
          ·
            refine lv_aload_n hx hb dL_law_928 rfl (lv_at hl 2 rfl) ?_
            refine lv_aload_n hx hb dL_law_929 rfl (lv_at hl 3 rfl) ?_
            refine lv_iload_n hx hb dL_law_930 rfl (lv_at hl 0 rfl) ?_
            refine lv_iconst (v := 1) hx hb dL_law_931 (by decide) ?_
            refine lv_iadd hx hb dL_law_932 (tk_i (v := 1) (by decide +kernel) ?_)
            refine va_sld hx hb hX hbl hbA hS (vin (by decide +kernel)) dL_law_933 (tk_i (v := a1) ha1 ?_)
            refine lv_aload_n hx hb dL_law_934 rfl (lv_at hl 3 rfl) ?_
            refine lv_iload_n hx hb dL_law_935 rfl (lv_at hl 0 rfl) ?_
            refine lv_iconst (v := 2) hx hb dL_law_936 (by decide) ?_
            refine lv_iadd hx hb dL_law_937 (tk_i (v := 2) (by decide +kernel) ?_)
            refine va_sld hx hb hX hbl hbA hS (vin (by decide +kernel)) dL_law_938 (tk_i (v := a2) ha2 ?_)
            refine lv_aload_n hx hb dL_law_939 rfl (lv_at hl 3 rfl) ?_
            refine lv_iload_n hx hb dL_law_940 rfl (lv_at hl 0 rfl) ?_
            refine lv_iconst (v := 3) hx hb dL_law_941 (by decide) ?_
            refine lv_iadd hx hb dL_law_942 (tk_i (v := 3) (by decide +kernel) ?_)
            refine va_sld hx hb hX hbl hbA hS (vin (by decide +kernel)) dL_law_943 (tk_i (v := a3) ha3 ?_)
            refine kcall_i (D := (dC, dI)) (S := Unit) (v := (-3)) (wc := [(q1, .inr (11, [.ref q2, .ref q4, .ref q6, .ref q18, .ref q23, .ref q28, .ref q33, .ref q36, .ref q37, .ref q40, .ref q44, .ref q48, .int 0])), (q4, .inr (10, [.ref q5, .int 0, .int 0])), (q48, .inl (cI, 5, .inl (fun _ => 0)))]) (wr := [(q49, .inr (12, [.int 0, .ref q50, .int 0, .ref q51, .int 0, .ref q52, .ref q53, .int 0, .ref q54, .int 0, .ref q55, .int (-9), .int 0, .int 0, .ref q56, .ref q57, .ref q58, .ref q59, .ref q60, .int 0, .ref q61, .ref q62, .ref q63, .int 0, .ref q64, .ref q65, .ref q66, .int 0, .ref q67])), (q50, .inl (cI, 5, .inl (fun _ => 0)))]) (w1 := fun _ => []) (fun hPc hDc => va_runV (As := [.int a1, .int a2, .int a3]) (rest := []) ⟨hx, hb, hml, hown, hts⟩ (kX11_copy_80 l dC dI cI c2 q1 q4 q48 q2 q6 q18 q23 q28 q33 q36 q37 q40 q44 q5 H.size a1 a2 a3 (by omega) (by omega) (by omega) (by omega) (by omega) (by omega)) (cwV 3 hts gL_law_X11_copy rfl rfl rfl (by decide +kernel) ⟨Nat.le_of_ble_eq_true rfl, Nat.le_of_ble_eq_true rfl⟩) (pre_V hPc hK hDc hN (ci := 11) (q0 := 0) rfl rfl) rfl rfl hl.1 rfl (lv_room (Nat.le_of_ble_eq_true rfl)) dL_law_944 ⟨Nat.le_of_ble_eq_true rfl, Nat.le_of_ble_eq_true rfl⟩) hP hD hS hA [0, 3, 27] [28, 29] rfl rfl (by decide) (by decide) (by decide) (fun u H locs hP hD hS => ?_)
            have hP : va_P (dC, dI) vwCl [(q49, .inr (12, [.int 0, .ref q50, .int 0, .ref q51, .int 0, .ref q52, .ref q53, .int 0, .ref q54, .int 0, .ref q55, .int (-9), .int 0, .int 0, .ref q56, .ref q57, .ref q58, .ref q59, .ref q60, .int 0, .ref q61, .ref q62, .ref q63, .int 0, .ref q64, .ref q65, .ref q66, .int 0, .ref q67])), (q50, .inl (cI, 5, .inl (fun _ => 0)))] H := hP
            have hD : va_D A [(q49, .inr (12, [.int 0, .ref q50, .int 0, .ref q51, .int 0, .ref q52, .ref q53, .int 0, .ref q54, .int 0, .ref q55, .int (-9), .int 0, .int 0, .ref q56, .ref q57, .ref q58, .ref q59, .ref q60, .int 0, .ref q61, .ref q62, .ref q63, .int 0, .ref q64, .ref q65, .ref q66, .int 0, .ref q67])), (q50, .inl (cI, 5, .inl (fun _ => 0)))] := hD
            refine lv_aload_n hx hb dL_law_947 rfl (lv_at hl 1 rfl) ?_
            refine lv_aload_n hx hb dL_law_948 rfl (lv_at hl 3 rfl) ?_
            refine lv_iload_n hx hb dL_law_949 rfl (lv_at hl 0 rfl) ?_
            refine lv_iconst (v := 1) hx hb dL_law_950 (by decide) ?_
            refine lv_iadd hx hb dL_law_951 (tk_i (v := 1) (by decide +kernel) ?_)
            refine va_sld hx hb hX hbl hbA hS (vin (by decide +kernel)) dL_law_952 (tk_i (v := a1) ha1 ?_)
            refine lv_aload_n hx hb dL_law_953 rfl (lv_at hl 3 rfl) ?_
            refine lv_iload_n hx hb dL_law_954 rfl (lv_at hl 0 rfl) ?_
            refine lv_iconst (v := 2) hx hb dL_law_955 (by decide) ?_
            refine lv_iadd hx hb dL_law_956 (tk_i (v := 2) (by decide +kernel) ?_)
            refine va_sld hx hb hX hbl hbA hS (vin (by decide +kernel)) dL_law_957 (tk_i (v := a2) ha2 ?_)
            refine lv_aload_n hx hb dL_law_958 rfl (lv_at hl 3 rfl) ?_
            refine lv_iload_n hx hb dL_law_959 rfl (lv_at hl 0 rfl) ?_
            refine lv_iconst (v := 3) hx hb dL_law_960 (by decide) ?_
            refine lv_iadd hx hb dL_law_961 (tk_i (v := 3) (by decide +kernel) ?_)
            refine va_sld hx hb hX hbl hbA hS (vin (by decide +kernel)) dL_law_962 (tk_i (v := a3) ha3 ?_)
            refine kcall_i (D := (dC, dI)) (S := Unit) (v := (-3)) (wc := [(q49, .inr (12, [.int 0, .ref q50, .int 0, .ref q51, .int 0, .ref q52, .ref q53, .int 0, .ref q54, .int 0, .ref q55, .int (-9), .int 0, .int 0, .ref q56, .ref q57, .ref q58, .ref q59, .ref q60, .int 0, .ref q61, .ref q62, .ref q63, .int 0, .ref q64, .ref q65, .ref q66, .int 0, .ref q67])), (q50, .inl (cI, 5, .inl (fun _ => 0)))]) (wr := []) (w1 := fun _ => []) (fun hPc hDc => va_runV (As := [.int a1, .int a2, .int a3]) (rest := [.int (-3)]) ⟨hx, hb, hml, hown, hts⟩ (kX12_copy_80 l dC dI cI c2 q49 q50 q51 q52 q53 q54 q55 q56 q57 q58 q59 q60 q61 q62 q63 q64 q65 q66 q67 H.size a1 a2 a3 (by omega) (by omega) (by omega) (by omega) (by omega) (by omega)) (cwV 3 hts gL_law_X12_copy rfl rfl rfl (by decide +kernel) ⟨Nat.le_of_ble_eq_true rfl, Nat.le_of_ble_eq_true rfl⟩) (pre_V hPc hK hDc hN (ci := 12) (q0 := 0) rfl rfl) rfl rfl hl.1 rfl (lv_room (Nat.le_of_ble_eq_true rfl)) dL_law_963 ⟨Nat.le_of_ble_eq_true rfl, Nat.le_of_ble_eq_true rfl⟩) hP hD hS hA [0, 1] [] rfl rfl (by decide) (by decide) (by decide) (fun u H locs hP hD hS => ?_)
            have hP : va_P (dC, dI) vwCl [] H := hP
            have hD : va_D A [] := hD
            refine lv_icmp_eq (tgt := 1080) hx hb dL_law_966 (by decide) (fun _ => ?_) (fun h9 => absurd (by decide +kernel) h9)
            refine lv_iinc (v := 4) (lv' := [(3, .int 4), (2, .ref q49), (1, .ref q1), (0, .ref b)]) hx hb dL_law_1080 hl (k := 0) rfl (by decide +kernel) (by decide) rfl (fun ls hl => ?_)
            refine lv_goto (tgt := 18) hx hb dL_law_1083 (by decide) ?_
            refine lv_iload_n hx hb dL_law_18 rfl (lv_at hl 0 rfl) ?_
            refine lv_aload_n hx hb dL_law_19 rfl (lv_at hl 3 rfl) ?_
            refine va_slen hx hb hX hbl hbA hS dL_law_20 (tk_i (v := 4) (by decide +kernel) ?_)
            refine lv_iconst (v := 4) hx hb dL_law_21 (by decide) ?_
            refine lv_isub hx hb dL_law_22 (tk_i (v := 0) (by decide +kernel) ?_)
            refine lv_icmp_gt (tgt := 1086) hx hb dL_law_23 (by decide) (fun _ => ?_) (fun h9 => absurd (by decide +kernel) h9)
            refine lv_iconst (v := 1) hx hb dL_law_1086 (by decide) ?_
            refine va_forget (fun q hq => by have h9 := hS.2.2 q hq; rw [← hAe] at h9; exact h9) ?_
            refine W.widen (k := 600000) (n := 7302250) (by decide) (by decide) ?_
            exact lw_ret hx hb hr hlocks dL_law_1087
      ·
        rcases (show a2.toInt ≤ (-1) ∨ 0 ≤ a2.toInt by omega) with g_a2_0 | g_a2_0
        ·
          refine lv_aload_n hx hb dL_law_928 rfl (lv_at hl 2 rfl) ?_
          refine lv_aload_n hx hb dL_law_929 rfl (lv_at hl 3 rfl) ?_
          refine lv_iload_n hx hb dL_law_930 rfl (lv_at hl 0 rfl) ?_
          refine lv_iconst (v := 1) hx hb dL_law_931 (by decide) ?_
          refine lv_iadd hx hb dL_law_932 (tk_i (v := 1) (by decide +kernel) ?_)
          refine va_sld hx hb hX hbl hbA hS (vin (by decide +kernel)) dL_law_933 (tk_i (v := a1) ha1 ?_)
          refine lv_aload_n hx hb dL_law_934 rfl (lv_at hl 3 rfl) ?_
          refine lv_iload_n hx hb dL_law_935 rfl (lv_at hl 0 rfl) ?_
          refine lv_iconst (v := 2) hx hb dL_law_936 (by decide) ?_
          refine lv_iadd hx hb dL_law_937 (tk_i (v := 2) (by decide +kernel) ?_)
          refine va_sld hx hb hX hbl hbA hS (vin (by decide +kernel)) dL_law_938 (tk_i (v := a2) ha2 ?_)
          refine lv_aload_n hx hb dL_law_939 rfl (lv_at hl 3 rfl) ?_
          refine lv_iload_n hx hb dL_law_940 rfl (lv_at hl 0 rfl) ?_
          refine lv_iconst (v := 3) hx hb dL_law_941 (by decide) ?_
          refine lv_iadd hx hb dL_law_942 (tk_i (v := 3) (by decide +kernel) ?_)
          refine va_sld hx hb hX hbl hbA hS (vin (by decide +kernel)) dL_law_943 (tk_i (v := a3) ha3 ?_)
          refine kcall_i (D := (dC, dI)) (S := Unit) (v := (-3)) (wc := [(q1, .inr (11, [.ref q2, .ref q4, .ref q6, .ref q18, .ref q23, .ref q28, .ref q33, .ref q36, .ref q37, .ref q40, .ref q44, .ref q48, .int 0])), (q4, .inr (10, [.ref q5, .int 0, .int 0])), (q48, .inl (cI, 5, .inl (fun _ => 0)))]) (wr := [(q49, .inr (12, [.int 0, .ref q50, .int 0, .ref q51, .int 0, .ref q52, .ref q53, .int 0, .ref q54, .int 0, .ref q55, .int (-9), .int 0, .int 0, .ref q56, .ref q57, .ref q58, .ref q59, .ref q60, .int 0, .ref q61, .ref q62, .ref q63, .int 0, .ref q64, .ref q65, .ref q66, .int 0, .ref q67])), (q50, .inl (cI, 5, .inl (fun _ => 0)))]) (w1 := fun _ => []) (fun hPc hDc => va_runV (As := [.int a1, .int a2, .int a3]) (rest := []) ⟨hx, hb, hml, hown, hts⟩ (kX11_copy_81 l dC dI cI c2 q1 q4 q48 q2 q6 q18 q23 q28 q33 q36 q37 q40 q44 q5 H.size a1 a2 a3 (by omega) (by omega) (by omega) (by omega) (by omega) (by omega)) (cwV 3 hts gL_law_X11_copy rfl rfl rfl (by decide +kernel) ⟨Nat.le_of_ble_eq_true rfl, Nat.le_of_ble_eq_true rfl⟩) (pre_V hPc hK hDc hN (ci := 11) (q0 := 0) rfl rfl) rfl rfl hl.1 rfl (lv_room (Nat.le_of_ble_eq_true rfl)) dL_law_944 ⟨Nat.le_of_ble_eq_true rfl, Nat.le_of_ble_eq_true rfl⟩) hP hD hS hA [0, 3, 27] [28, 29] rfl rfl (by decide) (by decide) (by decide) (fun u H locs hP hD hS => ?_)
          have hP : va_P (dC, dI) vwCl [(q49, .inr (12, [.int 0, .ref q50, .int 0, .ref q51, .int 0, .ref q52, .ref q53, .int 0, .ref q54, .int 0, .ref q55, .int (-9), .int 0, .int 0, .ref q56, .ref q57, .ref q58, .ref q59, .ref q60, .int 0, .ref q61, .ref q62, .ref q63, .int 0, .ref q64, .ref q65, .ref q66, .int 0, .ref q67])), (q50, .inl (cI, 5, .inl (fun _ => 0)))] H := hP
          have hD : va_D A [(q49, .inr (12, [.int 0, .ref q50, .int 0, .ref q51, .int 0, .ref q52, .ref q53, .int 0, .ref q54, .int 0, .ref q55, .int (-9), .int 0, .int 0, .ref q56, .ref q57, .ref q58, .ref q59, .ref q60, .int 0, .ref q61, .ref q62, .ref q63, .int 0, .ref q64, .ref q65, .ref q66, .int 0, .ref q67])), (q50, .inl (cI, 5, .inl (fun _ => 0)))] := hD
          refine lv_aload_n hx hb dL_law_947 rfl (lv_at hl 1 rfl) ?_
          refine lv_aload_n hx hb dL_law_948 rfl (lv_at hl 3 rfl) ?_
          refine lv_iload_n hx hb dL_law_949 rfl (lv_at hl 0 rfl) ?_
          refine lv_iconst (v := 1) hx hb dL_law_950 (by decide) ?_
          refine lv_iadd hx hb dL_law_951 (tk_i (v := 1) (by decide +kernel) ?_)
          refine va_sld hx hb hX hbl hbA hS (vin (by decide +kernel)) dL_law_952 (tk_i (v := a1) ha1 ?_)
          refine lv_aload_n hx hb dL_law_953 rfl (lv_at hl 3 rfl) ?_
          refine lv_iload_n hx hb dL_law_954 rfl (lv_at hl 0 rfl) ?_
          refine lv_iconst (v := 2) hx hb dL_law_955 (by decide) ?_
          refine lv_iadd hx hb dL_law_956 (tk_i (v := 2) (by decide +kernel) ?_)
          refine va_sld hx hb hX hbl hbA hS (vin (by decide +kernel)) dL_law_957 (tk_i (v := a2) ha2 ?_)
          refine lv_aload_n hx hb dL_law_958 rfl (lv_at hl 3 rfl) ?_
          refine lv_iload_n hx hb dL_law_959 rfl (lv_at hl 0 rfl) ?_
          refine lv_iconst (v := 3) hx hb dL_law_960 (by decide) ?_
          refine lv_iadd hx hb dL_law_961 (tk_i (v := 3) (by decide +kernel) ?_)
          refine va_sld hx hb hX hbl hbA hS (vin (by decide +kernel)) dL_law_962 (tk_i (v := a3) ha3 ?_)
          refine kcall_i (D := (dC, dI)) (S := Unit) (v := (-3)) (wc := [(q49, .inr (12, [.int 0, .ref q50, .int 0, .ref q51, .int 0, .ref q52, .ref q53, .int 0, .ref q54, .int 0, .ref q55, .int (-9), .int 0, .int 0, .ref q56, .ref q57, .ref q58, .ref q59, .ref q60, .int 0, .ref q61, .ref q62, .ref q63, .int 0, .ref q64, .ref q65, .ref q66, .int 0, .ref q67])), (q50, .inl (cI, 5, .inl (fun _ => 0)))]) (wr := []) (w1 := fun _ => []) (fun hPc hDc => va_runV (As := [.int a1, .int a2, .int a3]) (rest := [.int (-3)]) ⟨hx, hb, hml, hown, hts⟩ (kX12_copy_81 l dC dI cI c2 q49 q50 q51 q52 q53 q54 q55 q56 q57 q58 q59 q60 q61 q62 q63 q64 q65 q66 q67 H.size a1 a2 a3 (by omega) (by omega) (by omega) (by omega) (by omega) (by omega)) (cwV 3 hts gL_law_X12_copy rfl rfl rfl (by decide +kernel) ⟨Nat.le_of_ble_eq_true rfl, Nat.le_of_ble_eq_true rfl⟩) (pre_V hPc hK hDc hN (ci := 12) (q0 := 0) rfl rfl) rfl rfl hl.1 rfl (lv_room (Nat.le_of_ble_eq_true rfl)) dL_law_963 ⟨Nat.le_of_ble_eq_true rfl, Nat.le_of_ble_eq_true rfl⟩) hP hD hS hA [0, 1] [] rfl rfl (by decide) (by decide) (by decide) (fun u H locs hP hD hS => ?_)
          have hP : va_P (dC, dI) vwCl [] H := hP
          have hD : va_D A [] := hD
          refine lv_icmp_eq (tgt := 1080) hx hb dL_law_966 (by decide) (fun _ => ?_) (fun h9 => absurd (by decide +kernel) h9)
          refine lv_iinc (v := 4) (lv' := [(3, .int 4), (2, .ref q49), (1, .ref q1), (0, .ref b)]) hx hb dL_law_1080 hl (k := 0) rfl (by decide +kernel) (by decide) rfl (fun ls hl => ?_)
          refine lv_goto (tgt := 18) hx hb dL_law_1083 (by decide) ?_
          refine lv_iload_n hx hb dL_law_18 rfl (lv_at hl 0 rfl) ?_
          refine lv_aload_n hx hb dL_law_19 rfl (lv_at hl 3 rfl) ?_
          refine va_slen hx hb hX hbl hbA hS dL_law_20 (tk_i (v := 4) (by decide +kernel) ?_)
          refine lv_iconst (v := 4) hx hb dL_law_21 (by decide) ?_
          refine lv_isub hx hb dL_law_22 (tk_i (v := 0) (by decide +kernel) ?_)
          refine lv_icmp_gt (tgt := 1086) hx hb dL_law_23 (by decide) (fun _ => ?_) (fun h9 => absurd (by decide +kernel) h9)
          refine lv_iconst (v := 1) hx hb dL_law_1086 (by decide) ?_
          refine va_forget (fun q hq => by have h9 := hS.2.2 q hq; rw [← hAe] at h9; exact h9) ?_
          refine W.widen (k := 600000) (n := 7302250) (by decide) (by decide) ?_
          exact lw_ret hx hb hr hlocks dL_law_1087
        ·
          refine lv_aload_n hx hb dL_law_928 rfl (lv_at hl 2 rfl) ?_
          refine lv_aload_n hx hb dL_law_929 rfl (lv_at hl 3 rfl) ?_
          refine lv_iload_n hx hb dL_law_930 rfl (lv_at hl 0 rfl) ?_
          refine lv_iconst (v := 1) hx hb dL_law_931 (by decide) ?_
          refine lv_iadd hx hb dL_law_932 (tk_i (v := 1) (by decide +kernel) ?_)
          refine va_sld hx hb hX hbl hbA hS (vin (by decide +kernel)) dL_law_933 (tk_i (v := a1) ha1 ?_)
          refine lv_aload_n hx hb dL_law_934 rfl (lv_at hl 3 rfl) ?_
          refine lv_iload_n hx hb dL_law_935 rfl (lv_at hl 0 rfl) ?_
          refine lv_iconst (v := 2) hx hb dL_law_936 (by decide) ?_
          refine lv_iadd hx hb dL_law_937 (tk_i (v := 2) (by decide +kernel) ?_)
          refine va_sld hx hb hX hbl hbA hS (vin (by decide +kernel)) dL_law_938 (tk_i (v := a2) ha2 ?_)
          refine lv_aload_n hx hb dL_law_939 rfl (lv_at hl 3 rfl) ?_
          refine lv_iload_n hx hb dL_law_940 rfl (lv_at hl 0 rfl) ?_
          refine lv_iconst (v := 3) hx hb dL_law_941 (by decide) ?_
          refine lv_iadd hx hb dL_law_942 (tk_i (v := 3) (by decide +kernel) ?_)
          refine va_sld hx hb hX hbl hbA hS (vin (by decide +kernel)) dL_law_943 (tk_i (v := a3) ha3 ?_)
          refine kcall_i (D := (dC, dI)) (S := Unit) (v := (-3)) (wc := [(q1, .inr (11, [.ref q2, .ref q4, .ref q6, .ref q18, .ref q23, .ref q28, .ref q33, .ref q36, .ref q37, .ref q40, .ref q44, .ref q48, .int 0])), (q4, .inr (10, [.ref q5, .int 0, .int 0])), (q48, .inl (cI, 5, .inl (fun _ => 0)))]) (wr := [(q49, .inr (12, [.int 0, .ref q50, .int 0, .ref q51, .int 0, .ref q52, .ref q53, .int 0, .ref q54, .int 0, .ref q55, .int (-9), .int 0, .int 0, .ref q56, .ref q57, .ref q58, .ref q59, .ref q60, .int 0, .ref q61, .ref q62, .ref q63, .int 0, .ref q64, .ref q65, .ref q66, .int 0, .ref q67])), (q50, .inl (cI, 5, .inl (fun _ => 0)))]) (w1 := fun _ => []) (fun hPc hDc => va_runV (As := [.int a1, .int a2, .int a3]) (rest := []) ⟨hx, hb, hml, hown, hts⟩ (kX11_copy_82 l dC dI cI c2 q1 q4 q48 q2 q6 q18 q23 q28 q33 q36 q37 q40 q44 q5 H.size a1 a2 a3 (by omega) (by omega) (by omega) (by omega) (by omega) (by omega)) (cwV 3 hts gL_law_X11_copy rfl rfl rfl (by decide +kernel) ⟨Nat.le_of_ble_eq_true rfl, Nat.le_of_ble_eq_true rfl⟩) (pre_V hPc hK hDc hN (ci := 11) (q0 := 0) rfl rfl) rfl rfl hl.1 rfl (lv_room (Nat.le_of_ble_eq_true rfl)) dL_law_944 ⟨Nat.le_of_ble_eq_true rfl, Nat.le_of_ble_eq_true rfl⟩) hP hD hS hA [0, 3, 27] [28, 29] rfl rfl (by decide) (by decide) (by decide) (fun u H locs hP hD hS => ?_)
          have hP : va_P (dC, dI) vwCl [(q49, .inr (12, [.int 0, .ref q50, .int 0, .ref q51, .int 0, .ref q52, .ref q53, .int 0, .ref q54, .int 0, .ref q55, .int (-9), .int 0, .int 0, .ref q56, .ref q57, .ref q58, .ref q59, .ref q60, .int 0, .ref q61, .ref q62, .ref q63, .int 0, .ref q64, .ref q65, .ref q66, .int 0, .ref q67])), (q50, .inl (cI, 5, .inl (fun _ => 0)))] H := hP
          have hD : va_D A [(q49, .inr (12, [.int 0, .ref q50, .int 0, .ref q51, .int 0, .ref q52, .ref q53, .int 0, .ref q54, .int 0, .ref q55, .int (-9), .int 0, .int 0, .ref q56, .ref q57, .ref q58, .ref q59, .ref q60, .int 0, .ref q61, .ref q62, .ref q63, .int 0, .ref q64, .ref q65, .ref q66, .int 0, .ref q67])), (q50, .inl (cI, 5, .inl (fun _ => 0)))] := hD
          refine lv_aload_n hx hb dL_law_947 rfl (lv_at hl 1 rfl) ?_
          refine lv_aload_n hx hb dL_law_948 rfl (lv_at hl 3 rfl) ?_
          refine lv_iload_n hx hb dL_law_949 rfl (lv_at hl 0 rfl) ?_
          refine lv_iconst (v := 1) hx hb dL_law_950 (by decide) ?_
          refine lv_iadd hx hb dL_law_951 (tk_i (v := 1) (by decide +kernel) ?_)
          refine va_sld hx hb hX hbl hbA hS (vin (by decide +kernel)) dL_law_952 (tk_i (v := a1) ha1 ?_)
          refine lv_aload_n hx hb dL_law_953 rfl (lv_at hl 3 rfl) ?_
          refine lv_iload_n hx hb dL_law_954 rfl (lv_at hl 0 rfl) ?_
          refine lv_iconst (v := 2) hx hb dL_law_955 (by decide) ?_
          refine lv_iadd hx hb dL_law_956 (tk_i (v := 2) (by decide +kernel) ?_)
          refine va_sld hx hb hX hbl hbA hS (vin (by decide +kernel)) dL_law_957 (tk_i (v := a2) ha2 ?_)
          refine lv_aload_n hx hb dL_law_958 rfl (lv_at hl 3 rfl) ?_
          refine lv_iload_n hx hb dL_law_959 rfl (lv_at hl 0 rfl) ?_
          refine lv_iconst (v := 3) hx hb dL_law_960 (by decide) ?_
          refine lv_iadd hx hb dL_law_961 (tk_i (v := 3) (by decide +kernel) ?_)
          refine va_sld hx hb hX hbl hbA hS (vin (by decide +kernel)) dL_law_962 (tk_i (v := a3) ha3 ?_)
          refine kcall_i (D := (dC, dI)) (S := Unit) (v := (-3)) (wc := [(q49, .inr (12, [.int 0, .ref q50, .int 0, .ref q51, .int 0, .ref q52, .ref q53, .int 0, .ref q54, .int 0, .ref q55, .int (-9), .int 0, .int 0, .ref q56, .ref q57, .ref q58, .ref q59, .ref q60, .int 0, .ref q61, .ref q62, .ref q63, .int 0, .ref q64, .ref q65, .ref q66, .int 0, .ref q67])), (q50, .inl (cI, 5, .inl (fun _ => 0)))]) (wr := []) (w1 := fun _ => []) (fun hPc hDc => va_runV (As := [.int a1, .int a2, .int a3]) (rest := [.int (-3)]) ⟨hx, hb, hml, hown, hts⟩ (kX12_copy_82 l dC dI cI c2 q49 q50 q51 q52 q53 q54 q55 q56 q57 q58 q59 q60 q61 q62 q63 q64 q65 q66 q67 H.size a1 a2 a3 (by omega) (by omega) (by omega) (by omega) (by omega) (by omega)) (cwV 3 hts gL_law_X12_copy rfl rfl rfl (by decide +kernel) ⟨Nat.le_of_ble_eq_true rfl, Nat.le_of_ble_eq_true rfl⟩) (pre_V hPc hK hDc hN (ci := 12) (q0 := 0) rfl rfl) rfl rfl hl.1 rfl (lv_room (Nat.le_of_ble_eq_true rfl)) dL_law_963 ⟨Nat.le_of_ble_eq_true rfl, Nat.le_of_ble_eq_true rfl⟩) hP hD hS hA [0, 1] [] rfl rfl (by decide) (by decide) (by decide) (fun u H locs hP hD hS => ?_)
          have hP : va_P (dC, dI) vwCl [] H := hP
          have hD : va_D A [] := hD
          refine lv_icmp_eq (tgt := 1080) hx hb dL_law_966 (by decide) (fun _ => ?_) (fun h9 => absurd (by decide +kernel) h9)
          refine lv_iinc (v := 4) (lv' := [(3, .int 4), (2, .ref q49), (1, .ref q1), (0, .ref b)]) hx hb dL_law_1080 hl (k := 0) rfl (by decide +kernel) (by decide) rfl (fun ls hl => ?_)
          refine lv_goto (tgt := 18) hx hb dL_law_1083 (by decide) ?_
          refine lv_iload_n hx hb dL_law_18 rfl (lv_at hl 0 rfl) ?_
          refine lv_aload_n hx hb dL_law_19 rfl (lv_at hl 3 rfl) ?_
          refine va_slen hx hb hX hbl hbA hS dL_law_20 (tk_i (v := 4) (by decide +kernel) ?_)
          refine lv_iconst (v := 4) hx hb dL_law_21 (by decide) ?_
          refine lv_isub hx hb dL_law_22 (tk_i (v := 0) (by decide +kernel) ?_)
          refine lv_icmp_gt (tgt := 1086) hx hb dL_law_23 (by decide) (fun _ => ?_) (fun h9 => absurd (by decide +kernel) h9)
          refine lv_iconst (v := 1) hx hb dL_law_1086 (by decide) ?_
          refine va_forget (fun q hq => by have h9 := hS.2.2 q hq; rw [← hAe] at h9; exact h9) ?_
          refine W.widen (k := 600000) (n := 7302250) (by decide) (by decide) ?_
          exact lw_ret hx hb hr hlocks dL_law_1087
