set_option maxHeartbeats 8000000 in
set_option maxRecDepth 100000 in
theorem lc_end {p : Program} {e : Env} {s : State} {m : MethodId} {below : List Frame} {meth : Method} {c : Code} (l : Launch) {b : Nat} {xs : Nat → Int32} (C0 : lw_At p s m meth c b 4 xs) (dC : Nat → ClassId) (dI : Nat → Nat → Nat) (cI c2 : ClassId) (q1 : Nat) (q2 : Nat) (q3 : Nat) (q4 : Nat) (q5 : Nat) (q6 : Nat) (q7 : Nat) (q8 : Nat) (r9 : Nat → Nat) (q10 : Nat) (q11 : Nat) (q12 : Nat) (r13 : Nat → Nat) (q14 : Nat) (q15 : Nat) (q16 : Nat) (q17 : Nat) (q18 : Nat) (q19 : Nat) (q20 : Nat) (r21 : Nat → Nat) (q22 : Nat) (q23 : Nat) (q24 : Nat) (q25 : Nat) (q26 : Nat) (q27 : Nat) (q28 : Nat) (q29 : Nat) (q30 : Nat) (q31 : Nat) (q32 : Nat) (q33 : Nat) (q34 : Nat) (q35 : Nat) (q36 : Nat) (q37 : Nat) (q38 : Nat) (q39 : Nat) (q40 : Nat) (q41 : Nat) (q42 : Nat) (q43 : Nat) (q44 : Nat) (q45 : Nat) (q46 : Nat) (q47 : Nat) (q48 : Nat) (q49 : Nat) (q50 : Nat) (q51 : Nat) (q52 : Nat) (q53 : Nat) (q54 : Nat) (q55 : Nat) (q56 : Nat) (q57 : Nat) (q58 : Nat) (q59 : Nat) (q60 : Nat) (q61 : Nat) (q62 : Nat) (q63 : Nat) (q64 : Nat) (q65 : Nat) (q66 : Nat) (q67 : Nat) (a1 a2 a3 : Int32) (ha1 : xs (Int32.toNatClampNeg 1) = a1) (ha2 : xs (Int32.toNatClampNeg 2) = a2) (ha3 : xs (Int32.toNatClampNeg 3) = a3) (hK : va_K (dC, dI) vwCl [(cI, .int), (c2, .array .int)] s) (hN : nsAll s) (H : Heap) (locs : List Loc) (hP : va_P (dC, dI) vwCl [(q1, .inr (11, [.ref q2, .ref q4, .ref q6, .ref q18, .ref q23, .ref q28, .ref q33, .ref q36, .ref q37, .ref q40, .ref q44, .ref q48, .int 0])), (q2, .inr (4, [.ref q3, .int 0, .int 0])), (q3, .inl (cI, 12, .inl (fun _ => 0))), (q4, .inr (10, [.ref q5, .int 0, .int 0])), (q5, .inl (cI, 12, .inl (fun _ => (-1)))), (q6, .inr (6, [.ref q7, .ref q10, .ref q16, .ref q17, .int 0, .int 0, .int 0, .int 0, .int 0])), (q7, .inr (3, [.ref q8, .int 0])), (q8, .inl (c2, 13, .inr (.inr (.inr (.inr (fun i => if i < 13 then some (r9 i) else none)))))), (r9 0, .inl (cI, 12, .inl (fun _ => 0))), (q10, .inr (5, [.ref q11, .ref q14, .ref q15, .int 0, .int 0, .int 0])), (q11, .inr (3, [.ref q12, .int 0])), (q12, .inl (c2, 13, .inr (.inr (.inr (.inr (fun i => if i < 13 then some (r13 i) else none)))))), (r13 0, .inl (cI, 12, .inl (fun _ => 0))), (q14, .inl (cI, 4096, .inl (fun _ => 0))), (q18, .inr (9, [.ref q19, .ref q22, .int 0, .int (-1)])), (q19, .inr (3, [.ref q20, .int 0])), (q20, .inl (c2, 13, .inr (.inr (.inr (.inr (fun i => if i < 13 then some (r21 i) else none)))))), (r21 0, .inl (cI, 12, .inl (fun _ => 0))), (q23, .inr (1, [.int 0, .ref q24, .ref q25, .ref q26, .ref q27, .int 0, .int (-1), .int (-1)])), (q28, .inr (1, [.int 1, .ref q29, .ref q30, .ref q31, .ref q32, .int 0, .int (-1), .int (-1)])), (q33, .inr (7, [.ref q34, .ref q35, .int 0, .int (-1)])), (q35, .inl (cI, 12, .inl (fun _ => 0))), (q37, .inr (2, [.ref q38, .ref q39, .int 0, .int (-1)])), (q40, .inr (0, [.ref q42, .ref q41, .ref q43, .int 0, .int 0, .int 0, .int 0, .int (-1)])), (q42, .inl (cI, 4096, .inl (fun _ => 0))), (q44, .inr (0, [.ref q46, .ref q45, .ref q47, .int 0, .int 0, .int 0, .int 0, .int (-1)])), (q46, .inl (cI, 256, .inl (fun _ => 0))), (q48, .inl (cI, 5, .inl (fun _ => 0))), (q49, .inr (12, [.int 0, .ref q50, .int 0, .ref q51, .int 0, .ref q52, .ref q53, .int 0, .ref q54, .int 0, .ref q55, .int (-9), .int 0, .int 0, .ref q56, .ref q57, .ref q58, .ref q59, .ref q60, .int 0, .ref q61, .ref q62, .ref q63, .int 0, .ref q64, .ref q65, .ref q66, .int 0, .ref q67])), (q50, .inl (cI, 5, .inl (fun _ => 0))), (q51, .inl (cI, 12, .inl (fun _ => 0))), (q52, .inl (cI, 12, .inl (fun _ => (-9)))), (q56, .inl (cI, 12, .inl (fun _ => 0))), (q57, .inl (cI, 12, .inl (fun _ => 0))), (q58, .inl (cI, 49152, .inl (fun _ => 0))), (q59, .inl (cI, 4096, .inl (fun _ => 0))), (q67, .inl (cI, 12, .inl (fun _ => 0)))] H) (hD : va_D (fun q : Nat => s.heap.size ≤ q) [(q1, .inr (11, [.ref q2, .ref q4, .ref q6, .ref q18, .ref q23, .ref q28, .ref q33, .ref q36, .ref q37, .ref q40, .ref q44, .ref q48, .int 0])), (q2, .inr (4, [.ref q3, .int 0, .int 0])), (q3, .inl (cI, 12, .inl (fun _ => 0))), (q4, .inr (10, [.ref q5, .int 0, .int 0])), (q5, .inl (cI, 12, .inl (fun _ => (-1)))), (q6, .inr (6, [.ref q7, .ref q10, .ref q16, .ref q17, .int 0, .int 0, .int 0, .int 0, .int 0])), (q7, .inr (3, [.ref q8, .int 0])), (q8, .inl (c2, 13, .inr (.inr (.inr (.inr (fun i => if i < 13 then some (r9 i) else none)))))), (r9 0, .inl (cI, 12, .inl (fun _ => 0))), (q10, .inr (5, [.ref q11, .ref q14, .ref q15, .int 0, .int 0, .int 0])), (q11, .inr (3, [.ref q12, .int 0])), (q12, .inl (c2, 13, .inr (.inr (.inr (.inr (fun i => if i < 13 then some (r13 i) else none)))))), (r13 0, .inl (cI, 12, .inl (fun _ => 0))), (q14, .inl (cI, 4096, .inl (fun _ => 0))), (q18, .inr (9, [.ref q19, .ref q22, .int 0, .int (-1)])), (q19, .inr (3, [.ref q20, .int 0])), (q20, .inl (c2, 13, .inr (.inr (.inr (.inr (fun i => if i < 13 then some (r21 i) else none)))))), (r21 0, .inl (cI, 12, .inl (fun _ => 0))), (q23, .inr (1, [.int 0, .ref q24, .ref q25, .ref q26, .ref q27, .int 0, .int (-1), .int (-1)])), (q28, .inr (1, [.int 1, .ref q29, .ref q30, .ref q31, .ref q32, .int 0, .int (-1), .int (-1)])), (q33, .inr (7, [.ref q34, .ref q35, .int 0, .int (-1)])), (q35, .inl (cI, 12, .inl (fun _ => 0))), (q37, .inr (2, [.ref q38, .ref q39, .int 0, .int (-1)])), (q40, .inr (0, [.ref q42, .ref q41, .ref q43, .int 0, .int 0, .int 0, .int 0, .int (-1)])), (q42, .inl (cI, 4096, .inl (fun _ => 0))), (q44, .inr (0, [.ref q46, .ref q45, .ref q47, .int 0, .int 0, .int 0, .int 0, .int (-1)])), (q46, .inl (cI, 256, .inl (fun _ => 0))), (q48, .inl (cI, 5, .inl (fun _ => 0))), (q49, .inr (12, [.int 0, .ref q50, .int 0, .ref q51, .int 0, .ref q52, .ref q53, .int 0, .ref q54, .int 0, .ref q55, .int (-9), .int 0, .int 0, .ref q56, .ref q57, .ref q58, .ref q59, .ref q60, .int 0, .ref q61, .ref q62, .ref q63, .int 0, .ref q64, .ref q65, .ref q66, .int 0, .ref q67])), (q50, .inl (cI, 5, .inl (fun _ => 0))), (q51, .inl (cI, 12, .inl (fun _ => 0))), (q52, .inl (cI, 12, .inl (fun _ => (-9)))), (q56, .inl (cI, 12, .inl (fun _ => 0))), (q57, .inl (cI, 12, .inl (fun _ => 0))), (q58, .inl (cI, 49152, .inl (fun _ => 0))), (q59, .inl (cI, 4096, .inl (fun _ => 0))), (q67, .inl (cI, 12, .inl (fun _ => 0)))]) (hS : va_S (fun q : Nat => s.heap.size ≤ q) s.heap H locs) (ls : Array Slot) (hl : lv_has ls 4 [(3, .int 0), (2, .ref q49), (1, .ref q1), (0, .ref b)]) : W p l e room_1 s m #[Value.ref b] below meth c H locs 128 161896 (lw_Z below #[Value.ref b] s) (F0 m 1080 ls []) := by
  obtain ⟨hx, hb, hr, hml, hown0, hts0, hX, hbl, hlocks, hgv⟩ := id C0
  have hown : s.vm.findClass RL = some m.cls := hown0
  have hts : ∀ w ∈ wsL_law, w.before #[Value.ref b] s = true := fun w h => hts0 w (wsL_law_in w h)
  have hA : ∀ q : Nat, s.heap.size ≤ q → (fun q : Nat => s.heap.size ≤ q) q := fun _ h => h
  have hbA : ¬ (fun q : Nat => s.heap.size ≤ q) b := Nat.not_le.mpr hbl
  generalize hAe : (fun q : Nat => s.heap.size ≤ q) = A at hD hS hA hbA
  refine lv_iinc (v := 4) (lv' := [(3, .int 4), (2, .ref q49), (1, .ref q1), (0, .ref b)]) hx hb dL_law_1080 hl (k := 0) rfl (by decide +kernel) (by decide) rfl (fun ls hl => ?_)
  refine lv_goto (tgt := 18) hx hb dL_law_1083 (by decide) ?_
  refine lv_iload_n hx hb dL_law_18 rfl (lv_at hl 0 rfl) ?_
  refine lv_aload_n hx hb dL_law_19 rfl (lv_at hl 3 rfl) ?_
  refine va_slen hx hb hX hbl hbA hS dL_law_20 (tk_i (v := 4) (by decide +kernel) ?_)
  refine lv_iconst (v := 4) hx hb dL_law_21 (by decide) ?_
  refine lv_isub hx hb dL_law_22 (tk_i (v := 0) (by decide +kernel) ?_)
  refine lv_icmp_gt (tgt := 1086) hx hb dL_law_23 (by decide) (fun _ => ?_) (fun h9 => absurd (by decide +kernel) h9)
  refine lv_iconst (v := 1) hx hb dL_law_1086 (by decide) ?_
  refine va_forget (fun q hq => by have h9 := hS.2.2 q hq; rw [← hAe] at h9; exact h9) ?_
  refine W.widen (k := 600000) (n := 7302250) (by decide) (by decide) ?_
  exact lw_ret hx hb hr hlocks dL_law_1087
set_option maxHeartbeats 8000000 in
set_option maxRecDepth 100000 in
theorem lc_0 {p : Program} {e : Env} {s : State} {m : MethodId} {below : List Frame} {meth : Method} {c : Code} (l : Launch) {b : Nat} {xs : Nat → Int32} (C0 : lw_At p s m meth c b 4 xs) (dC : Nat → ClassId) (dI : Nat → Nat → Nat) (cI c2 : ClassId) (q1 : Nat) (q2 : Nat) (q3 : Nat) (q4 : Nat) (q5 : Nat) (q6 : Nat) (q7 : Nat) (q8 : Nat) (r9 : Nat → Nat) (q10 : Nat) (q11 : Nat) (q12 : Nat) (r13 : Nat → Nat) (q14 : Nat) (q15 : Nat) (q16 : Nat) (q17 : Nat) (q18 : Nat) (q19 : Nat) (q20 : Nat) (r21 : Nat → Nat) (q22 : Nat) (q23 : Nat) (q24 : Nat) (q25 : Nat) (q26 : Nat) (q27 : Nat) (q28 : Nat) (q29 : Nat) (q30 : Nat) (q31 : Nat) (q32 : Nat) (q33 : Nat) (q34 : Nat) (q35 : Nat) (q36 : Nat) (q37 : Nat) (q38 : Nat) (q39 : Nat) (q40 : Nat) (q41 : Nat) (q42 : Nat) (q43 : Nat) (q44 : Nat) (q45 : Nat) (q46 : Nat) (q47 : Nat) (q48 : Nat) (q49 : Nat) (q50 : Nat) (q51 : Nat) (q52 : Nat) (q53 : Nat) (q54 : Nat) (q55 : Nat) (q56 : Nat) (q57 : Nat) (q58 : Nat) (q59 : Nat) (q60 : Nat) (q61 : Nat) (q62 : Nat) (q63 : Nat) (q64 : Nat) (q65 : Nat) (q66 : Nat) (q67 : Nat) (a1 a2 a3 : Int32) (ha1 : xs (Int32.toNatClampNeg 1) = a1) (ha2 : xs (Int32.toNatClampNeg 2) = a2) (ha3 : xs (Int32.toNatClampNeg 3) = a3) (hK : va_K (dC, dI) vwCl [(cI, .int), (c2, .array .int)] s) (hN : nsAll s) (H : Heap) (locs : List Loc) (hP : va_P (dC, dI) vwCl [(q1, .inr (11, [.ref q2, .ref q4, .ref q6, .ref q18, .ref q23, .ref q28, .ref q33, .ref q36, .ref q37, .ref q40, .ref q44, .ref q48, .int 0])), (q2, .inr (4, [.ref q3, .int 0, .int 0])), (q3, .inl (cI, 12, .inl (fun _ => 0))), (q4, .inr (10, [.ref q5, .int 0, .int 0])), (q5, .inl (cI, 12, .inl (fun _ => (-1)))), (q6, .inr (6, [.ref q7, .ref q10, .ref q16, .ref q17, .int 0, .int 0, .int 0, .int 0, .int 0])), (q7, .inr (3, [.ref q8, .int 0])), (q8, .inl (c2, 13, .inr (.inr (.inr (.inr (fun i => if i < 13 then some (r9 i) else none)))))), (r9 0, .inl (cI, 12, .inl (fun _ => 0))), (q10, .inr (5, [.ref q11, .ref q14, .ref q15, .int 0, .int 0, .int 0])), (q11, .inr (3, [.ref q12, .int 0])), (q12, .inl (c2, 13, .inr (.inr (.inr (.inr (fun i => if i < 13 then some (r13 i) else none)))))), (r13 0, .inl (cI, 12, .inl (fun _ => 0))), (q14, .inl (cI, 4096, .inl (fun _ => 0))), (q18, .inr (9, [.ref q19, .ref q22, .int 0, .int (-1)])), (q19, .inr (3, [.ref q20, .int 0])), (q20, .inl (c2, 13, .inr (.inr (.inr (.inr (fun i => if i < 13 then some (r21 i) else none)))))), (r21 0, .inl (cI, 12, .inl (fun _ => 0))), (q23, .inr (1, [.int 0, .ref q24, .ref q25, .ref q26, .ref q27, .int 0, .int (-1), .int (-1)])), (q28, .inr (1, [.int 1, .ref q29, .ref q30, .ref q31, .ref q32, .int 0, .int (-1), .int (-1)])), (q33, .inr (7, [.ref q34, .ref q35, .int 0, .int (-1)])), (q35, .inl (cI, 12, .inl (fun _ => 0))), (q37, .inr (2, [.ref q38, .ref q39, .int 0, .int (-1)])), (q40, .inr (0, [.ref q42, .ref q41, .ref q43, .int 0, .int 0, .int 0, .int 0, .int (-1)])), (q42, .inl (cI, 4096, .inl (fun _ => 0))), (q44, .inr (0, [.ref q46, .ref q45, .ref q47, .int 0, .int 0, .int 0, .int 0, .int (-1)])), (q46, .inl (cI, 256, .inl (fun _ => 0))), (q48, .inl (cI, 5, .inl (fun _ => 0))), (q49, .inr (12, [.int 0, .ref q50, .int 0, .ref q51, .int 0, .ref q52, .ref q53, .int 0, .ref q54, .int 0, .ref q55, .int (-9), .int 0, .int 0, .ref q56, .ref q57, .ref q58, .ref q59, .ref q60, .int 0, .ref q61, .ref q62, .ref q63, .int 0, .ref q64, .ref q65, .ref q66, .int 0, .ref q67])), (q50, .inl (cI, 5, .inl (fun _ => 0))), (q51, .inl (cI, 12, .inl (fun _ => 0))), (q52, .inl (cI, 12, .inl (fun _ => (-9)))), (q56, .inl (cI, 12, .inl (fun _ => 0))), (q57, .inl (cI, 12, .inl (fun _ => 0))), (q58, .inl (cI, 49152, .inl (fun _ => 0))), (q59, .inl (cI, 4096, .inl (fun _ => 0))), (q67, .inl (cI, 12, .inl (fun _ => 0)))] H) (hD : va_D (fun q : Nat => s.heap.size ≤ q) [(q1, .inr (11, [.ref q2, .ref q4, .ref q6, .ref q18, .ref q23, .ref q28, .ref q33, .ref q36, .ref q37, .ref q40, .ref q44, .ref q48, .int 0])), (q2, .inr (4, [.ref q3, .int 0, .int 0])), (q3, .inl (cI, 12, .inl (fun _ => 0))), (q4, .inr (10, [.ref q5, .int 0, .int 0])), (q5, .inl (cI, 12, .inl (fun _ => (-1)))), (q6, .inr (6, [.ref q7, .ref q10, .ref q16, .ref q17, .int 0, .int 0, .int 0, .int 0, .int 0])), (q7, .inr (3, [.ref q8, .int 0])), (q8, .inl (c2, 13, .inr (.inr (.inr (.inr (fun i => if i < 13 then some (r9 i) else none)))))), (r9 0, .inl (cI, 12, .inl (fun _ => 0))), (q10, .inr (5, [.ref q11, .ref q14, .ref q15, .int 0, .int 0, .int 0])), (q11, .inr (3, [.ref q12, .int 0])), (q12, .inl (c2, 13, .inr (.inr (.inr (.inr (fun i => if i < 13 then some (r13 i) else none)))))), (r13 0, .inl (cI, 12, .inl (fun _ => 0))), (q14, .inl (cI, 4096, .inl (fun _ => 0))), (q18, .inr (9, [.ref q19, .ref q22, .int 0, .int (-1)])), (q19, .inr (3, [.ref q20, .int 0])), (q20, .inl (c2, 13, .inr (.inr (.inr (.inr (fun i => if i < 13 then some (r21 i) else none)))))), (r21 0, .inl (cI, 12, .inl (fun _ => 0))), (q23, .inr (1, [.int 0, .ref q24, .ref q25, .ref q26, .ref q27, .int 0, .int (-1), .int (-1)])), (q28, .inr (1, [.int 1, .ref q29, .ref q30, .ref q31, .ref q32, .int 0, .int (-1), .int (-1)])), (q33, .inr (7, [.ref q34, .ref q35, .int 0, .int (-1)])), (q35, .inl (cI, 12, .inl (fun _ => 0))), (q37, .inr (2, [.ref q38, .ref q39, .int 0, .int (-1)])), (q40, .inr (0, [.ref q42, .ref q41, .ref q43, .int 0, .int 0, .int 0, .int 0, .int (-1)])), (q42, .inl (cI, 4096, .inl (fun _ => 0))), (q44, .inr (0, [.ref q46, .ref q45, .ref q47, .int 0, .int 0, .int 0, .int 0, .int (-1)])), (q46, .inl (cI, 256, .inl (fun _ => 0))), (q48, .inl (cI, 5, .inl (fun _ => 0))), (q49, .inr (12, [.int 0, .ref q50, .int 0, .ref q51, .int 0, .ref q52, .ref q53, .int 0, .ref q54, .int 0, .ref q55, .int (-9), .int 0, .int 0, .ref q56, .ref q57, .ref q58, .ref q59, .ref q60, .int 0, .ref q61, .ref q62, .ref q63, .int 0, .ref q64, .ref q65, .ref q66, .int 0, .ref q67])), (q50, .inl (cI, 5, .inl (fun _ => 0))), (q51, .inl (cI, 12, .inl (fun _ => 0))), (q52, .inl (cI, 12, .inl (fun _ => (-9)))), (q56, .inl (cI, 12, .inl (fun _ => 0))), (q57, .inl (cI, 12, .inl (fun _ => 0))), (q58, .inl (cI, 49152, .inl (fun _ => 0))), (q59, .inl (cI, 4096, .inl (fun _ => 0))), (q67, .inl (cI, 12, .inl (fun _ => 0)))]) (hS : va_S (fun q : Nat => s.heap.size ≤ q) s.heap H locs) (ls : Array Slot) (hl : lv_has ls 4 [(3, .int 0), (2, .ref q49), (1, .ref q1), (0, .ref b)]) : W p l e room_1 s m #[Value.ref b] below meth c H locs 128 161896 (lw_Z below #[Value.ref b] s) (F0 m 196 ls []) := by
  obtain ⟨hx, hb, hr, hml, hown0, hts0, hX, hbl, hlocks, hgv⟩ := id C0
  have hown : s.vm.findClass RL = some m.cls := hown0
  have hts : ∀ w ∈ wsL_law, w.before #[Value.ref b] s = true := fun w h => hts0 w (wsL_law_in w h)
  have hA : ∀ q : Nat, s.heap.size ≤ q → (fun q : Nat => s.heap.size ≤ q) q := fun _ h => h
  have hbA : ¬ (fun q : Nat => s.heap.size ≤ q) b := Nat.not_le.mpr hbl
  generalize hAe : (fun q : Nat => s.heap.size ≤ q) = A at hD hS hA hbA
  have a1_rg := i_rng a1
  have a2_rg := i_rng a2
  have a3_rg := i_rng a3
  obtain ⟨a1_l, a1_h⟩ := a1_rg
  obtain ⟨a2_l, a2_h⟩ := a2_rg
  obtain ⟨a3_l, a3_h⟩ := a3_rg
  rcases (show a1.toInt ≤ (-1) ∨ 0 ≤ a1.toInt by omega) with g_a1_0 | g_a1_0
  ·
    refine lv_aload_n hx hb dL_law_196 rfl (lv_at hl 2 rfl) ?_
    refine lv_aload_n hx hb dL_law_197 rfl (lv_at hl 3 rfl) ?_
    refine lv_iload_n hx hb dL_law_198 rfl (lv_at hl 0 rfl) ?_
    refine lv_iconst (v := 1) hx hb dL_law_199 (by decide) ?_
    refine lv_iadd hx hb dL_law_200 (tk_i (v := 1) (by decide +kernel) ?_)
    refine va_sld hx hb hX hbl hbA hS (vin (by decide +kernel)) dL_law_201 (tk_i (v := a1) ha1 ?_)
    refine kcall_i (D := (dC, dI)) (S := Unit) (v := (-1)) (wc := [(q1, .inr (11, [.ref q2, .ref q4, .ref q6, .ref q18, .ref q23, .ref q28, .ref q33, .ref q36, .ref q37, .ref q40, .ref q44, .ref q48, .int 0]))]) (wr := [(q49, .inr (12, [.int 0, .ref q50, .int 0, .ref q51, .int 0, .ref q52, .ref q53, .int 0, .ref q54, .int 0, .ref q55, .int (-9), .int 0, .int 0, .ref q56, .ref q57, .ref q58, .ref q59, .ref q60, .int 0, .ref q61, .ref q62, .ref q63, .int 0, .ref q64, .ref q65, .ref q66, .int 0, .ref q67]))]) (w1 := fun _ => []) (fun hPc hDc => va_runV (As := [.int a1]) (rest := []) ⟨hx, hb, hml, hown, hts⟩ (kX11_nodes_1 l dC dI cI c2 q1 q2 q4 q6 q18 q23 q28 q33 q36 q37 q40 q44 q48 H.size a1 (by omega) (by omega)) (cwV 1 hts gL_law_X11_nodes rfl rfl rfl (by decide +kernel) ⟨Nat.le_of_ble_eq_true rfl, Nat.le_of_ble_eq_true rfl⟩) (pre_V hPc hK hDc hN (ci := 11) (q0 := 0) rfl rfl) rfl rfl hl.1 rfl (lv_room (Nat.le_of_ble_eq_true rfl)) dL_law_202 ⟨Nat.le_of_ble_eq_true rfl, Nat.le_of_ble_eq_true rfl⟩) hP hD hS hA [0] [28] rfl rfl (by decide) (by decide) (by decide) (fun u H locs hP hD hS => ?_)
    have hP : va_P (dC, dI) vwCl [(q49, .inr (12, [.int 0, .ref q50, .int 0, .ref q51, .int 0, .ref q52, .ref q53, .int 0, .ref q54, .int 0, .ref q55, .int (-9), .int 0, .int 0, .ref q56, .ref q57, .ref q58, .ref q59, .ref q60, .int 0, .ref q61, .ref q62, .ref q63, .int 0, .ref q64, .ref q65, .ref q66, .int 0, .ref q67]))] H := hP
    have hD : va_D A [(q49, .inr (12, [.int 0, .ref q50, .int 0, .ref q51, .int 0, .ref q52, .ref q53, .int 0, .ref q54, .int 0, .ref q55, .int (-9), .int 0, .int 0, .ref q56, .ref q57, .ref q58, .ref q59, .ref q60, .int 0, .ref q61, .ref q62, .ref q63, .int 0, .ref q64, .ref q65, .ref q66, .int 0, .ref q67]))] := hD
    refine lv_aload_n hx hb dL_law_205 rfl (lv_at hl 1 rfl) ?_
    refine lv_aload_n hx hb dL_law_206 rfl (lv_at hl 3 rfl) ?_
    refine lv_iload_n hx hb dL_law_207 rfl (lv_at hl 0 rfl) ?_
    refine lv_iconst (v := 1) hx hb dL_law_208 (by decide) ?_
    refine lv_iadd hx hb dL_law_209 (tk_i (v := 1) (by decide +kernel) ?_)
    refine va_sld hx hb hX hbl hbA hS (vin (by decide +kernel)) dL_law_210 (tk_i (v := a1) ha1 ?_)
    refine kcall_i (D := (dC, dI)) (S := Unit) (v := (-1)) (wc := [(q49, .inr (12, [.int 0, .ref q50, .int 0, .ref q51, .int 0, .ref q52, .ref q53, .int 0, .ref q54, .int 0, .ref q55, .int (-9), .int 0, .int 0, .ref q56, .ref q57, .ref q58, .ref q59, .ref q60, .int 0, .ref q61, .ref q62, .ref q63, .int 0, .ref q64, .ref q65, .ref q66, .int 0, .ref q67]))]) (wr := []) (w1 := fun _ => []) (fun hPc hDc => va_runV (As := [.int a1]) (rest := [.int (-1)]) ⟨hx, hb, hml, hown, hts⟩ (kX12_nodes_1 l dC dI cI c2 q49 q50 q51 q52 q53 q54 q55 q56 q57 q58 q59 q60 q61 q62 q63 q64 q65 q66 q67 H.size a1 (by omega) (by omega)) (cwV 1 hts gL_law_X12_nodes rfl rfl rfl (by decide +kernel) ⟨Nat.le_of_ble_eq_true rfl, Nat.le_of_ble_eq_true rfl⟩) (pre_V hPc hK hDc hN (ci := 12) (q0 := 0) rfl rfl) rfl rfl hl.1 rfl (lv_room (Nat.le_of_ble_eq_true rfl)) dL_law_211 ⟨Nat.le_of_ble_eq_true rfl, Nat.le_of_ble_eq_true rfl⟩) hP hD hS hA [0] [] rfl rfl (by decide) (by decide) (by decide) (fun u H locs hP hD hS => ?_)
    have hP : va_P (dC, dI) vwCl [] H := hP
    have hD : va_D A [] := hD
    refine lv_icmp_eq (tgt := 1080) hx hb dL_law_214 (by decide) (fun _ => ?_) (fun h9 => absurd (by decide +kernel) h9)
    refine lv_iinc (v := 4) (lv' := [(3, .int 4), (2, .ref q49), (1, .ref q1), (0, .ref b)]) hx hb dL_law_1080 hl (k := 0) rfl (by decide +kernel) (by decide) rfl (fun ls hl => ?_)
    refine lv_goto (tgt := 18) hx hb dL_law_1083 (by decide) ?_
    refine lv_iload_n hx hb dL_law_18 rfl (lv_at hl 0 rfl) ?_
    refine lv_aload_n hx hb dL_law_19 rfl (lv_at hl 3 rfl) ?_
    refine va_slen hx hb hX hbl hbA hS dL_law_20 (tk_i (v := 4) (by decide +kernel) ?_)
    refine lv_iconst (v := 4) hx hb dL_law_21 (by decide) ?_
    refine lv_isub hx hb dL_law_22 (tk_i (v := 0) (by decide +kernel) ?_)
    refine lv_icmp_gt (tgt := 1086) hx hb dL_law_23 (by decide) (fun _ => ?_) (fun h9 => absurd (by decide +kernel) h9)
    refine lv_iconst (v := 1) hx hb dL_law_1086 (by decide) ?_
    refine va_forget (fun q hq => by have h9 := hS.2.2 q hq; rw [← hAe] at h9; exact h9) ?_
    refine W.widen (k := 600000) (n := 7302250) (by decide) (by decide) ?_
    exact lw_ret hx hb hr hlocks dL_law_1087
  ·
    rcases (show a1.toInt ≤ 12 ∨ 13 ≤ a1.toInt by omega) with g_a1_13 | g_a1_13
    ·
      refine lv_aload_n hx hb dL_law_196 rfl (lv_at hl 2 rfl) ?_
      refine lv_aload_n hx hb dL_law_197 rfl (lv_at hl 3 rfl) ?_
      refine lv_iload_n hx hb dL_law_198 rfl (lv_at hl 0 rfl) ?_
      refine lv_iconst (v := 1) hx hb dL_law_199 (by decide) ?_
      refine lv_iadd hx hb dL_law_200 (tk_i (v := 1) (by decide +kernel) ?_)
      refine va_sld hx hb hX hbl hbA hS (vin (by decide +kernel)) dL_law_201 (tk_i (v := a1) ha1 ?_)
      refine kcall_i (D := (dC, dI)) (S := Unit) (v := a1) (wc := [(q1, .inr (11, [.ref q2, .ref q4, .ref q6, .ref q18, .ref q23, .ref q28, .ref q33, .ref q36, .ref q37, .ref q40, .ref q44, .ref q48, .int 0])), (q2, .inr (4, [.ref q3, .int 0, .int 0])), (q3, .inl (cI, 12, .inl (fun _ => 0))), (q6, .inr (6, [.ref q7, .ref q10, .ref q16, .ref q17, .int 0, .int 0, .int 0, .int 0, .int 0]))]) (wr := [(q49, .inr (12, [.int 0, .ref q50, .int 0, .ref q51, .int 0, .ref q52, .ref q53, .int 0, .ref q54, .int 0, .ref q55, .int (-9), .int 0, .int 0, .ref q56, .ref q57, .ref q58, .ref q59, .ref q60, .int 0, .ref q61, .ref q62, .ref q63, .int 0, .ref q64, .ref q65, .ref q66, .int 0, .ref q67])), (q51, .inl (cI, 12, .inl (fun _ => 0)))]) (w1 := fun _ => []) (fun hPc hDc => va_runV (As := [.int a1]) (rest := []) ⟨hx, hb, hml, hown, hts⟩ (kX11_nodes_2 l dC dI cI c2 q1 q2 q3 q6 q4 q18 q23 q28 q33 q36 q37 q40 q44 q48 q7 q10 q16 q17 H.size a1 (by omega) (by omega)) (cwV 1 hts gL_law_X11_nodes rfl rfl rfl (by decide +kernel) ⟨Nat.le_of_ble_eq_true rfl, Nat.le_of_ble_eq_true rfl⟩) (pre_V hPc hK hDc hN (ci := 11) (q0 := 0) rfl rfl) rfl rfl hl.1 rfl (lv_room (Nat.le_of_ble_eq_true rfl)) dL_law_202 ⟨Nat.le_of_ble_eq_true rfl, Nat.le_of_ble_eq_true rfl⟩) hP hD hS hA [0, 1, 2, 5] [28, 30] rfl rfl (by decide) (by decide) (by decide) (fun u H locs hP hD hS => ?_)
      have hP : va_P (dC, dI) vwCl [(q49, .inr (12, [.int 0, .ref q50, .int 0, .ref q51, .int 0, .ref q52, .ref q53, .int 0, .ref q54, .int 0, .ref q55, .int (-9), .int 0, .int 0, .ref q56, .ref q57, .ref q58, .ref q59, .ref q60, .int 0, .ref q61, .ref q62, .ref q63, .int 0, .ref q64, .ref q65, .ref q66, .int 0, .ref q67])), (q51, .inl (cI, 12, .inl (fun _ => 0)))] H := hP
      have hD : va_D A [(q49, .inr (12, [.int 0, .ref q50, .int 0, .ref q51, .int 0, .ref q52, .ref q53, .int 0, .ref q54, .int 0, .ref q55, .int (-9), .int 0, .int 0, .ref q56, .ref q57, .ref q58, .ref q59, .ref q60, .int 0, .ref q61, .ref q62, .ref q63, .int 0, .ref q64, .ref q65, .ref q66, .int 0, .ref q67])), (q51, .inl (cI, 12, .inl (fun _ => 0)))] := hD
      refine lv_aload_n hx hb dL_law_205 rfl (lv_at hl 1 rfl) ?_
      refine lv_aload_n hx hb dL_law_206 rfl (lv_at hl 3 rfl) ?_
      refine lv_iload_n hx hb dL_law_207 rfl (lv_at hl 0 rfl) ?_
      refine lv_iconst (v := 1) hx hb dL_law_208 (by decide) ?_
      refine lv_iadd hx hb dL_law_209 (tk_i (v := 1) (by decide +kernel) ?_)
      refine va_sld hx hb hX hbl hbA hS (vin (by decide +kernel)) dL_law_210 (tk_i (v := a1) ha1 ?_)
      refine kcall_i (D := (dC, dI)) (S := Unit) (v := a1) (wc := [(q49, .inr (12, [.int 0, .ref q50, .int 0, .ref q51, .int 0, .ref q52, .ref q53, .int 0, .ref q54, .int 0, .ref q55, .int (-9), .int 0, .int 0, .ref q56, .ref q57, .ref q58, .ref q59, .ref q60, .int 0, .ref q61, .ref q62, .ref q63, .int 0, .ref q64, .ref q65, .ref q66, .int 0, .ref q67])), (q51, .inl (cI, 12, .inl (fun _ => 0)))]) (wr := []) (w1 := fun _ => []) (fun hPc hDc => va_runV (As := [.int a1]) (rest := [.int a1]) ⟨hx, hb, hml, hown, hts⟩ (kX12_nodes_2 l dC dI cI c2 q49 q51 q50 q52 q53 q54 q55 q56 q57 q58 q59 q60 q61 q62 q63 q64 q65 q66 q67 H.size a1 (by omega) (by omega)) (cwV 1 hts gL_law_X12_nodes rfl rfl rfl (by decide +kernel) ⟨Nat.le_of_ble_eq_true rfl, Nat.le_of_ble_eq_true rfl⟩) (pre_V hPc hK hDc hN (ci := 12) (q0 := 0) rfl rfl) rfl rfl hl.1 rfl (lv_room (Nat.le_of_ble_eq_true rfl)) dL_law_211 ⟨Nat.le_of_ble_eq_true rfl, Nat.le_of_ble_eq_true rfl⟩) hP hD hS hA [0, 1] [] rfl rfl (by decide) (by decide) (by decide) (fun u H locs hP hD hS => ?_)
      have hP : va_P (dC, dI) vwCl [] H := hP
      have hD : va_D A [] := hD
      refine lv_icmp_eq (tgt := 1080) hx hb dL_law_214 (by decide) (fun _ => ?_) (fun h9 => absurd rfl h9)
      refine lv_iinc (v := 4) (lv' := [(3, .int 4), (2, .ref q49), (1, .ref q1), (0, .ref b)]) hx hb dL_law_1080 hl (k := 0) rfl (by decide +kernel) (by decide) rfl (fun ls hl => ?_)
      refine lv_goto (tgt := 18) hx hb dL_law_1083 (by decide) ?_
      refine lv_iload_n hx hb dL_law_18 rfl (lv_at hl 0 rfl) ?_
      refine lv_aload_n hx hb dL_law_19 rfl (lv_at hl 3 rfl) ?_
      refine va_slen hx hb hX hbl hbA hS dL_law_20 (tk_i (v := 4) (by decide +kernel) ?_)
      refine lv_iconst (v := 4) hx hb dL_law_21 (by decide) ?_
      refine lv_isub hx hb dL_law_22 (tk_i (v := 0) (by decide +kernel) ?_)
      refine lv_icmp_gt (tgt := 1086) hx hb dL_law_23 (by decide) (fun _ => ?_) (fun h9 => absurd (by decide +kernel) h9)
      refine lv_iconst (v := 1) hx hb dL_law_1086 (by decide) ?_
      refine va_forget (fun q hq => by have h9 := hS.2.2 q hq; rw [← hAe] at h9; exact h9) ?_
      refine W.widen (k := 600000) (n := 7302250) (by decide) (by decide) ?_
      exact lw_ret hx hb hr hlocks dL_law_1087
    ·
      refine lv_aload_n hx hb dL_law_196 rfl (lv_at hl 2 rfl) ?_
      refine lv_aload_n hx hb dL_law_197 rfl (lv_at hl 3 rfl) ?_
      refine lv_iload_n hx hb dL_law_198 rfl (lv_at hl 0 rfl) ?_
      refine lv_iconst (v := 1) hx hb dL_law_199 (by decide) ?_
      refine lv_iadd hx hb dL_law_200 (tk_i (v := 1) (by decide +kernel) ?_)
      refine va_sld hx hb hX hbl hbA hS (vin (by decide +kernel)) dL_law_201 (tk_i (v := a1) ha1 ?_)
      refine kcall_i (D := (dC, dI)) (S := Unit) (v := (-1)) (wc := [(q1, .inr (11, [.ref q2, .ref q4, .ref q6, .ref q18, .ref q23, .ref q28, .ref q33, .ref q36, .ref q37, .ref q40, .ref q44, .ref q48, .int 0]))]) (wr := [(q49, .inr (12, [.int 0, .ref q50, .int 0, .ref q51, .int 0, .ref q52, .ref q53, .int 0, .ref q54, .int 0, .ref q55, .int (-9), .int 0, .int 0, .ref q56, .ref q57, .ref q58, .ref q59, .ref q60, .int 0, .ref q61, .ref q62, .ref q63, .int 0, .ref q64, .ref q65, .ref q66, .int 0, .ref q67]))]) (w1 := fun _ => []) (fun hPc hDc => va_runV (As := [.int a1]) (rest := []) ⟨hx, hb, hml, hown, hts⟩ (kX11_nodes_3 l dC dI cI c2 q1 q2 q4 q6 q18 q23 q28 q33 q36 q37 q40 q44 q48 H.size a1 (by omega) (by omega)) (cwV 1 hts gL_law_X11_nodes rfl rfl rfl (by decide +kernel) ⟨Nat.le_of_ble_eq_true rfl, Nat.le_of_ble_eq_true rfl⟩) (pre_V hPc hK hDc hN (ci := 11) (q0 := 0) rfl rfl) rfl rfl hl.1 rfl (lv_room (Nat.le_of_ble_eq_true rfl)) dL_law_202 ⟨Nat.le_of_ble_eq_true rfl, Nat.le_of_ble_eq_true rfl⟩) hP hD hS hA [0] [28] rfl rfl (by decide) (by decide) (by decide) (fun u H locs hP hD hS => ?_)
      have hP : va_P (dC, dI) vwCl [(q49, .inr (12, [.int 0, .ref q50, .int 0, .ref q51, .int 0, .ref q52, .ref q53, .int 0, .ref q54, .int 0, .ref q55, .int (-9), .int 0, .int 0, .ref q56, .ref q57, .ref q58, .ref q59, .ref q60, .int 0, .ref q61, .ref q62, .ref q63, .int 0, .ref q64, .ref q65, .ref q66, .int 0, .ref q67]))] H := hP
      have hD : va_D A [(q49, .inr (12, [.int 0, .ref q50, .int 0, .ref q51, .int 0, .ref q52, .ref q53, .int 0, .ref q54, .int 0, .ref q55, .int (-9), .int 0, .int 0, .ref q56, .ref q57, .ref q58, .ref q59, .ref q60, .int 0, .ref q61, .ref q62, .ref q63, .int 0, .ref q64, .ref q65, .ref q66, .int 0, .ref q67]))] := hD
      refine lv_aload_n hx hb dL_law_205 rfl (lv_at hl 1 rfl) ?_
      refine lv_aload_n hx hb dL_law_206 rfl (lv_at hl 3 rfl) ?_
      refine lv_iload_n hx hb dL_law_207 rfl (lv_at hl 0 rfl) ?_
      refine lv_iconst (v := 1) hx hb dL_law_208 (by decide) ?_
      refine lv_iadd hx hb dL_law_209 (tk_i (v := 1) (by decide +kernel) ?_)
      refine va_sld hx hb hX hbl hbA hS (vin (by decide +kernel)) dL_law_210 (tk_i (v := a1) ha1 ?_)
      refine kcall_i (D := (dC, dI)) (S := Unit) (v := (-1)) (wc := [(q49, .inr (12, [.int 0, .ref q50, .int 0, .ref q51, .int 0, .ref q52, .ref q53, .int 0, .ref q54, .int 0, .ref q55, .int (-9), .int 0, .int 0, .ref q56, .ref q57, .ref q58, .ref q59, .ref q60, .int 0, .ref q61, .ref q62, .ref q63, .int 0, .ref q64, .ref q65, .ref q66, .int 0, .ref q67]))]) (wr := []) (w1 := fun _ => []) (fun hPc hDc => va_runV (As := [.int a1]) (rest := [.int (-1)]) ⟨hx, hb, hml, hown, hts⟩ (kX12_nodes_3 l dC dI cI c2 q49 q50 q51 q52 q53 q54 q55 q56 q57 q58 q59 q60 q61 q62 q63 q64 q65 q66 q67 H.size a1 (by omega) (by omega)) (cwV 1 hts gL_law_X12_nodes rfl rfl rfl (by decide +kernel) ⟨Nat.le_of_ble_eq_true rfl, Nat.le_of_ble_eq_true rfl⟩) (pre_V hPc hK hDc hN (ci := 12) (q0 := 0) rfl rfl) rfl rfl hl.1 rfl (lv_room (Nat.le_of_ble_eq_true rfl)) dL_law_211 ⟨Nat.le_of_ble_eq_true rfl, Nat.le_of_ble_eq_true rfl⟩) hP hD hS hA [0] [] rfl rfl (by decide) (by decide) (by decide) (fun u H locs hP hD hS => ?_)
      have hP : va_P (dC, dI) vwCl [] H := hP
      have hD : va_D A [] := hD
      refine lv_icmp_eq (tgt := 1080) hx hb dL_law_214 (by decide) (fun _ => ?_) (fun h9 => absurd (by decide +kernel) h9)
      refine lv_iinc (v := 4) (lv' := [(3, .int 4), (2, .ref q49), (1, .ref q1), (0, .ref b)]) hx hb dL_law_1080 hl (k := 0) rfl (by decide +kernel) (by decide) rfl (fun ls hl => ?_)
      refine lv_goto (tgt := 18) hx hb dL_law_1083 (by decide) ?_
      refine lv_iload_n hx hb dL_law_18 rfl (lv_at hl 0 rfl) ?_
      refine lv_aload_n hx hb dL_law_19 rfl (lv_at hl 3 rfl) ?_
      refine va_slen hx hb hX hbl hbA hS dL_law_20 (tk_i (v := 4) (by decide +kernel) ?_)
      refine lv_iconst (v := 4) hx hb dL_law_21 (by decide) ?_
      refine lv_isub hx hb dL_law_22 (tk_i (v := 0) (by decide +kernel) ?_)
      refine lv_icmp_gt (tgt := 1086) hx hb dL_law_23 (by decide) (fun _ => ?_) (fun h9 => absurd (by decide +kernel) h9)
      refine lv_iconst (v := 1) hx hb dL_law_1086 (by decide) ?_
      refine va_forget (fun q hq => by have h9 := hS.2.2 q hq; rw [← hAe] at h9; exact h9) ?_
      refine W.widen (k := 600000) (n := 7302250) (by decide) (by decide) ?_
      exact lw_ret hx hb hr hlocks dL_law_1087
set_option maxHeartbeats 8000000 in
set_option maxRecDepth 100000 in
theorem lc_1 {p : Program} {e : Env} {s : State} {m : MethodId} {below : List Frame} {meth : Method} {c : Code} (l : Launch) {b : Nat} {xs : Nat → Int32} (C0 : lw_At p s m meth c b 4 xs) (dC : Nat → ClassId) (dI : Nat → Nat → Nat) (cI c2 : ClassId) (q1 : Nat) (q2 : Nat) (q3 : Nat) (q4 : Nat) (q5 : Nat) (q6 : Nat) (q7 : Nat) (q8 : Nat) (r9 : Nat → Nat) (q10 : Nat) (q11 : Nat) (q12 : Nat) (r13 : Nat → Nat) (q14 : Nat) (q15 : Nat) (q16 : Nat) (q17 : Nat) (q18 : Nat) (q19 : Nat) (q20 : Nat) (r21 : Nat → Nat) (q22 : Nat) (q23 : Nat) (q24 : Nat) (q25 : Nat) (q26 : Nat) (q27 : Nat) (q28 : Nat) (q29 : Nat) (q30 : Nat) (q31 : Nat) (q32 : Nat) (q33 : Nat) (q34 : Nat) (q35 : Nat) (q36 : Nat) (q37 : Nat) (q38 : Nat) (q39 : Nat) (q40 : Nat) (q41 : Nat) (q42 : Nat) (q43 : Nat) (q44 : Nat) (q45 : Nat) (q46 : Nat) (q47 : Nat) (q48 : Nat) (q49 : Nat) (q50 : Nat) (q51 : Nat) (q52 : Nat) (q53 : Nat) (q54 : Nat) (q55 : Nat) (q56 : Nat) (q57 : Nat) (q58 : Nat) (q59 : Nat) (q60 : Nat) (q61 : Nat) (q62 : Nat) (q63 : Nat) (q64 : Nat) (q65 : Nat) (q66 : Nat) (q67 : Nat) (a1 a2 a3 : Int32) (ha1 : xs (Int32.toNatClampNeg 1) = a1) (ha2 : xs (Int32.toNatClampNeg 2) = a2) (ha3 : xs (Int32.toNatClampNeg 3) = a3) (hK : va_K (dC, dI) vwCl [(cI, .int), (c2, .array .int)] s) (hN : nsAll s) (H : Heap) (locs : List Loc) (hP : va_P (dC, dI) vwCl [(q1, .inr (11, [.ref q2, .ref q4, .ref q6, .ref q18, .ref q23, .ref q28, .ref q33, .ref q36, .ref q37, .ref q40, .ref q44, .ref q48, .int 0])), (q2, .inr (4, [.ref q3, .int 0, .int 0])), (q3, .inl (cI, 12, .inl (fun _ => 0))), (q4, .inr (10, [.ref q5, .int 0, .int 0])), (q5, .inl (cI, 12, .inl (fun _ => (-1)))), (q6, .inr (6, [.ref q7, .ref q10, .ref q16, .ref q17, .int 0, .int 0, .int 0, .int 0, .int 0])), (q7, .inr (3, [.ref q8, .int 0])), (q8, .inl (c2, 13, .inr (.inr (.inr (.inr (fun i => if i < 13 then some (r9 i) else none)))))), (r9 0, .inl (cI, 12, .inl (fun _ => 0))), (q10, .inr (5, [.ref q11, .ref q14, .ref q15, .int 0, .int 0, .int 0])), (q11, .inr (3, [.ref q12, .int 0])), (q12, .inl (c2, 13, .inr (.inr (.inr (.inr (fun i => if i < 13 then some (r13 i) else none)))))), (r13 0, .inl (cI, 12, .inl (fun _ => 0))), (q14, .inl (cI, 4096, .inl (fun _ => 0))), (q18, .inr (9, [.ref q19, .ref q22, .int 0, .int (-1)])), (q19, .inr (3, [.ref q20, .int 0])), (q20, .inl (c2, 13, .inr (.inr (.inr (.inr (fun i => if i < 13 then some (r21 i) else none)))))), (r21 0, .inl (cI, 12, .inl (fun _ => 0))), (q23, .inr (1, [.int 0, .ref q24, .ref q25, .ref q26, .ref q27, .int 0, .int (-1), .int (-1)])), (q28, .inr (1, [.int 1, .ref q29, .ref q30, .ref q31, .ref q32, .int 0, .int (-1), .int (-1)])), (q33, .inr (7, [.ref q34, .ref q35, .int 0, .int (-1)])), (q35, .inl (cI, 12, .inl (fun _ => 0))), (q37, .inr (2, [.ref q38, .ref q39, .int 0, .int (-1)])), (q40, .inr (0, [.ref q42, .ref q41, .ref q43, .int 0, .int 0, .int 0, .int 0, .int (-1)])), (q42, .inl (cI, 4096, .inl (fun _ => 0))), (q44, .inr (0, [.ref q46, .ref q45, .ref q47, .int 0, .int 0, .int 0, .int 0, .int (-1)])), (q46, .inl (cI, 256, .inl (fun _ => 0))), (q48, .inl (cI, 5, .inl (fun _ => 0))), (q49, .inr (12, [.int 0, .ref q50, .int 0, .ref q51, .int 0, .ref q52, .ref q53, .int 0, .ref q54, .int 0, .ref q55, .int (-9), .int 0, .int 0, .ref q56, .ref q57, .ref q58, .ref q59, .ref q60, .int 0, .ref q61, .ref q62, .ref q63, .int 0, .ref q64, .ref q65, .ref q66, .int 0, .ref q67])), (q50, .inl (cI, 5, .inl (fun _ => 0))), (q51, .inl (cI, 12, .inl (fun _ => 0))), (q52, .inl (cI, 12, .inl (fun _ => (-9)))), (q56, .inl (cI, 12, .inl (fun _ => 0))), (q57, .inl (cI, 12, .inl (fun _ => 0))), (q58, .inl (cI, 49152, .inl (fun _ => 0))), (q59, .inl (cI, 4096, .inl (fun _ => 0))), (q67, .inl (cI, 12, .inl (fun _ => 0)))] H) (hD : va_D (fun q : Nat => s.heap.size ≤ q) [(q1, .inr (11, [.ref q2, .ref q4, .ref q6, .ref q18, .ref q23, .ref q28, .ref q33, .ref q36, .ref q37, .ref q40, .ref q44, .ref q48, .int 0])), (q2, .inr (4, [.ref q3, .int 0, .int 0])), (q3, .inl (cI, 12, .inl (fun _ => 0))), (q4, .inr (10, [.ref q5, .int 0, .int 0])), (q5, .inl (cI, 12, .inl (fun _ => (-1)))), (q6, .inr (6, [.ref q7, .ref q10, .ref q16, .ref q17, .int 0, .int 0, .int 0, .int 0, .int 0])), (q7, .inr (3, [.ref q8, .int 0])), (q8, .inl (c2, 13, .inr (.inr (.inr (.inr (fun i => if i < 13 then some (r9 i) else none)))))), (r9 0, .inl (cI, 12, .inl (fun _ => 0))), (q10, .inr (5, [.ref q11, .ref q14, .ref q15, .int 0, .int 0, .int 0])), (q11, .inr (3, [.ref q12, .int 0])), (q12, .inl (c2, 13, .inr (.inr (.inr (.inr (fun i => if i < 13 then some (r13 i) else none)))))), (r13 0, .inl (cI, 12, .inl (fun _ => 0))), (q14, .inl (cI, 4096, .inl (fun _ => 0))), (q18, .inr (9, [.ref q19, .ref q22, .int 0, .int (-1)])), (q19, .inr (3, [.ref q20, .int 0])), (q20, .inl (c2, 13, .inr (.inr (.inr (.inr (fun i => if i < 13 then some (r21 i) else none)))))), (r21 0, .inl (cI, 12, .inl (fun _ => 0))), (q23, .inr (1, [.int 0, .ref q24, .ref q25, .ref q26, .ref q27, .int 0, .int (-1), .int (-1)])), (q28, .inr (1, [.int 1, .ref q29, .ref q30, .ref q31, .ref q32, .int 0, .int (-1), .int (-1)])), (q33, .inr (7, [.ref q34, .ref q35, .int 0, .int (-1)])), (q35, .inl (cI, 12, .inl (fun _ => 0))), (q37, .inr (2, [.ref q38, .ref q39, .int 0, .int (-1)])), (q40, .inr (0, [.ref q42, .ref q41, .ref q43, .int 0, .int 0, .int 0, .int 0, .int (-1)])), (q42, .inl (cI, 4096, .inl (fun _ => 0))), (q44, .inr (0, [.ref q46, .ref q45, .ref q47, .int 0, .int 0, .int 0, .int 0, .int (-1)])), (q46, .inl (cI, 256, .inl (fun _ => 0))), (q48, .inl (cI, 5, .inl (fun _ => 0))), (q49, .inr (12, [.int 0, .ref q50, .int 0, .ref q51, .int 0, .ref q52, .ref q53, .int 0, .ref q54, .int 0, .ref q55, .int (-9), .int 0, .int 0, .ref q56, .ref q57, .ref q58, .ref q59, .ref q60, .int 0, .ref q61, .ref q62, .ref q63, .int 0, .ref q64, .ref q65, .ref q66, .int 0, .ref q67])), (q50, .inl (cI, 5, .inl (fun _ => 0))), (q51, .inl (cI, 12, .inl (fun _ => 0))), (q52, .inl (cI, 12, .inl (fun _ => (-9)))), (q56, .inl (cI, 12, .inl (fun _ => 0))), (q57, .inl (cI, 12, .inl (fun _ => 0))), (q58, .inl (cI, 49152, .inl (fun _ => 0))), (q59, .inl (cI, 4096, .inl (fun _ => 0))), (q67, .inl (cI, 12, .inl (fun _ => 0)))]) (hS : va_S (fun q : Nat => s.heap.size ≤ q) s.heap H locs) (ls : Array Slot) (hl : lv_has ls 4 [(3, .int 0), (2, .ref q49), (1, .ref q1), (0, .ref b)]) : W p l e room_1 s m #[Value.ref b] below meth c H locs 128 161896 (lw_Z below #[Value.ref b] s) (F0 m 219 ls []) := by
  obtain ⟨hx, hb, hr, hml, hown0, hts0, hX, hbl, hlocks, hgv⟩ := id C0
  have hown : s.vm.findClass RL = some m.cls := hown0
  have hts : ∀ w ∈ wsL_law, w.before #[Value.ref b] s = true := fun w h => hts0 w (wsL_law_in w h)
  have hA : ∀ q : Nat, s.heap.size ≤ q → (fun q : Nat => s.heap.size ≤ q) q := fun _ h => h
  have hbA : ¬ (fun q : Nat => s.heap.size ≤ q) b := Nat.not_le.mpr hbl
  generalize hAe : (fun q : Nat => s.heap.size ≤ q) = A at hD hS hA hbA
  have a1_rg := i_rng a1
  have a2_rg := i_rng a2
  have a3_rg := i_rng a3
  obtain ⟨a1_l, a1_h⟩ := a1_rg
  obtain ⟨a2_l, a2_h⟩ := a2_rg
  obtain ⟨a3_l, a3_h⟩ := a3_rg
  rcases (show a3.toInt ≤ (-1) ∨ 0 ≤ a3.toInt by omega) with g_a3_0 | g_a3_0
  ·
    rcases (show a1.toInt ≤ (-1) ∨ 0 ≤ a1.toInt by omega) with g_a1_0 | g_a1_0
    ·
      refine lv_aload_n hx hb dL_law_219 rfl (lv_at hl 2 rfl) ?_
      refine lv_aload_n hx hb dL_law_220 rfl (lv_at hl 3 rfl) ?_
      refine lv_iload_n hx hb dL_law_221 rfl (lv_at hl 0 rfl) ?_
      refine lv_iconst (v := 1) hx hb dL_law_222 (by decide) ?_
      refine lv_iadd hx hb dL_law_223 (tk_i (v := 1) (by decide +kernel) ?_)
      refine va_sld hx hb hX hbl hbA hS (vin (by decide +kernel)) dL_law_224 (tk_i (v := a1) ha1 ?_)
      refine lv_aload_n hx hb dL_law_225 rfl (lv_at hl 3 rfl) ?_
      refine lv_iload_n hx hb dL_law_226 rfl (lv_at hl 0 rfl) ?_
      refine lv_iconst (v := 2) hx hb dL_law_227 (by decide) ?_
      refine lv_iadd hx hb dL_law_228 (tk_i (v := 2) (by decide +kernel) ?_)
      refine va_sld hx hb hX hbl hbA hS (vin (by decide +kernel)) dL_law_229 (tk_i (v := a2) ha2 ?_)
      refine lv_aload_n hx hb dL_law_230 rfl (lv_at hl 3 rfl) ?_
      refine lv_iload_n hx hb dL_law_231 rfl (lv_at hl 0 rfl) ?_
      refine lv_iconst (v := 3) hx hb dL_law_232 (by decide) ?_
      refine lv_iadd hx hb dL_law_233 (tk_i (v := 3) (by decide +kernel) ?_)
      refine va_sld hx hb hX hbl hbA hS (vin (by decide +kernel)) dL_law_234 (tk_i (v := a3) ha3 ?_)
      refine lv_if_eq (tgt := 242) hx hb dL_law_235 (by decide) (fun h9 => absurd h9 (ib_ne (X := a3.toInt) (Y := 0) rfl (by decide +kernel) (by omega))) (fun _ => ?_)
      refine lv_iconst (v := 1) hx hb dL_law_238 (by decide) ?_
      refine lv_goto (tgt := 243) hx hb dL_law_239 (by decide) ?_
      refine kcall_i (D := (dC, dI)) (S := Unit) (v := (-1)) (wc := [(q1, .inr (11, [.ref q2, .ref q4, .ref q6, .ref q18, .ref q23, .ref q28, .ref q33, .ref q36, .ref q37, .ref q40, .ref q44, .ref q48, .int 0])), (q2, .inr (4, [.ref q3, .int 0, .int 0]))]) (wr := [(q49, .inr (12, [.int 0, .ref q50, .int 0, .ref q51, .int 0, .ref q52, .ref q53, .int 0, .ref q54, .int 0, .ref q55, .int (-9), .int 0, .int 0, .ref q56, .ref q57, .ref q58, .ref q59, .ref q60, .int 0, .ref q61, .ref q62, .ref q63, .int 0, .ref q64, .ref q65, .ref q66, .int 0, .ref q67]))]) (w1 := fun _ => []) (fun hPc hDc => va_runV (As := [.int a1, .int a2, .int 1]) (rest := []) ⟨hx, hb, hml, hown, hts⟩ (kX11_join_1 l dC dI cI c2 q1 q2 q4 q6 q18 q23 q28 q33 q36 q37 q40 q44 q48 q3 H.size a1 a2 (by omega) (by omega) (by omega) (by omega)) (cwV 3 hts gL_law_X11_join rfl rfl rfl (by decide +kernel) ⟨Nat.le_of_ble_eq_true rfl, Nat.le_of_ble_eq_true rfl⟩) (pre_V hPc hK hDc hN (ci := 11) (q0 := 0) rfl rfl) rfl rfl hl.1 rfl (lv_room (Nat.le_of_ble_eq_true rfl)) dL_law_243 ⟨Nat.le_of_ble_eq_true rfl, Nat.le_of_ble_eq_true rfl⟩) hP hD hS hA [0, 1] [28] rfl rfl (by decide) (by decide) (by decide) (fun u H locs hP hD hS => ?_)
      have hP : va_P (dC, dI) vwCl [(q49, .inr (12, [.int 0, .ref q50, .int 0, .ref q51, .int 0, .ref q52, .ref q53, .int 0, .ref q54, .int 0, .ref q55, .int (-9), .int 0, .int 0, .ref q56, .ref q57, .ref q58, .ref q59, .ref q60, .int 0, .ref q61, .ref q62, .ref q63, .int 0, .ref q64, .ref q65, .ref q66, .int 0, .ref q67]))] H := hP
      have hD : va_D A [(q49, .inr (12, [.int 0, .ref q50, .int 0, .ref q51, .int 0, .ref q52, .ref q53, .int 0, .ref q54, .int 0, .ref q55, .int (-9), .int 0, .int 0, .ref q56, .ref q57, .ref q58, .ref q59, .ref q60, .int 0, .ref q61, .ref q62, .ref q63, .int 0, .ref q64, .ref q65, .ref q66, .int 0, .ref q67]))] := hD
      refine lv_aload_n hx hb dL_law_246 rfl (lv_at hl 1 rfl) ?_
      refine lv_aload_n hx hb dL_law_247 rfl (lv_at hl 3 rfl) ?_
      refine lv_iload_n hx hb dL_law_248 rfl (lv_at hl 0 rfl) ?_
      refine lv_iconst (v := 1) hx hb dL_law_249 (by decide) ?_
      refine lv_iadd hx hb dL_law_250 (tk_i (v := 1) (by decide +kernel) ?_)
      refine va_sld hx hb hX hbl hbA hS (vin (by decide +kernel)) dL_law_251 (tk_i (v := a1) ha1 ?_)
      refine lv_aload_n hx hb dL_law_252 rfl (lv_at hl 3 rfl) ?_
      refine lv_iload_n hx hb dL_law_253 rfl (lv_at hl 0 rfl) ?_
      refine lv_iconst (v := 2) hx hb dL_law_254 (by decide) ?_
      refine lv_iadd hx hb dL_law_255 (tk_i (v := 2) (by decide +kernel) ?_)
      refine va_sld hx hb hX hbl hbA hS (vin (by decide +kernel)) dL_law_256 (tk_i (v := a2) ha2 ?_)
      refine lv_aload_n hx hb dL_law_257 rfl (lv_at hl 3 rfl) ?_
      refine lv_iload_n hx hb dL_law_258 rfl (lv_at hl 0 rfl) ?_
      refine lv_iconst (v := 3) hx hb dL_law_259 (by decide) ?_
      refine lv_iadd hx hb dL_law_260 (tk_i (v := 3) (by decide +kernel) ?_)
      refine va_sld hx hb hX hbl hbA hS (vin (by decide +kernel)) dL_law_261 (tk_i (v := a3) ha3 ?_)
      refine lv_if_eq (tgt := 269) hx hb dL_law_262 (by decide) (fun h9 => absurd h9 (ib_ne (X := a3.toInt) (Y := 0) rfl (by decide +kernel) (by omega))) (fun _ => ?_)
      refine lv_iconst (v := 1) hx hb dL_law_265 (by decide) ?_
      refine lv_goto (tgt := 270) hx hb dL_law_266 (by decide) ?_
      refine kcall_i (D := (dC, dI)) (S := Unit) (v := (-1)) (wc := [(q49, .inr (12, [.int 0, .ref q50, .int 0, .ref q51, .int 0, .ref q52, .ref q53, .int 0, .ref q54, .int 0, .ref q55, .int (-9), .int 0, .int 0, .ref q56, .ref q57, .ref q58, .ref q59, .ref q60, .int 0, .ref q61, .ref q62, .ref q63, .int 0, .ref q64, .ref q65, .ref q66, .int 0, .ref q67]))]) (wr := []) (w1 := fun _ => []) (fun hPc hDc => va_runV (As := [.int a1, .int a2, .int 1]) (rest := [.int (-1)]) ⟨hx, hb, hml, hown, hts⟩ (kX12_join_1 l dC dI cI c2 q49 q50 q51 q52 q53 q54 q55 q56 q57 q58 q59 q60 q61 q62 q63 q64 q65 q66 q67 H.size a1 a2 (by omega) (by omega) (by omega) (by omega)) (cwV 3 hts gL_law_X12_join rfl rfl rfl (by decide +kernel) ⟨Nat.le_of_ble_eq_true rfl, Nat.le_of_ble_eq_true rfl⟩) (pre_V hPc hK hDc hN (ci := 12) (q0 := 0) rfl rfl) rfl rfl hl.1 rfl (lv_room (Nat.le_of_ble_eq_true rfl)) dL_law_270 ⟨Nat.le_of_ble_eq_true rfl, Nat.le_of_ble_eq_true rfl⟩) hP hD hS hA [0] [] rfl rfl (by decide) (by decide) (by decide) (fun u H locs hP hD hS => ?_)
      have hP : va_P (dC, dI) vwCl [] H := hP
      have hD : va_D A [] := hD
      refine lv_icmp_eq (tgt := 1080) hx hb dL_law_273 (by decide) (fun _ => ?_) (fun h9 => absurd (by decide +kernel) h9)
      refine lv_iinc (v := 4) (lv' := [(3, .int 4), (2, .ref q49), (1, .ref q1), (0, .ref b)]) hx hb dL_law_1080 hl (k := 0) rfl (by decide +kernel) (by decide) rfl (fun ls hl => ?_)
      refine lv_goto (tgt := 18) hx hb dL_law_1083 (by decide) ?_
      refine lv_iload_n hx hb dL_law_18 rfl (lv_at hl 0 rfl) ?_
      refine lv_aload_n hx hb dL_law_19 rfl (lv_at hl 3 rfl) ?_
      refine va_slen hx hb hX hbl hbA hS dL_law_20 (tk_i (v := 4) (by decide +kernel) ?_)
      refine lv_iconst (v := 4) hx hb dL_law_21 (by decide) ?_
      refine lv_isub hx hb dL_law_22 (tk_i (v := 0) (by decide +kernel) ?_)
      refine lv_icmp_gt (tgt := 1086) hx hb dL_law_23 (by decide) (fun _ => ?_) (fun h9 => absurd (by decide +kernel) h9)
      refine lv_iconst (v := 1) hx hb dL_law_1086 (by decide) ?_
      refine va_forget (fun q hq => by have h9 := hS.2.2 q hq; rw [← hAe] at h9; exact h9) ?_
      refine W.widen (k := 600000) (n := 7302250) (by decide) (by decide) ?_
      exact lw_ret hx hb hr hlocks dL_law_1087
    ·
      refine lv_aload_n hx hb dL_law_219 rfl (lv_at hl 2 rfl) ?_
      refine lv_aload_n hx hb dL_law_220 rfl (lv_at hl 3 rfl) ?_
      refine lv_iload_n hx hb dL_law_221 rfl (lv_at hl 0 rfl) ?_
      refine lv_iconst (v := 1) hx hb dL_law_222 (by decide) ?_
      refine lv_iadd hx hb dL_law_223 (tk_i (v := 1) (by decide +kernel) ?_)
      refine va_sld hx hb hX hbl hbA hS (vin (by decide +kernel)) dL_law_224 (tk_i (v := a1) ha1 ?_)
      refine lv_aload_n hx hb dL_law_225 rfl (lv_at hl 3 rfl) ?_
      refine lv_iload_n hx hb dL_law_226 rfl (lv_at hl 0 rfl) ?_
      refine lv_iconst (v := 2) hx hb dL_law_227 (by decide) ?_
      refine lv_iadd hx hb dL_law_228 (tk_i (v := 2) (by decide +kernel) ?_)
      refine va_sld hx hb hX hbl hbA hS (vin (by decide +kernel)) dL_law_229 (tk_i (v := a2) ha2 ?_)
      refine lv_aload_n hx hb dL_law_230 rfl (lv_at hl 3 rfl) ?_
      refine lv_iload_n hx hb dL_law_231 rfl (lv_at hl 0 rfl) ?_
      refine lv_iconst (v := 3) hx hb dL_law_232 (by decide) ?_
      refine lv_iadd hx hb dL_law_233 (tk_i (v := 3) (by decide +kernel) ?_)
      refine va_sld hx hb hX hbl hbA hS (vin (by decide +kernel)) dL_law_234 (tk_i (v := a3) ha3 ?_)
      refine lv_if_eq (tgt := 242) hx hb dL_law_235 (by decide) (fun h9 => absurd h9 (ib_ne (X := a3.toInt) (Y := 0) rfl (by decide +kernel) (by omega))) (fun _ => ?_)
      refine lv_iconst (v := 1) hx hb dL_law_238 (by decide) ?_
      refine lv_goto (tgt := 243) hx hb dL_law_239 (by decide) ?_
      refine kcall_i (D := (dC, dI)) (S := Unit) (v := (-1)) (wc := [(q1, .inr (11, [.ref q2, .ref q4, .ref q6, .ref q18, .ref q23, .ref q28, .ref q33, .ref q36, .ref q37, .ref q40, .ref q44, .ref q48, .int 0])), (q2, .inr (4, [.ref q3, .int 0, .int 0]))]) (wr := [(q49, .inr (12, [.int 0, .ref q50, .int 0, .ref q51, .int 0, .ref q52, .ref q53, .int 0, .ref q54, .int 0, .ref q55, .int (-9), .int 0, .int 0, .ref q56, .ref q57, .ref q58, .ref q59, .ref q60, .int 0, .ref q61, .ref q62, .ref q63, .int 0, .ref q64, .ref q65, .ref q66, .int 0, .ref q67]))]) (w1 := fun _ => []) (fun hPc hDc => va_runV (As := [.int a1, .int a2, .int 1]) (rest := []) ⟨hx, hb, hml, hown, hts⟩ (kX11_join_2 l dC dI cI c2 q1 q2 q4 q6 q18 q23 q28 q33 q36 q37 q40 q44 q48 q3 H.size a1 a2 (by omega) (by omega) (by omega) (by omega)) (cwV 3 hts gL_law_X11_join rfl rfl rfl (by decide +kernel) ⟨Nat.le_of_ble_eq_true rfl, Nat.le_of_ble_eq_true rfl⟩) (pre_V hPc hK hDc hN (ci := 11) (q0 := 0) rfl rfl) rfl rfl hl.1 rfl (lv_room (Nat.le_of_ble_eq_true rfl)) dL_law_243 ⟨Nat.le_of_ble_eq_true rfl, Nat.le_of_ble_eq_true rfl⟩) hP hD hS hA [0, 1] [28] rfl rfl (by decide) (by decide) (by decide) (fun u H locs hP hD hS => ?_)
      have hP : va_P (dC, dI) vwCl [(q49, .inr (12, [.int 0, .ref q50, .int 0, .ref q51, .int 0, .ref q52, .ref q53, .int 0, .ref q54, .int 0, .ref q55, .int (-9), .int 0, .int 0, .ref q56, .ref q57, .ref q58, .ref q59, .ref q60, .int 0, .ref q61, .ref q62, .ref q63, .int 0, .ref q64, .ref q65, .ref q66, .int 0, .ref q67]))] H := hP
      have hD : va_D A [(q49, .inr (12, [.int 0, .ref q50, .int 0, .ref q51, .int 0, .ref q52, .ref q53, .int 0, .ref q54, .int 0, .ref q55, .int (-9), .int 0, .int 0, .ref q56, .ref q57, .ref q58, .ref q59, .ref q60, .int 0, .ref q61, .ref q62, .ref q63, .int 0, .ref q64, .ref q65, .ref q66, .int 0, .ref q67]))] := hD
      refine lv_aload_n hx hb dL_law_246 rfl (lv_at hl 1 rfl) ?_
      refine lv_aload_n hx hb dL_law_247 rfl (lv_at hl 3 rfl) ?_
      refine lv_iload_n hx hb dL_law_248 rfl (lv_at hl 0 rfl) ?_
      refine lv_iconst (v := 1) hx hb dL_law_249 (by decide) ?_
      refine lv_iadd hx hb dL_law_250 (tk_i (v := 1) (by decide +kernel) ?_)
      refine va_sld hx hb hX hbl hbA hS (vin (by decide +kernel)) dL_law_251 (tk_i (v := a1) ha1 ?_)
      refine lv_aload_n hx hb dL_law_252 rfl (lv_at hl 3 rfl) ?_
      refine lv_iload_n hx hb dL_law_253 rfl (lv_at hl 0 rfl) ?_
      refine lv_iconst (v := 2) hx hb dL_law_254 (by decide) ?_
      refine lv_iadd hx hb dL_law_255 (tk_i (v := 2) (by decide +kernel) ?_)
      refine va_sld hx hb hX hbl hbA hS (vin (by decide +kernel)) dL_law_256 (tk_i (v := a2) ha2 ?_)
      refine lv_aload_n hx hb dL_law_257 rfl (lv_at hl 3 rfl) ?_
      refine lv_iload_n hx hb dL_law_258 rfl (lv_at hl 0 rfl) ?_
      refine lv_iconst (v := 3) hx hb dL_law_259 (by decide) ?_
      refine lv_iadd hx hb dL_law_260 (tk_i (v := 3) (by decide +kernel) ?_)
      refine va_sld hx hb hX hbl hbA hS (vin (by decide +kernel)) dL_law_261 (tk_i (v := a3) ha3 ?_)
      refine lv_if_eq (tgt := 269) hx hb dL_law_262 (by decide) (fun h9 => absurd h9 (ib_ne (X := a3.toInt) (Y := 0) rfl (by decide +kernel) (by omega))) (fun _ => ?_)
      refine lv_iconst (v := 1) hx hb dL_law_265 (by decide) ?_
      refine lv_goto (tgt := 270) hx hb dL_law_266 (by decide) ?_
      refine kcall_i (D := (dC, dI)) (S := Unit) (v := (-1)) (wc := [(q49, .inr (12, [.int 0, .ref q50, .int 0, .ref q51, .int 0, .ref q52, .ref q53, .int 0, .ref q54, .int 0, .ref q55, .int (-9), .int 0, .int 0, .ref q56, .ref q57, .ref q58, .ref q59, .ref q60, .int 0, .ref q61, .ref q62, .ref q63, .int 0, .ref q64, .ref q65, .ref q66, .int 0, .ref q67]))]) (wr := []) (w1 := fun _ => []) (fun hPc hDc => va_runV (As := [.int a1, .int a2, .int 1]) (rest := [.int (-1)]) ⟨hx, hb, hml, hown, hts⟩ (kX12_join_2 l dC dI cI c2 q49 q50 q51 q52 q53 q54 q55 q56 q57 q58 q59 q60 q61 q62 q63 q64 q65 q66 q67 H.size a1 a2 (by omega) (by omega) (by omega) (by omega)) (cwV 3 hts gL_law_X12_join rfl rfl rfl (by decide +kernel) ⟨Nat.le_of_ble_eq_true rfl, Nat.le_of_ble_eq_true rfl⟩) (pre_V hPc hK hDc hN (ci := 12) (q0 := 0) rfl rfl) rfl rfl hl.1 rfl (lv_room (Nat.le_of_ble_eq_true rfl)) dL_law_270 ⟨Nat.le_of_ble_eq_true rfl, Nat.le_of_ble_eq_true rfl⟩) hP hD hS hA [0] [] rfl rfl (by decide) (by decide) (by decide) (fun u H locs hP hD hS => ?_)
      have hP : va_P (dC, dI) vwCl [] H := hP
      have hD : va_D A [] := hD
      refine lv_icmp_eq (tgt := 1080) hx hb dL_law_273 (by decide) (fun _ => ?_) (fun h9 => absurd (by decide +kernel) h9)
      refine lv_iinc (v := 4) (lv' := [(3, .int 4), (2, .ref q49), (1, .ref q1), (0, .ref b)]) hx hb dL_law_1080 hl (k := 0) rfl (by decide +kernel) (by decide) rfl (fun ls hl => ?_)
      refine lv_goto (tgt := 18) hx hb dL_law_1083 (by decide) ?_
      refine lv_iload_n hx hb dL_law_18 rfl (lv_at hl 0 rfl) ?_
      refine lv_aload_n hx hb dL_law_19 rfl (lv_at hl 3 rfl) ?_
      refine va_slen hx hb hX hbl hbA hS dL_law_20 (tk_i (v := 4) (by decide +kernel) ?_)
      refine lv_iconst (v := 4) hx hb dL_law_21 (by decide) ?_
      refine lv_isub hx hb dL_law_22 (tk_i (v := 0) (by decide +kernel) ?_)
      refine lv_icmp_gt (tgt := 1086) hx hb dL_law_23 (by decide) (fun _ => ?_) (fun h9 => absurd (by decide +kernel) h9)
      refine lv_iconst (v := 1) hx hb dL_law_1086 (by decide) ?_
      refine va_forget (fun q hq => by have h9 := hS.2.2 q hq; rw [← hAe] at h9; exact h9) ?_
      refine W.widen (k := 600000) (n := 7302250) (by decide) (by decide) ?_
      exact lw_ret hx hb hr hlocks dL_law_1087
  ·
    rcases (show a3.toInt ≤ 0 ∨ 1 ≤ a3.toInt by omega) with g_a3_1 | g_a3_1
    ·
      rcases (show a1.toInt ≤ (-1) ∨ 0 ≤ a1.toInt by omega) with g_a1_0 | g_a1_0
      ·
        have e_a3 : a3 = 0 := ib_eq (X := 0) (by omega) (by decide +kernel)
        subst e_a3
        refine lv_aload_n hx hb dL_law_219 rfl (lv_at hl 2 rfl) ?_
        refine lv_aload_n hx hb dL_law_220 rfl (lv_at hl 3 rfl) ?_
        refine lv_iload_n hx hb dL_law_221 rfl (lv_at hl 0 rfl) ?_
        refine lv_iconst (v := 1) hx hb dL_law_222 (by decide) ?_
        refine lv_iadd hx hb dL_law_223 (tk_i (v := 1) (by decide +kernel) ?_)
        refine va_sld hx hb hX hbl hbA hS (vin (by decide +kernel)) dL_law_224 (tk_i (v := a1) ha1 ?_)
        refine lv_aload_n hx hb dL_law_225 rfl (lv_at hl 3 rfl) ?_
        refine lv_iload_n hx hb dL_law_226 rfl (lv_at hl 0 rfl) ?_
        refine lv_iconst (v := 2) hx hb dL_law_227 (by decide) ?_
        refine lv_iadd hx hb dL_law_228 (tk_i (v := 2) (by decide +kernel) ?_)
        refine va_sld hx hb hX hbl hbA hS (vin (by decide +kernel)) dL_law_229 (tk_i (v := a2) ha2 ?_)
        refine lv_aload_n hx hb dL_law_230 rfl (lv_at hl 3 rfl) ?_
        refine lv_iload_n hx hb dL_law_231 rfl (lv_at hl 0 rfl) ?_
        refine lv_iconst (v := 3) hx hb dL_law_232 (by decide) ?_
        refine lv_iadd hx hb dL_law_233 (tk_i (v := 3) (by decide +kernel) ?_)
        refine va_sld hx hb hX hbl hbA hS (vin (by decide +kernel)) dL_law_234 (tk_i (v := 0) ha3 ?_)
        refine lv_if_eq (tgt := 242) hx hb dL_law_235 (by decide) (fun _ => ?_) (fun h9 => absurd (by decide +kernel) h9)
        refine lv_iconst (v := 0) hx hb dL_law_242 (by decide) ?_
        refine kcall_i (D := (dC, dI)) (S := Unit) (v := (-1)) (wc := [(q1, .inr (11, [.ref q2, .ref q4, .ref q6, .ref q18, .ref q23, .ref q28, .ref q33, .ref q36, .ref q37, .ref q40, .ref q44, .ref q48, .int 0])), (q2, .inr (4, [.ref q3, .int 0, .int 0]))]) (wr := [(q49, .inr (12, [.int 0, .ref q50, .int 0, .ref q51, .int 0, .ref q52, .ref q53, .int 0, .ref q54, .int 0, .ref q55, .int (-9), .int 0, .int 0, .ref q56, .ref q57, .ref q58, .ref q59, .ref q60, .int 0, .ref q61, .ref q62, .ref q63, .int 0, .ref q64, .ref q65, .ref q66, .int 0, .ref q67]))]) (w1 := fun _ => []) (fun hPc hDc => va_runV (As := [.int a1, .int a2, .int 0]) (rest := []) ⟨hx, hb, hml, hown, hts⟩ (kX11_join_3 l dC dI cI c2 q1 q2 q4 q6 q18 q23 q28 q33 q36 q37 q40 q44 q48 q3 H.size a1 a2 (by omega) (by omega) (by omega) (by omega)) (cwV 3 hts gL_law_X11_join rfl rfl rfl (by decide +kernel) ⟨Nat.le_of_ble_eq_true rfl, Nat.le_of_ble_eq_true rfl⟩) (pre_V hPc hK hDc hN (ci := 11) (q0 := 0) rfl rfl) rfl rfl hl.1 rfl (lv_room (Nat.le_of_ble_eq_true rfl)) dL_law_243 ⟨Nat.le_of_ble_eq_true rfl, Nat.le_of_ble_eq_true rfl⟩) hP hD hS hA [0, 1] [28] rfl rfl (by decide) (by decide) (by decide) (fun u H locs hP hD hS => ?_)
        have hP : va_P (dC, dI) vwCl [(q49, .inr (12, [.int 0, .ref q50, .int 0, .ref q51, .int 0, .ref q52, .ref q53, .int 0, .ref q54, .int 0, .ref q55, .int (-9), .int 0, .int 0, .ref q56, .ref q57, .ref q58, .ref q59, .ref q60, .int 0, .ref q61, .ref q62, .ref q63, .int 0, .ref q64, .ref q65, .ref q66, .int 0, .ref q67]))] H := hP
        have hD : va_D A [(q49, .inr (12, [.int 0, .ref q50, .int 0, .ref q51, .int 0, .ref q52, .ref q53, .int 0, .ref q54, .int 0, .ref q55, .int (-9), .int 0, .int 0, .ref q56, .ref q57, .ref q58, .ref q59, .ref q60, .int 0, .ref q61, .ref q62, .ref q63, .int 0, .ref q64, .ref q65, .ref q66, .int 0, .ref q67]))] := hD
        refine lv_aload_n hx hb dL_law_246 rfl (lv_at hl 1 rfl) ?_
        refine lv_aload_n hx hb dL_law_247 rfl (lv_at hl 3 rfl) ?_
        refine lv_iload_n hx hb dL_law_248 rfl (lv_at hl 0 rfl) ?_
        refine lv_iconst (v := 1) hx hb dL_law_249 (by decide) ?_
        refine lv_iadd hx hb dL_law_250 (tk_i (v := 1) (by decide +kernel) ?_)
        refine va_sld hx hb hX hbl hbA hS (vin (by decide +kernel)) dL_law_251 (tk_i (v := a1) ha1 ?_)
        refine lv_aload_n hx hb dL_law_252 rfl (lv_at hl 3 rfl) ?_
        refine lv_iload_n hx hb dL_law_253 rfl (lv_at hl 0 rfl) ?_
        refine lv_iconst (v := 2) hx hb dL_law_254 (by decide) ?_
        refine lv_iadd hx hb dL_law_255 (tk_i (v := 2) (by decide +kernel) ?_)
        refine va_sld hx hb hX hbl hbA hS (vin (by decide +kernel)) dL_law_256 (tk_i (v := a2) ha2 ?_)
        refine lv_aload_n hx hb dL_law_257 rfl (lv_at hl 3 rfl) ?_
        refine lv_iload_n hx hb dL_law_258 rfl (lv_at hl 0 rfl) ?_
        refine lv_iconst (v := 3) hx hb dL_law_259 (by decide) ?_
        refine lv_iadd hx hb dL_law_260 (tk_i (v := 3) (by decide +kernel) ?_)
        refine va_sld hx hb hX hbl hbA hS (vin (by decide +kernel)) dL_law_261 (tk_i (v := 0) ha3 ?_)
        refine lv_if_eq (tgt := 269) hx hb dL_law_262 (by decide) (fun _ => ?_) (fun h9 => absurd (by decide +kernel) h9)
        refine lv_iconst (v := 0) hx hb dL_law_269 (by decide) ?_
        refine kcall_i (D := (dC, dI)) (S := Unit) (v := (-1)) (wc := [(q49, .inr (12, [.int 0, .ref q50, .int 0, .ref q51, .int 0, .ref q52, .ref q53, .int 0, .ref q54, .int 0, .ref q55, .int (-9), .int 0, .int 0, .ref q56, .ref q57, .ref q58, .ref q59, .ref q60, .int 0, .ref q61, .ref q62, .ref q63, .int 0, .ref q64, .ref q65, .ref q66, .int 0, .ref q67]))]) (wr := []) (w1 := fun _ => []) (fun hPc hDc => va_runV (As := [.int a1, .int a2, .int 0]) (rest := [.int (-1)]) ⟨hx, hb, hml, hown, hts⟩ (kX12_join_3 l dC dI cI c2 q49 q50 q51 q52 q53 q54 q55 q56 q57 q58 q59 q60 q61 q62 q63 q64 q65 q66 q67 H.size a1 a2 (by omega) (by omega) (by omega) (by omega)) (cwV 3 hts gL_law_X12_join rfl rfl rfl (by decide +kernel) ⟨Nat.le_of_ble_eq_true rfl, Nat.le_of_ble_eq_true rfl⟩) (pre_V hPc hK hDc hN (ci := 12) (q0 := 0) rfl rfl) rfl rfl hl.1 rfl (lv_room (Nat.le_of_ble_eq_true rfl)) dL_law_270 ⟨Nat.le_of_ble_eq_true rfl, Nat.le_of_ble_eq_true rfl⟩) hP hD hS hA [0] [] rfl rfl (by decide) (by decide) (by decide) (fun u H locs hP hD hS => ?_)
        have hP : va_P (dC, dI) vwCl [] H := hP
        have hD : va_D A [] := hD
        refine lv_icmp_eq (tgt := 1080) hx hb dL_law_273 (by decide) (fun _ => ?_) (fun h9 => absurd (by decide +kernel) h9)
        refine lv_iinc (v := 4) (lv' := [(3, .int 4), (2, .ref q49), (1, .ref q1), (0, .ref b)]) hx hb dL_law_1080 hl (k := 0) rfl (by decide +kernel) (by decide) rfl (fun ls hl => ?_)
        refine lv_goto (tgt := 18) hx hb dL_law_1083 (by decide) ?_
        refine lv_iload_n hx hb dL_law_18 rfl (lv_at hl 0 rfl) ?_
        refine lv_aload_n hx hb dL_law_19 rfl (lv_at hl 3 rfl) ?_
        refine va_slen hx hb hX hbl hbA hS dL_law_20 (tk_i (v := 4) (by decide +kernel) ?_)
        refine lv_iconst (v := 4) hx hb dL_law_21 (by decide) ?_
        refine lv_isub hx hb dL_law_22 (tk_i (v := 0) (by decide +kernel) ?_)
        refine lv_icmp_gt (tgt := 1086) hx hb dL_law_23 (by decide) (fun _ => ?_) (fun h9 => absurd (by decide +kernel) h9)
        refine lv_iconst (v := 1) hx hb dL_law_1086 (by decide) ?_
        refine va_forget (fun q hq => by have h9 := hS.2.2 q hq; rw [← hAe] at h9; exact h9) ?_
        refine W.widen (k := 600000) (n := 7302250) (by decide) (by decide) ?_
        exact lw_ret hx hb hr hlocks dL_law_1087
      ·
        have e_a3 : a3 = 0 := ib_eq (X := 0) (by omega) (by decide +kernel)
        subst e_a3
        refine lv_aload_n hx hb dL_law_219 rfl (lv_at hl 2 rfl) ?_
        refine lv_aload_n hx hb dL_law_220 rfl (lv_at hl 3 rfl) ?_
        refine lv_iload_n hx hb dL_law_221 rfl (lv_at hl 0 rfl) ?_
        refine lv_iconst (v := 1) hx hb dL_law_222 (by decide) ?_
        refine lv_iadd hx hb dL_law_223 (tk_i (v := 1) (by decide +kernel) ?_)
        refine va_sld hx hb hX hbl hbA hS (vin (by decide +kernel)) dL_law_224 (tk_i (v := a1) ha1 ?_)
        refine lv_aload_n hx hb dL_law_225 rfl (lv_at hl 3 rfl) ?_
        refine lv_iload_n hx hb dL_law_226 rfl (lv_at hl 0 rfl) ?_
        refine lv_iconst (v := 2) hx hb dL_law_227 (by decide) ?_
        refine lv_iadd hx hb dL_law_228 (tk_i (v := 2) (by decide +kernel) ?_)
        refine va_sld hx hb hX hbl hbA hS (vin (by decide +kernel)) dL_law_229 (tk_i (v := a2) ha2 ?_)
        refine lv_aload_n hx hb dL_law_230 rfl (lv_at hl 3 rfl) ?_
        refine lv_iload_n hx hb dL_law_231 rfl (lv_at hl 0 rfl) ?_
        refine lv_iconst (v := 3) hx hb dL_law_232 (by decide) ?_
        refine lv_iadd hx hb dL_law_233 (tk_i (v := 3) (by decide +kernel) ?_)
        refine va_sld hx hb hX hbl hbA hS (vin (by decide +kernel)) dL_law_234 (tk_i (v := 0) ha3 ?_)
        refine lv_if_eq (tgt := 242) hx hb dL_law_235 (by decide) (fun _ => ?_) (fun h9 => absurd (by decide +kernel) h9)
        refine lv_iconst (v := 0) hx hb dL_law_242 (by decide) ?_
        refine kcall_i (D := (dC, dI)) (S := Unit) (v := (-1)) (wc := [(q1, .inr (11, [.ref q2, .ref q4, .ref q6, .ref q18, .ref q23, .ref q28, .ref q33, .ref q36, .ref q37, .ref q40, .ref q44, .ref q48, .int 0])), (q2, .inr (4, [.ref q3, .int 0, .int 0]))]) (wr := [(q49, .inr (12, [.int 0, .ref q50, .int 0, .ref q51, .int 0, .ref q52, .ref q53, .int 0, .ref q54, .int 0, .ref q55, .int (-9), .int 0, .int 0, .ref q56, .ref q57, .ref q58, .ref q59, .ref q60, .int 0, .ref q61, .ref q62, .ref q63, .int 0, .ref q64, .ref q65, .ref q66, .int 0, .ref q67]))]) (w1 := fun _ => []) (fun hPc hDc => va_runV (As := [.int a1, .int a2, .int 0]) (rest := []) ⟨hx, hb, hml, hown, hts⟩ (kX11_join_4 l dC dI cI c2 q1 q2 q4 q6 q18 q23 q28 q33 q36 q37 q40 q44 q48 q3 H.size a1 a2 (by omega) (by omega) (by omega) (by omega)) (cwV 3 hts gL_law_X11_join rfl rfl rfl (by decide +kernel) ⟨Nat.le_of_ble_eq_true rfl, Nat.le_of_ble_eq_true rfl⟩) (pre_V hPc hK hDc hN (ci := 11) (q0 := 0) rfl rfl) rfl rfl hl.1 rfl (lv_room (Nat.le_of_ble_eq_true rfl)) dL_law_243 ⟨Nat.le_of_ble_eq_true rfl, Nat.le_of_ble_eq_true rfl⟩) hP hD hS hA [0, 1] [28] rfl rfl (by decide) (by decide) (by decide) (fun u H locs hP hD hS => ?_)
        have hP : va_P (dC, dI) vwCl [(q49, .inr (12, [.int 0, .ref q50, .int 0, .ref q51, .int 0, .ref q52, .ref q53, .int 0, .ref q54, .int 0, .ref q55, .int (-9), .int 0, .int 0, .ref q56, .ref q57, .ref q58, .ref q59, .ref q60, .int 0, .ref q61, .ref q62, .ref q63, .int 0, .ref q64, .ref q65, .ref q66, .int 0, .ref q67]))] H := hP
        have hD : va_D A [(q49, .inr (12, [.int 0, .ref q50, .int 0, .ref q51, .int 0, .ref q52, .ref q53, .int 0, .ref q54, .int 0, .ref q55, .int (-9), .int 0, .int 0, .ref q56, .ref q57, .ref q58, .ref q59, .ref q60, .int 0, .ref q61, .ref q62, .ref q63, .int 0, .ref q64, .ref q65, .ref q66, .int 0, .ref q67]))] := hD
        refine lv_aload_n hx hb dL_law_246 rfl (lv_at hl 1 rfl) ?_
        refine lv_aload_n hx hb dL_law_247 rfl (lv_at hl 3 rfl) ?_
        refine lv_iload_n hx hb dL_law_248 rfl (lv_at hl 0 rfl) ?_
        refine lv_iconst (v := 1) hx hb dL_law_249 (by decide) ?_
        refine lv_iadd hx hb dL_law_250 (tk_i (v := 1) (by decide +kernel) ?_)
        refine va_sld hx hb hX hbl hbA hS (vin (by decide +kernel)) dL_law_251 (tk_i (v := a1) ha1 ?_)
        refine lv_aload_n hx hb dL_law_252 rfl (lv_at hl 3 rfl) ?_
        refine lv_iload_n hx hb dL_law_253 rfl (lv_at hl 0 rfl) ?_
        refine lv_iconst (v := 2) hx hb dL_law_254 (by decide) ?_
        refine lv_iadd hx hb dL_law_255 (tk_i (v := 2) (by decide +kernel) ?_)
        refine va_sld hx hb hX hbl hbA hS (vin (by decide +kernel)) dL_law_256 (tk_i (v := a2) ha2 ?_)
        refine lv_aload_n hx hb dL_law_257 rfl (lv_at hl 3 rfl) ?_
        refine lv_iload_n hx hb dL_law_258 rfl (lv_at hl 0 rfl) ?_
        refine lv_iconst (v := 3) hx hb dL_law_259 (by decide) ?_
        refine lv_iadd hx hb dL_law_260 (tk_i (v := 3) (by decide +kernel) ?_)
        refine va_sld hx hb hX hbl hbA hS (vin (by decide +kernel)) dL_law_261 (tk_i (v := 0) ha3 ?_)
        refine lv_if_eq (tgt := 269) hx hb dL_law_262 (by decide) (fun _ => ?_) (fun h9 => absurd (by decide +kernel) h9)
        refine lv_iconst (v := 0) hx hb dL_law_269 (by decide) ?_
        refine kcall_i (D := (dC, dI)) (S := Unit) (v := (-1)) (wc := [(q49, .inr (12, [.int 0, .ref q50, .int 0, .ref q51, .int 0, .ref q52, .ref q53, .int 0, .ref q54, .int 0, .ref q55, .int (-9), .int 0, .int 0, .ref q56, .ref q57, .ref q58, .ref q59, .ref q60, .int 0, .ref q61, .ref q62, .ref q63, .int 0, .ref q64, .ref q65, .ref q66, .int 0, .ref q67]))]) (wr := []) (w1 := fun _ => []) (fun hPc hDc => va_runV (As := [.int a1, .int a2, .int 0]) (rest := [.int (-1)]) ⟨hx, hb, hml, hown, hts⟩ (kX12_join_4 l dC dI cI c2 q49 q50 q51 q52 q53 q54 q55 q56 q57 q58 q59 q60 q61 q62 q63 q64 q65 q66 q67 H.size a1 a2 (by omega) (by omega) (by omega) (by omega)) (cwV 3 hts gL_law_X12_join rfl rfl rfl (by decide +kernel) ⟨Nat.le_of_ble_eq_true rfl, Nat.le_of_ble_eq_true rfl⟩) (pre_V hPc hK hDc hN (ci := 12) (q0 := 0) rfl rfl) rfl rfl hl.1 rfl (lv_room (Nat.le_of_ble_eq_true rfl)) dL_law_270 ⟨Nat.le_of_ble_eq_true rfl, Nat.le_of_ble_eq_true rfl⟩) hP hD hS hA [0] [] rfl rfl (by decide) (by decide) (by decide) (fun u H locs hP hD hS => ?_)
        have hP : va_P (dC, dI) vwCl [] H := hP
        have hD : va_D A [] := hD
        refine lv_icmp_eq (tgt := 1080) hx hb dL_law_273 (by decide) (fun _ => ?_) (fun h9 => absurd (by decide +kernel) h9)
        refine lv_iinc (v := 4) (lv' := [(3, .int 4), (2, .ref q49), (1, .ref q1), (0, .ref b)]) hx hb dL_law_1080 hl (k := 0) rfl (by decide +kernel) (by decide) rfl (fun ls hl => ?_)
        refine lv_goto (tgt := 18) hx hb dL_law_1083 (by decide) ?_
        refine lv_iload_n hx hb dL_law_18 rfl (lv_at hl 0 rfl) ?_
        refine lv_aload_n hx hb dL_law_19 rfl (lv_at hl 3 rfl) ?_
        refine va_slen hx hb hX hbl hbA hS dL_law_20 (tk_i (v := 4) (by decide +kernel) ?_)
        refine lv_iconst (v := 4) hx hb dL_law_21 (by decide) ?_
        refine lv_isub hx hb dL_law_22 (tk_i (v := 0) (by decide +kernel) ?_)
        refine lv_icmp_gt (tgt := 1086) hx hb dL_law_23 (by decide) (fun _ => ?_) (fun h9 => absurd (by decide +kernel) h9)
        refine lv_iconst (v := 1) hx hb dL_law_1086 (by decide) ?_
        refine va_forget (fun q hq => by have h9 := hS.2.2 q hq; rw [← hAe] at h9; exact h9) ?_
        refine W.widen (k := 600000) (n := 7302250) (by decide) (by decide) ?_
        exact lw_ret hx hb hr hlocks dL_law_1087
    ·
      rcases (show a1.toInt ≤ (-1) ∨ 0 ≤ a1.toInt by omega) with g_a1_0 | g_a1_0
      ·
        refine lv_aload_n hx hb dL_law_219 rfl (lv_at hl 2 rfl) ?_
        refine lv_aload_n hx hb dL_law_220 rfl (lv_at hl 3 rfl) ?_
        refine lv_iload_n hx hb dL_law_221 rfl (lv_at hl 0 rfl) ?_
        refine lv_iconst (v := 1) hx hb dL_law_222 (by decide) ?_
        refine lv_iadd hx hb dL_law_223 (tk_i (v := 1) (by decide +kernel) ?_)
        refine va_sld hx hb hX hbl hbA hS (vin (by decide +kernel)) dL_law_224 (tk_i (v := a1) ha1 ?_)
        refine lv_aload_n hx hb dL_law_225 rfl (lv_at hl 3 rfl) ?_
        refine lv_iload_n hx hb dL_law_226 rfl (lv_at hl 0 rfl) ?_
        refine lv_iconst (v := 2) hx hb dL_law_227 (by decide) ?_
        refine lv_iadd hx hb dL_law_228 (tk_i (v := 2) (by decide +kernel) ?_)
        refine va_sld hx hb hX hbl hbA hS (vin (by decide +kernel)) dL_law_229 (tk_i (v := a2) ha2 ?_)
        refine lv_aload_n hx hb dL_law_230 rfl (lv_at hl 3 rfl) ?_
        refine lv_iload_n hx hb dL_law_231 rfl (lv_at hl 0 rfl) ?_
        refine lv_iconst (v := 3) hx hb dL_law_232 (by decide) ?_
        refine lv_iadd hx hb dL_law_233 (tk_i (v := 3) (by decide +kernel) ?_)
        refine va_sld hx hb hX hbl hbA hS (vin (by decide +kernel)) dL_law_234 (tk_i (v := a3) ha3 ?_)
        refine lv_if_eq (tgt := 242) hx hb dL_law_235 (by decide) (fun h9 => absurd h9 (ib_ne (X := a3.toInt) (Y := 0) rfl (by decide +kernel) (by omega))) (fun _ => ?_)
        refine lv_iconst (v := 1) hx hb dL_law_238 (by decide) ?_
        refine lv_goto (tgt := 243) hx hb dL_law_239 (by decide) ?_
        refine kcall_i (D := (dC, dI)) (S := Unit) (v := (-1)) (wc := [(q1, .inr (11, [.ref q2, .ref q4, .ref q6, .ref q18, .ref q23, .ref q28, .ref q33, .ref q36, .ref q37, .ref q40, .ref q44, .ref q48, .int 0])), (q2, .inr (4, [.ref q3, .int 0, .int 0]))]) (wr := [(q49, .inr (12, [.int 0, .ref q50, .int 0, .ref q51, .int 0, .ref q52, .ref q53, .int 0, .ref q54, .int 0, .ref q55, .int (-9), .int 0, .int 0, .ref q56, .ref q57, .ref q58, .ref q59, .ref q60, .int 0, .ref q61, .ref q62, .ref q63, .int 0, .ref q64, .ref q65, .ref q66, .int 0, .ref q67]))]) (w1 := fun _ => []) (fun hPc hDc => va_runV (As := [.int a1, .int a2, .int 1]) (rest := []) ⟨hx, hb, hml, hown, hts⟩ (kX11_join_1 l dC dI cI c2 q1 q2 q4 q6 q18 q23 q28 q33 q36 q37 q40 q44 q48 q3 H.size a1 a2 (by omega) (by omega) (by omega) (by omega)) (cwV 3 hts gL_law_X11_join rfl rfl rfl (by decide +kernel) ⟨Nat.le_of_ble_eq_true rfl, Nat.le_of_ble_eq_true rfl⟩) (pre_V hPc hK hDc hN (ci := 11) (q0 := 0) rfl rfl) rfl rfl hl.1 rfl (lv_room (Nat.le_of_ble_eq_true rfl)) dL_law_243 ⟨Nat.le_of_ble_eq_true rfl, Nat.le_of_ble_eq_true rfl⟩) hP hD hS hA [0, 1] [28] rfl rfl (by decide) (by decide) (by decide) (fun u H locs hP hD hS => ?_)
        have hP : va_P (dC, dI) vwCl [(q49, .inr (12, [.int 0, .ref q50, .int 0, .ref q51, .int 0, .ref q52, .ref q53, .int 0, .ref q54, .int 0, .ref q55, .int (-9), .int 0, .int 0, .ref q56, .ref q57, .ref q58, .ref q59, .ref q60, .int 0, .ref q61, .ref q62, .ref q63, .int 0, .ref q64, .ref q65, .ref q66, .int 0, .ref q67]))] H := hP
        have hD : va_D A [(q49, .inr (12, [.int 0, .ref q50, .int 0, .ref q51, .int 0, .ref q52, .ref q53, .int 0, .ref q54, .int 0, .ref q55, .int (-9), .int 0, .int 0, .ref q56, .ref q57, .ref q58, .ref q59, .ref q60, .int 0, .ref q61, .ref q62, .ref q63, .int 0, .ref q64, .ref q65, .ref q66, .int 0, .ref q67]))] := hD
        refine lv_aload_n hx hb dL_law_246 rfl (lv_at hl 1 rfl) ?_
        refine lv_aload_n hx hb dL_law_247 rfl (lv_at hl 3 rfl) ?_
        refine lv_iload_n hx hb dL_law_248 rfl (lv_at hl 0 rfl) ?_
        refine lv_iconst (v := 1) hx hb dL_law_249 (by decide) ?_
        refine lv_iadd hx hb dL_law_250 (tk_i (v := 1) (by decide +kernel) ?_)
        refine va_sld hx hb hX hbl hbA hS (vin (by decide +kernel)) dL_law_251 (tk_i (v := a1) ha1 ?_)
        refine lv_aload_n hx hb dL_law_252 rfl (lv_at hl 3 rfl) ?_
        refine lv_iload_n hx hb dL_law_253 rfl (lv_at hl 0 rfl) ?_
        refine lv_iconst (v := 2) hx hb dL_law_254 (by decide) ?_
        refine lv_iadd hx hb dL_law_255 (tk_i (v := 2) (by decide +kernel) ?_)
        refine va_sld hx hb hX hbl hbA hS (vin (by decide +kernel)) dL_law_256 (tk_i (v := a2) ha2 ?_)
        refine lv_aload_n hx hb dL_law_257 rfl (lv_at hl 3 rfl) ?_
        refine lv_iload_n hx hb dL_law_258 rfl (lv_at hl 0 rfl) ?_
        refine lv_iconst (v := 3) hx hb dL_law_259 (by decide) ?_
        refine lv_iadd hx hb dL_law_260 (tk_i (v := 3) (by decide +kernel) ?_)
        refine va_sld hx hb hX hbl hbA hS (vin (by decide +kernel)) dL_law_261 (tk_i (v := a3) ha3 ?_)
        refine lv_if_eq (tgt := 269) hx hb dL_law_262 (by decide) (fun h9 => absurd h9 (ib_ne (X := a3.toInt) (Y := 0) rfl (by decide +kernel) (by omega))) (fun _ => ?_)
        refine lv_iconst (v := 1) hx hb dL_law_265 (by decide) ?_
        refine lv_goto (tgt := 270) hx hb dL_law_266 (by decide) ?_
        refine kcall_i (D := (dC, dI)) (S := Unit) (v := (-1)) (wc := [(q49, .inr (12, [.int 0, .ref q50, .int 0, .ref q51, .int 0, .ref q52, .ref q53, .int 0, .ref q54, .int 0, .ref q55, .int (-9), .int 0, .int 0, .ref q56, .ref q57, .ref q58, .ref q59, .ref q60, .int 0, .ref q61, .ref q62, .ref q63, .int 0, .ref q64, .ref q65, .ref q66, .int 0, .ref q67]))]) (wr := []) (w1 := fun _ => []) (fun hPc hDc => va_runV (As := [.int a1, .int a2, .int 1]) (rest := [.int (-1)]) ⟨hx, hb, hml, hown, hts⟩ (kX12_join_1 l dC dI cI c2 q49 q50 q51 q52 q53 q54 q55 q56 q57 q58 q59 q60 q61 q62 q63 q64 q65 q66 q67 H.size a1 a2 (by omega) (by omega) (by omega) (by omega)) (cwV 3 hts gL_law_X12_join rfl rfl rfl (by decide +kernel) ⟨Nat.le_of_ble_eq_true rfl, Nat.le_of_ble_eq_true rfl⟩) (pre_V hPc hK hDc hN (ci := 12) (q0 := 0) rfl rfl) rfl rfl hl.1 rfl (lv_room (Nat.le_of_ble_eq_true rfl)) dL_law_270 ⟨Nat.le_of_ble_eq_true rfl, Nat.le_of_ble_eq_true rfl⟩) hP hD hS hA [0] [] rfl rfl (by decide) (by decide) (by decide) (fun u H locs hP hD hS => ?_)
        have hP : va_P (dC, dI) vwCl [] H := hP
        have hD : va_D A [] := hD
        refine lv_icmp_eq (tgt := 1080) hx hb dL_law_273 (by decide) (fun _ => ?_) (fun h9 => absurd (by decide +kernel) h9)
        refine lv_iinc (v := 4) (lv' := [(3, .int 4), (2, .ref q49), (1, .ref q1), (0, .ref b)]) hx hb dL_law_1080 hl (k := 0) rfl (by decide +kernel) (by decide) rfl (fun ls hl => ?_)
        refine lv_goto (tgt := 18) hx hb dL_law_1083 (by decide) ?_
        refine lv_iload_n hx hb dL_law_18 rfl (lv_at hl 0 rfl) ?_
        refine lv_aload_n hx hb dL_law_19 rfl (lv_at hl 3 rfl) ?_
        refine va_slen hx hb hX hbl hbA hS dL_law_20 (tk_i (v := 4) (by decide +kernel) ?_)
        refine lv_iconst (v := 4) hx hb dL_law_21 (by decide) ?_
        refine lv_isub hx hb dL_law_22 (tk_i (v := 0) (by decide +kernel) ?_)
        refine lv_icmp_gt (tgt := 1086) hx hb dL_law_23 (by decide) (fun _ => ?_) (fun h9 => absurd (by decide +kernel) h9)
        refine lv_iconst (v := 1) hx hb dL_law_1086 (by decide) ?_
        refine va_forget (fun q hq => by have h9 := hS.2.2 q hq; rw [← hAe] at h9; exact h9) ?_
        refine W.widen (k := 600000) (n := 7302250) (by decide) (by decide) ?_
        exact lw_ret hx hb hr hlocks dL_law_1087
      ·
        refine lv_aload_n hx hb dL_law_219 rfl (lv_at hl 2 rfl) ?_
        refine lv_aload_n hx hb dL_law_220 rfl (lv_at hl 3 rfl) ?_
        refine lv_iload_n hx hb dL_law_221 rfl (lv_at hl 0 rfl) ?_
        refine lv_iconst (v := 1) hx hb dL_law_222 (by decide) ?_
        refine lv_iadd hx hb dL_law_223 (tk_i (v := 1) (by decide +kernel) ?_)
        refine va_sld hx hb hX hbl hbA hS (vin (by decide +kernel)) dL_law_224 (tk_i (v := a1) ha1 ?_)
        refine lv_aload_n hx hb dL_law_225 rfl (lv_at hl 3 rfl) ?_
        refine lv_iload_n hx hb dL_law_226 rfl (lv_at hl 0 rfl) ?_
        refine lv_iconst (v := 2) hx hb dL_law_227 (by decide) ?_
        refine lv_iadd hx hb dL_law_228 (tk_i (v := 2) (by decide +kernel) ?_)
        refine va_sld hx hb hX hbl hbA hS (vin (by decide +kernel)) dL_law_229 (tk_i (v := a2) ha2 ?_)
        refine lv_aload_n hx hb dL_law_230 rfl (lv_at hl 3 rfl) ?_
        refine lv_iload_n hx hb dL_law_231 rfl (lv_at hl 0 rfl) ?_
        refine lv_iconst (v := 3) hx hb dL_law_232 (by decide) ?_
        refine lv_iadd hx hb dL_law_233 (tk_i (v := 3) (by decide +kernel) ?_)
        refine va_sld hx hb hX hbl hbA hS (vin (by decide +kernel)) dL_law_234 (tk_i (v := a3) ha3 ?_)
        refine lv_if_eq (tgt := 242) hx hb dL_law_235 (by decide) (fun h9 => absurd h9 (ib_ne (X := a3.toInt) (Y := 0) rfl (by decide +kernel) (by omega))) (fun _ => ?_)
        refine lv_iconst (v := 1) hx hb dL_law_238 (by decide) ?_
        refine lv_goto (tgt := 243) hx hb dL_law_239 (by decide) ?_
        refine kcall_i (D := (dC, dI)) (S := Unit) (v := (-1)) (wc := [(q1, .inr (11, [.ref q2, .ref q4, .ref q6, .ref q18, .ref q23, .ref q28, .ref q33, .ref q36, .ref q37, .ref q40, .ref q44, .ref q48, .int 0])), (q2, .inr (4, [.ref q3, .int 0, .int 0]))]) (wr := [(q49, .inr (12, [.int 0, .ref q50, .int 0, .ref q51, .int 0, .ref q52, .ref q53, .int 0, .ref q54, .int 0, .ref q55, .int (-9), .int 0, .int 0, .ref q56, .ref q57, .ref q58, .ref q59, .ref q60, .int 0, .ref q61, .ref q62, .ref q63, .int 0, .ref q64, .ref q65, .ref q66, .int 0, .ref q67]))]) (w1 := fun _ => []) (fun hPc hDc => va_runV (As := [.int a1, .int a2, .int 1]) (rest := []) ⟨hx, hb, hml, hown, hts⟩ (kX11_join_2 l dC dI cI c2 q1 q2 q4 q6 q18 q23 q28 q33 q36 q37 q40 q44 q48 q3 H.size a1 a2 (by omega) (by omega) (by omega) (by omega)) (cwV 3 hts gL_law_X11_join rfl rfl rfl (by decide +kernel) ⟨Nat.le_of_ble_eq_true rfl, Nat.le_of_ble_eq_true rfl⟩) (pre_V hPc hK hDc hN (ci := 11) (q0 := 0) rfl rfl) rfl rfl hl.1 rfl (lv_room (Nat.le_of_ble_eq_true rfl)) dL_law_243 ⟨Nat.le_of_ble_eq_true rfl, Nat.le_of_ble_eq_true rfl⟩) hP hD hS hA [0, 1] [28] rfl rfl (by decide) (by decide) (by decide) (fun u H locs hP hD hS => ?_)
        have hP : va_P (dC, dI) vwCl [(q49, .inr (12, [.int 0, .ref q50, .int 0, .ref q51, .int 0, .ref q52, .ref q53, .int 0, .ref q54, .int 0, .ref q55, .int (-9), .int 0, .int 0, .ref q56, .ref q57, .ref q58, .ref q59, .ref q60, .int 0, .ref q61, .ref q62, .ref q63, .int 0, .ref q64, .ref q65, .ref q66, .int 0, .ref q67]))] H := hP
        have hD : va_D A [(q49, .inr (12, [.int 0, .ref q50, .int 0, .ref q51, .int 0, .ref q52, .ref q53, .int 0, .ref q54, .int 0, .ref q55, .int (-9), .int 0, .int 0, .ref q56, .ref q57, .ref q58, .ref q59, .ref q60, .int 0, .ref q61, .ref q62, .ref q63, .int 0, .ref q64, .ref q65, .ref q66, .int 0, .ref q67]))] := hD
        refine lv_aload_n hx hb dL_law_246 rfl (lv_at hl 1 rfl) ?_
        refine lv_aload_n hx hb dL_law_247 rfl (lv_at hl 3 rfl) ?_
        refine lv_iload_n hx hb dL_law_248 rfl (lv_at hl 0 rfl) ?_
        refine lv_iconst (v := 1) hx hb dL_law_249 (by decide) ?_
        refine lv_iadd hx hb dL_law_250 (tk_i (v := 1) (by decide +kernel) ?_)
        refine va_sld hx hb hX hbl hbA hS (vin (by decide +kernel)) dL_law_251 (tk_i (v := a1) ha1 ?_)
        refine lv_aload_n hx hb dL_law_252 rfl (lv_at hl 3 rfl) ?_
        refine lv_iload_n hx hb dL_law_253 rfl (lv_at hl 0 rfl) ?_
        refine lv_iconst (v := 2) hx hb dL_law_254 (by decide) ?_
        refine lv_iadd hx hb dL_law_255 (tk_i (v := 2) (by decide +kernel) ?_)
        refine va_sld hx hb hX hbl hbA hS (vin (by decide +kernel)) dL_law_256 (tk_i (v := a2) ha2 ?_)
        refine lv_aload_n hx hb dL_law_257 rfl (lv_at hl 3 rfl) ?_
        refine lv_iload_n hx hb dL_law_258 rfl (lv_at hl 0 rfl) ?_
        refine lv_iconst (v := 3) hx hb dL_law_259 (by decide) ?_
        refine lv_iadd hx hb dL_law_260 (tk_i (v := 3) (by decide +kernel) ?_)
        refine va_sld hx hb hX hbl hbA hS (vin (by decide +kernel)) dL_law_261 (tk_i (v := a3) ha3 ?_)
        refine lv_if_eq (tgt := 269) hx hb dL_law_262 (by decide) (fun h9 => absurd h9 (ib_ne (X := a3.toInt) (Y := 0) rfl (by decide +kernel) (by omega))) (fun _ => ?_)
        refine lv_iconst (v := 1) hx hb dL_law_265 (by decide) ?_
        refine lv_goto (tgt := 270) hx hb dL_law_266 (by decide) ?_
        refine kcall_i (D := (dC, dI)) (S := Unit) (v := (-1)) (wc := [(q49, .inr (12, [.int 0, .ref q50, .int 0, .ref q51, .int 0, .ref q52, .ref q53, .int 0, .ref q54, .int 0, .ref q55, .int (-9), .int 0, .int 0, .ref q56, .ref q57, .ref q58, .ref q59, .ref q60, .int 0, .ref q61, .ref q62, .ref q63, .int 0, .ref q64, .ref q65, .ref q66, .int 0, .ref q67]))]) (wr := []) (w1 := fun _ => []) (fun hPc hDc => va_runV (As := [.int a1, .int a2, .int 1]) (rest := [.int (-1)]) ⟨hx, hb, hml, hown, hts⟩ (kX12_join_2 l dC dI cI c2 q49 q50 q51 q52 q53 q54 q55 q56 q57 q58 q59 q60 q61 q62 q63 q64 q65 q66 q67 H.size a1 a2 (by omega) (by omega) (by omega) (by omega)) (cwV 3 hts gL_law_X12_join rfl rfl rfl (by decide +kernel) ⟨Nat.le_of_ble_eq_true rfl, Nat.le_of_ble_eq_true rfl⟩) (pre_V hPc hK hDc hN (ci := 12) (q0 := 0) rfl rfl) rfl rfl hl.1 rfl (lv_room (Nat.le_of_ble_eq_true rfl)) dL_law_270 ⟨Nat.le_of_ble_eq_true rfl, Nat.le_of_ble_eq_true rfl⟩) hP hD hS hA [0] [] rfl rfl (by decide) (by decide) (by decide) (fun u H locs hP hD hS => ?_)
        have hP : va_P (dC, dI) vwCl [] H := hP
        have hD : va_D A [] := hD
        refine lv_icmp_eq (tgt := 1080) hx hb dL_law_273 (by decide) (fun _ => ?_) (fun h9 => absurd (by decide +kernel) h9)
        refine lv_iinc (v := 4) (lv' := [(3, .int 4), (2, .ref q49), (1, .ref q1), (0, .ref b)]) hx hb dL_law_1080 hl (k := 0) rfl (by decide +kernel) (by decide) rfl (fun ls hl => ?_)
        refine lv_goto (tgt := 18) hx hb dL_law_1083 (by decide) ?_
        refine lv_iload_n hx hb dL_law_18 rfl (lv_at hl 0 rfl) ?_
        refine lv_aload_n hx hb dL_law_19 rfl (lv_at hl 3 rfl) ?_
        refine va_slen hx hb hX hbl hbA hS dL_law_20 (tk_i (v := 4) (by decide +kernel) ?_)
        refine lv_iconst (v := 4) hx hb dL_law_21 (by decide) ?_
        refine lv_isub hx hb dL_law_22 (tk_i (v := 0) (by decide +kernel) ?_)
        refine lv_icmp_gt (tgt := 1086) hx hb dL_law_23 (by decide) (fun _ => ?_) (fun h9 => absurd (by decide +kernel) h9)
        refine lv_iconst (v := 1) hx hb dL_law_1086 (by decide) ?_
        refine va_forget (fun q hq => by have h9 := hS.2.2 q hq; rw [← hAe] at h9; exact h9) ?_
        refine W.widen (k := 600000) (n := 7302250) (by decide) (by decide) ?_
        exact lw_ret hx hb hr hlocks dL_law_1087
set_option maxHeartbeats 8000000 in
set_option maxRecDepth 100000 in
theorem lc_2 {p : Program} {e : Env} {s : State} {m : MethodId} {below : List Frame} {meth : Method} {c : Code} (l : Launch) {b : Nat} {xs : Nat → Int32} (C0 : lw_At p s m meth c b 4 xs) (dC : Nat → ClassId) (dI : Nat → Nat → Nat) (cI c2 : ClassId) (q1 : Nat) (q2 : Nat) (q3 : Nat) (q4 : Nat) (q5 : Nat) (q6 : Nat) (q7 : Nat) (q8 : Nat) (r9 : Nat → Nat) (q10 : Nat) (q11 : Nat) (q12 : Nat) (r13 : Nat → Nat) (q14 : Nat) (q15 : Nat) (q16 : Nat) (q17 : Nat) (q18 : Nat) (q19 : Nat) (q20 : Nat) (r21 : Nat → Nat) (q22 : Nat) (q23 : Nat) (q24 : Nat) (q25 : Nat) (q26 : Nat) (q27 : Nat) (q28 : Nat) (q29 : Nat) (q30 : Nat) (q31 : Nat) (q32 : Nat) (q33 : Nat) (q34 : Nat) (q35 : Nat) (q36 : Nat) (q37 : Nat) (q38 : Nat) (q39 : Nat) (q40 : Nat) (q41 : Nat) (q42 : Nat) (q43 : Nat) (q44 : Nat) (q45 : Nat) (q46 : Nat) (q47 : Nat) (q48 : Nat) (q49 : Nat) (q50 : Nat) (q51 : Nat) (q52 : Nat) (q53 : Nat) (q54 : Nat) (q55 : Nat) (q56 : Nat) (q57 : Nat) (q58 : Nat) (q59 : Nat) (q60 : Nat) (q61 : Nat) (q62 : Nat) (q63 : Nat) (q64 : Nat) (q65 : Nat) (q66 : Nat) (q67 : Nat) (a1 a2 a3 : Int32) (ha1 : xs (Int32.toNatClampNeg 1) = a1) (ha2 : xs (Int32.toNatClampNeg 2) = a2) (ha3 : xs (Int32.toNatClampNeg 3) = a3) (hK : va_K (dC, dI) vwCl [(cI, .int), (c2, .array .int)] s) (hN : nsAll s) (H : Heap) (locs : List Loc) (hP : va_P (dC, dI) vwCl [(q1, .inr (11, [.ref q2, .ref q4, .ref q6, .ref q18, .ref q23, .ref q28, .ref q33, .ref q36, .ref q37, .ref q40, .ref q44, .ref q48, .int 0])), (q2, .inr (4, [.ref q3, .int 0, .int 0])), (q3, .inl (cI, 12, .inl (fun _ => 0))), (q4, .inr (10, [.ref q5, .int 0, .int 0])), (q5, .inl (cI, 12, .inl (fun _ => (-1)))), (q6, .inr (6, [.ref q7, .ref q10, .ref q16, .ref q17, .int 0, .int 0, .int 0, .int 0, .int 0])), (q7, .inr (3, [.ref q8, .int 0])), (q8, .inl (c2, 13, .inr (.inr (.inr (.inr (fun i => if i < 13 then some (r9 i) else none)))))), (r9 0, .inl (cI, 12, .inl (fun _ => 0))), (q10, .inr (5, [.ref q11, .ref q14, .ref q15, .int 0, .int 0, .int 0])), (q11, .inr (3, [.ref q12, .int 0])), (q12, .inl (c2, 13, .inr (.inr (.inr (.inr (fun i => if i < 13 then some (r13 i) else none)))))), (r13 0, .inl (cI, 12, .inl (fun _ => 0))), (q14, .inl (cI, 4096, .inl (fun _ => 0))), (q18, .inr (9, [.ref q19, .ref q22, .int 0, .int (-1)])), (q19, .inr (3, [.ref q20, .int 0])), (q20, .inl (c2, 13, .inr (.inr (.inr (.inr (fun i => if i < 13 then some (r21 i) else none)))))), (r21 0, .inl (cI, 12, .inl (fun _ => 0))), (q23, .inr (1, [.int 0, .ref q24, .ref q25, .ref q26, .ref q27, .int 0, .int (-1), .int (-1)])), (q28, .inr (1, [.int 1, .ref q29, .ref q30, .ref q31, .ref q32, .int 0, .int (-1), .int (-1)])), (q33, .inr (7, [.ref q34, .ref q35, .int 0, .int (-1)])), (q35, .inl (cI, 12, .inl (fun _ => 0))), (q37, .inr (2, [.ref q38, .ref q39, .int 0, .int (-1)])), (q40, .inr (0, [.ref q42, .ref q41, .ref q43, .int 0, .int 0, .int 0, .int 0, .int (-1)])), (q42, .inl (cI, 4096, .inl (fun _ => 0))), (q44, .inr (0, [.ref q46, .ref q45, .ref q47, .int 0, .int 0, .int 0, .int 0, .int (-1)])), (q46, .inl (cI, 256, .inl (fun _ => 0))), (q48, .inl (cI, 5, .inl (fun _ => 0))), (q49, .inr (12, [.int 0, .ref q50, .int 0, .ref q51, .int 0, .ref q52, .ref q53, .int 0, .ref q54, .int 0, .ref q55, .int (-9), .int 0, .int 0, .ref q56, .ref q57, .ref q58, .ref q59, .ref q60, .int 0, .ref q61, .ref q62, .ref q63, .int 0, .ref q64, .ref q65, .ref q66, .int 0, .ref q67])), (q50, .inl (cI, 5, .inl (fun _ => 0))), (q51, .inl (cI, 12, .inl (fun _ => 0))), (q52, .inl (cI, 12, .inl (fun _ => (-9)))), (q56, .inl (cI, 12, .inl (fun _ => 0))), (q57, .inl (cI, 12, .inl (fun _ => 0))), (q58, .inl (cI, 49152, .inl (fun _ => 0))), (q59, .inl (cI, 4096, .inl (fun _ => 0))), (q67, .inl (cI, 12, .inl (fun _ => 0)))] H) (hD : va_D (fun q : Nat => s.heap.size ≤ q) [(q1, .inr (11, [.ref q2, .ref q4, .ref q6, .ref q18, .ref q23, .ref q28, .ref q33, .ref q36, .ref q37, .ref q40, .ref q44, .ref q48, .int 0])), (q2, .inr (4, [.ref q3, .int 0, .int 0])), (q3, .inl (cI, 12, .inl (fun _ => 0))), (q4, .inr (10, [.ref q5, .int 0, .int 0])), (q5, .inl (cI, 12, .inl (fun _ => (-1)))), (q6, .inr (6, [.ref q7, .ref q10, .ref q16, .ref q17, .int 0, .int 0, .int 0, .int 0, .int 0])), (q7, .inr (3, [.ref q8, .int 0])), (q8, .inl (c2, 13, .inr (.inr (.inr (.inr (fun i => if i < 13 then some (r9 i) else none)))))), (r9 0, .inl (cI, 12, .inl (fun _ => 0))), (q10, .inr (5, [.ref q11, .ref q14, .ref q15, .int 0, .int 0, .int 0])), (q11, .inr (3, [.ref q12, .int 0])), (q12, .inl (c2, 13, .inr (.inr (.inr (.inr (fun i => if i < 13 then some (r13 i) else none)))))), (r13 0, .inl (cI, 12, .inl (fun _ => 0))), (q14, .inl (cI, 4096, .inl (fun _ => 0))), (q18, .inr (9, [.ref q19, .ref q22, .int 0, .int (-1)])), (q19, .inr (3, [.ref q20, .int 0])), (q20, .inl (c2, 13, .inr (.inr (.inr (.inr (fun i => if i < 13 then some (r21 i) else none)))))), (r21 0, .inl (cI, 12, .inl (fun _ => 0))), (q23, .inr (1, [.int 0, .ref q24, .ref q25, .ref q26, .ref q27, .int 0, .int (-1), .int (-1)])), (q28, .inr (1, [.int 1, .ref q29, .ref q30, .ref q31, .ref q32, .int 0, .int (-1), .int (-1)])), (q33, .inr (7, [.ref q34, .ref q35, .int 0, .int (-1)])), (q35, .inl (cI, 12, .inl (fun _ => 0))), (q37, .inr (2, [.ref q38, .ref q39, .int 0, .int (-1)])), (q40, .inr (0, [.ref q42, .ref q41, .ref q43, .int 0, .int 0, .int 0, .int 0, .int (-1)])), (q42, .inl (cI, 4096, .inl (fun _ => 0))), (q44, .inr (0, [.ref q46, .ref q45, .ref q47, .int 0, .int 0, .int 0, .int 0, .int (-1)])), (q46, .inl (cI, 256, .inl (fun _ => 0))), (q48, .inl (cI, 5, .inl (fun _ => 0))), (q49, .inr (12, [.int 0, .ref q50, .int 0, .ref q51, .int 0, .ref q52, .ref q53, .int 0, .ref q54, .int 0, .ref q55, .int (-9), .int 0, .int 0, .ref q56, .ref q57, .ref q58, .ref q59, .ref q60, .int 0, .ref q61, .ref q62, .ref q63, .int 0, .ref q64, .ref q65, .ref q66, .int 0, .ref q67])), (q50, .inl (cI, 5, .inl (fun _ => 0))), (q51, .inl (cI, 12, .inl (fun _ => 0))), (q52, .inl (cI, 12, .inl (fun _ => (-9)))), (q56, .inl (cI, 12, .inl (fun _ => 0))), (q57, .inl (cI, 12, .inl (fun _ => 0))), (q58, .inl (cI, 49152, .inl (fun _ => 0))), (q59, .inl (cI, 4096, .inl (fun _ => 0))), (q67, .inl (cI, 12, .inl (fun _ => 0)))]) (hS : va_S (fun q : Nat => s.heap.size ≤ q) s.heap H locs) (ls : Array Slot) (hl : lv_has ls 4 [(3, .int 0), (2, .ref q49), (1, .ref q1), (0, .ref b)]) : W p l e room_1 s m #[Value.ref b] below meth c H locs 128 161896 (lw_Z below #[Value.ref b] s) (F0 m 278 ls []) := by
  obtain ⟨hx, hb, hr, hml, hown0, hts0, hX, hbl, hlocks, hgv⟩ := id C0
  have hown : s.vm.findClass RL = some m.cls := hown0
  have hts : ∀ w ∈ wsL_law, w.before #[Value.ref b] s = true := fun w h => hts0 w (wsL_law_in w h)
  have hA : ∀ q : Nat, s.heap.size ≤ q → (fun q : Nat => s.heap.size ≤ q) q := fun _ h => h
  have hbA : ¬ (fun q : Nat => s.heap.size ≤ q) b := Nat.not_le.mpr hbl
  generalize hAe : (fun q : Nat => s.heap.size ≤ q) = A at hD hS hA hbA
  have a1_rg := i_rng a1
  have a2_rg := i_rng a2
  have a3_rg := i_rng a3
  obtain ⟨a1_l, a1_h⟩ := a1_rg
  obtain ⟨a2_l, a2_h⟩ := a2_rg
  obtain ⟨a3_l, a3_h⟩ := a3_rg
  rcases (show a1.toInt ≤ (-1) ∨ 0 ≤ a1.toInt by omega) with g_a1_0 | g_a1_0
  ·
    refine lv_aload_n hx hb dL_law_278 rfl (lv_at hl 2 rfl) ?_
    refine lv_aload_n hx hb dL_law_279 rfl (lv_at hl 3 rfl) ?_
    refine lv_iload_n hx hb dL_law_280 rfl (lv_at hl 0 rfl) ?_
    refine lv_iconst (v := 1) hx hb dL_law_281 (by decide) ?_
    refine lv_iadd hx hb dL_law_282 (tk_i (v := 1) (by decide +kernel) ?_)
    refine va_sld hx hb hX hbl hbA hS (vin (by decide +kernel)) dL_law_283 (tk_i (v := a1) ha1 ?_)
    refine kcall_i (D := (dC, dI)) (S := Unit) (v := (-1)) (wc := [(q1, .inr (11, [.ref q2, .ref q4, .ref q6, .ref q18, .ref q23, .ref q28, .ref q33, .ref q36, .ref q37, .ref q40, .ref q44, .ref q48, .int 0])), (q2, .inr (4, [.ref q3, .int 0, .int 0]))]) (wr := [(q49, .inr (12, [.int 0, .ref q50, .int 0, .ref q51, .int 0, .ref q52, .ref q53, .int 0, .ref q54, .int 0, .ref q55, .int (-9), .int 0, .int 0, .ref q56, .ref q57, .ref q58, .ref q59, .ref q60, .int 0, .ref q61, .ref q62, .ref q63, .int 0, .ref q64, .ref q65, .ref q66, .int 0, .ref q67]))]) (w1 := fun _ => []) (fun hPc hDc => va_runV (As := [.int a1]) (rest := []) ⟨hx, hb, hml, hown, hts⟩ (kX11_joined_1 l dC dI cI c2 q1 q2 q4 q6 q18 q23 q28 q33 q36 q37 q40 q44 q48 q3 H.size a1 (by omega) (by omega)) (cwV 1 hts gL_law_X11_joined rfl rfl rfl (by decide +kernel) ⟨Nat.le_of_ble_eq_true rfl, Nat.le_of_ble_eq_true rfl⟩) (pre_V hPc hK hDc hN (ci := 11) (q0 := 0) rfl rfl) rfl rfl hl.1 rfl (lv_room (Nat.le_of_ble_eq_true rfl)) dL_law_284 ⟨Nat.le_of_ble_eq_true rfl, Nat.le_of_ble_eq_true rfl⟩) hP hD hS hA [0, 1] [28] rfl rfl (by decide) (by decide) (by decide) (fun u H locs hP hD hS => ?_)
    have hP : va_P (dC, dI) vwCl [(q49, .inr (12, [.int 0, .ref q50, .int 0, .ref q51, .int 0, .ref q52, .ref q53, .int 0, .ref q54, .int 0, .ref q55, .int (-9), .int 0, .int 0, .ref q56, .ref q57, .ref q58, .ref q59, .ref q60, .int 0, .ref q61, .ref q62, .ref q63, .int 0, .ref q64, .ref q65, .ref q66, .int 0, .ref q67]))] H := hP
    have hD : va_D A [(q49, .inr (12, [.int 0, .ref q50, .int 0, .ref q51, .int 0, .ref q52, .ref q53, .int 0, .ref q54, .int 0, .ref q55, .int (-9), .int 0, .int 0, .ref q56, .ref q57, .ref q58, .ref q59, .ref q60, .int 0, .ref q61, .ref q62, .ref q63, .int 0, .ref q64, .ref q65, .ref q66, .int 0, .ref q67]))] := hD
    refine lv_aload_n hx hb dL_law_287 rfl (lv_at hl 1 rfl) ?_
    refine lv_aload_n hx hb dL_law_288 rfl (lv_at hl 3 rfl) ?_
    refine lv_iload_n hx hb dL_law_289 rfl (lv_at hl 0 rfl) ?_
    refine lv_iconst (v := 1) hx hb dL_law_290 (by decide) ?_
    refine lv_iadd hx hb dL_law_291 (tk_i (v := 1) (by decide +kernel) ?_)
    refine va_sld hx hb hX hbl hbA hS (vin (by decide +kernel)) dL_law_292 (tk_i (v := a1) ha1 ?_)
    refine kcall_i (D := (dC, dI)) (S := Unit) (v := (-1)) (wc := [(q49, .inr (12, [.int 0, .ref q50, .int 0, .ref q51, .int 0, .ref q52, .ref q53, .int 0, .ref q54, .int 0, .ref q55, .int (-9), .int 0, .int 0, .ref q56, .ref q57, .ref q58, .ref q59, .ref q60, .int 0, .ref q61, .ref q62, .ref q63, .int 0, .ref q64, .ref q65, .ref q66, .int 0, .ref q67]))]) (wr := []) (w1 := fun _ => []) (fun hPc hDc => va_runV (As := [.int a1]) (rest := [.int (-1)]) ⟨hx, hb, hml, hown, hts⟩ (kX12_joined_1 l dC dI cI c2 q49 q50 q51 q52 q53 q54 q55 q56 q57 q58 q59 q60 q61 q62 q63 q64 q65 q66 q67 H.size a1 (by omega) (by omega)) (cwV 1 hts gL_law_X12_joined rfl rfl rfl (by decide +kernel) ⟨Nat.le_of_ble_eq_true rfl, Nat.le_of_ble_eq_true rfl⟩) (pre_V hPc hK hDc hN (ci := 12) (q0 := 0) rfl rfl) rfl rfl hl.1 rfl (lv_room (Nat.le_of_ble_eq_true rfl)) dL_law_293 ⟨Nat.le_of_ble_eq_true rfl, Nat.le_of_ble_eq_true rfl⟩) hP hD hS hA [0] [] rfl rfl (by decide) (by decide) (by decide) (fun u H locs hP hD hS => ?_)
    have hP : va_P (dC, dI) vwCl [] H := hP
    have hD : va_D A [] := hD
    refine lv_icmp_eq (tgt := 1080) hx hb dL_law_296 (by decide) (fun _ => ?_) (fun h9 => absurd (by decide +kernel) h9)
    refine lv_iinc (v := 4) (lv' := [(3, .int 4), (2, .ref q49), (1, .ref q1), (0, .ref b)]) hx hb dL_law_1080 hl (k := 0) rfl (by decide +kernel) (by decide) rfl (fun ls hl => ?_)
    refine lv_goto (tgt := 18) hx hb dL_law_1083 (by decide) ?_
    refine lv_iload_n hx hb dL_law_18 rfl (lv_at hl 0 rfl) ?_
    refine lv_aload_n hx hb dL_law_19 rfl (lv_at hl 3 rfl) ?_
    refine va_slen hx hb hX hbl hbA hS dL_law_20 (tk_i (v := 4) (by decide +kernel) ?_)
    refine lv_iconst (v := 4) hx hb dL_law_21 (by decide) ?_
    refine lv_isub hx hb dL_law_22 (tk_i (v := 0) (by decide +kernel) ?_)
    refine lv_icmp_gt (tgt := 1086) hx hb dL_law_23 (by decide) (fun _ => ?_) (fun h9 => absurd (by decide +kernel) h9)
    refine lv_iconst (v := 1) hx hb dL_law_1086 (by decide) ?_
    refine va_forget (fun q hq => by have h9 := hS.2.2 q hq; rw [← hAe] at h9; exact h9) ?_
    refine W.widen (k := 600000) (n := 7302250) (by decide) (by decide) ?_
    exact lw_ret hx hb hr hlocks dL_law_1087
  ·
    refine lv_aload_n hx hb dL_law_278 rfl (lv_at hl 2 rfl) ?_
    refine lv_aload_n hx hb dL_law_279 rfl (lv_at hl 3 rfl) ?_
    refine lv_iload_n hx hb dL_law_280 rfl (lv_at hl 0 rfl) ?_
    refine lv_iconst (v := 1) hx hb dL_law_281 (by decide) ?_
    refine lv_iadd hx hb dL_law_282 (tk_i (v := 1) (by decide +kernel) ?_)
    refine va_sld hx hb hX hbl hbA hS (vin (by decide +kernel)) dL_law_283 (tk_i (v := a1) ha1 ?_)
    refine kcall_i (D := (dC, dI)) (S := Unit) (v := (-1)) (wc := [(q1, .inr (11, [.ref q2, .ref q4, .ref q6, .ref q18, .ref q23, .ref q28, .ref q33, .ref q36, .ref q37, .ref q40, .ref q44, .ref q48, .int 0])), (q2, .inr (4, [.ref q3, .int 0, .int 0]))]) (wr := [(q49, .inr (12, [.int 0, .ref q50, .int 0, .ref q51, .int 0, .ref q52, .ref q53, .int 0, .ref q54, .int 0, .ref q55, .int (-9), .int 0, .int 0, .ref q56, .ref q57, .ref q58, .ref q59, .ref q60, .int 0, .ref q61, .ref q62, .ref q63, .int 0, .ref q64, .ref q65, .ref q66, .int 0, .ref q67]))]) (w1 := fun _ => []) (fun hPc hDc => va_runV (As := [.int a1]) (rest := []) ⟨hx, hb, hml, hown, hts⟩ (kX11_joined_2 l dC dI cI c2 q1 q2 q4 q6 q18 q23 q28 q33 q36 q37 q40 q44 q48 q3 H.size a1 (by omega) (by omega)) (cwV 1 hts gL_law_X11_joined rfl rfl rfl (by decide +kernel) ⟨Nat.le_of_ble_eq_true rfl, Nat.le_of_ble_eq_true rfl⟩) (pre_V hPc hK hDc hN (ci := 11) (q0 := 0) rfl rfl) rfl rfl hl.1 rfl (lv_room (Nat.le_of_ble_eq_true rfl)) dL_law_284 ⟨Nat.le_of_ble_eq_true rfl, Nat.le_of_ble_eq_true rfl⟩) hP hD hS hA [0, 1] [28] rfl rfl (by decide) (by decide) (by decide) (fun u H locs hP hD hS => ?_)
    have hP : va_P (dC, dI) vwCl [(q49, .inr (12, [.int 0, .ref q50, .int 0, .ref q51, .int 0, .ref q52, .ref q53, .int 0, .ref q54, .int 0, .ref q55, .int (-9), .int 0, .int 0, .ref q56, .ref q57, .ref q58, .ref q59, .ref q60, .int 0, .ref q61, .ref q62, .ref q63, .int 0, .ref q64, .ref q65, .ref q66, .int 0, .ref q67]))] H := hP
    have hD : va_D A [(q49, .inr (12, [.int 0, .ref q50, .int 0, .ref q51, .int 0, .ref q52, .ref q53, .int 0, .ref q54, .int 0, .ref q55, .int (-9), .int 0, .int 0, .ref q56, .ref q57, .ref q58, .ref q59, .ref q60, .int 0, .ref q61, .ref q62, .ref q63, .int 0, .ref q64, .ref q65, .ref q66, .int 0, .ref q67]))] := hD
    refine lv_aload_n hx hb dL_law_287 rfl (lv_at hl 1 rfl) ?_
    refine lv_aload_n hx hb dL_law_288 rfl (lv_at hl 3 rfl) ?_
    refine lv_iload_n hx hb dL_law_289 rfl (lv_at hl 0 rfl) ?_
    refine lv_iconst (v := 1) hx hb dL_law_290 (by decide) ?_
    refine lv_iadd hx hb dL_law_291 (tk_i (v := 1) (by decide +kernel) ?_)
    refine va_sld hx hb hX hbl hbA hS (vin (by decide +kernel)) dL_law_292 (tk_i (v := a1) ha1 ?_)
    refine kcall_i (D := (dC, dI)) (S := Unit) (v := (-1)) (wc := [(q49, .inr (12, [.int 0, .ref q50, .int 0, .ref q51, .int 0, .ref q52, .ref q53, .int 0, .ref q54, .int 0, .ref q55, .int (-9), .int 0, .int 0, .ref q56, .ref q57, .ref q58, .ref q59, .ref q60, .int 0, .ref q61, .ref q62, .ref q63, .int 0, .ref q64, .ref q65, .ref q66, .int 0, .ref q67]))]) (wr := []) (w1 := fun _ => []) (fun hPc hDc => va_runV (As := [.int a1]) (rest := [.int (-1)]) ⟨hx, hb, hml, hown, hts⟩ (kX12_joined_2 l dC dI cI c2 q49 q50 q51 q52 q53 q54 q55 q56 q57 q58 q59 q60 q61 q62 q63 q64 q65 q66 q67 H.size a1 (by omega) (by omega)) (cwV 1 hts gL_law_X12_joined rfl rfl rfl (by decide +kernel) ⟨Nat.le_of_ble_eq_true rfl, Nat.le_of_ble_eq_true rfl⟩) (pre_V hPc hK hDc hN (ci := 12) (q0 := 0) rfl rfl) rfl rfl hl.1 rfl (lv_room (Nat.le_of_ble_eq_true rfl)) dL_law_293 ⟨Nat.le_of_ble_eq_true rfl, Nat.le_of_ble_eq_true rfl⟩) hP hD hS hA [0] [] rfl rfl (by decide) (by decide) (by decide) (fun u H locs hP hD hS => ?_)
    have hP : va_P (dC, dI) vwCl [] H := hP
    have hD : va_D A [] := hD
    refine lv_icmp_eq (tgt := 1080) hx hb dL_law_296 (by decide) (fun _ => ?_) (fun h9 => absurd (by decide +kernel) h9)
    refine lv_iinc (v := 4) (lv' := [(3, .int 4), (2, .ref q49), (1, .ref q1), (0, .ref b)]) hx hb dL_law_1080 hl (k := 0) rfl (by decide +kernel) (by decide) rfl (fun ls hl => ?_)
    refine lv_goto (tgt := 18) hx hb dL_law_1083 (by decide) ?_
    refine lv_iload_n hx hb dL_law_18 rfl (lv_at hl 0 rfl) ?_
    refine lv_aload_n hx hb dL_law_19 rfl (lv_at hl 3 rfl) ?_
    refine va_slen hx hb hX hbl hbA hS dL_law_20 (tk_i (v := 4) (by decide +kernel) ?_)
    refine lv_iconst (v := 4) hx hb dL_law_21 (by decide) ?_
    refine lv_isub hx hb dL_law_22 (tk_i (v := 0) (by decide +kernel) ?_)
    refine lv_icmp_gt (tgt := 1086) hx hb dL_law_23 (by decide) (fun _ => ?_) (fun h9 => absurd (by decide +kernel) h9)
    refine lv_iconst (v := 1) hx hb dL_law_1086 (by decide) ?_
    refine va_forget (fun q hq => by have h9 := hS.2.2 q hq; rw [← hAe] at h9; exact h9) ?_
    refine W.widen (k := 600000) (n := 7302250) (by decide) (by decide) ?_
    exact lw_ret hx hb hr hlocks dL_law_1087
set_option maxHeartbeats 8000000 in
set_option maxRecDepth 100000 in
theorem lc_3 {p : Program} {e : Env} {s : State} {m : MethodId} {below : List Frame} {meth : Method} {c : Code} (l : Launch) {b : Nat} {xs : Nat → Int32} (C0 : lw_At p s m meth c b 4 xs) (dC : Nat → ClassId) (dI : Nat → Nat → Nat) (cI c2 : ClassId) (q1 : Nat) (q2 : Nat) (q3 : Nat) (q4 : Nat) (q5 : Nat) (q6 : Nat) (q7 : Nat) (q8 : Nat) (r9 : Nat → Nat) (q10 : Nat) (q11 : Nat) (q12 : Nat) (r13 : Nat → Nat) (q14 : Nat) (q15 : Nat) (q16 : Nat) (q17 : Nat) (q18 : Nat) (q19 : Nat) (q20 : Nat) (r21 : Nat → Nat) (q22 : Nat) (q23 : Nat) (q24 : Nat) (q25 : Nat) (q26 : Nat) (q27 : Nat) (q28 : Nat) (q29 : Nat) (q30 : Nat) (q31 : Nat) (q32 : Nat) (q33 : Nat) (q34 : Nat) (q35 : Nat) (q36 : Nat) (q37 : Nat) (q38 : Nat) (q39 : Nat) (q40 : Nat) (q41 : Nat) (q42 : Nat) (q43 : Nat) (q44 : Nat) (q45 : Nat) (q46 : Nat) (q47 : Nat) (q48 : Nat) (q49 : Nat) (q50 : Nat) (q51 : Nat) (q52 : Nat) (q53 : Nat) (q54 : Nat) (q55 : Nat) (q56 : Nat) (q57 : Nat) (q58 : Nat) (q59 : Nat) (q60 : Nat) (q61 : Nat) (q62 : Nat) (q63 : Nat) (q64 : Nat) (q65 : Nat) (q66 : Nat) (q67 : Nat) (a1 a2 a3 : Int32) (ha1 : xs (Int32.toNatClampNeg 1) = a1) (ha2 : xs (Int32.toNatClampNeg 2) = a2) (ha3 : xs (Int32.toNatClampNeg 3) = a3) (hK : va_K (dC, dI) vwCl [(cI, .int), (c2, .array .int)] s) (hN : nsAll s) (H : Heap) (locs : List Loc) (hP : va_P (dC, dI) vwCl [(q1, .inr (11, [.ref q2, .ref q4, .ref q6, .ref q18, .ref q23, .ref q28, .ref q33, .ref q36, .ref q37, .ref q40, .ref q44, .ref q48, .int 0])), (q2, .inr (4, [.ref q3, .int 0, .int 0])), (q3, .inl (cI, 12, .inl (fun _ => 0))), (q4, .inr (10, [.ref q5, .int 0, .int 0])), (q5, .inl (cI, 12, .inl (fun _ => (-1)))), (q6, .inr (6, [.ref q7, .ref q10, .ref q16, .ref q17, .int 0, .int 0, .int 0, .int 0, .int 0])), (q7, .inr (3, [.ref q8, .int 0])), (q8, .inl (c2, 13, .inr (.inr (.inr (.inr (fun i => if i < 13 then some (r9 i) else none)))))), (r9 0, .inl (cI, 12, .inl (fun _ => 0))), (q10, .inr (5, [.ref q11, .ref q14, .ref q15, .int 0, .int 0, .int 0])), (q11, .inr (3, [.ref q12, .int 0])), (q12, .inl (c2, 13, .inr (.inr (.inr (.inr (fun i => if i < 13 then some (r13 i) else none)))))), (r13 0, .inl (cI, 12, .inl (fun _ => 0))), (q14, .inl (cI, 4096, .inl (fun _ => 0))), (q18, .inr (9, [.ref q19, .ref q22, .int 0, .int (-1)])), (q19, .inr (3, [.ref q20, .int 0])), (q20, .inl (c2, 13, .inr (.inr (.inr (.inr (fun i => if i < 13 then some (r21 i) else none)))))), (r21 0, .inl (cI, 12, .inl (fun _ => 0))), (q23, .inr (1, [.int 0, .ref q24, .ref q25, .ref q26, .ref q27, .int 0, .int (-1), .int (-1)])), (q28, .inr (1, [.int 1, .ref q29, .ref q30, .ref q31, .ref q32, .int 0, .int (-1), .int (-1)])), (q33, .inr (7, [.ref q34, .ref q35, .int 0, .int (-1)])), (q35, .inl (cI, 12, .inl (fun _ => 0))), (q37, .inr (2, [.ref q38, .ref q39, .int 0, .int (-1)])), (q40, .inr (0, [.ref q42, .ref q41, .ref q43, .int 0, .int 0, .int 0, .int 0, .int (-1)])), (q42, .inl (cI, 4096, .inl (fun _ => 0))), (q44, .inr (0, [.ref q46, .ref q45, .ref q47, .int 0, .int 0, .int 0, .int 0, .int (-1)])), (q46, .inl (cI, 256, .inl (fun _ => 0))), (q48, .inl (cI, 5, .inl (fun _ => 0))), (q49, .inr (12, [.int 0, .ref q50, .int 0, .ref q51, .int 0, .ref q52, .ref q53, .int 0, .ref q54, .int 0, .ref q55, .int (-9), .int 0, .int 0, .ref q56, .ref q57, .ref q58, .ref q59, .ref q60, .int 0, .ref q61, .ref q62, .ref q63, .int 0, .ref q64, .ref q65, .ref q66, .int 0, .ref q67])), (q50, .inl (cI, 5, .inl (fun _ => 0))), (q51, .inl (cI, 12, .inl (fun _ => 0))), (q52, .inl (cI, 12, .inl (fun _ => (-9)))), (q56, .inl (cI, 12, .inl (fun _ => 0))), (q57, .inl (cI, 12, .inl (fun _ => 0))), (q58, .inl (cI, 49152, .inl (fun _ => 0))), (q59, .inl (cI, 4096, .inl (fun _ => 0))), (q67, .inl (cI, 12, .inl (fun _ => 0)))] H) (hD : va_D (fun q : Nat => s.heap.size ≤ q) [(q1, .inr (11, [.ref q2, .ref q4, .ref q6, .ref q18, .ref q23, .ref q28, .ref q33, .ref q36, .ref q37, .ref q40, .ref q44, .ref q48, .int 0])), (q2, .inr (4, [.ref q3, .int 0, .int 0])), (q3, .inl (cI, 12, .inl (fun _ => 0))), (q4, .inr (10, [.ref q5, .int 0, .int 0])), (q5, .inl (cI, 12, .inl (fun _ => (-1)))), (q6, .inr (6, [.ref q7, .ref q10, .ref q16, .ref q17, .int 0, .int 0, .int 0, .int 0, .int 0])), (q7, .inr (3, [.ref q8, .int 0])), (q8, .inl (c2, 13, .inr (.inr (.inr (.inr (fun i => if i < 13 then some (r9 i) else none)))))), (r9 0, .inl (cI, 12, .inl (fun _ => 0))), (q10, .inr (5, [.ref q11, .ref q14, .ref q15, .int 0, .int 0, .int 0])), (q11, .inr (3, [.ref q12, .int 0])), (q12, .inl (c2, 13, .inr (.inr (.inr (.inr (fun i => if i < 13 then some (r13 i) else none)))))), (r13 0, .inl (cI, 12, .inl (fun _ => 0))), (q14, .inl (cI, 4096, .inl (fun _ => 0))), (q18, .inr (9, [.ref q19, .ref q22, .int 0, .int (-1)])), (q19, .inr (3, [.ref q20, .int 0])), (q20, .inl (c2, 13, .inr (.inr (.inr (.inr (fun i => if i < 13 then some (r21 i) else none)))))), (r21 0, .inl (cI, 12, .inl (fun _ => 0))), (q23, .inr (1, [.int 0, .ref q24, .ref q25, .ref q26, .ref q27, .int 0, .int (-1), .int (-1)])), (q28, .inr (1, [.int 1, .ref q29, .ref q30, .ref q31, .ref q32, .int 0, .int (-1), .int (-1)])), (q33, .inr (7, [.ref q34, .ref q35, .int 0, .int (-1)])), (q35, .inl (cI, 12, .inl (fun _ => 0))), (q37, .inr (2, [.ref q38, .ref q39, .int 0, .int (-1)])), (q40, .inr (0, [.ref q42, .ref q41, .ref q43, .int 0, .int 0, .int 0, .int 0, .int (-1)])), (q42, .inl (cI, 4096, .inl (fun _ => 0))), (q44, .inr (0, [.ref q46, .ref q45, .ref q47, .int 0, .int 0, .int 0, .int 0, .int (-1)])), (q46, .inl (cI, 256, .inl (fun _ => 0))), (q48, .inl (cI, 5, .inl (fun _ => 0))), (q49, .inr (12, [.int 0, .ref q50, .int 0, .ref q51, .int 0, .ref q52, .ref q53, .int 0, .ref q54, .int 0, .ref q55, .int (-9), .int 0, .int 0, .ref q56, .ref q57, .ref q58, .ref q59, .ref q60, .int 0, .ref q61, .ref q62, .ref q63, .int 0, .ref q64, .ref q65, .ref q66, .int 0, .ref q67])), (q50, .inl (cI, 5, .inl (fun _ => 0))), (q51, .inl (cI, 12, .inl (fun _ => 0))), (q52, .inl (cI, 12, .inl (fun _ => (-9)))), (q56, .inl (cI, 12, .inl (fun _ => 0))), (q57, .inl (cI, 12, .inl (fun _ => 0))), (q58, .inl (cI, 49152, .inl (fun _ => 0))), (q59, .inl (cI, 4096, .inl (fun _ => 0))), (q67, .inl (cI, 12, .inl (fun _ => 0)))]) (hS : va_S (fun q : Nat => s.heap.size ≤ q) s.heap H locs) (ls : Array Slot) (hl : lv_has ls 4 [(3, .int 0), (2, .ref q49), (1, .ref q1), (0, .ref b)]) : W p l e room_1 s m #[Value.ref b] below meth c H locs 128 161896 (lw_Z below #[Value.ref b] s) (F0 m 301 ls []) := by
  obtain ⟨hx, hb, hr, hml, hown0, hts0, hX, hbl, hlocks, hgv⟩ := id C0
  have hown : s.vm.findClass RL = some m.cls := hown0
  have hts : ∀ w ∈ wsL_law, w.before #[Value.ref b] s = true := fun w h => hts0 w (wsL_law_in w h)
  have hA : ∀ q : Nat, s.heap.size ≤ q → (fun q : Nat => s.heap.size ≤ q) q := fun _ h => h
  have hbA : ¬ (fun q : Nat => s.heap.size ≤ q) b := Nat.not_le.mpr hbl
  generalize hAe : (fun q : Nat => s.heap.size ≤ q) = A at hD hS hA hbA
  have a1_rg := i_rng a1
  have a2_rg := i_rng a2
  have a3_rg := i_rng a3
  obtain ⟨a1_l, a1_h⟩ := a1_rg
  obtain ⟨a2_l, a2_h⟩ := a2_rg
  obtain ⟨a3_l, a3_h⟩ := a3_rg
  rcases (show a1.toInt ≤ (-1) ∨ 0 ≤ a1.toInt by omega) with g_a1_0 | g_a1_0
  ·
    refine lv_aload_n hx hb dL_law_301 rfl (lv_at hl 2 rfl) ?_
    refine lv_aload_n hx hb dL_law_302 rfl (lv_at hl 3 rfl) ?_
    refine lv_iload_n hx hb dL_law_303 rfl (lv_at hl 0 rfl) ?_
    refine lv_iconst (v := 1) hx hb dL_law_304 (by decide) ?_
    refine lv_iadd hx hb dL_law_305 (tk_i (v := 1) (by decide +kernel) ?_)
    refine va_sld hx hb hX hbl hbA hS (vin (by decide +kernel)) dL_law_306 (tk_i (v := a1) ha1 ?_)
    refine kcall_i (D := (dC, dI)) (S := Unit) (v := (-1)) (wc := [(q1, .inr (11, [.ref q2, .ref q4, .ref q6, .ref q18, .ref q23, .ref q28, .ref q33, .ref q36, .ref q37, .ref q40, .ref q44, .ref q48, .int 0])), (q2, .inr (4, [.ref q3, .int 0, .int 0]))]) (wr := [(q49, .inr (12, [.int 0, .ref q50, .int 0, .ref q51, .int 0, .ref q52, .ref q53, .int 0, .ref q54, .int 0, .ref q55, .int (-9), .int 0, .int 0, .ref q56, .ref q57, .ref q58, .ref q59, .ref q60, .int 0, .ref q61, .ref q62, .ref q63, .int 0, .ref q64, .ref q65, .ref q66, .int 0, .ref q67]))]) (w1 := fun _ => []) (fun hPc hDc => va_runV (As := [.int a1]) (rest := []) ⟨hx, hb, hml, hown, hts⟩ (kX11_kind_1 l dC dI cI c2 q1 q2 q4 q6 q18 q23 q28 q33 q36 q37 q40 q44 q48 q3 H.size a1 (by omega) (by omega)) (cwV 1 hts gL_law_X11_kind rfl rfl rfl (by decide +kernel) ⟨Nat.le_of_ble_eq_true rfl, Nat.le_of_ble_eq_true rfl⟩) (pre_V hPc hK hDc hN (ci := 11) (q0 := 0) rfl rfl) rfl rfl hl.1 rfl (lv_room (Nat.le_of_ble_eq_true rfl)) dL_law_307 ⟨Nat.le_of_ble_eq_true rfl, Nat.le_of_ble_eq_true rfl⟩) hP hD hS hA [0, 1] [28] rfl rfl (by decide) (by decide) (by decide) (fun u H locs hP hD hS => ?_)
    have hP : va_P (dC, dI) vwCl [(q49, .inr (12, [.int 0, .ref q50, .int 0, .ref q51, .int 0, .ref q52, .ref q53, .int 0, .ref q54, .int 0, .ref q55, .int (-9), .int 0, .int 0, .ref q56, .ref q57, .ref q58, .ref q59, .ref q60, .int 0, .ref q61, .ref q62, .ref q63, .int 0, .ref q64, .ref q65, .ref q66, .int 0, .ref q67]))] H := hP
    have hD : va_D A [(q49, .inr (12, [.int 0, .ref q50, .int 0, .ref q51, .int 0, .ref q52, .ref q53, .int 0, .ref q54, .int 0, .ref q55, .int (-9), .int 0, .int 0, .ref q56, .ref q57, .ref q58, .ref q59, .ref q60, .int 0, .ref q61, .ref q62, .ref q63, .int 0, .ref q64, .ref q65, .ref q66, .int 0, .ref q67]))] := hD
    refine lv_aload_n hx hb dL_law_310 rfl (lv_at hl 1 rfl) ?_
    refine lv_aload_n hx hb dL_law_311 rfl (lv_at hl 3 rfl) ?_
    refine lv_iload_n hx hb dL_law_312 rfl (lv_at hl 0 rfl) ?_
    refine lv_iconst (v := 1) hx hb dL_law_313 (by decide) ?_
    refine lv_iadd hx hb dL_law_314 (tk_i (v := 1) (by decide +kernel) ?_)
    refine va_sld hx hb hX hbl hbA hS (vin (by decide +kernel)) dL_law_315 (tk_i (v := a1) ha1 ?_)
    refine kcall_i (D := (dC, dI)) (S := Unit) (v := (-1)) (wc := [(q49, .inr (12, [.int 0, .ref q50, .int 0, .ref q51, .int 0, .ref q52, .ref q53, .int 0, .ref q54, .int 0, .ref q55, .int (-9), .int 0, .int 0, .ref q56, .ref q57, .ref q58, .ref q59, .ref q60, .int 0, .ref q61, .ref q62, .ref q63, .int 0, .ref q64, .ref q65, .ref q66, .int 0, .ref q67]))]) (wr := []) (w1 := fun _ => []) (fun hPc hDc => va_runV (As := [.int a1]) (rest := [.int (-1)]) ⟨hx, hb, hml, hown, hts⟩ (kX12_kind_1 l dC dI cI c2 q49 q50 q51 q52 q53 q54 q55 q56 q57 q58 q59 q60 q61 q62 q63 q64 q65 q66 q67 H.size a1 (by omega) (by omega)) (cwV 1 hts gL_law_X12_kind rfl rfl rfl (by decide +kernel) ⟨Nat.le_of_ble_eq_true rfl, Nat.le_of_ble_eq_true rfl⟩) (pre_V hPc hK hDc hN (ci := 12) (q0 := 0) rfl rfl) rfl rfl hl.1 rfl (lv_room (Nat.le_of_ble_eq_true rfl)) dL_law_316 ⟨Nat.le_of_ble_eq_true rfl, Nat.le_of_ble_eq_true rfl⟩) hP hD hS hA [0] [] rfl rfl (by decide) (by decide) (by decide) (fun u H locs hP hD hS => ?_)
    have hP : va_P (dC, dI) vwCl [] H := hP
    have hD : va_D A [] := hD
    refine lv_icmp_eq (tgt := 1080) hx hb dL_law_319 (by decide) (fun _ => ?_) (fun h9 => absurd (by decide +kernel) h9)
    refine lv_iinc (v := 4) (lv' := [(3, .int 4), (2, .ref q49), (1, .ref q1), (0, .ref b)]) hx hb dL_law_1080 hl (k := 0) rfl (by decide +kernel) (by decide) rfl (fun ls hl => ?_)
    refine lv_goto (tgt := 18) hx hb dL_law_1083 (by decide) ?_
    refine lv_iload_n hx hb dL_law_18 rfl (lv_at hl 0 rfl) ?_
    refine lv_aload_n hx hb dL_law_19 rfl (lv_at hl 3 rfl) ?_
    refine va_slen hx hb hX hbl hbA hS dL_law_20 (tk_i (v := 4) (by decide +kernel) ?_)
    refine lv_iconst (v := 4) hx hb dL_law_21 (by decide) ?_
    refine lv_isub hx hb dL_law_22 (tk_i (v := 0) (by decide +kernel) ?_)
    refine lv_icmp_gt (tgt := 1086) hx hb dL_law_23 (by decide) (fun _ => ?_) (fun h9 => absurd (by decide +kernel) h9)
    refine lv_iconst (v := 1) hx hb dL_law_1086 (by decide) ?_
    refine va_forget (fun q hq => by have h9 := hS.2.2 q hq; rw [← hAe] at h9; exact h9) ?_
    refine W.widen (k := 600000) (n := 7302250) (by decide) (by decide) ?_
    exact lw_ret hx hb hr hlocks dL_law_1087
  ·
    refine lv_aload_n hx hb dL_law_301 rfl (lv_at hl 2 rfl) ?_
    refine lv_aload_n hx hb dL_law_302 rfl (lv_at hl 3 rfl) ?_
    refine lv_iload_n hx hb dL_law_303 rfl (lv_at hl 0 rfl) ?_
    refine lv_iconst (v := 1) hx hb dL_law_304 (by decide) ?_
    refine lv_iadd hx hb dL_law_305 (tk_i (v := 1) (by decide +kernel) ?_)
    refine va_sld hx hb hX hbl hbA hS (vin (by decide +kernel)) dL_law_306 (tk_i (v := a1) ha1 ?_)
    refine kcall_i (D := (dC, dI)) (S := Unit) (v := (-1)) (wc := [(q1, .inr (11, [.ref q2, .ref q4, .ref q6, .ref q18, .ref q23, .ref q28, .ref q33, .ref q36, .ref q37, .ref q40, .ref q44, .ref q48, .int 0])), (q2, .inr (4, [.ref q3, .int 0, .int 0]))]) (wr := [(q49, .inr (12, [.int 0, .ref q50, .int 0, .ref q51, .int 0, .ref q52, .ref q53, .int 0, .ref q54, .int 0, .ref q55, .int (-9), .int 0, .int 0, .ref q56, .ref q57, .ref q58, .ref q59, .ref q60, .int 0, .ref q61, .ref q62, .ref q63, .int 0, .ref q64, .ref q65, .ref q66, .int 0, .ref q67]))]) (w1 := fun _ => []) (fun hPc hDc => va_runV (As := [.int a1]) (rest := []) ⟨hx, hb, hml, hown, hts⟩ (kX11_kind_2 l dC dI cI c2 q1 q2 q4 q6 q18 q23 q28 q33 q36 q37 q40 q44 q48 q3 H.size a1 (by omega) (by omega)) (cwV 1 hts gL_law_X11_kind rfl rfl rfl (by decide +kernel) ⟨Nat.le_of_ble_eq_true rfl, Nat.le_of_ble_eq_true rfl⟩) (pre_V hPc hK hDc hN (ci := 11) (q0 := 0) rfl rfl) rfl rfl hl.1 rfl (lv_room (Nat.le_of_ble_eq_true rfl)) dL_law_307 ⟨Nat.le_of_ble_eq_true rfl, Nat.le_of_ble_eq_true rfl⟩) hP hD hS hA [0, 1] [28] rfl rfl (by decide) (by decide) (by decide) (fun u H locs hP hD hS => ?_)
    have hP : va_P (dC, dI) vwCl [(q49, .inr (12, [.int 0, .ref q50, .int 0, .ref q51, .int 0, .ref q52, .ref q53, .int 0, .ref q54, .int 0, .ref q55, .int (-9), .int 0, .int 0, .ref q56, .ref q57, .ref q58, .ref q59, .ref q60, .int 0, .ref q61, .ref q62, .ref q63, .int 0, .ref q64, .ref q65, .ref q66, .int 0, .ref q67]))] H := hP
    have hD : va_D A [(q49, .inr (12, [.int 0, .ref q50, .int 0, .ref q51, .int 0, .ref q52, .ref q53, .int 0, .ref q54, .int 0, .ref q55, .int (-9), .int 0, .int 0, .ref q56, .ref q57, .ref q58, .ref q59, .ref q60, .int 0, .ref q61, .ref q62, .ref q63, .int 0, .ref q64, .ref q65, .ref q66, .int 0, .ref q67]))] := hD
    refine lv_aload_n hx hb dL_law_310 rfl (lv_at hl 1 rfl) ?_
    refine lv_aload_n hx hb dL_law_311 rfl (lv_at hl 3 rfl) ?_
    refine lv_iload_n hx hb dL_law_312 rfl (lv_at hl 0 rfl) ?_
    refine lv_iconst (v := 1) hx hb dL_law_313 (by decide) ?_
    refine lv_iadd hx hb dL_law_314 (tk_i (v := 1) (by decide +kernel) ?_)
    refine va_sld hx hb hX hbl hbA hS (vin (by decide +kernel)) dL_law_315 (tk_i (v := a1) ha1 ?_)
    refine kcall_i (D := (dC, dI)) (S := Unit) (v := (-1)) (wc := [(q49, .inr (12, [.int 0, .ref q50, .int 0, .ref q51, .int 0, .ref q52, .ref q53, .int 0, .ref q54, .int 0, .ref q55, .int (-9), .int 0, .int 0, .ref q56, .ref q57, .ref q58, .ref q59, .ref q60, .int 0, .ref q61, .ref q62, .ref q63, .int 0, .ref q64, .ref q65, .ref q66, .int 0, .ref q67]))]) (wr := []) (w1 := fun _ => []) (fun hPc hDc => va_runV (As := [.int a1]) (rest := [.int (-1)]) ⟨hx, hb, hml, hown, hts⟩ (kX12_kind_2 l dC dI cI c2 q49 q50 q51 q52 q53 q54 q55 q56 q57 q58 q59 q60 q61 q62 q63 q64 q65 q66 q67 H.size a1 (by omega) (by omega)) (cwV 1 hts gL_law_X12_kind rfl rfl rfl (by decide +kernel) ⟨Nat.le_of_ble_eq_true rfl, Nat.le_of_ble_eq_true rfl⟩) (pre_V hPc hK hDc hN (ci := 12) (q0 := 0) rfl rfl) rfl rfl hl.1 rfl (lv_room (Nat.le_of_ble_eq_true rfl)) dL_law_316 ⟨Nat.le_of_ble_eq_true rfl, Nat.le_of_ble_eq_true rfl⟩) hP hD hS hA [0] [] rfl rfl (by decide) (by decide) (by decide) (fun u H locs hP hD hS => ?_)
    have hP : va_P (dC, dI) vwCl [] H := hP
    have hD : va_D A [] := hD
    refine lv_icmp_eq (tgt := 1080) hx hb dL_law_319 (by decide) (fun _ => ?_) (fun h9 => absurd (by decide +kernel) h9)
    refine lv_iinc (v := 4) (lv' := [(3, .int 4), (2, .ref q49), (1, .ref q1), (0, .ref b)]) hx hb dL_law_1080 hl (k := 0) rfl (by decide +kernel) (by decide) rfl (fun ls hl => ?_)
    refine lv_goto (tgt := 18) hx hb dL_law_1083 (by decide) ?_
    refine lv_iload_n hx hb dL_law_18 rfl (lv_at hl 0 rfl) ?_
    refine lv_aload_n hx hb dL_law_19 rfl (lv_at hl 3 rfl) ?_
    refine va_slen hx hb hX hbl hbA hS dL_law_20 (tk_i (v := 4) (by decide +kernel) ?_)
    refine lv_iconst (v := 4) hx hb dL_law_21 (by decide) ?_
    refine lv_isub hx hb dL_law_22 (tk_i (v := 0) (by decide +kernel) ?_)
    refine lv_icmp_gt (tgt := 1086) hx hb dL_law_23 (by decide) (fun _ => ?_) (fun h9 => absurd (by decide +kernel) h9)
    refine lv_iconst (v := 1) hx hb dL_law_1086 (by decide) ?_
    refine va_forget (fun q hq => by have h9 := hS.2.2 q hq; rw [← hAe] at h9; exact h9) ?_
    refine W.widen (k := 600000) (n := 7302250) (by decide) (by decide) ?_
    exact lw_ret hx hb hr hlocks dL_law_1087
set_option maxHeartbeats 8000000 in
set_option maxRecDepth 100000 in
theorem lc_4 {p : Program} {e : Env} {s : State} {m : MethodId} {below : List Frame} {meth : Method} {c : Code} (l : Launch) {b : Nat} {xs : Nat → Int32} (C0 : lw_At p s m meth c b 4 xs) (dC : Nat → ClassId) (dI : Nat → Nat → Nat) (cI c2 : ClassId) (q1 : Nat) (q2 : Nat) (q3 : Nat) (q4 : Nat) (q5 : Nat) (q6 : Nat) (q7 : Nat) (q8 : Nat) (r9 : Nat → Nat) (q10 : Nat) (q11 : Nat) (q12 : Nat) (r13 : Nat → Nat) (q14 : Nat) (q15 : Nat) (q16 : Nat) (q17 : Nat) (q18 : Nat) (q19 : Nat) (q20 : Nat) (r21 : Nat → Nat) (q22 : Nat) (q23 : Nat) (q24 : Nat) (q25 : Nat) (q26 : Nat) (q27 : Nat) (q28 : Nat) (q29 : Nat) (q30 : Nat) (q31 : Nat) (q32 : Nat) (q33 : Nat) (q34 : Nat) (q35 : Nat) (q36 : Nat) (q37 : Nat) (q38 : Nat) (q39 : Nat) (q40 : Nat) (q41 : Nat) (q42 : Nat) (q43 : Nat) (q44 : Nat) (q45 : Nat) (q46 : Nat) (q47 : Nat) (q48 : Nat) (q49 : Nat) (q50 : Nat) (q51 : Nat) (q52 : Nat) (q53 : Nat) (q54 : Nat) (q55 : Nat) (q56 : Nat) (q57 : Nat) (q58 : Nat) (q59 : Nat) (q60 : Nat) (q61 : Nat) (q62 : Nat) (q63 : Nat) (q64 : Nat) (q65 : Nat) (q66 : Nat) (q67 : Nat) (a1 a2 a3 : Int32) (ha1 : xs (Int32.toNatClampNeg 1) = a1) (ha2 : xs (Int32.toNatClampNeg 2) = a2) (ha3 : xs (Int32.toNatClampNeg 3) = a3) (hK : va_K (dC, dI) vwCl [(cI, .int), (c2, .array .int)] s) (hN : nsAll s) (H : Heap) (locs : List Loc) (hP : va_P (dC, dI) vwCl [(q1, .inr (11, [.ref q2, .ref q4, .ref q6, .ref q18, .ref q23, .ref q28, .ref q33, .ref q36, .ref q37, .ref q40, .ref q44, .ref q48, .int 0])), (q2, .inr (4, [.ref q3, .int 0, .int 0])), (q3, .inl (cI, 12, .inl (fun _ => 0))), (q4, .inr (10, [.ref q5, .int 0, .int 0])), (q5, .inl (cI, 12, .inl (fun _ => (-1)))), (q6, .inr (6, [.ref q7, .ref q10, .ref q16, .ref q17, .int 0, .int 0, .int 0, .int 0, .int 0])), (q7, .inr (3, [.ref q8, .int 0])), (q8, .inl (c2, 13, .inr (.inr (.inr (.inr (fun i => if i < 13 then some (r9 i) else none)))))), (r9 0, .inl (cI, 12, .inl (fun _ => 0))), (q10, .inr (5, [.ref q11, .ref q14, .ref q15, .int 0, .int 0, .int 0])), (q11, .inr (3, [.ref q12, .int 0])), (q12, .inl (c2, 13, .inr (.inr (.inr (.inr (fun i => if i < 13 then some (r13 i) else none)))))), (r13 0, .inl (cI, 12, .inl (fun _ => 0))), (q14, .inl (cI, 4096, .inl (fun _ => 0))), (q18, .inr (9, [.ref q19, .ref q22, .int 0, .int (-1)])), (q19, .inr (3, [.ref q20, .int 0])), (q20, .inl (c2, 13, .inr (.inr (.inr (.inr (fun i => if i < 13 then some (r21 i) else none)))))), (r21 0, .inl (cI, 12, .inl (fun _ => 0))), (q23, .inr (1, [.int 0, .ref q24, .ref q25, .ref q26, .ref q27, .int 0, .int (-1), .int (-1)])), (q28, .inr (1, [.int 1, .ref q29, .ref q30, .ref q31, .ref q32, .int 0, .int (-1), .int (-1)])), (q33, .inr (7, [.ref q34, .ref q35, .int 0, .int (-1)])), (q35, .inl (cI, 12, .inl (fun _ => 0))), (q37, .inr (2, [.ref q38, .ref q39, .int 0, .int (-1)])), (q40, .inr (0, [.ref q42, .ref q41, .ref q43, .int 0, .int 0, .int 0, .int 0, .int (-1)])), (q42, .inl (cI, 4096, .inl (fun _ => 0))), (q44, .inr (0, [.ref q46, .ref q45, .ref q47, .int 0, .int 0, .int 0, .int 0, .int (-1)])), (q46, .inl (cI, 256, .inl (fun _ => 0))), (q48, .inl (cI, 5, .inl (fun _ => 0))), (q49, .inr (12, [.int 0, .ref q50, .int 0, .ref q51, .int 0, .ref q52, .ref q53, .int 0, .ref q54, .int 0, .ref q55, .int (-9), .int 0, .int 0, .ref q56, .ref q57, .ref q58, .ref q59, .ref q60, .int 0, .ref q61, .ref q62, .ref q63, .int 0, .ref q64, .ref q65, .ref q66, .int 0, .ref q67])), (q50, .inl (cI, 5, .inl (fun _ => 0))), (q51, .inl (cI, 12, .inl (fun _ => 0))), (q52, .inl (cI, 12, .inl (fun _ => (-9)))), (q56, .inl (cI, 12, .inl (fun _ => 0))), (q57, .inl (cI, 12, .inl (fun _ => 0))), (q58, .inl (cI, 49152, .inl (fun _ => 0))), (q59, .inl (cI, 4096, .inl (fun _ => 0))), (q67, .inl (cI, 12, .inl (fun _ => 0)))] H) (hD : va_D (fun q : Nat => s.heap.size ≤ q) [(q1, .inr (11, [.ref q2, .ref q4, .ref q6, .ref q18, .ref q23, .ref q28, .ref q33, .ref q36, .ref q37, .ref q40, .ref q44, .ref q48, .int 0])), (q2, .inr (4, [.ref q3, .int 0, .int 0])), (q3, .inl (cI, 12, .inl (fun _ => 0))), (q4, .inr (10, [.ref q5, .int 0, .int 0])), (q5, .inl (cI, 12, .inl (fun _ => (-1)))), (q6, .inr (6, [.ref q7, .ref q10, .ref q16, .ref q17, .int 0, .int 0, .int 0, .int 0, .int 0])), (q7, .inr (3, [.ref q8, .int 0])), (q8, .inl (c2, 13, .inr (.inr (.inr (.inr (fun i => if i < 13 then some (r9 i) else none)))))), (r9 0, .inl (cI, 12, .inl (fun _ => 0))), (q10, .inr (5, [.ref q11, .ref q14, .ref q15, .int 0, .int 0, .int 0])), (q11, .inr (3, [.ref q12, .int 0])), (q12, .inl (c2, 13, .inr (.inr (.inr (.inr (fun i => if i < 13 then some (r13 i) else none)))))), (r13 0, .inl (cI, 12, .inl (fun _ => 0))), (q14, .inl (cI, 4096, .inl (fun _ => 0))), (q18, .inr (9, [.ref q19, .ref q22, .int 0, .int (-1)])), (q19, .inr (3, [.ref q20, .int 0])), (q20, .inl (c2, 13, .inr (.inr (.inr (.inr (fun i => if i < 13 then some (r21 i) else none)))))), (r21 0, .inl (cI, 12, .inl (fun _ => 0))), (q23, .inr (1, [.int 0, .ref q24, .ref q25, .ref q26, .ref q27, .int 0, .int (-1), .int (-1)])), (q28, .inr (1, [.int 1, .ref q29, .ref q30, .ref q31, .ref q32, .int 0, .int (-1), .int (-1)])), (q33, .inr (7, [.ref q34, .ref q35, .int 0, .int (-1)])), (q35, .inl (cI, 12, .inl (fun _ => 0))), (q37, .inr (2, [.ref q38, .ref q39, .int 0, .int (-1)])), (q40, .inr (0, [.ref q42, .ref q41, .ref q43, .int 0, .int 0, .int 0, .int 0, .int (-1)])), (q42, .inl (cI, 4096, .inl (fun _ => 0))), (q44, .inr (0, [.ref q46, .ref q45, .ref q47, .int 0, .int 0, .int 0, .int 0, .int (-1)])), (q46, .inl (cI, 256, .inl (fun _ => 0))), (q48, .inl (cI, 5, .inl (fun _ => 0))), (q49, .inr (12, [.int 0, .ref q50, .int 0, .ref q51, .int 0, .ref q52, .ref q53, .int 0, .ref q54, .int 0, .ref q55, .int (-9), .int 0, .int 0, .ref q56, .ref q57, .ref q58, .ref q59, .ref q60, .int 0, .ref q61, .ref q62, .ref q63, .int 0, .ref q64, .ref q65, .ref q66, .int 0, .ref q67])), (q50, .inl (cI, 5, .inl (fun _ => 0))), (q51, .inl (cI, 12, .inl (fun _ => 0))), (q52, .inl (cI, 12, .inl (fun _ => (-9)))), (q56, .inl (cI, 12, .inl (fun _ => 0))), (q57, .inl (cI, 12, .inl (fun _ => 0))), (q58, .inl (cI, 49152, .inl (fun _ => 0))), (q59, .inl (cI, 4096, .inl (fun _ => 0))), (q67, .inl (cI, 12, .inl (fun _ => 0)))]) (hS : va_S (fun q : Nat => s.heap.size ≤ q) s.heap H locs) (ls : Array Slot) (hl : lv_has ls 4 [(3, .int 0), (2, .ref q49), (1, .ref q1), (0, .ref b)]) : W p l e room_1 s m #[Value.ref b] below meth c H locs 128 161896 (lw_Z below #[Value.ref b] s) (F0 m 324 ls []) := by
  obtain ⟨hx, hb, hr, hml, hown0, hts0, hX, hbl, hlocks, hgv⟩ := id C0
  have hown : s.vm.findClass RL = some m.cls := hown0
  have hts : ∀ w ∈ wsL_law, w.before #[Value.ref b] s = true := fun w h => hts0 w (wsL_law_in w h)
  have hA : ∀ q : Nat, s.heap.size ≤ q → (fun q : Nat => s.heap.size ≤ q) q := fun _ h => h
  have hbA : ¬ (fun q : Nat => s.heap.size ≤ q) b := Nat.not_le.mpr hbl
  generalize hAe : (fun q : Nat => s.heap.size ≤ q) = A at hD hS hA hbA
  have a1_rg := i_rng a1
  have a2_rg := i_rng a2
  have a3_rg := i_rng a3
  obtain ⟨a1_l, a1_h⟩ := a1_rg
  obtain ⟨a2_l, a2_h⟩ := a2_rg
  obtain ⟨a3_l, a3_h⟩ := a3_rg
  rcases (show a1.toInt ≤ (-1) ∨ 0 ≤ a1.toInt by omega) with g_a1_0 | g_a1_0
  ·
    refine lv_aload_n hx hb dL_law_324 rfl (lv_at hl 2 rfl) ?_
    refine lv_aload_n hx hb dL_law_325 rfl (lv_at hl 3 rfl) ?_
    refine lv_iload_n hx hb dL_law_326 rfl (lv_at hl 0 rfl) ?_
    refine lv_iconst (v := 1) hx hb dL_law_327 (by decide) ?_
    refine lv_iadd hx hb dL_law_328 (tk_i (v := 1) (by decide +kernel) ?_)
    refine va_sld hx hb hX hbl hbA hS (vin (by decide +kernel)) dL_law_329 (tk_i (v := a1) ha1 ?_)
    refine lv_aload_n hx hb dL_law_330 rfl (lv_at hl 3 rfl) ?_
    refine lv_iload_n hx hb dL_law_331 rfl (lv_at hl 0 rfl) ?_
    refine lv_iconst (v := 2) hx hb dL_law_332 (by decide) ?_
    refine lv_iadd hx hb dL_law_333 (tk_i (v := 2) (by decide +kernel) ?_)
    refine va_sld hx hb hX hbl hbA hS (vin (by decide +kernel)) dL_law_334 (tk_i (v := a2) ha2 ?_)
    refine kcall_i (D := (dC, dI)) (S := Unit) (v := (-1)) (wc := [(q1, .inr (11, [.ref q2, .ref q4, .ref q6, .ref q18, .ref q23, .ref q28, .ref q33, .ref q36, .ref q37, .ref q40, .ref q44, .ref q48, .int 0])), (q2, .inr (4, [.ref q3, .int 0, .int 0]))]) (wr := [(q49, .inr (12, [.int 0, .ref q50, .int 0, .ref q51, .int 0, .ref q52, .ref q53, .int 0, .ref q54, .int 0, .ref q55, .int (-9), .int 0, .int 0, .ref q56, .ref q57, .ref q58, .ref q59, .ref q60, .int 0, .ref q61, .ref q62, .ref q63, .int 0, .ref q64, .ref q65, .ref q66, .int 0, .ref q67]))]) (w1 := fun _ => []) (fun hPc hDc => va_runV (As := [.int a1, .int a2]) (rest := []) ⟨hx, hb, hml, hown, hts⟩ (kX11_degree_1 l dC dI cI c2 q1 q2 q4 q6 q18 q23 q28 q33 q36 q37 q40 q44 q48 q3 H.size a1 a2 (by omega) (by omega) (by omega) (by omega)) (cwV 2 hts gL_law_X11_degree rfl rfl rfl (by decide +kernel) ⟨Nat.le_of_ble_eq_true rfl, Nat.le_of_ble_eq_true rfl⟩) (pre_V hPc hK hDc hN (ci := 11) (q0 := 0) rfl rfl) rfl rfl hl.1 rfl (lv_room (Nat.le_of_ble_eq_true rfl)) dL_law_335 ⟨Nat.le_of_ble_eq_true rfl, Nat.le_of_ble_eq_true rfl⟩) hP hD hS hA [0, 1] [28] rfl rfl (by decide) (by decide) (by decide) (fun u H locs hP hD hS => ?_)
    have hP : va_P (dC, dI) vwCl [(q49, .inr (12, [.int 0, .ref q50, .int 0, .ref q51, .int 0, .ref q52, .ref q53, .int 0, .ref q54, .int 0, .ref q55, .int (-9), .int 0, .int 0, .ref q56, .ref q57, .ref q58, .ref q59, .ref q60, .int 0, .ref q61, .ref q62, .ref q63, .int 0, .ref q64, .ref q65, .ref q66, .int 0, .ref q67]))] H := hP
    have hD : va_D A [(q49, .inr (12, [.int 0, .ref q50, .int 0, .ref q51, .int 0, .ref q52, .ref q53, .int 0, .ref q54, .int 0, .ref q55, .int (-9), .int 0, .int 0, .ref q56, .ref q57, .ref q58, .ref q59, .ref q60, .int 0, .ref q61, .ref q62, .ref q63, .int 0, .ref q64, .ref q65, .ref q66, .int 0, .ref q67]))] := hD
    refine lv_aload_n hx hb dL_law_338 rfl (lv_at hl 1 rfl) ?_
    refine lv_aload_n hx hb dL_law_339 rfl (lv_at hl 3 rfl) ?_
    refine lv_iload_n hx hb dL_law_340 rfl (lv_at hl 0 rfl) ?_
    refine lv_iconst (v := 1) hx hb dL_law_341 (by decide) ?_
    refine lv_iadd hx hb dL_law_342 (tk_i (v := 1) (by decide +kernel) ?_)
    refine va_sld hx hb hX hbl hbA hS (vin (by decide +kernel)) dL_law_343 (tk_i (v := a1) ha1 ?_)
    refine lv_aload_n hx hb dL_law_344 rfl (lv_at hl 3 rfl) ?_
    refine lv_iload_n hx hb dL_law_345 rfl (lv_at hl 0 rfl) ?_
    refine lv_iconst (v := 2) hx hb dL_law_346 (by decide) ?_
    refine lv_iadd hx hb dL_law_347 (tk_i (v := 2) (by decide +kernel) ?_)
    refine va_sld hx hb hX hbl hbA hS (vin (by decide +kernel)) dL_law_348 (tk_i (v := a2) ha2 ?_)
    refine kcall_i (D := (dC, dI)) (S := Unit) (v := (-1)) (wc := [(q49, .inr (12, [.int 0, .ref q50, .int 0, .ref q51, .int 0, .ref q52, .ref q53, .int 0, .ref q54, .int 0, .ref q55, .int (-9), .int 0, .int 0, .ref q56, .ref q57, .ref q58, .ref q59, .ref q60, .int 0, .ref q61, .ref q62, .ref q63, .int 0, .ref q64, .ref q65, .ref q66, .int 0, .ref q67]))]) (wr := []) (w1 := fun _ => []) (fun hPc hDc => va_runV (As := [.int a1, .int a2]) (rest := [.int (-1)]) ⟨hx, hb, hml, hown, hts⟩ (kX12_degree_1 l dC dI cI c2 q49 q50 q51 q52 q53 q54 q55 q56 q57 q58 q59 q60 q61 q62 q63 q64 q65 q66 q67 H.size a1 a2 (by omega) (by omega) (by omega) (by omega)) (cwV 2 hts gL_law_X12_degree rfl rfl rfl (by decide +kernel) ⟨Nat.le_of_ble_eq_true rfl, Nat.le_of_ble_eq_true rfl⟩) (pre_V hPc hK hDc hN (ci := 12) (q0 := 0) rfl rfl) rfl rfl hl.1 rfl (lv_room (Nat.le_of_ble_eq_true rfl)) dL_law_349 ⟨Nat.le_of_ble_eq_true rfl, Nat.le_of_ble_eq_true rfl⟩) hP hD hS hA [0] [] rfl rfl (by decide) (by decide) (by decide) (fun u H locs hP hD hS => ?_)
    have hP : va_P (dC, dI) vwCl [] H := hP
    have hD : va_D A [] := hD
    refine lv_icmp_eq (tgt := 1080) hx hb dL_law_352 (by decide) (fun _ => ?_) (fun h9 => absurd (by decide +kernel) h9)
    refine lv_iinc (v := 4) (lv' := [(3, .int 4), (2, .ref q49), (1, .ref q1), (0, .ref b)]) hx hb dL_law_1080 hl (k := 0) rfl (by decide +kernel) (by decide) rfl (fun ls hl => ?_)
    refine lv_goto (tgt := 18) hx hb dL_law_1083 (by decide) ?_
    refine lv_iload_n hx hb dL_law_18 rfl (lv_at hl 0 rfl) ?_
    refine lv_aload_n hx hb dL_law_19 rfl (lv_at hl 3 rfl) ?_
    refine va_slen hx hb hX hbl hbA hS dL_law_20 (tk_i (v := 4) (by decide +kernel) ?_)
    refine lv_iconst (v := 4) hx hb dL_law_21 (by decide) ?_
    refine lv_isub hx hb dL_law_22 (tk_i (v := 0) (by decide +kernel) ?_)
    refine lv_icmp_gt (tgt := 1086) hx hb dL_law_23 (by decide) (fun _ => ?_) (fun h9 => absurd (by decide +kernel) h9)
    refine lv_iconst (v := 1) hx hb dL_law_1086 (by decide) ?_
    refine va_forget (fun q hq => by have h9 := hS.2.2 q hq; rw [← hAe] at h9; exact h9) ?_
    refine W.widen (k := 600000) (n := 7302250) (by decide) (by decide) ?_
    exact lw_ret hx hb hr hlocks dL_law_1087
  ·
    refine lv_aload_n hx hb dL_law_324 rfl (lv_at hl 2 rfl) ?_
    refine lv_aload_n hx hb dL_law_325 rfl (lv_at hl 3 rfl) ?_
    refine lv_iload_n hx hb dL_law_326 rfl (lv_at hl 0 rfl) ?_
    refine lv_iconst (v := 1) hx hb dL_law_327 (by decide) ?_
    refine lv_iadd hx hb dL_law_328 (tk_i (v := 1) (by decide +kernel) ?_)
    refine va_sld hx hb hX hbl hbA hS (vin (by decide +kernel)) dL_law_329 (tk_i (v := a1) ha1 ?_)
    refine lv_aload_n hx hb dL_law_330 rfl (lv_at hl 3 rfl) ?_
    refine lv_iload_n hx hb dL_law_331 rfl (lv_at hl 0 rfl) ?_
    refine lv_iconst (v := 2) hx hb dL_law_332 (by decide) ?_
    refine lv_iadd hx hb dL_law_333 (tk_i (v := 2) (by decide +kernel) ?_)
    refine va_sld hx hb hX hbl hbA hS (vin (by decide +kernel)) dL_law_334 (tk_i (v := a2) ha2 ?_)
    refine kcall_i (D := (dC, dI)) (S := Unit) (v := (-1)) (wc := [(q1, .inr (11, [.ref q2, .ref q4, .ref q6, .ref q18, .ref q23, .ref q28, .ref q33, .ref q36, .ref q37, .ref q40, .ref q44, .ref q48, .int 0])), (q2, .inr (4, [.ref q3, .int 0, .int 0]))]) (wr := [(q49, .inr (12, [.int 0, .ref q50, .int 0, .ref q51, .int 0, .ref q52, .ref q53, .int 0, .ref q54, .int 0, .ref q55, .int (-9), .int 0, .int 0, .ref q56, .ref q57, .ref q58, .ref q59, .ref q60, .int 0, .ref q61, .ref q62, .ref q63, .int 0, .ref q64, .ref q65, .ref q66, .int 0, .ref q67]))]) (w1 := fun _ => []) (fun hPc hDc => va_runV (As := [.int a1, .int a2]) (rest := []) ⟨hx, hb, hml, hown, hts⟩ (kX11_degree_2 l dC dI cI c2 q1 q2 q4 q6 q18 q23 q28 q33 q36 q37 q40 q44 q48 q3 H.size a1 a2 (by omega) (by omega) (by omega) (by omega)) (cwV 2 hts gL_law_X11_degree rfl rfl rfl (by decide +kernel) ⟨Nat.le_of_ble_eq_true rfl, Nat.le_of_ble_eq_true rfl⟩) (pre_V hPc hK hDc hN (ci := 11) (q0 := 0) rfl rfl) rfl rfl hl.1 rfl (lv_room (Nat.le_of_ble_eq_true rfl)) dL_law_335 ⟨Nat.le_of_ble_eq_true rfl, Nat.le_of_ble_eq_true rfl⟩) hP hD hS hA [0, 1] [28] rfl rfl (by decide) (by decide) (by decide) (fun u H locs hP hD hS => ?_)
    have hP : va_P (dC, dI) vwCl [(q49, .inr (12, [.int 0, .ref q50, .int 0, .ref q51, .int 0, .ref q52, .ref q53, .int 0, .ref q54, .int 0, .ref q55, .int (-9), .int 0, .int 0, .ref q56, .ref q57, .ref q58, .ref q59, .ref q60, .int 0, .ref q61, .ref q62, .ref q63, .int 0, .ref q64, .ref q65, .ref q66, .int 0, .ref q67]))] H := hP
    have hD : va_D A [(q49, .inr (12, [.int 0, .ref q50, .int 0, .ref q51, .int 0, .ref q52, .ref q53, .int 0, .ref q54, .int 0, .ref q55, .int (-9), .int 0, .int 0, .ref q56, .ref q57, .ref q58, .ref q59, .ref q60, .int 0, .ref q61, .ref q62, .ref q63, .int 0, .ref q64, .ref q65, .ref q66, .int 0, .ref q67]))] := hD
    refine lv_aload_n hx hb dL_law_338 rfl (lv_at hl 1 rfl) ?_
    refine lv_aload_n hx hb dL_law_339 rfl (lv_at hl 3 rfl) ?_
    refine lv_iload_n hx hb dL_law_340 rfl (lv_at hl 0 rfl) ?_
    refine lv_iconst (v := 1) hx hb dL_law_341 (by decide) ?_
    refine lv_iadd hx hb dL_law_342 (tk_i (v := 1) (by decide +kernel) ?_)
    refine va_sld hx hb hX hbl hbA hS (vin (by decide +kernel)) dL_law_343 (tk_i (v := a1) ha1 ?_)
    refine lv_aload_n hx hb dL_law_344 rfl (lv_at hl 3 rfl) ?_
    refine lv_iload_n hx hb dL_law_345 rfl (lv_at hl 0 rfl) ?_
    refine lv_iconst (v := 2) hx hb dL_law_346 (by decide) ?_
    refine lv_iadd hx hb dL_law_347 (tk_i (v := 2) (by decide +kernel) ?_)
    refine va_sld hx hb hX hbl hbA hS (vin (by decide +kernel)) dL_law_348 (tk_i (v := a2) ha2 ?_)
    refine kcall_i (D := (dC, dI)) (S := Unit) (v := (-1)) (wc := [(q49, .inr (12, [.int 0, .ref q50, .int 0, .ref q51, .int 0, .ref q52, .ref q53, .int 0, .ref q54, .int 0, .ref q55, .int (-9), .int 0, .int 0, .ref q56, .ref q57, .ref q58, .ref q59, .ref q60, .int 0, .ref q61, .ref q62, .ref q63, .int 0, .ref q64, .ref q65, .ref q66, .int 0, .ref q67]))]) (wr := []) (w1 := fun _ => []) (fun hPc hDc => va_runV (As := [.int a1, .int a2]) (rest := [.int (-1)]) ⟨hx, hb, hml, hown, hts⟩ (kX12_degree_2 l dC dI cI c2 q49 q50 q51 q52 q53 q54 q55 q56 q57 q58 q59 q60 q61 q62 q63 q64 q65 q66 q67 H.size a1 a2 (by omega) (by omega) (by omega) (by omega)) (cwV 2 hts gL_law_X12_degree rfl rfl rfl (by decide +kernel) ⟨Nat.le_of_ble_eq_true rfl, Nat.le_of_ble_eq_true rfl⟩) (pre_V hPc hK hDc hN (ci := 12) (q0 := 0) rfl rfl) rfl rfl hl.1 rfl (lv_room (Nat.le_of_ble_eq_true rfl)) dL_law_349 ⟨Nat.le_of_ble_eq_true rfl, Nat.le_of_ble_eq_true rfl⟩) hP hD hS hA [0] [] rfl rfl (by decide) (by decide) (by decide) (fun u H locs hP hD hS => ?_)
    have hP : va_P (dC, dI) vwCl [] H := hP
    have hD : va_D A [] := hD
    refine lv_icmp_eq (tgt := 1080) hx hb dL_law_352 (by decide) (fun _ => ?_) (fun h9 => absurd (by decide +kernel) h9)
    refine lv_iinc (v := 4) (lv' := [(3, .int 4), (2, .ref q49), (1, .ref q1), (0, .ref b)]) hx hb dL_law_1080 hl (k := 0) rfl (by decide +kernel) (by decide) rfl (fun ls hl => ?_)
    refine lv_goto (tgt := 18) hx hb dL_law_1083 (by decide) ?_
    refine lv_iload_n hx hb dL_law_18 rfl (lv_at hl 0 rfl) ?_
    refine lv_aload_n hx hb dL_law_19 rfl (lv_at hl 3 rfl) ?_
    refine va_slen hx hb hX hbl hbA hS dL_law_20 (tk_i (v := 4) (by decide +kernel) ?_)
    refine lv_iconst (v := 4) hx hb dL_law_21 (by decide) ?_
    refine lv_isub hx hb dL_law_22 (tk_i (v := 0) (by decide +kernel) ?_)
    refine lv_icmp_gt (tgt := 1086) hx hb dL_law_23 (by decide) (fun _ => ?_) (fun h9 => absurd (by decide +kernel) h9)
    refine lv_iconst (v := 1) hx hb dL_law_1086 (by decide) ?_
    refine va_forget (fun q hq => by have h9 := hS.2.2 q hq; rw [← hAe] at h9; exact h9) ?_
    refine W.widen (k := 600000) (n := 7302250) (by decide) (by decide) ?_
    exact lw_ret hx hb hr hlocks dL_law_1087
set_option maxHeartbeats 8000000 in
set_option maxRecDepth 100000 in
theorem lc_5 {p : Program} {e : Env} {s : State} {m : MethodId} {below : List Frame} {meth : Method} {c : Code} (l : Launch) {b : Nat} {xs : Nat → Int32} (C0 : lw_At p s m meth c b 4 xs) (dC : Nat → ClassId) (dI : Nat → Nat → Nat) (cI c2 : ClassId) (q1 : Nat) (q2 : Nat) (q3 : Nat) (q4 : Nat) (q5 : Nat) (q6 : Nat) (q7 : Nat) (q8 : Nat) (r9 : Nat → Nat) (q10 : Nat) (q11 : Nat) (q12 : Nat) (r13 : Nat → Nat) (q14 : Nat) (q15 : Nat) (q16 : Nat) (q17 : Nat) (q18 : Nat) (q19 : Nat) (q20 : Nat) (r21 : Nat → Nat) (q22 : Nat) (q23 : Nat) (q24 : Nat) (q25 : Nat) (q26 : Nat) (q27 : Nat) (q28 : Nat) (q29 : Nat) (q30 : Nat) (q31 : Nat) (q32 : Nat) (q33 : Nat) (q34 : Nat) (q35 : Nat) (q36 : Nat) (q37 : Nat) (q38 : Nat) (q39 : Nat) (q40 : Nat) (q41 : Nat) (q42 : Nat) (q43 : Nat) (q44 : Nat) (q45 : Nat) (q46 : Nat) (q47 : Nat) (q48 : Nat) (q49 : Nat) (q50 : Nat) (q51 : Nat) (q52 : Nat) (q53 : Nat) (q54 : Nat) (q55 : Nat) (q56 : Nat) (q57 : Nat) (q58 : Nat) (q59 : Nat) (q60 : Nat) (q61 : Nat) (q62 : Nat) (q63 : Nat) (q64 : Nat) (q65 : Nat) (q66 : Nat) (q67 : Nat) (a1 a2 a3 : Int32) (ha1 : xs (Int32.toNatClampNeg 1) = a1) (ha2 : xs (Int32.toNatClampNeg 2) = a2) (ha3 : xs (Int32.toNatClampNeg 3) = a3) (hK : va_K (dC, dI) vwCl [(cI, .int), (c2, .array .int)] s) (hN : nsAll s) (H : Heap) (locs : List Loc) (hP : va_P (dC, dI) vwCl [(q1, .inr (11, [.ref q2, .ref q4, .ref q6, .ref q18, .ref q23, .ref q28, .ref q33, .ref q36, .ref q37, .ref q40, .ref q44, .ref q48, .int 0])), (q2, .inr (4, [.ref q3, .int 0, .int 0])), (q3, .inl (cI, 12, .inl (fun _ => 0))), (q4, .inr (10, [.ref q5, .int 0, .int 0])), (q5, .inl (cI, 12, .inl (fun _ => (-1)))), (q6, .inr (6, [.ref q7, .ref q10, .ref q16, .ref q17, .int 0, .int 0, .int 0, .int 0, .int 0])), (q7, .inr (3, [.ref q8, .int 0])), (q8, .inl (c2, 13, .inr (.inr (.inr (.inr (fun i => if i < 13 then some (r9 i) else none)))))), (r9 0, .inl (cI, 12, .inl (fun _ => 0))), (q10, .inr (5, [.ref q11, .ref q14, .ref q15, .int 0, .int 0, .int 0])), (q11, .inr (3, [.ref q12, .int 0])), (q12, .inl (c2, 13, .inr (.inr (.inr (.inr (fun i => if i < 13 then some (r13 i) else none)))))), (r13 0, .inl (cI, 12, .inl (fun _ => 0))), (q14, .inl (cI, 4096, .inl (fun _ => 0))), (q18, .inr (9, [.ref q19, .ref q22, .int 0, .int (-1)])), (q19, .inr (3, [.ref q20, .int 0])), (q20, .inl (c2, 13, .inr (.inr (.inr (.inr (fun i => if i < 13 then some (r21 i) else none)))))), (r21 0, .inl (cI, 12, .inl (fun _ => 0))), (q23, .inr (1, [.int 0, .ref q24, .ref q25, .ref q26, .ref q27, .int 0, .int (-1), .int (-1)])), (q28, .inr (1, [.int 1, .ref q29, .ref q30, .ref q31, .ref q32, .int 0, .int (-1), .int (-1)])), (q33, .inr (7, [.ref q34, .ref q35, .int 0, .int (-1)])), (q35, .inl (cI, 12, .inl (fun _ => 0))), (q37, .inr (2, [.ref q38, .ref q39, .int 0, .int (-1)])), (q40, .inr (0, [.ref q42, .ref q41, .ref q43, .int 0, .int 0, .int 0, .int 0, .int (-1)])), (q42, .inl (cI, 4096, .inl (fun _ => 0))), (q44, .inr (0, [.ref q46, .ref q45, .ref q47, .int 0, .int 0, .int 0, .int 0, .int (-1)])), (q46, .inl (cI, 256, .inl (fun _ => 0))), (q48, .inl (cI, 5, .inl (fun _ => 0))), (q49, .inr (12, [.int 0, .ref q50, .int 0, .ref q51, .int 0, .ref q52, .ref q53, .int 0, .ref q54, .int 0, .ref q55, .int (-9), .int 0, .int 0, .ref q56, .ref q57, .ref q58, .ref q59, .ref q60, .int 0, .ref q61, .ref q62, .ref q63, .int 0, .ref q64, .ref q65, .ref q66, .int 0, .ref q67])), (q50, .inl (cI, 5, .inl (fun _ => 0))), (q51, .inl (cI, 12, .inl (fun _ => 0))), (q52, .inl (cI, 12, .inl (fun _ => (-9)))), (q56, .inl (cI, 12, .inl (fun _ => 0))), (q57, .inl (cI, 12, .inl (fun _ => 0))), (q58, .inl (cI, 49152, .inl (fun _ => 0))), (q59, .inl (cI, 4096, .inl (fun _ => 0))), (q67, .inl (cI, 12, .inl (fun _ => 0)))] H) (hD : va_D (fun q : Nat => s.heap.size ≤ q) [(q1, .inr (11, [.ref q2, .ref q4, .ref q6, .ref q18, .ref q23, .ref q28, .ref q33, .ref q36, .ref q37, .ref q40, .ref q44, .ref q48, .int 0])), (q2, .inr (4, [.ref q3, .int 0, .int 0])), (q3, .inl (cI, 12, .inl (fun _ => 0))), (q4, .inr (10, [.ref q5, .int 0, .int 0])), (q5, .inl (cI, 12, .inl (fun _ => (-1)))), (q6, .inr (6, [.ref q7, .ref q10, .ref q16, .ref q17, .int 0, .int 0, .int 0, .int 0, .int 0])), (q7, .inr (3, [.ref q8, .int 0])), (q8, .inl (c2, 13, .inr (.inr (.inr (.inr (fun i => if i < 13 then some (r9 i) else none)))))), (r9 0, .inl (cI, 12, .inl (fun _ => 0))), (q10, .inr (5, [.ref q11, .ref q14, .ref q15, .int 0, .int 0, .int 0])), (q11, .inr (3, [.ref q12, .int 0])), (q12, .inl (c2, 13, .inr (.inr (.inr (.inr (fun i => if i < 13 then some (r13 i) else none)))))), (r13 0, .inl (cI, 12, .inl (fun _ => 0))), (q14, .inl (cI, 4096, .inl (fun _ => 0))), (q18, .inr (9, [.ref q19, .ref q22, .int 0, .int (-1)])), (q19, .inr (3, [.ref q20, .int 0])), (q20, .inl (c2, 13, .inr (.inr (.inr (.inr (fun i => if i < 13 then some (r21 i) else none)))))), (r21 0, .inl (cI, 12, .inl (fun _ => 0))), (q23, .inr (1, [.int 0, .ref q24, .ref q25, .ref q26, .ref q27, .int 0, .int (-1), .int (-1)])), (q28, .inr (1, [.int 1, .ref q29, .ref q30, .ref q31, .ref q32, .int 0, .int (-1), .int (-1)])), (q33, .inr (7, [.ref q34, .ref q35, .int 0, .int (-1)])), (q35, .inl (cI, 12, .inl (fun _ => 0))), (q37, .inr (2, [.ref q38, .ref q39, .int 0, .int (-1)])), (q40, .inr (0, [.ref q42, .ref q41, .ref q43, .int 0, .int 0, .int 0, .int 0, .int (-1)])), (q42, .inl (cI, 4096, .inl (fun _ => 0))), (q44, .inr (0, [.ref q46, .ref q45, .ref q47, .int 0, .int 0, .int 0, .int 0, .int (-1)])), (q46, .inl (cI, 256, .inl (fun _ => 0))), (q48, .inl (cI, 5, .inl (fun _ => 0))), (q49, .inr (12, [.int 0, .ref q50, .int 0, .ref q51, .int 0, .ref q52, .ref q53, .int 0, .ref q54, .int 0, .ref q55, .int (-9), .int 0, .int 0, .ref q56, .ref q57, .ref q58, .ref q59, .ref q60, .int 0, .ref q61, .ref q62, .ref q63, .int 0, .ref q64, .ref q65, .ref q66, .int 0, .ref q67])), (q50, .inl (cI, 5, .inl (fun _ => 0))), (q51, .inl (cI, 12, .inl (fun _ => 0))), (q52, .inl (cI, 12, .inl (fun _ => (-9)))), (q56, .inl (cI, 12, .inl (fun _ => 0))), (q57, .inl (cI, 12, .inl (fun _ => 0))), (q58, .inl (cI, 49152, .inl (fun _ => 0))), (q59, .inl (cI, 4096, .inl (fun _ => 0))), (q67, .inl (cI, 12, .inl (fun _ => 0)))]) (hS : va_S (fun q : Nat => s.heap.size ≤ q) s.heap H locs) (ls : Array Slot) (hl : lv_has ls 4 [(3, .int 0), (2, .ref q49), (1, .ref q1), (0, .ref b)]) : W p l e room_1 s m #[Value.ref b] below meth c H locs 128 161896 (lw_Z below #[Value.ref b] s) (F0 m 357 ls []) := by
  obtain ⟨hx, hb, hr, hml, hown0, hts0, hX, hbl, hlocks, hgv⟩ := id C0
  have hown : s.vm.findClass RL = some m.cls := hown0
  have hts : ∀ w ∈ wsL_law, w.before #[Value.ref b] s = true := fun w h => hts0 w (wsL_law_in w h)
  have hA : ∀ q : Nat, s.heap.size ≤ q → (fun q : Nat => s.heap.size ≤ q) q := fun _ h => h
  have hbA : ¬ (fun q : Nat => s.heap.size ≤ q) b := Nat.not_le.mpr hbl
  generalize hAe : (fun q : Nat => s.heap.size ≤ q) = A at hD hS hA hbA
  have a1_rg := i_rng a1
  have a2_rg := i_rng a2
  have a3_rg := i_rng a3
  obtain ⟨a1_l, a1_h⟩ := a1_rg
  obtain ⟨a2_l, a2_h⟩ := a2_rg
  obtain ⟨a3_l, a3_h⟩ := a3_rg
  refine lv_aload_n hx hb dL_law_357 rfl (lv_at hl 2 rfl) ?_
  refine kcall_i (D := (dC, dI)) (S := Unit) (v := 1) (wc := [(q1, .inr (11, [.ref q2, .ref q4, .ref q6, .ref q18, .ref q23, .ref q28, .ref q33, .ref q36, .ref q37, .ref q40, .ref q44, .ref q48, .int 0])), (q18, .inr (9, [.ref q19, .ref q22, .int 0, .int (-1)])), (q2, .inr (4, [.ref q3, .int 0, .int 0])), (q19, .inr (3, [.ref q20, .int 0])), (q20, .inl (c2, 13, .inr (.inr (.inr (.inr (fun i => if i < 13 then some (r21 i) else none)))))), (q3, .inl (cI, 12, .inl (fun _ => 0))), (r21 0, .inl (cI, 12, .inl (fun _ => 0)))]) (wr := [(q49, .inr (12, [.int 0, .ref q50, .int 0, .ref q51, .int 0, .ref q52, .ref q53, .int 0, .ref q54, .int 0, .ref q55, .int (-9), .int 0, .int 0, .ref q56, .ref q57, .ref q58, .ref q59, .ref q60, .int 0, .ref q61, .ref q62, .ref q63, .int 0, .ref q64, .ref q65, .ref q66, .int 0, .ref q67]))]) (w1 := fun _ => []) (fun hPc hDc => va_runV (As := []) (rest := []) ⟨hx, hb, hml, hown, hts⟩ (kX11_sound_1 l dC dI cI c2 q1 q18 q2 q19 q20 q3 r21 q4 q6 q23 q28 q33 q36 q37 q40 q44 q48 q22 H.size) (cwV 0 hts gL_law_X11_sound rfl rfl rfl (by decide +kernel) ⟨Nat.le_of_ble_eq_true rfl, Nat.le_of_ble_eq_true rfl⟩) (pre_V hPc hK hDc hN (ci := 11) (q0 := 0) rfl rfl) rfl rfl hl.1 rfl (lv_room (Nat.le_of_ble_eq_true rfl)) dL_law_358 ⟨Nat.le_of_ble_eq_true rfl, Nat.le_of_ble_eq_true rfl⟩) hP hD hS hA [0, 14, 1, 15, 16, 2, 17] [28] rfl rfl (by decide) (by decide) (by decide) (fun u H locs hP hD hS => ?_)
  have hP : va_P (dC, dI) vwCl [(q49, .inr (12, [.int 0, .ref q50, .int 0, .ref q51, .int 0, .ref q52, .ref q53, .int 0, .ref q54, .int 0, .ref q55, .int (-9), .int 0, .int 0, .ref q56, .ref q57, .ref q58, .ref q59, .ref q60, .int 0, .ref q61, .ref q62, .ref q63, .int 0, .ref q64, .ref q65, .ref q66, .int 0, .ref q67]))] H := hP
  have hD : va_D A [(q49, .inr (12, [.int 0, .ref q50, .int 0, .ref q51, .int 0, .ref q52, .ref q53, .int 0, .ref q54, .int 0, .ref q55, .int (-9), .int 0, .int 0, .ref q56, .ref q57, .ref q58, .ref q59, .ref q60, .int 0, .ref q61, .ref q62, .ref q63, .int 0, .ref q64, .ref q65, .ref q66, .int 0, .ref q67]))] := hD
  refine lv_aload_n hx hb dL_law_361 rfl (lv_at hl 1 rfl) ?_
  refine kcall_i (D := (dC, dI)) (S := Unit) (v := 1) (wc := [(q49, .inr (12, [.int 0, .ref q50, .int 0, .ref q51, .int 0, .ref q52, .ref q53, .int 0, .ref q54, .int 0, .ref q55, .int (-9), .int 0, .int 0, .ref q56, .ref q57, .ref q58, .ref q59, .ref q60, .int 0, .ref q61, .ref q62, .ref q63, .int 0, .ref q64, .ref q65, .ref q66, .int 0, .ref q67]))]) (wr := []) (w1 := fun _ => []) (fun hPc hDc => va_runV (As := []) (rest := [.int 1]) ⟨hx, hb, hml, hown, hts⟩ (kX12_sound_1 l dC dI cI c2 q49 q50 q51 q52 q53 q54 q55 q56 q57 q58 q59 q60 q61 q62 q63 q64 q65 q66 q67 H.size) (cwV 0 hts gL_law_X12_sound rfl rfl rfl (by decide +kernel) ⟨Nat.le_of_ble_eq_true rfl, Nat.le_of_ble_eq_true rfl⟩) (pre_V hPc hK hDc hN (ci := 12) (q0 := 0) rfl rfl) rfl rfl hl.1 rfl (lv_room (Nat.le_of_ble_eq_true rfl)) dL_law_362 ⟨Nat.le_of_ble_eq_true rfl, Nat.le_of_ble_eq_true rfl⟩) hP hD hS hA [0] [] rfl rfl (by decide) (by decide) (by decide) (fun u H locs hP hD hS => ?_)
  have hP : va_P (dC, dI) vwCl [] H := hP
  have hD : va_D A [] := hD
  refine lv_icmp_eq (tgt := 1080) hx hb dL_law_365 (by decide) (fun _ => ?_) (fun h9 => absurd (by decide +kernel) h9)
  refine lv_iinc (v := 4) (lv' := [(3, .int 4), (2, .ref q49), (1, .ref q1), (0, .ref b)]) hx hb dL_law_1080 hl (k := 0) rfl (by decide +kernel) (by decide) rfl (fun ls hl => ?_)
  refine lv_goto (tgt := 18) hx hb dL_law_1083 (by decide) ?_
  refine lv_iload_n hx hb dL_law_18 rfl (lv_at hl 0 rfl) ?_
  refine lv_aload_n hx hb dL_law_19 rfl (lv_at hl 3 rfl) ?_
  refine va_slen hx hb hX hbl hbA hS dL_law_20 (tk_i (v := 4) (by decide +kernel) ?_)
  refine lv_iconst (v := 4) hx hb dL_law_21 (by decide) ?_
  refine lv_isub hx hb dL_law_22 (tk_i (v := 0) (by decide +kernel) ?_)
  refine lv_icmp_gt (tgt := 1086) hx hb dL_law_23 (by decide) (fun _ => ?_) (fun h9 => absurd (by decide +kernel) h9)
  refine lv_iconst (v := 1) hx hb dL_law_1086 (by decide) ?_
  refine va_forget (fun q hq => by have h9 := hS.2.2 q hq; rw [← hAe] at h9; exact h9) ?_
  refine W.widen (k := 600000) (n := 7302250) (by decide) (by decide) ?_
  exact lw_ret hx hb hr hlocks dL_law_1087
set_option maxHeartbeats 8000000 in
set_option maxRecDepth 100000 in
theorem lc_6 {p : Program} {e : Env} {s : State} {m : MethodId} {below : List Frame} {meth : Method} {c : Code} (l : Launch) {b : Nat} {xs : Nat → Int32} (C0 : lw_At p s m meth c b 4 xs) (dC : Nat → ClassId) (dI : Nat → Nat → Nat) (cI c2 : ClassId) (q1 : Nat) (q2 : Nat) (q3 : Nat) (q4 : Nat) (q5 : Nat) (q6 : Nat) (q7 : Nat) (q8 : Nat) (r9 : Nat → Nat) (q10 : Nat) (q11 : Nat) (q12 : Nat) (r13 : Nat → Nat) (q14 : Nat) (q15 : Nat) (q16 : Nat) (q17 : Nat) (q18 : Nat) (q19 : Nat) (q20 : Nat) (r21 : Nat → Nat) (q22 : Nat) (q23 : Nat) (q24 : Nat) (q25 : Nat) (q26 : Nat) (q27 : Nat) (q28 : Nat) (q29 : Nat) (q30 : Nat) (q31 : Nat) (q32 : Nat) (q33 : Nat) (q34 : Nat) (q35 : Nat) (q36 : Nat) (q37 : Nat) (q38 : Nat) (q39 : Nat) (q40 : Nat) (q41 : Nat) (q42 : Nat) (q43 : Nat) (q44 : Nat) (q45 : Nat) (q46 : Nat) (q47 : Nat) (q48 : Nat) (q49 : Nat) (q50 : Nat) (q51 : Nat) (q52 : Nat) (q53 : Nat) (q54 : Nat) (q55 : Nat) (q56 : Nat) (q57 : Nat) (q58 : Nat) (q59 : Nat) (q60 : Nat) (q61 : Nat) (q62 : Nat) (q63 : Nat) (q64 : Nat) (q65 : Nat) (q66 : Nat) (q67 : Nat) (a1 a2 a3 : Int32) (ha1 : xs (Int32.toNatClampNeg 1) = a1) (ha2 : xs (Int32.toNatClampNeg 2) = a2) (ha3 : xs (Int32.toNatClampNeg 3) = a3) (hK : va_K (dC, dI) vwCl [(cI, .int), (c2, .array .int)] s) (hN : nsAll s) (H : Heap) (locs : List Loc) (hP : va_P (dC, dI) vwCl [(q1, .inr (11, [.ref q2, .ref q4, .ref q6, .ref q18, .ref q23, .ref q28, .ref q33, .ref q36, .ref q37, .ref q40, .ref q44, .ref q48, .int 0])), (q2, .inr (4, [.ref q3, .int 0, .int 0])), (q3, .inl (cI, 12, .inl (fun _ => 0))), (q4, .inr (10, [.ref q5, .int 0, .int 0])), (q5, .inl (cI, 12, .inl (fun _ => (-1)))), (q6, .inr (6, [.ref q7, .ref q10, .ref q16, .ref q17, .int 0, .int 0, .int 0, .int 0, .int 0])), (q7, .inr (3, [.ref q8, .int 0])), (q8, .inl (c2, 13, .inr (.inr (.inr (.inr (fun i => if i < 13 then some (r9 i) else none)))))), (r9 0, .inl (cI, 12, .inl (fun _ => 0))), (q10, .inr (5, [.ref q11, .ref q14, .ref q15, .int 0, .int 0, .int 0])), (q11, .inr (3, [.ref q12, .int 0])), (q12, .inl (c2, 13, .inr (.inr (.inr (.inr (fun i => if i < 13 then some (r13 i) else none)))))), (r13 0, .inl (cI, 12, .inl (fun _ => 0))), (q14, .inl (cI, 4096, .inl (fun _ => 0))), (q18, .inr (9, [.ref q19, .ref q22, .int 0, .int (-1)])), (q19, .inr (3, [.ref q20, .int 0])), (q20, .inl (c2, 13, .inr (.inr (.inr (.inr (fun i => if i < 13 then some (r21 i) else none)))))), (r21 0, .inl (cI, 12, .inl (fun _ => 0))), (q23, .inr (1, [.int 0, .ref q24, .ref q25, .ref q26, .ref q27, .int 0, .int (-1), .int (-1)])), (q28, .inr (1, [.int 1, .ref q29, .ref q30, .ref q31, .ref q32, .int 0, .int (-1), .int (-1)])), (q33, .inr (7, [.ref q34, .ref q35, .int 0, .int (-1)])), (q35, .inl (cI, 12, .inl (fun _ => 0))), (q37, .inr (2, [.ref q38, .ref q39, .int 0, .int (-1)])), (q40, .inr (0, [.ref q42, .ref q41, .ref q43, .int 0, .int 0, .int 0, .int 0, .int (-1)])), (q42, .inl (cI, 4096, .inl (fun _ => 0))), (q44, .inr (0, [.ref q46, .ref q45, .ref q47, .int 0, .int 0, .int 0, .int 0, .int (-1)])), (q46, .inl (cI, 256, .inl (fun _ => 0))), (q48, .inl (cI, 5, .inl (fun _ => 0))), (q49, .inr (12, [.int 0, .ref q50, .int 0, .ref q51, .int 0, .ref q52, .ref q53, .int 0, .ref q54, .int 0, .ref q55, .int (-9), .int 0, .int 0, .ref q56, .ref q57, .ref q58, .ref q59, .ref q60, .int 0, .ref q61, .ref q62, .ref q63, .int 0, .ref q64, .ref q65, .ref q66, .int 0, .ref q67])), (q50, .inl (cI, 5, .inl (fun _ => 0))), (q51, .inl (cI, 12, .inl (fun _ => 0))), (q52, .inl (cI, 12, .inl (fun _ => (-9)))), (q56, .inl (cI, 12, .inl (fun _ => 0))), (q57, .inl (cI, 12, .inl (fun _ => 0))), (q58, .inl (cI, 49152, .inl (fun _ => 0))), (q59, .inl (cI, 4096, .inl (fun _ => 0))), (q67, .inl (cI, 12, .inl (fun _ => 0)))] H) (hD : va_D (fun q : Nat => s.heap.size ≤ q) [(q1, .inr (11, [.ref q2, .ref q4, .ref q6, .ref q18, .ref q23, .ref q28, .ref q33, .ref q36, .ref q37, .ref q40, .ref q44, .ref q48, .int 0])), (q2, .inr (4, [.ref q3, .int 0, .int 0])), (q3, .inl (cI, 12, .inl (fun _ => 0))), (q4, .inr (10, [.ref q5, .int 0, .int 0])), (q5, .inl (cI, 12, .inl (fun _ => (-1)))), (q6, .inr (6, [.ref q7, .ref q10, .ref q16, .ref q17, .int 0, .int 0, .int 0, .int 0, .int 0])), (q7, .inr (3, [.ref q8, .int 0])), (q8, .inl (c2, 13, .inr (.inr (.inr (.inr (fun i => if i < 13 then some (r9 i) else none)))))), (r9 0, .inl (cI, 12, .inl (fun _ => 0))), (q10, .inr (5, [.ref q11, .ref q14, .ref q15, .int 0, .int 0, .int 0])), (q11, .inr (3, [.ref q12, .int 0])), (q12, .inl (c2, 13, .inr (.inr (.inr (.inr (fun i => if i < 13 then some (r13 i) else none)))))), (r13 0, .inl (cI, 12, .inl (fun _ => 0))), (q14, .inl (cI, 4096, .inl (fun _ => 0))), (q18, .inr (9, [.ref q19, .ref q22, .int 0, .int (-1)])), (q19, .inr (3, [.ref q20, .int 0])), (q20, .inl (c2, 13, .inr (.inr (.inr (.inr (fun i => if i < 13 then some (r21 i) else none)))))), (r21 0, .inl (cI, 12, .inl (fun _ => 0))), (q23, .inr (1, [.int 0, .ref q24, .ref q25, .ref q26, .ref q27, .int 0, .int (-1), .int (-1)])), (q28, .inr (1, [.int 1, .ref q29, .ref q30, .ref q31, .ref q32, .int 0, .int (-1), .int (-1)])), (q33, .inr (7, [.ref q34, .ref q35, .int 0, .int (-1)])), (q35, .inl (cI, 12, .inl (fun _ => 0))), (q37, .inr (2, [.ref q38, .ref q39, .int 0, .int (-1)])), (q40, .inr (0, [.ref q42, .ref q41, .ref q43, .int 0, .int 0, .int 0, .int 0, .int (-1)])), (q42, .inl (cI, 4096, .inl (fun _ => 0))), (q44, .inr (0, [.ref q46, .ref q45, .ref q47, .int 0, .int 0, .int 0, .int 0, .int (-1)])), (q46, .inl (cI, 256, .inl (fun _ => 0))), (q48, .inl (cI, 5, .inl (fun _ => 0))), (q49, .inr (12, [.int 0, .ref q50, .int 0, .ref q51, .int 0, .ref q52, .ref q53, .int 0, .ref q54, .int 0, .ref q55, .int (-9), .int 0, .int 0, .ref q56, .ref q57, .ref q58, .ref q59, .ref q60, .int 0, .ref q61, .ref q62, .ref q63, .int 0, .ref q64, .ref q65, .ref q66, .int 0, .ref q67])), (q50, .inl (cI, 5, .inl (fun _ => 0))), (q51, .inl (cI, 12, .inl (fun _ => 0))), (q52, .inl (cI, 12, .inl (fun _ => (-9)))), (q56, .inl (cI, 12, .inl (fun _ => 0))), (q57, .inl (cI, 12, .inl (fun _ => 0))), (q58, .inl (cI, 49152, .inl (fun _ => 0))), (q59, .inl (cI, 4096, .inl (fun _ => 0))), (q67, .inl (cI, 12, .inl (fun _ => 0)))]) (hS : va_S (fun q : Nat => s.heap.size ≤ q) s.heap H locs) (ls : Array Slot) (hl : lv_has ls 4 [(3, .int 0), (2, .ref q49), (1, .ref q1), (0, .ref b)]) : W p l e room_1 s m #[Value.ref b] below meth c H locs 128 161896 (lw_Z below #[Value.ref b] s) (F0 m 370 ls []) := by
  obtain ⟨hx, hb, hr, hml, hown0, hts0, hX, hbl, hlocks, hgv⟩ := id C0
  have hown : s.vm.findClass RL = some m.cls := hown0
  have hts : ∀ w ∈ wsL_law, w.before #[Value.ref b] s = true := fun w h => hts0 w (wsL_law_in w h)
  have hA : ∀ q : Nat, s.heap.size ≤ q → (fun q : Nat => s.heap.size ≤ q) q := fun _ h => h
  have hbA : ¬ (fun q : Nat => s.heap.size ≤ q) b := Nat.not_le.mpr hbl
  generalize hAe : (fun q : Nat => s.heap.size ≤ q) = A at hD hS hA hbA
  have a1_rg := i_rng a1
  have a2_rg := i_rng a2
  have a3_rg := i_rng a3
  obtain ⟨a1_l, a1_h⟩ := a1_rg
  obtain ⟨a2_l, a2_h⟩ := a2_rg
  obtain ⟨a3_l, a3_h⟩ := a3_rg
  rcases (show a1.toInt ≤ (-1) ∨ 0 ≤ a1.toInt by omega) with g_a1_0 | g_a1_0
  ·
    refine lv_aload_n hx hb dL_law_370 rfl (lv_at hl 2 rfl) ?_
    refine lv_aload_n hx hb dL_law_371 rfl (lv_at hl 3 rfl) ?_
    refine lv_iload_n hx hb dL_law_372 rfl (lv_at hl 0 rfl) ?_
    refine lv_iconst (v := 1) hx hb dL_law_373 (by decide) ?_
    refine lv_iadd hx hb dL_law_374 (tk_i (v := 1) (by decide +kernel) ?_)
    refine va_sld hx hb hX hbl hbA hS (vin (by decide +kernel)) dL_law_375 (tk_i (v := a1) ha1 ?_)
    refine kcall_i (D := (dC, dI)) (S := Unit) (v := (-9)) (wc := [(q1, .inr (11, [.ref q2, .ref q4, .ref q6, .ref q18, .ref q23, .ref q28, .ref q33, .ref q36, .ref q37, .ref q40, .ref q44, .ref q48, .int 0])), (q18, .inr (9, [.ref q19, .ref q22, .int 0, .int (-1)])), (q2, .inr (4, [.ref q3, .int 0, .int 0])), (q19, .inr (3, [.ref q20, .int 0])), (q20, .inl (c2, 13, .inr (.inr (.inr (.inr (fun i => if i < 13 then some (r21 i) else none)))))), (q3, .inl (cI, 12, .inl (fun _ => 0))), (r21 0, .inl (cI, 12, .inl (fun _ => 0)))]) (wr := [(q49, .inr (12, [.int 0, .ref q50, .int 0, .ref q51, .int 0, .ref q52, .ref q53, .int 0, .ref q54, .int 0, .ref q55, .int (-9), .int 0, .int 0, .ref q56, .ref q57, .ref q58, .ref q59, .ref q60, .int 0, .ref q61, .ref q62, .ref q63, .int 0, .ref q64, .ref q65, .ref q66, .int 0, .ref q67]))]) (w1 := fun _ => []) (fun hPc hDc => va_runV (As := [.int a1]) (rest := []) ⟨hx, hb, hml, hown, hts⟩ (kX11_hole_1 l dC dI cI c2 q1 q18 q2 q19 q20 q3 r21 q4 q6 q23 q28 q33 q36 q37 q40 q44 q48 q22 H.size a1 (by omega) (by omega)) (cwV 1 hts gL_law_X11_hole rfl rfl rfl (by decide +kernel) ⟨Nat.le_of_ble_eq_true rfl, Nat.le_of_ble_eq_true rfl⟩) (pre_V hPc hK hDc hN (ci := 11) (q0 := 0) rfl rfl) rfl rfl hl.1 rfl (lv_room (Nat.le_of_ble_eq_true rfl)) dL_law_376 ⟨Nat.le_of_ble_eq_true rfl, Nat.le_of_ble_eq_true rfl⟩) hP hD hS hA [0, 14, 1, 15, 16, 2, 17] [28] rfl rfl (by decide) (by decide) (by decide) (fun u H locs hP hD hS => ?_)
    have hP : va_P (dC, dI) vwCl [(q49, .inr (12, [.int 0, .ref q50, .int 0, .ref q51, .int 0, .ref q52, .ref q53, .int 0, .ref q54, .int 0, .ref q55, .int (-9), .int 0, .int 0, .ref q56, .ref q57, .ref q58, .ref q59, .ref q60, .int 0, .ref q61, .ref q62, .ref q63, .int 0, .ref q64, .ref q65, .ref q66, .int 0, .ref q67]))] H := hP
    have hD : va_D A [(q49, .inr (12, [.int 0, .ref q50, .int 0, .ref q51, .int 0, .ref q52, .ref q53, .int 0, .ref q54, .int 0, .ref q55, .int (-9), .int 0, .int 0, .ref q56, .ref q57, .ref q58, .ref q59, .ref q60, .int 0, .ref q61, .ref q62, .ref q63, .int 0, .ref q64, .ref q65, .ref q66, .int 0, .ref q67]))] := hD
    refine lv_aload_n hx hb dL_law_379 rfl (lv_at hl 1 rfl) ?_
    refine lv_aload_n hx hb dL_law_380 rfl (lv_at hl 3 rfl) ?_
    refine lv_iload_n hx hb dL_law_381 rfl (lv_at hl 0 rfl) ?_
    refine lv_iconst (v := 1) hx hb dL_law_382 (by decide) ?_
    refine lv_iadd hx hb dL_law_383 (tk_i (v := 1) (by decide +kernel) ?_)
    refine va_sld hx hb hX hbl hbA hS (vin (by decide +kernel)) dL_law_384 (tk_i (v := a1) ha1 ?_)
    refine kcall_i (D := (dC, dI)) (S := Unit) (v := (-9)) (wc := [(q49, .inr (12, [.int 0, .ref q50, .int 0, .ref q51, .int 0, .ref q52, .ref q53, .int 0, .ref q54, .int 0, .ref q55, .int (-9), .int 0, .int 0, .ref q56, .ref q57, .ref q58, .ref q59, .ref q60, .int 0, .ref q61, .ref q62, .ref q63, .int 0, .ref q64, .ref q65, .ref q66, .int 0, .ref q67]))]) (wr := []) (w1 := fun _ => []) (fun hPc hDc => va_runV (As := [.int a1]) (rest := [.int (-9)]) ⟨hx, hb, hml, hown, hts⟩ (kX12_hole_1 l dC dI cI c2 q49 q50 q51 q52 q53 q54 q55 q56 q57 q58 q59 q60 q61 q62 q63 q64 q65 q66 q67 H.size a1 (by omega) (by omega)) (cwV 1 hts gL_law_X12_hole rfl rfl rfl (by decide +kernel) ⟨Nat.le_of_ble_eq_true rfl, Nat.le_of_ble_eq_true rfl⟩) (pre_V hPc hK hDc hN (ci := 12) (q0 := 0) rfl rfl) rfl rfl hl.1 rfl (lv_room (Nat.le_of_ble_eq_true rfl)) dL_law_385 ⟨Nat.le_of_ble_eq_true rfl, Nat.le_of_ble_eq_true rfl⟩) hP hD hS hA [0] [] rfl rfl (by decide) (by decide) (by decide) (fun u H locs hP hD hS => ?_)
    have hP : va_P (dC, dI) vwCl [] H := hP
    have hD : va_D A [] := hD
    refine lv_icmp_eq (tgt := 1080) hx hb dL_law_388 (by decide) (fun _ => ?_) (fun h9 => absurd (by decide +kernel) h9)
    refine lv_iinc (v := 4) (lv' := [(3, .int 4), (2, .ref q49), (1, .ref q1), (0, .ref b)]) hx hb dL_law_1080 hl (k := 0) rfl (by decide +kernel) (by decide) rfl (fun ls hl => ?_)
    refine lv_goto (tgt := 18) hx hb dL_law_1083 (by decide) ?_
    refine lv_iload_n hx hb dL_law_18 rfl (lv_at hl 0 rfl) ?_
    refine lv_aload_n hx hb dL_law_19 rfl (lv_at hl 3 rfl) ?_
    refine va_slen hx hb hX hbl hbA hS dL_law_20 (tk_i (v := 4) (by decide +kernel) ?_)
    refine lv_iconst (v := 4) hx hb dL_law_21 (by decide) ?_
    refine lv_isub hx hb dL_law_22 (tk_i (v := 0) (by decide +kernel) ?_)
    refine lv_icmp_gt (tgt := 1086) hx hb dL_law_23 (by decide) (fun _ => ?_) (fun h9 => absurd (by decide +kernel) h9)
    refine lv_iconst (v := 1) hx hb dL_law_1086 (by decide) ?_
    refine va_forget (fun q hq => by have h9 := hS.2.2 q hq; rw [← hAe] at h9; exact h9) ?_
    refine W.widen (k := 600000) (n := 7302250) (by decide) (by decide) ?_
    exact lw_ret hx hb hr hlocks dL_law_1087
  ·
    refine lv_aload_n hx hb dL_law_370 rfl (lv_at hl 2 rfl) ?_
    refine lv_aload_n hx hb dL_law_371 rfl (lv_at hl 3 rfl) ?_
    refine lv_iload_n hx hb dL_law_372 rfl (lv_at hl 0 rfl) ?_
    refine lv_iconst (v := 1) hx hb dL_law_373 (by decide) ?_
    refine lv_iadd hx hb dL_law_374 (tk_i (v := 1) (by decide +kernel) ?_)
    refine va_sld hx hb hX hbl hbA hS (vin (by decide +kernel)) dL_law_375 (tk_i (v := a1) ha1 ?_)
    refine kcall_i (D := (dC, dI)) (S := Unit) (v := (-9)) (wc := [(q1, .inr (11, [.ref q2, .ref q4, .ref q6, .ref q18, .ref q23, .ref q28, .ref q33, .ref q36, .ref q37, .ref q40, .ref q44, .ref q48, .int 0])), (q18, .inr (9, [.ref q19, .ref q22, .int 0, .int (-1)])), (q2, .inr (4, [.ref q3, .int 0, .int 0])), (q19, .inr (3, [.ref q20, .int 0])), (q20, .inl (c2, 13, .inr (.inr (.inr (.inr (fun i => if i < 13 then some (r21 i) else none)))))), (q3, .inl (cI, 12, .inl (fun _ => 0))), (r21 0, .inl (cI, 12, .inl (fun _ => 0)))]) (wr := [(q49, .inr (12, [.int 0, .ref q50, .int 0, .ref q51, .int 0, .ref q52, .ref q53, .int 0, .ref q54, .int 0, .ref q55, .int (-9), .int 0, .int 0, .ref q56, .ref q57, .ref q58, .ref q59, .ref q60, .int 0, .ref q61, .ref q62, .ref q63, .int 0, .ref q64, .ref q65, .ref q66, .int 0, .ref q67]))]) (w1 := fun _ => []) (fun hPc hDc => va_runV (As := [.int a1]) (rest := []) ⟨hx, hb, hml, hown, hts⟩ (kX11_hole_2 l dC dI cI c2 q1 q18 q2 q19 q20 q3 r21 q4 q6 q23 q28 q33 q36 q37 q40 q44 q48 q22 H.size a1 (by omega) (by omega)) (cwV 1 hts gL_law_X11_hole rfl rfl rfl (by decide +kernel) ⟨Nat.le_of_ble_eq_true rfl, Nat.le_of_ble_eq_true rfl⟩) (pre_V hPc hK hDc hN (ci := 11) (q0 := 0) rfl rfl) rfl rfl hl.1 rfl (lv_room (Nat.le_of_ble_eq_true rfl)) dL_law_376 ⟨Nat.le_of_ble_eq_true rfl, Nat.le_of_ble_eq_true rfl⟩) hP hD hS hA [0, 14, 1, 15, 16, 2, 17] [28] rfl rfl (by decide) (by decide) (by decide) (fun u H locs hP hD hS => ?_)
    have hP : va_P (dC, dI) vwCl [(q49, .inr (12, [.int 0, .ref q50, .int 0, .ref q51, .int 0, .ref q52, .ref q53, .int 0, .ref q54, .int 0, .ref q55, .int (-9), .int 0, .int 0, .ref q56, .ref q57, .ref q58, .ref q59, .ref q60, .int 0, .ref q61, .ref q62, .ref q63, .int 0, .ref q64, .ref q65, .ref q66, .int 0, .ref q67]))] H := hP
    have hD : va_D A [(q49, .inr (12, [.int 0, .ref q50, .int 0, .ref q51, .int 0, .ref q52, .ref q53, .int 0, .ref q54, .int 0, .ref q55, .int (-9), .int 0, .int 0, .ref q56, .ref q57, .ref q58, .ref q59, .ref q60, .int 0, .ref q61, .ref q62, .ref q63, .int 0, .ref q64, .ref q65, .ref q66, .int 0, .ref q67]))] := hD
    refine lv_aload_n hx hb dL_law_379 rfl (lv_at hl 1 rfl) ?_
    refine lv_aload_n hx hb dL_law_380 rfl (lv_at hl 3 rfl) ?_
    refine lv_iload_n hx hb dL_law_381 rfl (lv_at hl 0 rfl) ?_
    refine lv_iconst (v := 1) hx hb dL_law_382 (by decide) ?_
    refine lv_iadd hx hb dL_law_383 (tk_i (v := 1) (by decide +kernel) ?_)
    refine va_sld hx hb hX hbl hbA hS (vin (by decide +kernel)) dL_law_384 (tk_i (v := a1) ha1 ?_)
    refine kcall_i (D := (dC, dI)) (S := Unit) (v := (-9)) (wc := [(q49, .inr (12, [.int 0, .ref q50, .int 0, .ref q51, .int 0, .ref q52, .ref q53, .int 0, .ref q54, .int 0, .ref q55, .int (-9), .int 0, .int 0, .ref q56, .ref q57, .ref q58, .ref q59, .ref q60, .int 0, .ref q61, .ref q62, .ref q63, .int 0, .ref q64, .ref q65, .ref q66, .int 0, .ref q67]))]) (wr := []) (w1 := fun _ => []) (fun hPc hDc => va_runV (As := [.int a1]) (rest := [.int (-9)]) ⟨hx, hb, hml, hown, hts⟩ (kX12_hole_2 l dC dI cI c2 q49 q50 q51 q52 q53 q54 q55 q56 q57 q58 q59 q60 q61 q62 q63 q64 q65 q66 q67 H.size a1 (by omega) (by omega)) (cwV 1 hts gL_law_X12_hole rfl rfl rfl (by decide +kernel) ⟨Nat.le_of_ble_eq_true rfl, Nat.le_of_ble_eq_true rfl⟩) (pre_V hPc hK hDc hN (ci := 12) (q0 := 0) rfl rfl) rfl rfl hl.1 rfl (lv_room (Nat.le_of_ble_eq_true rfl)) dL_law_385 ⟨Nat.le_of_ble_eq_true rfl, Nat.le_of_ble_eq_true rfl⟩) hP hD hS hA [0] [] rfl rfl (by decide) (by decide) (by decide) (fun u H locs hP hD hS => ?_)
    have hP : va_P (dC, dI) vwCl [] H := hP
    have hD : va_D A [] := hD
    refine lv_icmp_eq (tgt := 1080) hx hb dL_law_388 (by decide) (fun _ => ?_) (fun h9 => absurd (by decide +kernel) h9)
    refine lv_iinc (v := 4) (lv' := [(3, .int 4), (2, .ref q49), (1, .ref q1), (0, .ref b)]) hx hb dL_law_1080 hl (k := 0) rfl (by decide +kernel) (by decide) rfl (fun ls hl => ?_)
    refine lv_goto (tgt := 18) hx hb dL_law_1083 (by decide) ?_
    refine lv_iload_n hx hb dL_law_18 rfl (lv_at hl 0 rfl) ?_
    refine lv_aload_n hx hb dL_law_19 rfl (lv_at hl 3 rfl) ?_
    refine va_slen hx hb hX hbl hbA hS dL_law_20 (tk_i (v := 4) (by decide +kernel) ?_)
    refine lv_iconst (v := 4) hx hb dL_law_21 (by decide) ?_
    refine lv_isub hx hb dL_law_22 (tk_i (v := 0) (by decide +kernel) ?_)
    refine lv_icmp_gt (tgt := 1086) hx hb dL_law_23 (by decide) (fun _ => ?_) (fun h9 => absurd (by decide +kernel) h9)
    refine lv_iconst (v := 1) hx hb dL_law_1086 (by decide) ?_
    refine va_forget (fun q hq => by have h9 := hS.2.2 q hq; rw [← hAe] at h9; exact h9) ?_
    refine W.widen (k := 600000) (n := 7302250) (by decide) (by decide) ?_
    exact lw_ret hx hb hr hlocks dL_law_1087
set_option maxHeartbeats 8000000 in
set_option maxRecDepth 100000 in
theorem lc_7 {p : Program} {e : Env} {s : State} {m : MethodId} {below : List Frame} {meth : Method} {c : Code} (l : Launch) {b : Nat} {xs : Nat → Int32} (C0 : lw_At p s m meth c b 4 xs) (dC : Nat → ClassId) (dI : Nat → Nat → Nat) (cI c2 : ClassId) (q1 : Nat) (q2 : Nat) (q3 : Nat) (q4 : Nat) (q5 : Nat) (q6 : Nat) (q7 : Nat) (q8 : Nat) (r9 : Nat → Nat) (q10 : Nat) (q11 : Nat) (q12 : Nat) (r13 : Nat → Nat) (q14 : Nat) (q15 : Nat) (q16 : Nat) (q17 : Nat) (q18 : Nat) (q19 : Nat) (q20 : Nat) (r21 : Nat → Nat) (q22 : Nat) (q23 : Nat) (q24 : Nat) (q25 : Nat) (q26 : Nat) (q27 : Nat) (q28 : Nat) (q29 : Nat) (q30 : Nat) (q31 : Nat) (q32 : Nat) (q33 : Nat) (q34 : Nat) (q35 : Nat) (q36 : Nat) (q37 : Nat) (q38 : Nat) (q39 : Nat) (q40 : Nat) (q41 : Nat) (q42 : Nat) (q43 : Nat) (q44 : Nat) (q45 : Nat) (q46 : Nat) (q47 : Nat) (q48 : Nat) (q49 : Nat) (q50 : Nat) (q51 : Nat) (q52 : Nat) (q53 : Nat) (q54 : Nat) (q55 : Nat) (q56 : Nat) (q57 : Nat) (q58 : Nat) (q59 : Nat) (q60 : Nat) (q61 : Nat) (q62 : Nat) (q63 : Nat) (q64 : Nat) (q65 : Nat) (q66 : Nat) (q67 : Nat) (a1 a2 a3 : Int32) (ha1 : xs (Int32.toNatClampNeg 1) = a1) (ha2 : xs (Int32.toNatClampNeg 2) = a2) (ha3 : xs (Int32.toNatClampNeg 3) = a3) (hK : va_K (dC, dI) vwCl [(cI, .int), (c2, .array .int)] s) (hN : nsAll s) (H : Heap) (locs : List Loc) (hP : va_P (dC, dI) vwCl [(q1, .inr (11, [.ref q2, .ref q4, .ref q6, .ref q18, .ref q23, .ref q28, .ref q33, .ref q36, .ref q37, .ref q40, .ref q44, .ref q48, .int 0])), (q2, .inr (4, [.ref q3, .int 0, .int 0])), (q3, .inl (cI, 12, .inl (fun _ => 0))), (q4, .inr (10, [.ref q5, .int 0, .int 0])), (q5, .inl (cI, 12, .inl (fun _ => (-1)))), (q6, .inr (6, [.ref q7, .ref q10, .ref q16, .ref q17, .int 0, .int 0, .int 0, .int 0, .int 0])), (q7, .inr (3, [.ref q8, .int 0])), (q8, .inl (c2, 13, .inr (.inr (.inr (.inr (fun i => if i < 13 then some (r9 i) else none)))))), (r9 0, .inl (cI, 12, .inl (fun _ => 0))), (q10, .inr (5, [.ref q11, .ref q14, .ref q15, .int 0, .int 0, .int 0])), (q11, .inr (3, [.ref q12, .int 0])), (q12, .inl (c2, 13, .inr (.inr (.inr (.inr (fun i => if i < 13 then some (r13 i) else none)))))), (r13 0, .inl (cI, 12, .inl (fun _ => 0))), (q14, .inl (cI, 4096, .inl (fun _ => 0))), (q18, .inr (9, [.ref q19, .ref q22, .int 0, .int (-1)])), (q19, .inr (3, [.ref q20, .int 0])), (q20, .inl (c2, 13, .inr (.inr (.inr (.inr (fun i => if i < 13 then some (r21 i) else none)))))), (r21 0, .inl (cI, 12, .inl (fun _ => 0))), (q23, .inr (1, [.int 0, .ref q24, .ref q25, .ref q26, .ref q27, .int 0, .int (-1), .int (-1)])), (q28, .inr (1, [.int 1, .ref q29, .ref q30, .ref q31, .ref q32, .int 0, .int (-1), .int (-1)])), (q33, .inr (7, [.ref q34, .ref q35, .int 0, .int (-1)])), (q35, .inl (cI, 12, .inl (fun _ => 0))), (q37, .inr (2, [.ref q38, .ref q39, .int 0, .int (-1)])), (q40, .inr (0, [.ref q42, .ref q41, .ref q43, .int 0, .int 0, .int 0, .int 0, .int (-1)])), (q42, .inl (cI, 4096, .inl (fun _ => 0))), (q44, .inr (0, [.ref q46, .ref q45, .ref q47, .int 0, .int 0, .int 0, .int 0, .int (-1)])), (q46, .inl (cI, 256, .inl (fun _ => 0))), (q48, .inl (cI, 5, .inl (fun _ => 0))), (q49, .inr (12, [.int 0, .ref q50, .int 0, .ref q51, .int 0, .ref q52, .ref q53, .int 0, .ref q54, .int 0, .ref q55, .int (-9), .int 0, .int 0, .ref q56, .ref q57, .ref q58, .ref q59, .ref q60, .int 0, .ref q61, .ref q62, .ref q63, .int 0, .ref q64, .ref q65, .ref q66, .int 0, .ref q67])), (q50, .inl (cI, 5, .inl (fun _ => 0))), (q51, .inl (cI, 12, .inl (fun _ => 0))), (q52, .inl (cI, 12, .inl (fun _ => (-9)))), (q56, .inl (cI, 12, .inl (fun _ => 0))), (q57, .inl (cI, 12, .inl (fun _ => 0))), (q58, .inl (cI, 49152, .inl (fun _ => 0))), (q59, .inl (cI, 4096, .inl (fun _ => 0))), (q67, .inl (cI, 12, .inl (fun _ => 0)))] H) (hD : va_D (fun q : Nat => s.heap.size ≤ q) [(q1, .inr (11, [.ref q2, .ref q4, .ref q6, .ref q18, .ref q23, .ref q28, .ref q33, .ref q36, .ref q37, .ref q40, .ref q44, .ref q48, .int 0])), (q2, .inr (4, [.ref q3, .int 0, .int 0])), (q3, .inl (cI, 12, .inl (fun _ => 0))), (q4, .inr (10, [.ref q5, .int 0, .int 0])), (q5, .inl (cI, 12, .inl (fun _ => (-1)))), (q6, .inr (6, [.ref q7, .ref q10, .ref q16, .ref q17, .int 0, .int 0, .int 0, .int 0, .int 0])), (q7, .inr (3, [.ref q8, .int 0])), (q8, .inl (c2, 13, .inr (.inr (.inr (.inr (fun i => if i < 13 then some (r9 i) else none)))))), (r9 0, .inl (cI, 12, .inl (fun _ => 0))), (q10, .inr (5, [.ref q11, .ref q14, .ref q15, .int 0, .int 0, .int 0])), (q11, .inr (3, [.ref q12, .int 0])), (q12, .inl (c2, 13, .inr (.inr (.inr (.inr (fun i => if i < 13 then some (r13 i) else none)))))), (r13 0, .inl (cI, 12, .inl (fun _ => 0))), (q14, .inl (cI, 4096, .inl (fun _ => 0))), (q18, .inr (9, [.ref q19, .ref q22, .int 0, .int (-1)])), (q19, .inr (3, [.ref q20, .int 0])), (q20, .inl (c2, 13, .inr (.inr (.inr (.inr (fun i => if i < 13 then some (r21 i) else none)))))), (r21 0, .inl (cI, 12, .inl (fun _ => 0))), (q23, .inr (1, [.int 0, .ref q24, .ref q25, .ref q26, .ref q27, .int 0, .int (-1), .int (-1)])), (q28, .inr (1, [.int 1, .ref q29, .ref q30, .ref q31, .ref q32, .int 0, .int (-1), .int (-1)])), (q33, .inr (7, [.ref q34, .ref q35, .int 0, .int (-1)])), (q35, .inl (cI, 12, .inl (fun _ => 0))), (q37, .inr (2, [.ref q38, .ref q39, .int 0, .int (-1)])), (q40, .inr (0, [.ref q42, .ref q41, .ref q43, .int 0, .int 0, .int 0, .int 0, .int (-1)])), (q42, .inl (cI, 4096, .inl (fun _ => 0))), (q44, .inr (0, [.ref q46, .ref q45, .ref q47, .int 0, .int 0, .int 0, .int 0, .int (-1)])), (q46, .inl (cI, 256, .inl (fun _ => 0))), (q48, .inl (cI, 5, .inl (fun _ => 0))), (q49, .inr (12, [.int 0, .ref q50, .int 0, .ref q51, .int 0, .ref q52, .ref q53, .int 0, .ref q54, .int 0, .ref q55, .int (-9), .int 0, .int 0, .ref q56, .ref q57, .ref q58, .ref q59, .ref q60, .int 0, .ref q61, .ref q62, .ref q63, .int 0, .ref q64, .ref q65, .ref q66, .int 0, .ref q67])), (q50, .inl (cI, 5, .inl (fun _ => 0))), (q51, .inl (cI, 12, .inl (fun _ => 0))), (q52, .inl (cI, 12, .inl (fun _ => (-9)))), (q56, .inl (cI, 12, .inl (fun _ => 0))), (q57, .inl (cI, 12, .inl (fun _ => 0))), (q58, .inl (cI, 49152, .inl (fun _ => 0))), (q59, .inl (cI, 4096, .inl (fun _ => 0))), (q67, .inl (cI, 12, .inl (fun _ => 0)))]) (hS : va_S (fun q : Nat => s.heap.size ≤ q) s.heap H locs) (ls : Array Slot) (hl : lv_has ls 4 [(3, .int 0), (2, .ref q49), (1, .ref q1), (0, .ref b)]) : W p l e room_1 s m #[Value.ref b] below meth c H locs 128 161896 (lw_Z below #[Value.ref b] s) (F0 m 393 ls []) := by
  obtain ⟨hx, hb, hr, hml, hown0, hts0, hX, hbl, hlocks, hgv⟩ := id C0
  have hown : s.vm.findClass RL = some m.cls := hown0
  have hts : ∀ w ∈ wsL_law, w.before #[Value.ref b] s = true := fun w h => hts0 w (wsL_law_in w h)
  have hA : ∀ q : Nat, s.heap.size ≤ q → (fun q : Nat => s.heap.size ≤ q) q := fun _ h => h
  have hbA : ¬ (fun q : Nat => s.heap.size ≤ q) b := Nat.not_le.mpr hbl
  generalize hAe : (fun q : Nat => s.heap.size ≤ q) = A at hD hS hA hbA
  have a1_rg := i_rng a1
  have a2_rg := i_rng a2
  have a3_rg := i_rng a3
  obtain ⟨a1_l, a1_h⟩ := a1_rg
  obtain ⟨a2_l, a2_h⟩ := a2_rg
  obtain ⟨a3_l, a3_h⟩ := a3_rg
  refine lv_aload_n hx hb dL_law_393 rfl (lv_at hl 2 rfl) ?_
  refine kcall_i (D := (dC, dI)) (S := Unit) (v := 0) (wc := [(q1, .inr (11, [.ref q2, .ref q4, .ref q6, .ref q18, .ref q23, .ref q28, .ref q33, .ref q36, .ref q37, .ref q40, .ref q44, .ref q48, .int 0])), (q4, .inr (10, [.ref q5, .int 0, .int 0])), (q2, .inr (4, [.ref q3, .int 0, .int 0])), (q3, .inl (cI, 12, .inl (fun _ => 0))), (q6, .inr (6, [.ref q7, .ref q10, .ref q16, .ref q17, .int 0, .int 0, .int 0, .int 0, .int 0])), (q5, .inl (cI, 12, .inl (fun _ => (-1))))]) (wr := [(q49, .inr (12, [.int 0, .ref q50, .int 0, .ref q51, .int 0, .ref q52, .ref q53, .int 0, .ref q54, .int 0, .ref q55, .int (-9), .int 0, .int 0, .ref q56, .ref q57, .ref q58, .ref q59, .ref q60, .int 0, .ref q61, .ref q62, .ref q63, .int 0, .ref q64, .ref q65, .ref q66, .int 0, .ref q67])), (q51, .inl (cI, 12, .inl (fun _ => 0)))]) (w1 := fun _ => []) (fun hPc hDc => va_runV (As := []) (rest := []) ⟨hx, hb, hml, hown, hts⟩ (kX11_fromTable_1 l dC dI cI c2 q1 q4 q2 q3 q6 q5 q18 q23 q28 q33 q36 q37 q40 q44 q48 q7 q10 q16 q17 H.size) (cwV 0 hts gL_law_X11_fromTable rfl rfl rfl (by decide +kernel) ⟨Nat.le_of_ble_eq_true rfl, Nat.le_of_ble_eq_true rfl⟩) (pre_V hPc hK hDc hN (ci := 11) (q0 := 0) rfl rfl) rfl rfl hl.1 rfl (lv_room (Nat.le_of_ble_eq_true rfl)) dL_law_394 ⟨Nat.le_of_ble_eq_true rfl, Nat.le_of_ble_eq_true rfl⟩) hP hD hS hA [0, 3, 1, 2, 5, 4] [28, 30] rfl rfl (by decide) (by decide) (by decide) (fun u H locs hP hD hS => ?_)
  have hP : va_P (dC, dI) vwCl [(q49, .inr (12, [.int 0, .ref q50, .int 0, .ref q51, .int 0, .ref q52, .ref q53, .int 0, .ref q54, .int 0, .ref q55, .int (-9), .int 0, .int 0, .ref q56, .ref q57, .ref q58, .ref q59, .ref q60, .int 0, .ref q61, .ref q62, .ref q63, .int 0, .ref q64, .ref q65, .ref q66, .int 0, .ref q67])), (q51, .inl (cI, 12, .inl (fun _ => 0)))] H := hP
  have hD : va_D A [(q49, .inr (12, [.int 0, .ref q50, .int 0, .ref q51, .int 0, .ref q52, .ref q53, .int 0, .ref q54, .int 0, .ref q55, .int (-9), .int 0, .int 0, .ref q56, .ref q57, .ref q58, .ref q59, .ref q60, .int 0, .ref q61, .ref q62, .ref q63, .int 0, .ref q64, .ref q65, .ref q66, .int 0, .ref q67])), (q51, .inl (cI, 12, .inl (fun _ => 0)))] := hD
  refine lv_aload_n hx hb dL_law_397 rfl (lv_at hl 1 rfl) ?_
  refine kcall_i (D := (dC, dI)) (S := Unit) (v := 0) (wc := [(q49, .inr (12, [.int 0, .ref q50, .int 0, .ref q51, .int 0, .ref q52, .ref q53, .int 0, .ref q54, .int 0, .ref q55, .int (-9), .int 0, .int 0, .ref q56, .ref q57, .ref q58, .ref q59, .ref q60, .int 0, .ref q61, .ref q62, .ref q63, .int 0, .ref q64, .ref q65, .ref q66, .int 0, .ref q67])), (q51, .inl (cI, 12, .inl (fun _ => 0)))]) (wr := []) (w1 := fun _ => []) (fun hPc hDc => va_runV (As := []) (rest := [.int 0]) ⟨hx, hb, hml, hown, hts⟩ (kX12_fromTable_1 l dC dI cI c2 q49 q51 q50 q52 q53 q54 q55 q56 q57 q58 q59 q60 q61 q62 q63 q64 q65 q66 q67 H.size) (cwV 0 hts gL_law_X12_fromTable rfl rfl rfl (by decide +kernel) ⟨Nat.le_of_ble_eq_true rfl, Nat.le_of_ble_eq_true rfl⟩) (pre_V hPc hK hDc hN (ci := 12) (q0 := 0) rfl rfl) rfl rfl hl.1 rfl (lv_room (Nat.le_of_ble_eq_true rfl)) dL_law_398 ⟨Nat.le_of_ble_eq_true rfl, Nat.le_of_ble_eq_true rfl⟩) hP hD hS hA [0, 1] [] rfl rfl (by decide) (by decide) (by decide) (fun u H locs hP hD hS => ?_)
  have hP : va_P (dC, dI) vwCl [] H := hP
  have hD : va_D A [] := hD
  refine lv_icmp_eq (tgt := 1080) hx hb dL_law_401 (by decide) (fun _ => ?_) (fun h9 => absurd (by decide +kernel) h9)
  refine lv_iinc (v := 4) (lv' := [(3, .int 4), (2, .ref q49), (1, .ref q1), (0, .ref b)]) hx hb dL_law_1080 hl (k := 0) rfl (by decide +kernel) (by decide) rfl (fun ls hl => ?_)
  refine lv_goto (tgt := 18) hx hb dL_law_1083 (by decide) ?_
  refine lv_iload_n hx hb dL_law_18 rfl (lv_at hl 0 rfl) ?_
  refine lv_aload_n hx hb dL_law_19 rfl (lv_at hl 3 rfl) ?_
  refine va_slen hx hb hX hbl hbA hS dL_law_20 (tk_i (v := 4) (by decide +kernel) ?_)
  refine lv_iconst (v := 4) hx hb dL_law_21 (by decide) ?_
  refine lv_isub hx hb dL_law_22 (tk_i (v := 0) (by decide +kernel) ?_)
  refine lv_icmp_gt (tgt := 1086) hx hb dL_law_23 (by decide) (fun _ => ?_) (fun h9 => absurd (by decide +kernel) h9)
  refine lv_iconst (v := 1) hx hb dL_law_1086 (by decide) ?_
  refine va_forget (fun q hq => by have h9 := hS.2.2 q hq; rw [← hAe] at h9; exact h9) ?_
  refine W.widen (k := 600000) (n := 7302250) (by decide) (by decide) ?_
  exact lw_ret hx hb hr hlocks dL_law_1087
set_option maxHeartbeats 8000000 in
set_option maxRecDepth 100000 in
theorem lc_8 {p : Program} {e : Env} {s : State} {m : MethodId} {below : List Frame} {meth : Method} {c : Code} (l : Launch) {b : Nat} {xs : Nat → Int32} (C0 : lw_At p s m meth c b 4 xs) (dC : Nat → ClassId) (dI : Nat → Nat → Nat) (cI c2 : ClassId) (q1 : Nat) (q2 : Nat) (q3 : Nat) (q4 : Nat) (q5 : Nat) (q6 : Nat) (q7 : Nat) (q8 : Nat) (r9 : Nat → Nat) (q10 : Nat) (q11 : Nat) (q12 : Nat) (r13 : Nat → Nat) (q14 : Nat) (q15 : Nat) (q16 : Nat) (q17 : Nat) (q18 : Nat) (q19 : Nat) (q20 : Nat) (r21 : Nat → Nat) (q22 : Nat) (q23 : Nat) (q24 : Nat) (q25 : Nat) (q26 : Nat) (q27 : Nat) (q28 : Nat) (q29 : Nat) (q30 : Nat) (q31 : Nat) (q32 : Nat) (q33 : Nat) (q34 : Nat) (q35 : Nat) (q36 : Nat) (q37 : Nat) (q38 : Nat) (q39 : Nat) (q40 : Nat) (q41 : Nat) (q42 : Nat) (q43 : Nat) (q44 : Nat) (q45 : Nat) (q46 : Nat) (q47 : Nat) (q48 : Nat) (q49 : Nat) (q50 : Nat) (q51 : Nat) (q52 : Nat) (q53 : Nat) (q54 : Nat) (q55 : Nat) (q56 : Nat) (q57 : Nat) (q58 : Nat) (q59 : Nat) (q60 : Nat) (q61 : Nat) (q62 : Nat) (q63 : Nat) (q64 : Nat) (q65 : Nat) (q66 : Nat) (q67 : Nat) (a1 a2 a3 : Int32) (ha1 : xs (Int32.toNatClampNeg 1) = a1) (ha2 : xs (Int32.toNatClampNeg 2) = a2) (ha3 : xs (Int32.toNatClampNeg 3) = a3) (hK : va_K (dC, dI) vwCl [(cI, .int), (c2, .array .int)] s) (hN : nsAll s) (H : Heap) (locs : List Loc) (hP : va_P (dC, dI) vwCl [(q1, .inr (11, [.ref q2, .ref q4, .ref q6, .ref q18, .ref q23, .ref q28, .ref q33, .ref q36, .ref q37, .ref q40, .ref q44, .ref q48, .int 0])), (q2, .inr (4, [.ref q3, .int 0, .int 0])), (q3, .inl (cI, 12, .inl (fun _ => 0))), (q4, .inr (10, [.ref q5, .int 0, .int 0])), (q5, .inl (cI, 12, .inl (fun _ => (-1)))), (q6, .inr (6, [.ref q7, .ref q10, .ref q16, .ref q17, .int 0, .int 0, .int 0, .int 0, .int 0])), (q7, .inr (3, [.ref q8, .int 0])), (q8, .inl (c2, 13, .inr (.inr (.inr (.inr (fun i => if i < 13 then some (r9 i) else none)))))), (r9 0, .inl (cI, 12, .inl (fun _ => 0))), (q10, .inr (5, [.ref q11, .ref q14, .ref q15, .int 0, .int 0, .int 0])), (q11, .inr (3, [.ref q12, .int 0])), (q12, .inl (c2, 13, .inr (.inr (.inr (.inr (fun i => if i < 13 then some (r13 i) else none)))))), (r13 0, .inl (cI, 12, .inl (fun _ => 0))), (q14, .inl (cI, 4096, .inl (fun _ => 0))), (q18, .inr (9, [.ref q19, .ref q22, .int 0, .int (-1)])), (q19, .inr (3, [.ref q20, .int 0])), (q20, .inl (c2, 13, .inr (.inr (.inr (.inr (fun i => if i < 13 then some (r21 i) else none)))))), (r21 0, .inl (cI, 12, .inl (fun _ => 0))), (q23, .inr (1, [.int 0, .ref q24, .ref q25, .ref q26, .ref q27, .int 0, .int (-1), .int (-1)])), (q28, .inr (1, [.int 1, .ref q29, .ref q30, .ref q31, .ref q32, .int 0, .int (-1), .int (-1)])), (q33, .inr (7, [.ref q34, .ref q35, .int 0, .int (-1)])), (q35, .inl (cI, 12, .inl (fun _ => 0))), (q37, .inr (2, [.ref q38, .ref q39, .int 0, .int (-1)])), (q40, .inr (0, [.ref q42, .ref q41, .ref q43, .int 0, .int 0, .int 0, .int 0, .int (-1)])), (q42, .inl (cI, 4096, .inl (fun _ => 0))), (q44, .inr (0, [.ref q46, .ref q45, .ref q47, .int 0, .int 0, .int 0, .int 0, .int (-1)])), (q46, .inl (cI, 256, .inl (fun _ => 0))), (q48, .inl (cI, 5, .inl (fun _ => 0))), (q49, .inr (12, [.int 0, .ref q50, .int 0, .ref q51, .int 0, .ref q52, .ref q53, .int 0, .ref q54, .int 0, .ref q55, .int (-9), .int 0, .int 0, .ref q56, .ref q57, .ref q58, .ref q59, .ref q60, .int 0, .ref q61, .ref q62, .ref q63, .int 0, .ref q64, .ref q65, .ref q66, .int 0, .ref q67])), (q50, .inl (cI, 5, .inl (fun _ => 0))), (q51, .inl (cI, 12, .inl (fun _ => 0))), (q52, .inl (cI, 12, .inl (fun _ => (-9)))), (q56, .inl (cI, 12, .inl (fun _ => 0))), (q57, .inl (cI, 12, .inl (fun _ => 0))), (q58, .inl (cI, 49152, .inl (fun _ => 0))), (q59, .inl (cI, 4096, .inl (fun _ => 0))), (q67, .inl (cI, 12, .inl (fun _ => 0)))] H) (hD : va_D (fun q : Nat => s.heap.size ≤ q) [(q1, .inr (11, [.ref q2, .ref q4, .ref q6, .ref q18, .ref q23, .ref q28, .ref q33, .ref q36, .ref q37, .ref q40, .ref q44, .ref q48, .int 0])), (q2, .inr (4, [.ref q3, .int 0, .int 0])), (q3, .inl (cI, 12, .inl (fun _ => 0))), (q4, .inr (10, [.ref q5, .int 0, .int 0])), (q5, .inl (cI, 12, .inl (fun _ => (-1)))), (q6, .inr (6, [.ref q7, .ref q10, .ref q16, .ref q17, .int 0, .int 0, .int 0, .int 0, .int 0])), (q7, .inr (3, [.ref q8, .int 0])), (q8, .inl (c2, 13, .inr (.inr (.inr (.inr (fun i => if i < 13 then some (r9 i) else none)))))), (r9 0, .inl (cI, 12, .inl (fun _ => 0))), (q10, .inr (5, [.ref q11, .ref q14, .ref q15, .int 0, .int 0, .int 0])), (q11, .inr (3, [.ref q12, .int 0])), (q12, .inl (c2, 13, .inr (.inr (.inr (.inr (fun i => if i < 13 then some (r13 i) else none)))))), (r13 0, .inl (cI, 12, .inl (fun _ => 0))), (q14, .inl (cI, 4096, .inl (fun _ => 0))), (q18, .inr (9, [.ref q19, .ref q22, .int 0, .int (-1)])), (q19, .inr (3, [.ref q20, .int 0])), (q20, .inl (c2, 13, .inr (.inr (.inr (.inr (fun i => if i < 13 then some (r21 i) else none)))))), (r21 0, .inl (cI, 12, .inl (fun _ => 0))), (q23, .inr (1, [.int 0, .ref q24, .ref q25, .ref q26, .ref q27, .int 0, .int (-1), .int (-1)])), (q28, .inr (1, [.int 1, .ref q29, .ref q30, .ref q31, .ref q32, .int 0, .int (-1), .int (-1)])), (q33, .inr (7, [.ref q34, .ref q35, .int 0, .int (-1)])), (q35, .inl (cI, 12, .inl (fun _ => 0))), (q37, .inr (2, [.ref q38, .ref q39, .int 0, .int (-1)])), (q40, .inr (0, [.ref q42, .ref q41, .ref q43, .int 0, .int 0, .int 0, .int 0, .int (-1)])), (q42, .inl (cI, 4096, .inl (fun _ => 0))), (q44, .inr (0, [.ref q46, .ref q45, .ref q47, .int 0, .int 0, .int 0, .int 0, .int (-1)])), (q46, .inl (cI, 256, .inl (fun _ => 0))), (q48, .inl (cI, 5, .inl (fun _ => 0))), (q49, .inr (12, [.int 0, .ref q50, .int 0, .ref q51, .int 0, .ref q52, .ref q53, .int 0, .ref q54, .int 0, .ref q55, .int (-9), .int 0, .int 0, .ref q56, .ref q57, .ref q58, .ref q59, .ref q60, .int 0, .ref q61, .ref q62, .ref q63, .int 0, .ref q64, .ref q65, .ref q66, .int 0, .ref q67])), (q50, .inl (cI, 5, .inl (fun _ => 0))), (q51, .inl (cI, 12, .inl (fun _ => 0))), (q52, .inl (cI, 12, .inl (fun _ => (-9)))), (q56, .inl (cI, 12, .inl (fun _ => 0))), (q57, .inl (cI, 12, .inl (fun _ => 0))), (q58, .inl (cI, 49152, .inl (fun _ => 0))), (q59, .inl (cI, 4096, .inl (fun _ => 0))), (q67, .inl (cI, 12, .inl (fun _ => 0)))]) (hS : va_S (fun q : Nat => s.heap.size ≤ q) s.heap H locs) (ls : Array Slot) (hl : lv_has ls 4 [(3, .int 0), (2, .ref q49), (1, .ref q1), (0, .ref b)]) : W p l e room_1 s m #[Value.ref b] below meth c H locs 128 161896 (lw_Z below #[Value.ref b] s) (F0 m 406 ls []) := by
  obtain ⟨hx, hb, hr, hml, hown0, hts0, hX, hbl, hlocks, hgv⟩ := id C0
  have hown : s.vm.findClass RL = some m.cls := hown0
  have hts : ∀ w ∈ wsL_law, w.before #[Value.ref b] s = true := fun w h => hts0 w (wsL_law_in w h)
  have hA : ∀ q : Nat, s.heap.size ≤ q → (fun q : Nat => s.heap.size ≤ q) q := fun _ h => h
  have hbA : ¬ (fun q : Nat => s.heap.size ≤ q) b := Nat.not_le.mpr hbl
  generalize hAe : (fun q : Nat => s.heap.size ≤ q) = A at hD hS hA hbA
  have a1_rg := i_rng a1
  have a2_rg := i_rng a2
  have a3_rg := i_rng a3
  obtain ⟨a1_l, a1_h⟩ := a1_rg
  obtain ⟨a2_l, a2_h⟩ := a2_rg
  obtain ⟨a3_l, a3_h⟩ := a3_rg
  refine lv_aload_n hx hb dL_law_406 rfl (lv_at hl 2 rfl) ?_
  refine kcall_i (D := (dC, dI)) (S := Unit) (v := 0) (wc := [(q1, .inr (11, [.ref q2, .ref q4, .ref q6, .ref q18, .ref q23, .ref q28, .ref q33, .ref q36, .ref q37, .ref q40, .ref q44, .ref q48, .int 0])), (q2, .inr (4, [.ref q3, .int 0, .int 0])), (q6, .inr (6, [.ref q7, .ref q10, .ref q16, .ref q17, .int 0, .int 0, .int 0, .int 0, .int 0]))]) (wr := [(q49, .inr (12, [.int 0, .ref q50, .int 0, .ref q51, .int 0, .ref q52, .ref q53, .int 0, .ref q54, .int 0, .ref q55, .int (-9), .int 0, .int 0, .ref q56, .ref q57, .ref q58, .ref q59, .ref q60, .int 0, .ref q61, .ref q62, .ref q63, .int 0, .ref q64, .ref q65, .ref q66, .int 0, .ref q67]))]) (w1 := fun _ => []) (fun hPc hDc => va_runV (As := []) (rest := []) ⟨hx, hb, hml, hown, hts⟩ (kX11_turn_1 l dC dI cI c2 q1 q2 q6 q4 q18 q23 q28 q33 q36 q37 q40 q44 q48 q3 q7 q10 q16 q17 H.size) (cwV 0 hts gL_law_X11_turn rfl rfl rfl (by decide +kernel) ⟨Nat.le_of_ble_eq_true rfl, Nat.le_of_ble_eq_true rfl⟩) (pre_V hPc hK hDc hN (ci := 11) (q0 := 0) rfl rfl) rfl rfl hl.1 rfl (lv_room (Nat.le_of_ble_eq_true rfl)) dL_law_407 ⟨Nat.le_of_ble_eq_true rfl, Nat.le_of_ble_eq_true rfl⟩) hP hD hS hA [0, 1, 5] [28] rfl rfl (by decide) (by decide) (by decide) (fun u H locs hP hD hS => ?_)
  have hP : va_P (dC, dI) vwCl [(q49, .inr (12, [.int 0, .ref q50, .int 0, .ref q51, .int 0, .ref q52, .ref q53, .int 0, .ref q54, .int 0, .ref q55, .int (-9), .int 0, .int 0, .ref q56, .ref q57, .ref q58, .ref q59, .ref q60, .int 0, .ref q61, .ref q62, .ref q63, .int 0, .ref q64, .ref q65, .ref q66, .int 0, .ref q67]))] H := hP
  have hD : va_D A [(q49, .inr (12, [.int 0, .ref q50, .int 0, .ref q51, .int 0, .ref q52, .ref q53, .int 0, .ref q54, .int 0, .ref q55, .int (-9), .int 0, .int 0, .ref q56, .ref q57, .ref q58, .ref q59, .ref q60, .int 0, .ref q61, .ref q62, .ref q63, .int 0, .ref q64, .ref q65, .ref q66, .int 0, .ref q67]))] := hD
  refine lv_aload_n hx hb dL_law_410 rfl (lv_at hl 1 rfl) ?_
  refine kcall_i (D := (dC, dI)) (S := Unit) (v := 0) (wc := [(q49, .inr (12, [.int 0, .ref q50, .int 0, .ref q51, .int 0, .ref q52, .ref q53, .int 0, .ref q54, .int 0, .ref q55, .int (-9), .int 0, .int 0, .ref q56, .ref q57, .ref q58, .ref q59, .ref q60, .int 0, .ref q61, .ref q62, .ref q63, .int 0, .ref q64, .ref q65, .ref q66, .int 0, .ref q67]))]) (wr := []) (w1 := fun _ => []) (fun hPc hDc => va_runV (As := []) (rest := [.int 0]) ⟨hx, hb, hml, hown, hts⟩ (kX12_turn_1 l dC dI cI c2 q49 q50 q51 q52 q53 q54 q55 q56 q57 q58 q59 q60 q61 q62 q63 q64 q65 q66 q67 H.size) (cwV 0 hts gL_law_X12_turn rfl rfl rfl (by decide +kernel) ⟨Nat.le_of_ble_eq_true rfl, Nat.le_of_ble_eq_true rfl⟩) (pre_V hPc hK hDc hN (ci := 12) (q0 := 0) rfl rfl) rfl rfl hl.1 rfl (lv_room (Nat.le_of_ble_eq_true rfl)) dL_law_411 ⟨Nat.le_of_ble_eq_true rfl, Nat.le_of_ble_eq_true rfl⟩) hP hD hS hA [0] [] rfl rfl (by decide) (by decide) (by decide) (fun u H locs hP hD hS => ?_)
  have hP : va_P (dC, dI) vwCl [] H := hP
  have hD : va_D A [] := hD
  refine lv_icmp_eq (tgt := 1080) hx hb dL_law_414 (by decide) (fun _ => ?_) (fun h9 => absurd (by decide +kernel) h9)
  refine lv_iinc (v := 4) (lv' := [(3, .int 4), (2, .ref q49), (1, .ref q1), (0, .ref b)]) hx hb dL_law_1080 hl (k := 0) rfl (by decide +kernel) (by decide) rfl (fun ls hl => ?_)
  refine lv_goto (tgt := 18) hx hb dL_law_1083 (by decide) ?_
  refine lv_iload_n hx hb dL_law_18 rfl (lv_at hl 0 rfl) ?_
  refine lv_aload_n hx hb dL_law_19 rfl (lv_at hl 3 rfl) ?_
  refine va_slen hx hb hX hbl hbA hS dL_law_20 (tk_i (v := 4) (by decide +kernel) ?_)
  refine lv_iconst (v := 4) hx hb dL_law_21 (by decide) ?_
  refine lv_isub hx hb dL_law_22 (tk_i (v := 0) (by decide +kernel) ?_)
  refine lv_icmp_gt (tgt := 1086) hx hb dL_law_23 (by decide) (fun _ => ?_) (fun h9 => absurd (by decide +kernel) h9)
  refine lv_iconst (v := 1) hx hb dL_law_1086 (by decide) ?_
  refine va_forget (fun q hq => by have h9 := hS.2.2 q hq; rw [← hAe] at h9; exact h9) ?_
  refine W.widen (k := 600000) (n := 7302250) (by decide) (by decide) ?_
  exact lw_ret hx hb hr hlocks dL_law_1087
set_option maxHeartbeats 8000000 in
set_option maxRecDepth 100000 in
theorem lc_9 {p : Program} {e : Env} {s : State} {m : MethodId} {below : List Frame} {meth : Method} {c : Code} (l : Launch) {b : Nat} {xs : Nat → Int32} (C0 : lw_At p s m meth c b 4 xs) (dC : Nat → ClassId) (dI : Nat → Nat → Nat) (cI c2 : ClassId) (q1 : Nat) (q2 : Nat) (q3 : Nat) (q4 : Nat) (q5 : Nat) (q6 : Nat) (q7 : Nat) (q8 : Nat) (r9 : Nat → Nat) (q10 : Nat) (q11 : Nat) (q12 : Nat) (r13 : Nat → Nat) (q14 : Nat) (q15 : Nat) (q16 : Nat) (q17 : Nat) (q18 : Nat) (q19 : Nat) (q20 : Nat) (r21 : Nat → Nat) (q22 : Nat) (q23 : Nat) (q24 : Nat) (q25 : Nat) (q26 : Nat) (q27 : Nat) (q28 : Nat) (q29 : Nat) (q30 : Nat) (q31 : Nat) (q32 : Nat) (q33 : Nat) (q34 : Nat) (q35 : Nat) (q36 : Nat) (q37 : Nat) (q38 : Nat) (q39 : Nat) (q40 : Nat) (q41 : Nat) (q42 : Nat) (q43 : Nat) (q44 : Nat) (q45 : Nat) (q46 : Nat) (q47 : Nat) (q48 : Nat) (q49 : Nat) (q50 : Nat) (q51 : Nat) (q52 : Nat) (q53 : Nat) (q54 : Nat) (q55 : Nat) (q56 : Nat) (q57 : Nat) (q58 : Nat) (q59 : Nat) (q60 : Nat) (q61 : Nat) (q62 : Nat) (q63 : Nat) (q64 : Nat) (q65 : Nat) (q66 : Nat) (q67 : Nat) (a1 a2 a3 : Int32) (ha1 : xs (Int32.toNatClampNeg 1) = a1) (ha2 : xs (Int32.toNatClampNeg 2) = a2) (ha3 : xs (Int32.toNatClampNeg 3) = a3) (hK : va_K (dC, dI) vwCl [(cI, .int), (c2, .array .int)] s) (hN : nsAll s) (H : Heap) (locs : List Loc) (hP : va_P (dC, dI) vwCl [(q1, .inr (11, [.ref q2, .ref q4, .ref q6, .ref q18, .ref q23, .ref q28, .ref q33, .ref q36, .ref q37, .ref q40, .ref q44, .ref q48, .int 0])), (q2, .inr (4, [.ref q3, .int 0, .int 0])), (q3, .inl (cI, 12, .inl (fun _ => 0))), (q4, .inr (10, [.ref q5, .int 0, .int 0])), (q5, .inl (cI, 12, .inl (fun _ => (-1)))), (q6, .inr (6, [.ref q7, .ref q10, .ref q16, .ref q17, .int 0, .int 0, .int 0, .int 0, .int 0])), (q7, .inr (3, [.ref q8, .int 0])), (q8, .inl (c2, 13, .inr (.inr (.inr (.inr (fun i => if i < 13 then some (r9 i) else none)))))), (r9 0, .inl (cI, 12, .inl (fun _ => 0))), (q10, .inr (5, [.ref q11, .ref q14, .ref q15, .int 0, .int 0, .int 0])), (q11, .inr (3, [.ref q12, .int 0])), (q12, .inl (c2, 13, .inr (.inr (.inr (.inr (fun i => if i < 13 then some (r13 i) else none)))))), (r13 0, .inl (cI, 12, .inl (fun _ => 0))), (q14, .inl (cI, 4096, .inl (fun _ => 0))), (q18, .inr (9, [.ref q19, .ref q22, .int 0, .int (-1)])), (q19, .inr (3, [.ref q20, .int 0])), (q20, .inl (c2, 13, .inr (.inr (.inr (.inr (fun i => if i < 13 then some (r21 i) else none)))))), (r21 0, .inl (cI, 12, .inl (fun _ => 0))), (q23, .inr (1, [.int 0, .ref q24, .ref q25, .ref q26, .ref q27, .int 0, .int (-1), .int (-1)])), (q28, .inr (1, [.int 1, .ref q29, .ref q30, .ref q31, .ref q32, .int 0, .int (-1), .int (-1)])), (q33, .inr (7, [.ref q34, .ref q35, .int 0, .int (-1)])), (q35, .inl (cI, 12, .inl (fun _ => 0))), (q37, .inr (2, [.ref q38, .ref q39, .int 0, .int (-1)])), (q40, .inr (0, [.ref q42, .ref q41, .ref q43, .int 0, .int 0, .int 0, .int 0, .int (-1)])), (q42, .inl (cI, 4096, .inl (fun _ => 0))), (q44, .inr (0, [.ref q46, .ref q45, .ref q47, .int 0, .int 0, .int 0, .int 0, .int (-1)])), (q46, .inl (cI, 256, .inl (fun _ => 0))), (q48, .inl (cI, 5, .inl (fun _ => 0))), (q49, .inr (12, [.int 0, .ref q50, .int 0, .ref q51, .int 0, .ref q52, .ref q53, .int 0, .ref q54, .int 0, .ref q55, .int (-9), .int 0, .int 0, .ref q56, .ref q57, .ref q58, .ref q59, .ref q60, .int 0, .ref q61, .ref q62, .ref q63, .int 0, .ref q64, .ref q65, .ref q66, .int 0, .ref q67])), (q50, .inl (cI, 5, .inl (fun _ => 0))), (q51, .inl (cI, 12, .inl (fun _ => 0))), (q52, .inl (cI, 12, .inl (fun _ => (-9)))), (q56, .inl (cI, 12, .inl (fun _ => 0))), (q57, .inl (cI, 12, .inl (fun _ => 0))), (q58, .inl (cI, 49152, .inl (fun _ => 0))), (q59, .inl (cI, 4096, .inl (fun _ => 0))), (q67, .inl (cI, 12, .inl (fun _ => 0)))] H) (hD : va_D (fun q : Nat => s.heap.size ≤ q) [(q1, .inr (11, [.ref q2, .ref q4, .ref q6, .ref q18, .ref q23, .ref q28, .ref q33, .ref q36, .ref q37, .ref q40, .ref q44, .ref q48, .int 0])), (q2, .inr (4, [.ref q3, .int 0, .int 0])), (q3, .inl (cI, 12, .inl (fun _ => 0))), (q4, .inr (10, [.ref q5, .int 0, .int 0])), (q5, .inl (cI, 12, .inl (fun _ => (-1)))), (q6, .inr (6, [.ref q7, .ref q10, .ref q16, .ref q17, .int 0, .int 0, .int 0, .int 0, .int 0])), (q7, .inr (3, [.ref q8, .int 0])), (q8, .inl (c2, 13, .inr (.inr (.inr (.inr (fun i => if i < 13 then some (r9 i) else none)))))), (r9 0, .inl (cI, 12, .inl (fun _ => 0))), (q10, .inr (5, [.ref q11, .ref q14, .ref q15, .int 0, .int 0, .int 0])), (q11, .inr (3, [.ref q12, .int 0])), (q12, .inl (c2, 13, .inr (.inr (.inr (.inr (fun i => if i < 13 then some (r13 i) else none)))))), (r13 0, .inl (cI, 12, .inl (fun _ => 0))), (q14, .inl (cI, 4096, .inl (fun _ => 0))), (q18, .inr (9, [.ref q19, .ref q22, .int 0, .int (-1)])), (q19, .inr (3, [.ref q20, .int 0])), (q20, .inl (c2, 13, .inr (.inr (.inr (.inr (fun i => if i < 13 then some (r21 i) else none)))))), (r21 0, .inl (cI, 12, .inl (fun _ => 0))), (q23, .inr (1, [.int 0, .ref q24, .ref q25, .ref q26, .ref q27, .int 0, .int (-1), .int (-1)])), (q28, .inr (1, [.int 1, .ref q29, .ref q30, .ref q31, .ref q32, .int 0, .int (-1), .int (-1)])), (q33, .inr (7, [.ref q34, .ref q35, .int 0, .int (-1)])), (q35, .inl (cI, 12, .inl (fun _ => 0))), (q37, .inr (2, [.ref q38, .ref q39, .int 0, .int (-1)])), (q40, .inr (0, [.ref q42, .ref q41, .ref q43, .int 0, .int 0, .int 0, .int 0, .int (-1)])), (q42, .inl (cI, 4096, .inl (fun _ => 0))), (q44, .inr (0, [.ref q46, .ref q45, .ref q47, .int 0, .int 0, .int 0, .int 0, .int (-1)])), (q46, .inl (cI, 256, .inl (fun _ => 0))), (q48, .inl (cI, 5, .inl (fun _ => 0))), (q49, .inr (12, [.int 0, .ref q50, .int 0, .ref q51, .int 0, .ref q52, .ref q53, .int 0, .ref q54, .int 0, .ref q55, .int (-9), .int 0, .int 0, .ref q56, .ref q57, .ref q58, .ref q59, .ref q60, .int 0, .ref q61, .ref q62, .ref q63, .int 0, .ref q64, .ref q65, .ref q66, .int 0, .ref q67])), (q50, .inl (cI, 5, .inl (fun _ => 0))), (q51, .inl (cI, 12, .inl (fun _ => 0))), (q52, .inl (cI, 12, .inl (fun _ => (-9)))), (q56, .inl (cI, 12, .inl (fun _ => 0))), (q57, .inl (cI, 12, .inl (fun _ => 0))), (q58, .inl (cI, 49152, .inl (fun _ => 0))), (q59, .inl (cI, 4096, .inl (fun _ => 0))), (q67, .inl (cI, 12, .inl (fun _ => 0)))]) (hS : va_S (fun q : Nat => s.heap.size ≤ q) s.heap H locs) (ls : Array Slot) (hl : lv_has ls 4 [(3, .int 0), (2, .ref q49), (1, .ref q1), (0, .ref b)]) : W p l e room_1 s m #[Value.ref b] below meth c H locs 128 161896 (lw_Z below #[Value.ref b] s) (F0 m 419 ls []) := by
  obtain ⟨hx, hb, hr, hml, hown0, hts0, hX, hbl, hlocks, hgv⟩ := id C0
  have hown : s.vm.findClass RL = some m.cls := hown0
  have hts : ∀ w ∈ wsL_law, w.before #[Value.ref b] s = true := fun w h => hts0 w (wsL_law_in w h)
  have hA : ∀ q : Nat, s.heap.size ≤ q → (fun q : Nat => s.heap.size ≤ q) q := fun _ h => h
  have hbA : ¬ (fun q : Nat => s.heap.size ≤ q) b := Nat.not_le.mpr hbl
  generalize hAe : (fun q : Nat => s.heap.size ≤ q) = A at hD hS hA hbA
  have a1_rg := i_rng a1
  have a2_rg := i_rng a2
  have a3_rg := i_rng a3
  obtain ⟨a1_l, a1_h⟩ := a1_rg
  obtain ⟨a2_l, a2_h⟩ := a2_rg
  obtain ⟨a3_l, a3_h⟩ := a3_rg
  rcases (show a1.toInt ≤ (-1) ∨ 0 ≤ a1.toInt by omega) with g_a1_0 | g_a1_0
  ·
    refine lv_aload_n hx hb dL_law_419 rfl (lv_at hl 2 rfl) ?_
    refine lv_aload_n hx hb dL_law_420 rfl (lv_at hl 3 rfl) ?_
    refine lv_iload_n hx hb dL_law_421 rfl (lv_at hl 0 rfl) ?_
    refine lv_iconst (v := 1) hx hb dL_law_422 (by decide) ?_
    refine lv_iadd hx hb dL_law_423 (tk_i (v := 1) (by decide +kernel) ?_)
    refine va_sld hx hb hX hbl hbA hS (vin (by decide +kernel)) dL_law_424 (tk_i (v := a1) ha1 ?_)
    refine kcall_i (D := (dC, dI)) (S := Unit) (v := (-1)) (wc := [(q1, .inr (11, [.ref q2, .ref q4, .ref q6, .ref q18, .ref q23, .ref q28, .ref q33, .ref q36, .ref q37, .ref q40, .ref q44, .ref q48, .int 0])), (q2, .inr (4, [.ref q3, .int 0, .int 0]))]) (wr := [(q49, .inr (12, [.int 0, .ref q50, .int 0, .ref q51, .int 0, .ref q52, .ref q53, .int 0, .ref q54, .int 0, .ref q55, .int (-9), .int 0, .int 0, .ref q56, .ref q57, .ref q58, .ref q59, .ref q60, .int 0, .ref q61, .ref q62, .ref q63, .int 0, .ref q64, .ref q65, .ref q66, .int 0, .ref q67]))]) (w1 := fun _ => []) (fun hPc hDc => va_runV (As := [.int a1]) (rest := []) ⟨hx, hb, hml, hown, hts⟩ (kX11_draft_1 l dC dI cI c2 q1 q2 q4 q6 q18 q23 q28 q33 q36 q37 q40 q44 q48 q3 H.size a1 (by omega) (by omega)) (cwV 1 hts gL_law_X11_draft rfl rfl rfl (by decide +kernel) ⟨Nat.le_of_ble_eq_true rfl, Nat.le_of_ble_eq_true rfl⟩) (pre_V hPc hK hDc hN (ci := 11) (q0 := 0) rfl rfl) rfl rfl hl.1 rfl (lv_room (Nat.le_of_ble_eq_true rfl)) dL_law_425 ⟨Nat.le_of_ble_eq_true rfl, Nat.le_of_ble_eq_true rfl⟩) hP hD hS hA [0, 1] [28] rfl rfl (by decide) (by decide) (by decide) (fun u H locs hP hD hS => ?_)
    have hP : va_P (dC, dI) vwCl [(q49, .inr (12, [.int 0, .ref q50, .int 0, .ref q51, .int 0, .ref q52, .ref q53, .int 0, .ref q54, .int 0, .ref q55, .int (-9), .int 0, .int 0, .ref q56, .ref q57, .ref q58, .ref q59, .ref q60, .int 0, .ref q61, .ref q62, .ref q63, .int 0, .ref q64, .ref q65, .ref q66, .int 0, .ref q67]))] H := hP
    have hD : va_D A [(q49, .inr (12, [.int 0, .ref q50, .int 0, .ref q51, .int 0, .ref q52, .ref q53, .int 0, .ref q54, .int 0, .ref q55, .int (-9), .int 0, .int 0, .ref q56, .ref q57, .ref q58, .ref q59, .ref q60, .int 0, .ref q61, .ref q62, .ref q63, .int 0, .ref q64, .ref q65, .ref q66, .int 0, .ref q67]))] := hD
    refine lv_aload_n hx hb dL_law_428 rfl (lv_at hl 1 rfl) ?_
    refine lv_aload_n hx hb dL_law_429 rfl (lv_at hl 3 rfl) ?_
    refine lv_iload_n hx hb dL_law_430 rfl (lv_at hl 0 rfl) ?_
    refine lv_iconst (v := 1) hx hb dL_law_431 (by decide) ?_
    refine lv_iadd hx hb dL_law_432 (tk_i (v := 1) (by decide +kernel) ?_)
    refine va_sld hx hb hX hbl hbA hS (vin (by decide +kernel)) dL_law_433 (tk_i (v := a1) ha1 ?_)
    refine kcall_i (D := (dC, dI)) (S := Unit) (v := (-1)) (wc := [(q49, .inr (12, [.int 0, .ref q50, .int 0, .ref q51, .int 0, .ref q52, .ref q53, .int 0, .ref q54, .int 0, .ref q55, .int (-9), .int 0, .int 0, .ref q56, .ref q57, .ref q58, .ref q59, .ref q60, .int 0, .ref q61, .ref q62, .ref q63, .int 0, .ref q64, .ref q65, .ref q66, .int 0, .ref q67]))]) (wr := []) (w1 := fun _ => []) (fun hPc hDc => va_runV (As := [.int a1]) (rest := [.int (-1)]) ⟨hx, hb, hml, hown, hts⟩ (kX12_draft_1 l dC dI cI c2 q49 q50 q51 q52 q53 q54 q55 q56 q57 q58 q59 q60 q61 q62 q63 q64 q65 q66 q67 H.size a1 (by omega) (by omega)) (cwV 1 hts gL_law_X12_draft rfl rfl rfl (by decide +kernel) ⟨Nat.le_of_ble_eq_true rfl, Nat.le_of_ble_eq_true rfl⟩) (pre_V hPc hK hDc hN (ci := 12) (q0 := 0) rfl rfl) rfl rfl hl.1 rfl (lv_room (Nat.le_of_ble_eq_true rfl)) dL_law_434 ⟨Nat.le_of_ble_eq_true rfl, Nat.le_of_ble_eq_true rfl⟩) hP hD hS hA [0] [] rfl rfl (by decide) (by decide) (by decide) (fun u H locs hP hD hS => ?_)
    have hP : va_P (dC, dI) vwCl [] H := hP
    have hD : va_D A [] := hD
    refine lv_icmp_eq (tgt := 1080) hx hb dL_law_437 (by decide) (fun _ => ?_) (fun h9 => absurd (by decide +kernel) h9)
    refine lv_iinc (v := 4) (lv' := [(3, .int 4), (2, .ref q49), (1, .ref q1), (0, .ref b)]) hx hb dL_law_1080 hl (k := 0) rfl (by decide +kernel) (by decide) rfl (fun ls hl => ?_)
    refine lv_goto (tgt := 18) hx hb dL_law_1083 (by decide) ?_
    refine lv_iload_n hx hb dL_law_18 rfl (lv_at hl 0 rfl) ?_
    refine lv_aload_n hx hb dL_law_19 rfl (lv_at hl 3 rfl) ?_
    refine va_slen hx hb hX hbl hbA hS dL_law_20 (tk_i (v := 4) (by decide +kernel) ?_)
    refine lv_iconst (v := 4) hx hb dL_law_21 (by decide) ?_
    refine lv_isub hx hb dL_law_22 (tk_i (v := 0) (by decide +kernel) ?_)
    refine lv_icmp_gt (tgt := 1086) hx hb dL_law_23 (by decide) (fun _ => ?_) (fun h9 => absurd (by decide +kernel) h9)
    refine lv_iconst (v := 1) hx hb dL_law_1086 (by decide) ?_
    refine va_forget (fun q hq => by have h9 := hS.2.2 q hq; rw [← hAe] at h9; exact h9) ?_
    refine W.widen (k := 600000) (n := 7302250) (by decide) (by decide) ?_
    exact lw_ret hx hb hr hlocks dL_law_1087
  ·
    refine lv_aload_n hx hb dL_law_419 rfl (lv_at hl 2 rfl) ?_
    refine lv_aload_n hx hb dL_law_420 rfl (lv_at hl 3 rfl) ?_
    refine lv_iload_n hx hb dL_law_421 rfl (lv_at hl 0 rfl) ?_
    refine lv_iconst (v := 1) hx hb dL_law_422 (by decide) ?_
    refine lv_iadd hx hb dL_law_423 (tk_i (v := 1) (by decide +kernel) ?_)
    refine va_sld hx hb hX hbl hbA hS (vin (by decide +kernel)) dL_law_424 (tk_i (v := a1) ha1 ?_)
    refine kcall_i (D := (dC, dI)) (S := Unit) (v := (-1)) (wc := [(q1, .inr (11, [.ref q2, .ref q4, .ref q6, .ref q18, .ref q23, .ref q28, .ref q33, .ref q36, .ref q37, .ref q40, .ref q44, .ref q48, .int 0])), (q2, .inr (4, [.ref q3, .int 0, .int 0]))]) (wr := [(q49, .inr (12, [.int 0, .ref q50, .int 0, .ref q51, .int 0, .ref q52, .ref q53, .int 0, .ref q54, .int 0, .ref q55, .int (-9), .int 0, .int 0, .ref q56, .ref q57, .ref q58, .ref q59, .ref q60, .int 0, .ref q61, .ref q62, .ref q63, .int 0, .ref q64, .ref q65, .ref q66, .int 0, .ref q67]))]) (w1 := fun _ => []) (fun hPc hDc => va_runV (As := [.int a1]) (rest := []) ⟨hx, hb, hml, hown, hts⟩ (kX11_draft_2 l dC dI cI c2 q1 q2 q4 q6 q18 q23 q28 q33 q36 q37 q40 q44 q48 q3 H.size a1 (by omega) (by omega)) (cwV 1 hts gL_law_X11_draft rfl rfl rfl (by decide +kernel) ⟨Nat.le_of_ble_eq_true rfl, Nat.le_of_ble_eq_true rfl⟩) (pre_V hPc hK hDc hN (ci := 11) (q0 := 0) rfl rfl) rfl rfl hl.1 rfl (lv_room (Nat.le_of_ble_eq_true rfl)) dL_law_425 ⟨Nat.le_of_ble_eq_true rfl, Nat.le_of_ble_eq_true rfl⟩) hP hD hS hA [0, 1] [28] rfl rfl (by decide) (by decide) (by decide) (fun u H locs hP hD hS => ?_)
    have hP : va_P (dC, dI) vwCl [(q49, .inr (12, [.int 0, .ref q50, .int 0, .ref q51, .int 0, .ref q52, .ref q53, .int 0, .ref q54, .int 0, .ref q55, .int (-9), .int 0, .int 0, .ref q56, .ref q57, .ref q58, .ref q59, .ref q60, .int 0, .ref q61, .ref q62, .ref q63, .int 0, .ref q64, .ref q65, .ref q66, .int 0, .ref q67]))] H := hP
    have hD : va_D A [(q49, .inr (12, [.int 0, .ref q50, .int 0, .ref q51, .int 0, .ref q52, .ref q53, .int 0, .ref q54, .int 0, .ref q55, .int (-9), .int 0, .int 0, .ref q56, .ref q57, .ref q58, .ref q59, .ref q60, .int 0, .ref q61, .ref q62, .ref q63, .int 0, .ref q64, .ref q65, .ref q66, .int 0, .ref q67]))] := hD
    refine lv_aload_n hx hb dL_law_428 rfl (lv_at hl 1 rfl) ?_
    refine lv_aload_n hx hb dL_law_429 rfl (lv_at hl 3 rfl) ?_
    refine lv_iload_n hx hb dL_law_430 rfl (lv_at hl 0 rfl) ?_
    refine lv_iconst (v := 1) hx hb dL_law_431 (by decide) ?_
    refine lv_iadd hx hb dL_law_432 (tk_i (v := 1) (by decide +kernel) ?_)
    refine va_sld hx hb hX hbl hbA hS (vin (by decide +kernel)) dL_law_433 (tk_i (v := a1) ha1 ?_)
    refine kcall_i (D := (dC, dI)) (S := Unit) (v := (-1)) (wc := [(q49, .inr (12, [.int 0, .ref q50, .int 0, .ref q51, .int 0, .ref q52, .ref q53, .int 0, .ref q54, .int 0, .ref q55, .int (-9), .int 0, .int 0, .ref q56, .ref q57, .ref q58, .ref q59, .ref q60, .int 0, .ref q61, .ref q62, .ref q63, .int 0, .ref q64, .ref q65, .ref q66, .int 0, .ref q67]))]) (wr := []) (w1 := fun _ => []) (fun hPc hDc => va_runV (As := [.int a1]) (rest := [.int (-1)]) ⟨hx, hb, hml, hown, hts⟩ (kX12_draft_2 l dC dI cI c2 q49 q50 q51 q52 q53 q54 q55 q56 q57 q58 q59 q60 q61 q62 q63 q64 q65 q66 q67 H.size a1 (by omega) (by omega)) (cwV 1 hts gL_law_X12_draft rfl rfl rfl (by decide +kernel) ⟨Nat.le_of_ble_eq_true rfl, Nat.le_of_ble_eq_true rfl⟩) (pre_V hPc hK hDc hN (ci := 12) (q0 := 0) rfl rfl) rfl rfl hl.1 rfl (lv_room (Nat.le_of_ble_eq_true rfl)) dL_law_434 ⟨Nat.le_of_ble_eq_true rfl, Nat.le_of_ble_eq_true rfl⟩) hP hD hS hA [0] [] rfl rfl (by decide) (by decide) (by decide) (fun u H locs hP hD hS => ?_)
    have hP : va_P (dC, dI) vwCl [] H := hP
    have hD : va_D A [] := hD
    refine lv_icmp_eq (tgt := 1080) hx hb dL_law_437 (by decide) (fun _ => ?_) (fun h9 => absurd (by decide +kernel) h9)
    refine lv_iinc (v := 4) (lv' := [(3, .int 4), (2, .ref q49), (1, .ref q1), (0, .ref b)]) hx hb dL_law_1080 hl (k := 0) rfl (by decide +kernel) (by decide) rfl (fun ls hl => ?_)
    refine lv_goto (tgt := 18) hx hb dL_law_1083 (by decide) ?_
    refine lv_iload_n hx hb dL_law_18 rfl (lv_at hl 0 rfl) ?_
    refine lv_aload_n hx hb dL_law_19 rfl (lv_at hl 3 rfl) ?_
    refine va_slen hx hb hX hbl hbA hS dL_law_20 (tk_i (v := 4) (by decide +kernel) ?_)
    refine lv_iconst (v := 4) hx hb dL_law_21 (by decide) ?_
    refine lv_isub hx hb dL_law_22 (tk_i (v := 0) (by decide +kernel) ?_)
    refine lv_icmp_gt (tgt := 1086) hx hb dL_law_23 (by decide) (fun _ => ?_) (fun h9 => absurd (by decide +kernel) h9)
    refine lv_iconst (v := 1) hx hb dL_law_1086 (by decide) ?_
    refine va_forget (fun q hq => by have h9 := hS.2.2 q hq; rw [← hAe] at h9; exact h9) ?_
    refine W.widen (k := 600000) (n := 7302250) (by decide) (by decide) ?_
    exact lw_ret hx hb hr hlocks dL_law_1087
set_option maxHeartbeats 8000000 in
set_option maxRecDepth 100000 in
theorem lc_10 {p : Program} {e : Env} {s : State} {m : MethodId} {below : List Frame} {meth : Method} {c : Code} (l : Launch) {b : Nat} {xs : Nat → Int32} (C0 : lw_At p s m meth c b 4 xs) (dC : Nat → ClassId) (dI : Nat → Nat → Nat) (cI c2 : ClassId) (q1 : Nat) (q2 : Nat) (q3 : Nat) (q4 : Nat) (q5 : Nat) (q6 : Nat) (q7 : Nat) (q8 : Nat) (r9 : Nat → Nat) (q10 : Nat) (q11 : Nat) (q12 : Nat) (r13 : Nat → Nat) (q14 : Nat) (q15 : Nat) (q16 : Nat) (q17 : Nat) (q18 : Nat) (q19 : Nat) (q20 : Nat) (r21 : Nat → Nat) (q22 : Nat) (q23 : Nat) (q24 : Nat) (q25 : Nat) (q26 : Nat) (q27 : Nat) (q28 : Nat) (q29 : Nat) (q30 : Nat) (q31 : Nat) (q32 : Nat) (q33 : Nat) (q34 : Nat) (q35 : Nat) (q36 : Nat) (q37 : Nat) (q38 : Nat) (q39 : Nat) (q40 : Nat) (q41 : Nat) (q42 : Nat) (q43 : Nat) (q44 : Nat) (q45 : Nat) (q46 : Nat) (q47 : Nat) (q48 : Nat) (q49 : Nat) (q50 : Nat) (q51 : Nat) (q52 : Nat) (q53 : Nat) (q54 : Nat) (q55 : Nat) (q56 : Nat) (q57 : Nat) (q58 : Nat) (q59 : Nat) (q60 : Nat) (q61 : Nat) (q62 : Nat) (q63 : Nat) (q64 : Nat) (q65 : Nat) (q66 : Nat) (q67 : Nat) (a1 a2 a3 : Int32) (ha1 : xs (Int32.toNatClampNeg 1) = a1) (ha2 : xs (Int32.toNatClampNeg 2) = a2) (ha3 : xs (Int32.toNatClampNeg 3) = a3) (hK : va_K (dC, dI) vwCl [(cI, .int), (c2, .array .int)] s) (hN : nsAll s) (H : Heap) (locs : List Loc) (hP : va_P (dC, dI) vwCl [(q1, .inr (11, [.ref q2, .ref q4, .ref q6, .ref q18, .ref q23, .ref q28, .ref q33, .ref q36, .ref q37, .ref q40, .ref q44, .ref q48, .int 0])), (q2, .inr (4, [.ref q3, .int 0, .int 0])), (q3, .inl (cI, 12, .inl (fun _ => 0))), (q4, .inr (10, [.ref q5, .int 0, .int 0])), (q5, .inl (cI, 12, .inl (fun _ => (-1)))), (q6, .inr (6, [.ref q7, .ref q10, .ref q16, .ref q17, .int 0, .int 0, .int 0, .int 0, .int 0])), (q7, .inr (3, [.ref q8, .int 0])), (q8, .inl (c2, 13, .inr (.inr (.inr (.inr (fun i => if i < 13 then some (r9 i) else none)))))), (r9 0, .inl (cI, 12, .inl (fun _ => 0))), (q10, .inr (5, [.ref q11, .ref q14, .ref q15, .int 0, .int 0, .int 0])), (q11, .inr (3, [.ref q12, .int 0])), (q12, .inl (c2, 13, .inr (.inr (.inr (.inr (fun i => if i < 13 then some (r13 i) else none)))))), (r13 0, .inl (cI, 12, .inl (fun _ => 0))), (q14, .inl (cI, 4096, .inl (fun _ => 0))), (q18, .inr (9, [.ref q19, .ref q22, .int 0, .int (-1)])), (q19, .inr (3, [.ref q20, .int 0])), (q20, .inl (c2, 13, .inr (.inr (.inr (.inr (fun i => if i < 13 then some (r21 i) else none)))))), (r21 0, .inl (cI, 12, .inl (fun _ => 0))), (q23, .inr (1, [.int 0, .ref q24, .ref q25, .ref q26, .ref q27, .int 0, .int (-1), .int (-1)])), (q28, .inr (1, [.int 1, .ref q29, .ref q30, .ref q31, .ref q32, .int 0, .int (-1), .int (-1)])), (q33, .inr (7, [.ref q34, .ref q35, .int 0, .int (-1)])), (q35, .inl (cI, 12, .inl (fun _ => 0))), (q37, .inr (2, [.ref q38, .ref q39, .int 0, .int (-1)])), (q40, .inr (0, [.ref q42, .ref q41, .ref q43, .int 0, .int 0, .int 0, .int 0, .int (-1)])), (q42, .inl (cI, 4096, .inl (fun _ => 0))), (q44, .inr (0, [.ref q46, .ref q45, .ref q47, .int 0, .int 0, .int 0, .int 0, .int (-1)])), (q46, .inl (cI, 256, .inl (fun _ => 0))), (q48, .inl (cI, 5, .inl (fun _ => 0))), (q49, .inr (12, [.int 0, .ref q50, .int 0, .ref q51, .int 0, .ref q52, .ref q53, .int 0, .ref q54, .int 0, .ref q55, .int (-9), .int 0, .int 0, .ref q56, .ref q57, .ref q58, .ref q59, .ref q60, .int 0, .ref q61, .ref q62, .ref q63, .int 0, .ref q64, .ref q65, .ref q66, .int 0, .ref q67])), (q50, .inl (cI, 5, .inl (fun _ => 0))), (q51, .inl (cI, 12, .inl (fun _ => 0))), (q52, .inl (cI, 12, .inl (fun _ => (-9)))), (q56, .inl (cI, 12, .inl (fun _ => 0))), (q57, .inl (cI, 12, .inl (fun _ => 0))), (q58, .inl (cI, 49152, .inl (fun _ => 0))), (q59, .inl (cI, 4096, .inl (fun _ => 0))), (q67, .inl (cI, 12, .inl (fun _ => 0)))] H) (hD : va_D (fun q : Nat => s.heap.size ≤ q) [(q1, .inr (11, [.ref q2, .ref q4, .ref q6, .ref q18, .ref q23, .ref q28, .ref q33, .ref q36, .ref q37, .ref q40, .ref q44, .ref q48, .int 0])), (q2, .inr (4, [.ref q3, .int 0, .int 0])), (q3, .inl (cI, 12, .inl (fun _ => 0))), (q4, .inr (10, [.ref q5, .int 0, .int 0])), (q5, .inl (cI, 12, .inl (fun _ => (-1)))), (q6, .inr (6, [.ref q7, .ref q10, .ref q16, .ref q17, .int 0, .int 0, .int 0, .int 0, .int 0])), (q7, .inr (3, [.ref q8, .int 0])), (q8, .inl (c2, 13, .inr (.inr (.inr (.inr (fun i => if i < 13 then some (r9 i) else none)))))), (r9 0, .inl (cI, 12, .inl (fun _ => 0))), (q10, .inr (5, [.ref q11, .ref q14, .ref q15, .int 0, .int 0, .int 0])), (q11, .inr (3, [.ref q12, .int 0])), (q12, .inl (c2, 13, .inr (.inr (.inr (.inr (fun i => if i < 13 then some (r13 i) else none)))))), (r13 0, .inl (cI, 12, .inl (fun _ => 0))), (q14, .inl (cI, 4096, .inl (fun _ => 0))), (q18, .inr (9, [.ref q19, .ref q22, .int 0, .int (-1)])), (q19, .inr (3, [.ref q20, .int 0])), (q20, .inl (c2, 13, .inr (.inr (.inr (.inr (fun i => if i < 13 then some (r21 i) else none)))))), (r21 0, .inl (cI, 12, .inl (fun _ => 0))), (q23, .inr (1, [.int 0, .ref q24, .ref q25, .ref q26, .ref q27, .int 0, .int (-1), .int (-1)])), (q28, .inr (1, [.int 1, .ref q29, .ref q30, .ref q31, .ref q32, .int 0, .int (-1), .int (-1)])), (q33, .inr (7, [.ref q34, .ref q35, .int 0, .int (-1)])), (q35, .inl (cI, 12, .inl (fun _ => 0))), (q37, .inr (2, [.ref q38, .ref q39, .int 0, .int (-1)])), (q40, .inr (0, [.ref q42, .ref q41, .ref q43, .int 0, .int 0, .int 0, .int 0, .int (-1)])), (q42, .inl (cI, 4096, .inl (fun _ => 0))), (q44, .inr (0, [.ref q46, .ref q45, .ref q47, .int 0, .int 0, .int 0, .int 0, .int (-1)])), (q46, .inl (cI, 256, .inl (fun _ => 0))), (q48, .inl (cI, 5, .inl (fun _ => 0))), (q49, .inr (12, [.int 0, .ref q50, .int 0, .ref q51, .int 0, .ref q52, .ref q53, .int 0, .ref q54, .int 0, .ref q55, .int (-9), .int 0, .int 0, .ref q56, .ref q57, .ref q58, .ref q59, .ref q60, .int 0, .ref q61, .ref q62, .ref q63, .int 0, .ref q64, .ref q65, .ref q66, .int 0, .ref q67])), (q50, .inl (cI, 5, .inl (fun _ => 0))), (q51, .inl (cI, 12, .inl (fun _ => 0))), (q52, .inl (cI, 12, .inl (fun _ => (-9)))), (q56, .inl (cI, 12, .inl (fun _ => 0))), (q57, .inl (cI, 12, .inl (fun _ => 0))), (q58, .inl (cI, 49152, .inl (fun _ => 0))), (q59, .inl (cI, 4096, .inl (fun _ => 0))), (q67, .inl (cI, 12, .inl (fun _ => 0)))]) (hS : va_S (fun q : Nat => s.heap.size ≤ q) s.heap H locs) (ls : Array Slot) (hl : lv_has ls 4 [(3, .int 0), (2, .ref q49), (1, .ref q1), (0, .ref b)]) : W p l e room_1 s m #[Value.ref b] below meth c H locs 128 161896 (lw_Z below #[Value.ref b] s) (F0 m 442 ls []) := by
  obtain ⟨hx, hb, hr, hml, hown0, hts0, hX, hbl, hlocks, hgv⟩ := id C0
  have hown : s.vm.findClass RL = some m.cls := hown0
  have hts : ∀ w ∈ wsL_law, w.before #[Value.ref b] s = true := fun w h => hts0 w (wsL_law_in w h)
  have hA : ∀ q : Nat, s.heap.size ≤ q → (fun q : Nat => s.heap.size ≤ q) q := fun _ h => h
  have hbA : ¬ (fun q : Nat => s.heap.size ≤ q) b := Nat.not_le.mpr hbl
  generalize hAe : (fun q : Nat => s.heap.size ≤ q) = A at hD hS hA hbA
  have a1_rg := i_rng a1
  have a2_rg := i_rng a2
  have a3_rg := i_rng a3
  obtain ⟨a1_l, a1_h⟩ := a1_rg
  obtain ⟨a2_l, a2_h⟩ := a2_rg
  obtain ⟨a3_l, a3_h⟩ := a3_rg
  refine lv_aload_n hx hb dL_law_442 rfl (lv_at hl 2 rfl) ?_
  refine kcall_i (D := (dC, dI)) (S := Unit) (v := 0) (wc := [(q1, .inr (11, [.ref q2, .ref q4, .ref q6, .ref q18, .ref q23, .ref q28, .ref q33, .ref q36, .ref q37, .ref q40, .ref q44, .ref q48, .int 0])), (q6, .inr (6, [.ref q7, .ref q10, .ref q16, .ref q17, .int 0, .int 0, .int 0, .int 0, .int 0])), (q2, .inr (4, [.ref q3, .int 0, .int 0])), (q7, .inr (3, [.ref q8, .int 0])), (q8, .inl (c2, 13, .inr (.inr (.inr (.inr (fun i => if i < 13 then some (r9 i) else none)))))), (q3, .inl (cI, 12, .inl (fun _ => 0))), (r9 0, .inl (cI, 12, .inl (fun _ => 0)))]) (wr := [(q49, .inr (12, [.int 0, .ref q50, .int 0, .ref q51, .int 0, .ref q52, .ref q53, .int 0, .ref q54, .int 0, .ref q55, .int (-9), .int 0, .int 0, .ref q56, .ref q57, .ref q58, .ref q59, .ref q60, .int 0, .ref q61, .ref q62, .ref q63, .int 0, .ref q64, .ref q65, .ref q66, .int 0, .ref q67])), (q51, .inl (cI, 12, .inl (fun _ => 0))), (q56, .inl (cI, 12, .inl (fun _ => 0))), (q57, .inl (cI, 12, .inl (fun _ => 0)))]) (w1 := fun _ => []) (fun hPc hDc => va_runV (As := []) (rest := []) ⟨hx, hb, hml, hown, hts⟩ (kX11_take_1 l dC dI cI c2 q1 q6 q2 q7 q8 q3 r9 q4 q18 q23 q28 q33 q36 q37 q40 q44 q48 q10 q16 q17 H.size) (cwV 0 hts gL_law_X11_take rfl rfl rfl (by decide +kernel) ⟨Nat.le_of_ble_eq_true rfl, Nat.le_of_ble_eq_true rfl⟩) (pre_V hPc hK hDc hN (ci := 11) (q0 := 0) rfl rfl) rfl rfl hl.1 rfl (lv_room (Nat.le_of_ble_eq_true rfl)) dL_law_443 ⟨Nat.le_of_ble_eq_true rfl, Nat.le_of_ble_eq_true rfl⟩) hP hD hS hA [0, 5, 1, 6, 7, 2, 8] [28, 30, 32, 33] rfl rfl (by decide) (by decide) (by decide) (fun u H locs hP hD hS => ?_)
  have hP : va_P (dC, dI) vwCl [(q49, .inr (12, [.int 0, .ref q50, .int 0, .ref q51, .int 0, .ref q52, .ref q53, .int 0, .ref q54, .int 0, .ref q55, .int (-9), .int 0, .int 0, .ref q56, .ref q57, .ref q58, .ref q59, .ref q60, .int 0, .ref q61, .ref q62, .ref q63, .int 0, .ref q64, .ref q65, .ref q66, .int 0, .ref q67])), (q51, .inl (cI, 12, .inl (fun _ => 0))), (q56, .inl (cI, 12, .inl (fun _ => 0))), (q57, .inl (cI, 12, .inl (fun _ => 0)))] H := hP
  have hD : va_D A [(q49, .inr (12, [.int 0, .ref q50, .int 0, .ref q51, .int 0, .ref q52, .ref q53, .int 0, .ref q54, .int 0, .ref q55, .int (-9), .int 0, .int 0, .ref q56, .ref q57, .ref q58, .ref q59, .ref q60, .int 0, .ref q61, .ref q62, .ref q63, .int 0, .ref q64, .ref q65, .ref q66, .int 0, .ref q67])), (q51, .inl (cI, 12, .inl (fun _ => 0))), (q56, .inl (cI, 12, .inl (fun _ => 0))), (q57, .inl (cI, 12, .inl (fun _ => 0)))] := hD
  refine lv_aload_n hx hb dL_law_446 rfl (lv_at hl 1 rfl) ?_
  refine kcall_i (D := (dC, dI)) (S := Unit) (v := 0) (wc := [(q49, .inr (12, [.int 0, .ref q50, .int 0, .ref q51, .int 0, .ref q52, .ref q53, .int 0, .ref q54, .int 0, .ref q55, .int (-9), .int 0, .int 0, .ref q56, .ref q57, .ref q58, .ref q59, .ref q60, .int 0, .ref q61, .ref q62, .ref q63, .int 0, .ref q64, .ref q65, .ref q66, .int 0, .ref q67])), (q51, .inl (cI, 12, .inl (fun _ => 0))), (q56, .inl (cI, 12, .inl (fun _ => 0))), (q57, .inl (cI, 12, .inl (fun _ => 0)))]) (wr := []) (w1 := fun _ => []) (fun hPc hDc => va_runV (As := []) (rest := [.int 0]) ⟨hx, hb, hml, hown, hts⟩ (kX12_take_1 l dC dI cI c2 q49 q51 q56 q57 q50 q52 q53 q54 q55 q58 q59 q60 q61 q62 q63 q64 q65 q66 q67 H.size) (cwV 0 hts gL_law_X12_take rfl rfl rfl (by decide +kernel) ⟨Nat.le_of_ble_eq_true rfl, Nat.le_of_ble_eq_true rfl⟩) (pre_V hPc hK hDc hN (ci := 12) (q0 := 0) rfl rfl) rfl rfl hl.1 rfl (lv_room (Nat.le_of_ble_eq_true rfl)) dL_law_447 ⟨Nat.le_of_ble_eq_true rfl, Nat.le_of_ble_eq_true rfl⟩) hP hD hS hA [0, 1, 2, 3] [] rfl rfl (by decide) (by decide) (by decide) (fun u H locs hP hD hS => ?_)
  have hP : va_P (dC, dI) vwCl [] H := hP
  have hD : va_D A [] := hD
  refine lv_icmp_eq (tgt := 1080) hx hb dL_law_450 (by decide) (fun _ => ?_) (fun h9 => absurd (by decide +kernel) h9)
  refine lv_iinc (v := 4) (lv' := [(3, .int 4), (2, .ref q49), (1, .ref q1), (0, .ref b)]) hx hb dL_law_1080 hl (k := 0) rfl (by decide +kernel) (by decide) rfl (fun ls hl => ?_)
  refine lv_goto (tgt := 18) hx hb dL_law_1083 (by decide) ?_
  refine lv_iload_n hx hb dL_law_18 rfl (lv_at hl 0 rfl) ?_
  refine lv_aload_n hx hb dL_law_19 rfl (lv_at hl 3 rfl) ?_
  refine va_slen hx hb hX hbl hbA hS dL_law_20 (tk_i (v := 4) (by decide +kernel) ?_)
  refine lv_iconst (v := 4) hx hb dL_law_21 (by decide) ?_
  refine lv_isub hx hb dL_law_22 (tk_i (v := 0) (by decide +kernel) ?_)
  refine lv_icmp_gt (tgt := 1086) hx hb dL_law_23 (by decide) (fun _ => ?_) (fun h9 => absurd (by decide +kernel) h9)
  refine lv_iconst (v := 1) hx hb dL_law_1086 (by decide) ?_
  refine va_forget (fun q hq => by have h9 := hS.2.2 q hq; rw [← hAe] at h9; exact h9) ?_
  refine W.widen (k := 600000) (n := 7302250) (by decide) (by decide) ?_
  exact lw_ret hx hb hr hlocks dL_law_1087
set_option maxHeartbeats 8000000 in
set_option maxRecDepth 100000 in
theorem lc_11 {p : Program} {e : Env} {s : State} {m : MethodId} {below : List Frame} {meth : Method} {c : Code} (l : Launch) {b : Nat} {xs : Nat → Int32} (C0 : lw_At p s m meth c b 4 xs) (dC : Nat → ClassId) (dI : Nat → Nat → Nat) (cI c2 : ClassId) (q1 : Nat) (q2 : Nat) (q3 : Nat) (q4 : Nat) (q5 : Nat) (q6 : Nat) (q7 : Nat) (q8 : Nat) (r9 : Nat → Nat) (q10 : Nat) (q11 : Nat) (q12 : Nat) (r13 : Nat → Nat) (q14 : Nat) (q15 : Nat) (q16 : Nat) (q17 : Nat) (q18 : Nat) (q19 : Nat) (q20 : Nat) (r21 : Nat → Nat) (q22 : Nat) (q23 : Nat) (q24 : Nat) (q25 : Nat) (q26 : Nat) (q27 : Nat) (q28 : Nat) (q29 : Nat) (q30 : Nat) (q31 : Nat) (q32 : Nat) (q33 : Nat) (q34 : Nat) (q35 : Nat) (q36 : Nat) (q37 : Nat) (q38 : Nat) (q39 : Nat) (q40 : Nat) (q41 : Nat) (q42 : Nat) (q43 : Nat) (q44 : Nat) (q45 : Nat) (q46 : Nat) (q47 : Nat) (q48 : Nat) (q49 : Nat) (q50 : Nat) (q51 : Nat) (q52 : Nat) (q53 : Nat) (q54 : Nat) (q55 : Nat) (q56 : Nat) (q57 : Nat) (q58 : Nat) (q59 : Nat) (q60 : Nat) (q61 : Nat) (q62 : Nat) (q63 : Nat) (q64 : Nat) (q65 : Nat) (q66 : Nat) (q67 : Nat) (a1 a2 a3 : Int32) (ha1 : xs (Int32.toNatClampNeg 1) = a1) (ha2 : xs (Int32.toNatClampNeg 2) = a2) (ha3 : xs (Int32.toNatClampNeg 3) = a3) (hK : va_K (dC, dI) vwCl [(cI, .int), (c2, .array .int)] s) (hN : nsAll s) (H : Heap) (locs : List Loc) (hP : va_P (dC, dI) vwCl [(q1, .inr (11, [.ref q2, .ref q4, .ref q6, .ref q18, .ref q23, .ref q28, .ref q33, .ref q36, .ref q37, .ref q40, .ref q44, .ref q48, .int 0])), (q2, .inr (4, [.ref q3, .int 0, .int 0])), (q3, .inl (cI, 12, .inl (fun _ => 0))), (q4, .inr (10, [.ref q5, .int 0, .int 0])), (q5, .inl (cI, 12, .inl (fun _ => (-1)))), (q6, .inr (6, [.ref q7, .ref q10, .ref q16, .ref q17, .int 0, .int 0, .int 0, .int 0, .int 0])), (q7, .inr (3, [.ref q8, .int 0])), (q8, .inl (c2, 13, .inr (.inr (.inr (.inr (fun i => if i < 13 then some (r9 i) else none)))))), (r9 0, .inl (cI, 12, .inl (fun _ => 0))), (q10, .inr (5, [.ref q11, .ref q14, .ref q15, .int 0, .int 0, .int 0])), (q11, .inr (3, [.ref q12, .int 0])), (q12, .inl (c2, 13, .inr (.inr (.inr (.inr (fun i => if i < 13 then some (r13 i) else none)))))), (r13 0, .inl (cI, 12, .inl (fun _ => 0))), (q14, .inl (cI, 4096, .inl (fun _ => 0))), (q18, .inr (9, [.ref q19, .ref q22, .int 0, .int (-1)])), (q19, .inr (3, [.ref q20, .int 0])), (q20, .inl (c2, 13, .inr (.inr (.inr (.inr (fun i => if i < 13 then some (r21 i) else none)))))), (r21 0, .inl (cI, 12, .inl (fun _ => 0))), (q23, .inr (1, [.int 0, .ref q24, .ref q25, .ref q26, .ref q27, .int 0, .int (-1), .int (-1)])), (q28, .inr (1, [.int 1, .ref q29, .ref q30, .ref q31, .ref q32, .int 0, .int (-1), .int (-1)])), (q33, .inr (7, [.ref q34, .ref q35, .int 0, .int (-1)])), (q35, .inl (cI, 12, .inl (fun _ => 0))), (q37, .inr (2, [.ref q38, .ref q39, .int 0, .int (-1)])), (q40, .inr (0, [.ref q42, .ref q41, .ref q43, .int 0, .int 0, .int 0, .int 0, .int (-1)])), (q42, .inl (cI, 4096, .inl (fun _ => 0))), (q44, .inr (0, [.ref q46, .ref q45, .ref q47, .int 0, .int 0, .int 0, .int 0, .int (-1)])), (q46, .inl (cI, 256, .inl (fun _ => 0))), (q48, .inl (cI, 5, .inl (fun _ => 0))), (q49, .inr (12, [.int 0, .ref q50, .int 0, .ref q51, .int 0, .ref q52, .ref q53, .int 0, .ref q54, .int 0, .ref q55, .int (-9), .int 0, .int 0, .ref q56, .ref q57, .ref q58, .ref q59, .ref q60, .int 0, .ref q61, .ref q62, .ref q63, .int 0, .ref q64, .ref q65, .ref q66, .int 0, .ref q67])), (q50, .inl (cI, 5, .inl (fun _ => 0))), (q51, .inl (cI, 12, .inl (fun _ => 0))), (q52, .inl (cI, 12, .inl (fun _ => (-9)))), (q56, .inl (cI, 12, .inl (fun _ => 0))), (q57, .inl (cI, 12, .inl (fun _ => 0))), (q58, .inl (cI, 49152, .inl (fun _ => 0))), (q59, .inl (cI, 4096, .inl (fun _ => 0))), (q67, .inl (cI, 12, .inl (fun _ => 0)))] H) (hD : va_D (fun q : Nat => s.heap.size ≤ q) [(q1, .inr (11, [.ref q2, .ref q4, .ref q6, .ref q18, .ref q23, .ref q28, .ref q33, .ref q36, .ref q37, .ref q40, .ref q44, .ref q48, .int 0])), (q2, .inr (4, [.ref q3, .int 0, .int 0])), (q3, .inl (cI, 12, .inl (fun _ => 0))), (q4, .inr (10, [.ref q5, .int 0, .int 0])), (q5, .inl (cI, 12, .inl (fun _ => (-1)))), (q6, .inr (6, [.ref q7, .ref q10, .ref q16, .ref q17, .int 0, .int 0, .int 0, .int 0, .int 0])), (q7, .inr (3, [.ref q8, .int 0])), (q8, .inl (c2, 13, .inr (.inr (.inr (.inr (fun i => if i < 13 then some (r9 i) else none)))))), (r9 0, .inl (cI, 12, .inl (fun _ => 0))), (q10, .inr (5, [.ref q11, .ref q14, .ref q15, .int 0, .int 0, .int 0])), (q11, .inr (3, [.ref q12, .int 0])), (q12, .inl (c2, 13, .inr (.inr (.inr (.inr (fun i => if i < 13 then some (r13 i) else none)))))), (r13 0, .inl (cI, 12, .inl (fun _ => 0))), (q14, .inl (cI, 4096, .inl (fun _ => 0))), (q18, .inr (9, [.ref q19, .ref q22, .int 0, .int (-1)])), (q19, .inr (3, [.ref q20, .int 0])), (q20, .inl (c2, 13, .inr (.inr (.inr (.inr (fun i => if i < 13 then some (r21 i) else none)))))), (r21 0, .inl (cI, 12, .inl (fun _ => 0))), (q23, .inr (1, [.int 0, .ref q24, .ref q25, .ref q26, .ref q27, .int 0, .int (-1), .int (-1)])), (q28, .inr (1, [.int 1, .ref q29, .ref q30, .ref q31, .ref q32, .int 0, .int (-1), .int (-1)])), (q33, .inr (7, [.ref q34, .ref q35, .int 0, .int (-1)])), (q35, .inl (cI, 12, .inl (fun _ => 0))), (q37, .inr (2, [.ref q38, .ref q39, .int 0, .int (-1)])), (q40, .inr (0, [.ref q42, .ref q41, .ref q43, .int 0, .int 0, .int 0, .int 0, .int (-1)])), (q42, .inl (cI, 4096, .inl (fun _ => 0))), (q44, .inr (0, [.ref q46, .ref q45, .ref q47, .int 0, .int 0, .int 0, .int 0, .int (-1)])), (q46, .inl (cI, 256, .inl (fun _ => 0))), (q48, .inl (cI, 5, .inl (fun _ => 0))), (q49, .inr (12, [.int 0, .ref q50, .int 0, .ref q51, .int 0, .ref q52, .ref q53, .int 0, .ref q54, .int 0, .ref q55, .int (-9), .int 0, .int 0, .ref q56, .ref q57, .ref q58, .ref q59, .ref q60, .int 0, .ref q61, .ref q62, .ref q63, .int 0, .ref q64, .ref q65, .ref q66, .int 0, .ref q67])), (q50, .inl (cI, 5, .inl (fun _ => 0))), (q51, .inl (cI, 12, .inl (fun _ => 0))), (q52, .inl (cI, 12, .inl (fun _ => (-9)))), (q56, .inl (cI, 12, .inl (fun _ => 0))), (q57, .inl (cI, 12, .inl (fun _ => 0))), (q58, .inl (cI, 49152, .inl (fun _ => 0))), (q59, .inl (cI, 4096, .inl (fun _ => 0))), (q67, .inl (cI, 12, .inl (fun _ => 0)))]) (hS : va_S (fun q : Nat => s.heap.size ≤ q) s.heap H locs) (ls : Array Slot) (hl : lv_has ls 4 [(3, .int 0), (2, .ref q49), (1, .ref q1), (0, .ref b)]) : W p l e room_1 s m #[Value.ref b] below meth c H locs 128 161896 (lw_Z below #[Value.ref b] s) (F0 m 455 ls []) := by
  obtain ⟨hx, hb, hr, hml, hown0, hts0, hX, hbl, hlocks, hgv⟩ := id C0
  have hown : s.vm.findClass RL = some m.cls := hown0
  have hts : ∀ w ∈ wsL_law, w.before #[Value.ref b] s = true := fun w h => hts0 w (wsL_law_in w h)
  have hA : ∀ q : Nat, s.heap.size ≤ q → (fun q : Nat => s.heap.size ≤ q) q := fun _ h => h
  have hbA : ¬ (fun q : Nat => s.heap.size ≤ q) b := Nat.not_le.mpr hbl
  generalize hAe : (fun q : Nat => s.heap.size ≤ q) = A at hD hS hA hbA
  have a1_rg := i_rng a1
  have a2_rg := i_rng a2
  have a3_rg := i_rng a3
  obtain ⟨a1_l, a1_h⟩ := a1_rg
  obtain ⟨a2_l, a2_h⟩ := a2_rg
  obtain ⟨a3_l, a3_h⟩ := a3_rg
  rcases (show a1.toInt ≤ (-1) ∨ 0 ≤ a1.toInt by omega) with g_a1_0 | g_a1_0
  ·
    refine lv_aload_n hx hb dL_law_455 rfl (lv_at hl 2 rfl) ?_
    refine lv_aload_n hx hb dL_law_456 rfl (lv_at hl 3 rfl) ?_
    refine lv_iload_n hx hb dL_law_457 rfl (lv_at hl 0 rfl) ?_
    refine lv_iconst (v := 1) hx hb dL_law_458 (by decide) ?_
    refine lv_iadd hx hb dL_law_459 (tk_i (v := 1) (by decide +kernel) ?_)
    refine va_sld hx hb hX hbl hbA hS (vin (by decide +kernel)) dL_law_460 (tk_i (v := a1) ha1 ?_)
    refine kcall_i (D := (dC, dI)) (S := Unit) (v := (-1)) (wc := [(q1, .inr (11, [.ref q2, .ref q4, .ref q6, .ref q18, .ref q23, .ref q28, .ref q33, .ref q36, .ref q37, .ref q40, .ref q44, .ref q48, .int 0]))]) (wr := [(q49, .inr (12, [.int 0, .ref q50, .int 0, .ref q51, .int 0, .ref q52, .ref q53, .int 0, .ref q54, .int 0, .ref q55, .int (-9), .int 0, .int 0, .ref q56, .ref q57, .ref q58, .ref q59, .ref q60, .int 0, .ref q61, .ref q62, .ref q63, .int 0, .ref q64, .ref q65, .ref q66, .int 0, .ref q67]))]) (w1 := fun _ => []) (fun hPc hDc => va_runV (As := [.int a1]) (rest := []) ⟨hx, hb, hml, hown, hts⟩ (kX11_rule_1 l dC dI cI c2 q1 q2 q4 q6 q18 q23 q28 q33 q36 q37 q40 q44 q48 H.size a1 (by omega) (by omega)) (cwV 1 hts gL_law_X11_rule rfl rfl rfl (by decide +kernel) ⟨Nat.le_of_ble_eq_true rfl, Nat.le_of_ble_eq_true rfl⟩) (pre_V hPc hK hDc hN (ci := 11) (q0 := 0) rfl rfl) rfl rfl hl.1 rfl (lv_room (Nat.le_of_ble_eq_true rfl)) dL_law_461 ⟨Nat.le_of_ble_eq_true rfl, Nat.le_of_ble_eq_true rfl⟩) hP hD hS hA [0] [28] rfl rfl (by decide) (by decide) (by decide) (fun u H locs hP hD hS => ?_)
    have hP : va_P (dC, dI) vwCl [(q49, .inr (12, [.int 0, .ref q50, .int 0, .ref q51, .int 0, .ref q52, .ref q53, .int 0, .ref q54, .int 0, .ref q55, .int (-9), .int 0, .int 0, .ref q56, .ref q57, .ref q58, .ref q59, .ref q60, .int 0, .ref q61, .ref q62, .ref q63, .int 0, .ref q64, .ref q65, .ref q66, .int 0, .ref q67]))] H := hP
    have hD : va_D A [(q49, .inr (12, [.int 0, .ref q50, .int 0, .ref q51, .int 0, .ref q52, .ref q53, .int 0, .ref q54, .int 0, .ref q55, .int (-9), .int 0, .int 0, .ref q56, .ref q57, .ref q58, .ref q59, .ref q60, .int 0, .ref q61, .ref q62, .ref q63, .int 0, .ref q64, .ref q65, .ref q66, .int 0, .ref q67]))] := hD
    refine lv_aload_n hx hb dL_law_464 rfl (lv_at hl 1 rfl) ?_
    refine lv_aload_n hx hb dL_law_465 rfl (lv_at hl 3 rfl) ?_
    refine lv_iload_n hx hb dL_law_466 rfl (lv_at hl 0 rfl) ?_
    refine lv_iconst (v := 1) hx hb dL_law_467 (by decide) ?_
    refine lv_iadd hx hb dL_law_468 (tk_i (v := 1) (by decide +kernel) ?_)
    refine va_sld hx hb hX hbl hbA hS (vin (by decide +kernel)) dL_law_469 (tk_i (v := a1) ha1 ?_)
    refine kcall_i (D := (dC, dI)) (S := Unit) (v := (-1)) (wc := [(q49, .inr (12, [.int 0, .ref q50, .int 0, .ref q51, .int 0, .ref q52, .ref q53, .int 0, .ref q54, .int 0, .ref q55, .int (-9), .int 0, .int 0, .ref q56, .ref q57, .ref q58, .ref q59, .ref q60, .int 0, .ref q61, .ref q62, .ref q63, .int 0, .ref q64, .ref q65, .ref q66, .int 0, .ref q67]))]) (wr := []) (w1 := fun _ => []) (fun hPc hDc => va_runV (As := [.int a1]) (rest := [.int (-1)]) ⟨hx, hb, hml, hown, hts⟩ (kX12_rule_1 l dC dI cI c2 q49 q50 q51 q52 q53 q54 q55 q56 q57 q58 q59 q60 q61 q62 q63 q64 q65 q66 q67 H.size a1 (by omega) (by omega)) (cwV 1 hts gL_law_X12_rule rfl rfl rfl (by decide +kernel) ⟨Nat.le_of_ble_eq_true rfl, Nat.le_of_ble_eq_true rfl⟩) (pre_V hPc hK hDc hN (ci := 12) (q0 := 0) rfl rfl) rfl rfl hl.1 rfl (lv_room (Nat.le_of_ble_eq_true rfl)) dL_law_470 ⟨Nat.le_of_ble_eq_true rfl, Nat.le_of_ble_eq_true rfl⟩) hP hD hS hA [0] [] rfl rfl (by decide) (by decide) (by decide) (fun u H locs hP hD hS => ?_)
    have hP : va_P (dC, dI) vwCl [] H := hP
    have hD : va_D A [] := hD
    refine lv_icmp_eq (tgt := 1080) hx hb dL_law_473 (by decide) (fun _ => ?_) (fun h9 => absurd (by decide +kernel) h9)
    refine lv_iinc (v := 4) (lv' := [(3, .int 4), (2, .ref q49), (1, .ref q1), (0, .ref b)]) hx hb dL_law_1080 hl (k := 0) rfl (by decide +kernel) (by decide) rfl (fun ls hl => ?_)
    refine lv_goto (tgt := 18) hx hb dL_law_1083 (by decide) ?_
    refine lv_iload_n hx hb dL_law_18 rfl (lv_at hl 0 rfl) ?_
    refine lv_aload_n hx hb dL_law_19 rfl (lv_at hl 3 rfl) ?_
    refine va_slen hx hb hX hbl hbA hS dL_law_20 (tk_i (v := 4) (by decide +kernel) ?_)
    refine lv_iconst (v := 4) hx hb dL_law_21 (by decide) ?_
    refine lv_isub hx hb dL_law_22 (tk_i (v := 0) (by decide +kernel) ?_)
    refine lv_icmp_gt (tgt := 1086) hx hb dL_law_23 (by decide) (fun _ => ?_) (fun h9 => absurd (by decide +kernel) h9)
    refine lv_iconst (v := 1) hx hb dL_law_1086 (by decide) ?_
    refine va_forget (fun q hq => by have h9 := hS.2.2 q hq; rw [← hAe] at h9; exact h9) ?_
    refine W.widen (k := 600000) (n := 7302250) (by decide) (by decide) ?_
    exact lw_ret hx hb hr hlocks dL_law_1087
  ·
    rcases (show a1.toInt ≤ 2 ∨ 3 ≤ a1.toInt by omega) with g_a1_3 | g_a1_3
    ·
      refine lv_aload_n hx hb dL_law_455 rfl (lv_at hl 2 rfl) ?_
      refine lv_aload_n hx hb dL_law_456 rfl (lv_at hl 3 rfl) ?_
      refine lv_iload_n hx hb dL_law_457 rfl (lv_at hl 0 rfl) ?_
      refine lv_iconst (v := 1) hx hb dL_law_458 (by decide) ?_
      refine lv_iadd hx hb dL_law_459 (tk_i (v := 1) (by decide +kernel) ?_)
      refine va_sld hx hb hX hbl hbA hS (vin (by decide +kernel)) dL_law_460 (tk_i (v := a1) ha1 ?_)
      refine kcall_i (D := (dC, dI)) (S := Unit) (v := 0) (wc := [(q1, .inr (11, [.ref q2, .ref q4, .ref q6, .ref q18, .ref q23, .ref q28, .ref q33, .ref q36, .ref q37, .ref q40, .ref q44, .ref q48, .int 0])), (q6, .inr (6, [.ref q7, .ref q10, .ref q16, .ref q17, .int 0, .int 0, .int 0, .int 0, .int 0])), (q7, .inr (3, [.ref q8, .int 0])), (q2, .inr (4, [.ref q3, .int 0, .int 0])), (q8, .inl (c2, 13, .inr (.inr (.inr (.inr (fun i => if i < 13 then some (r9 i) else none)))))), (q3, .inl (cI, 12, .inl (fun _ => 0))), (r9 0, .inl (cI, 12, .inl (fun _ => 0)))]) (wr := [(q49, .inr (12, [.int 0, .ref q50, .int 0, .ref q51, .int 0, .ref q52, .ref q53, .int 0, .ref q54, .int 0, .ref q55, .int (-9), .int 0, .int 0, .ref q56, .ref q57, .ref q58, .ref q59, .ref q60, .int 0, .ref q61, .ref q62, .ref q63, .int 0, .ref q64, .ref q65, .ref q66, .int 0, .ref q67])), (q51, .inl (cI, 12, .inl (fun _ => 0))), (q56, .inl (cI, 12, .inl (fun _ => 0))), (q57, .inl (cI, 12, .inl (fun _ => 0)))]) (w1 := fun _ => []) (fun hPc hDc => va_runV (As := [.int a1]) (rest := []) ⟨hx, hb, hml, hown, hts⟩ (kX11_rule_2 l dC dI cI c2 q1 q6 q7 q2 q8 q3 r9 q4 q18 q23 q28 q33 q36 q37 q40 q44 q48 q10 q16 q17 H.size a1 (by omega) (by omega)) (cwV 1 hts gL_law_X11_rule rfl rfl rfl (by decide +kernel) ⟨Nat.le_of_ble_eq_true rfl, Nat.le_of_ble_eq_true rfl⟩) (pre_V hPc hK hDc hN (ci := 11) (q0 := 0) rfl rfl) rfl rfl hl.1 rfl (lv_room (Nat.le_of_ble_eq_true rfl)) dL_law_461 ⟨Nat.le_of_ble_eq_true rfl, Nat.le_of_ble_eq_true rfl⟩) hP hD hS hA [0, 5, 6, 1, 7, 2, 8] [28, 30, 32, 33] rfl rfl (by decide) (by decide) (by decide) (fun u H locs hP hD hS => ?_)
      have hP : va_P (dC, dI) vwCl [(q49, .inr (12, [.int 0, .ref q50, .int 0, .ref q51, .int 0, .ref q52, .ref q53, .int 0, .ref q54, .int 0, .ref q55, .int (-9), .int 0, .int 0, .ref q56, .ref q57, .ref q58, .ref q59, .ref q60, .int 0, .ref q61, .ref q62, .ref q63, .int 0, .ref q64, .ref q65, .ref q66, .int 0, .ref q67])), (q51, .inl (cI, 12, .inl (fun _ => 0))), (q56, .inl (cI, 12, .inl (fun _ => 0))), (q57, .inl (cI, 12, .inl (fun _ => 0)))] H := hP
      have hD : va_D A [(q49, .inr (12, [.int 0, .ref q50, .int 0, .ref q51, .int 0, .ref q52, .ref q53, .int 0, .ref q54, .int 0, .ref q55, .int (-9), .int 0, .int 0, .ref q56, .ref q57, .ref q58, .ref q59, .ref q60, .int 0, .ref q61, .ref q62, .ref q63, .int 0, .ref q64, .ref q65, .ref q66, .int 0, .ref q67])), (q51, .inl (cI, 12, .inl (fun _ => 0))), (q56, .inl (cI, 12, .inl (fun _ => 0))), (q57, .inl (cI, 12, .inl (fun _ => 0)))] := hD
      refine lv_aload_n hx hb dL_law_464 rfl (lv_at hl 1 rfl) ?_
      refine lv_aload_n hx hb dL_law_465 rfl (lv_at hl 3 rfl) ?_
      refine lv_iload_n hx hb dL_law_466 rfl (lv_at hl 0 rfl) ?_
      refine lv_iconst (v := 1) hx hb dL_law_467 (by decide) ?_
      refine lv_iadd hx hb dL_law_468 (tk_i (v := 1) (by decide +kernel) ?_)
      refine va_sld hx hb hX hbl hbA hS (vin (by decide +kernel)) dL_law_469 (tk_i (v := a1) ha1 ?_)
      refine kcall_i (D := (dC, dI)) (S := Unit) (v := 0) (wc := [(q49, .inr (12, [.int 0, .ref q50, .int 0, .ref q51, .int 0, .ref q52, .ref q53, .int 0, .ref q54, .int 0, .ref q55, .int (-9), .int 0, .int 0, .ref q56, .ref q57, .ref q58, .ref q59, .ref q60, .int 0, .ref q61, .ref q62, .ref q63, .int 0, .ref q64, .ref q65, .ref q66, .int 0, .ref q67])), (q51, .inl (cI, 12, .inl (fun _ => 0))), (q56, .inl (cI, 12, .inl (fun _ => 0))), (q57, .inl (cI, 12, .inl (fun _ => 0)))]) (wr := []) (w1 := fun _ => []) (fun hPc hDc => va_runV (As := [.int a1]) (rest := [.int 0]) ⟨hx, hb, hml, hown, hts⟩ (kX12_rule_2 l dC dI cI c2 q49 q51 q56 q57 q50 q52 q53 q54 q55 q58 q59 q60 q61 q62 q63 q64 q65 q66 q67 H.size a1 (by omega) (by omega)) (cwV 1 hts gL_law_X12_rule rfl rfl rfl (by decide +kernel) ⟨Nat.le_of_ble_eq_true rfl, Nat.le_of_ble_eq_true rfl⟩) (pre_V hPc hK hDc hN (ci := 12) (q0 := 0) rfl rfl) rfl rfl hl.1 rfl (lv_room (Nat.le_of_ble_eq_true rfl)) dL_law_470 ⟨Nat.le_of_ble_eq_true rfl, Nat.le_of_ble_eq_true rfl⟩) hP hD hS hA [0, 1, 2, 3] [] rfl rfl (by decide) (by decide) (by decide) (fun u H locs hP hD hS => ?_)
      have hP : va_P (dC, dI) vwCl [] H := hP
      have hD : va_D A [] := hD
      refine lv_icmp_eq (tgt := 1080) hx hb dL_law_473 (by decide) (fun _ => ?_) (fun h9 => absurd (by decide +kernel) h9)
      refine lv_iinc (v := 4) (lv' := [(3, .int 4), (2, .ref q49), (1, .ref q1), (0, .ref b)]) hx hb dL_law_1080 hl (k := 0) rfl (by decide +kernel) (by decide) rfl (fun ls hl => ?_)
      refine lv_goto (tgt := 18) hx hb dL_law_1083 (by decide) ?_
      refine lv_iload_n hx hb dL_law_18 rfl (lv_at hl 0 rfl) ?_
      refine lv_aload_n hx hb dL_law_19 rfl (lv_at hl 3 rfl) ?_
      refine va_slen hx hb hX hbl hbA hS dL_law_20 (tk_i (v := 4) (by decide +kernel) ?_)
      refine lv_iconst (v := 4) hx hb dL_law_21 (by decide) ?_
      refine lv_isub hx hb dL_law_22 (tk_i (v := 0) (by decide +kernel) ?_)
      refine lv_icmp_gt (tgt := 1086) hx hb dL_law_23 (by decide) (fun _ => ?_) (fun h9 => absurd (by decide +kernel) h9)
      refine lv_iconst (v := 1) hx hb dL_law_1086 (by decide) ?_
      refine va_forget (fun q hq => by have h9 := hS.2.2 q hq; rw [← hAe] at h9; exact h9) ?_
      refine W.widen (k := 600000) (n := 7302250) (by decide) (by decide) ?_
      exact lw_ret hx hb hr hlocks dL_law_1087
    ·
      refine lv_aload_n hx hb dL_law_455 rfl (lv_at hl 2 rfl) ?_
      refine lv_aload_n hx hb dL_law_456 rfl (lv_at hl 3 rfl) ?_
      refine lv_iload_n hx hb dL_law_457 rfl (lv_at hl 0 rfl) ?_
      refine lv_iconst (v := 1) hx hb dL_law_458 (by decide) ?_
      refine lv_iadd hx hb dL_law_459 (tk_i (v := 1) (by decide +kernel) ?_)
      refine va_sld hx hb hX hbl hbA hS (vin (by decide +kernel)) dL_law_460 (tk_i (v := a1) ha1 ?_)
      refine kcall_i (D := (dC, dI)) (S := Unit) (v := (-1)) (wc := [(q1, .inr (11, [.ref q2, .ref q4, .ref q6, .ref q18, .ref q23, .ref q28, .ref q33, .ref q36, .ref q37, .ref q40, .ref q44, .ref q48, .int 0]))]) (wr := [(q49, .inr (12, [.int 0, .ref q50, .int 0, .ref q51, .int 0, .ref q52, .ref q53, .int 0, .ref q54, .int 0, .ref q55, .int (-9), .int 0, .int 0, .ref q56, .ref q57, .ref q58, .ref q59, .ref q60, .int 0, .ref q61, .ref q62, .ref q63, .int 0, .ref q64, .ref q65, .ref q66, .int 0, .ref q67]))]) (w1 := fun _ => []) (fun hPc hDc => va_runV (As := [.int a1]) (rest := []) ⟨hx, hb, hml, hown, hts⟩ (kX11_rule_3 l dC dI cI c2 q1 q2 q4 q6 q18 q23 q28 q33 q36 q37 q40 q44 q48 H.size a1 (by omega) (by omega)) (cwV 1 hts gL_law_X11_rule rfl rfl rfl (by decide +kernel) ⟨Nat.le_of_ble_eq_true rfl, Nat.le_of_ble_eq_true rfl⟩) (pre_V hPc hK hDc hN (ci := 11) (q0 := 0) rfl rfl) rfl rfl hl.1 rfl (lv_room (Nat.le_of_ble_eq_true rfl)) dL_law_461 ⟨Nat.le_of_ble_eq_true rfl, Nat.le_of_ble_eq_true rfl⟩) hP hD hS hA [0] [28] rfl rfl (by decide) (by decide) (by decide) (fun u H locs hP hD hS => ?_)
      have hP : va_P (dC, dI) vwCl [(q49, .inr (12, [.int 0, .ref q50, .int 0, .ref q51, .int 0, .ref q52, .ref q53, .int 0, .ref q54, .int 0, .ref q55, .int (-9), .int 0, .int 0, .ref q56, .ref q57, .ref q58, .ref q59, .ref q60, .int 0, .ref q61, .ref q62, .ref q63, .int 0, .ref q64, .ref q65, .ref q66, .int 0, .ref q67]))] H := hP
      have hD : va_D A [(q49, .inr (12, [.int 0, .ref q50, .int 0, .ref q51, .int 0, .ref q52, .ref q53, .int 0, .ref q54, .int 0, .ref q55, .int (-9), .int 0, .int 0, .ref q56, .ref q57, .ref q58, .ref q59, .ref q60, .int 0, .ref q61, .ref q62, .ref q63, .int 0, .ref q64, .ref q65, .ref q66, .int 0, .ref q67]))] := hD
      refine lv_aload_n hx hb dL_law_464 rfl (lv_at hl 1 rfl) ?_
      refine lv_aload_n hx hb dL_law_465 rfl (lv_at hl 3 rfl) ?_
      refine lv_iload_n hx hb dL_law_466 rfl (lv_at hl 0 rfl) ?_
      refine lv_iconst (v := 1) hx hb dL_law_467 (by decide) ?_
      refine lv_iadd hx hb dL_law_468 (tk_i (v := 1) (by decide +kernel) ?_)
      refine va_sld hx hb hX hbl hbA hS (vin (by decide +kernel)) dL_law_469 (tk_i (v := a1) ha1 ?_)
      refine kcall_i (D := (dC, dI)) (S := Unit) (v := (-1)) (wc := [(q49, .inr (12, [.int 0, .ref q50, .int 0, .ref q51, .int 0, .ref q52, .ref q53, .int 0, .ref q54, .int 0, .ref q55, .int (-9), .int 0, .int 0, .ref q56, .ref q57, .ref q58, .ref q59, .ref q60, .int 0, .ref q61, .ref q62, .ref q63, .int 0, .ref q64, .ref q65, .ref q66, .int 0, .ref q67]))]) (wr := []) (w1 := fun _ => []) (fun hPc hDc => va_runV (As := [.int a1]) (rest := [.int (-1)]) ⟨hx, hb, hml, hown, hts⟩ (kX12_rule_3 l dC dI cI c2 q49 q50 q51 q52 q53 q54 q55 q56 q57 q58 q59 q60 q61 q62 q63 q64 q65 q66 q67 H.size a1 (by omega) (by omega)) (cwV 1 hts gL_law_X12_rule rfl rfl rfl (by decide +kernel) ⟨Nat.le_of_ble_eq_true rfl, Nat.le_of_ble_eq_true rfl⟩) (pre_V hPc hK hDc hN (ci := 12) (q0 := 0) rfl rfl) rfl rfl hl.1 rfl (lv_room (Nat.le_of_ble_eq_true rfl)) dL_law_470 ⟨Nat.le_of_ble_eq_true rfl, Nat.le_of_ble_eq_true rfl⟩) hP hD hS hA [0] [] rfl rfl (by decide) (by decide) (by decide) (fun u H locs hP hD hS => ?_)
      have hP : va_P (dC, dI) vwCl [] H := hP
      have hD : va_D A [] := hD
      refine lv_icmp_eq (tgt := 1080) hx hb dL_law_473 (by decide) (fun _ => ?_) (fun h9 => absurd (by decide +kernel) h9)
      refine lv_iinc (v := 4) (lv' := [(3, .int 4), (2, .ref q49), (1, .ref q1), (0, .ref b)]) hx hb dL_law_1080 hl (k := 0) rfl (by decide +kernel) (by decide) rfl (fun ls hl => ?_)
      refine lv_goto (tgt := 18) hx hb dL_law_1083 (by decide) ?_
      refine lv_iload_n hx hb dL_law_18 rfl (lv_at hl 0 rfl) ?_
      refine lv_aload_n hx hb dL_law_19 rfl (lv_at hl 3 rfl) ?_
      refine va_slen hx hb hX hbl hbA hS dL_law_20 (tk_i (v := 4) (by decide +kernel) ?_)
      refine lv_iconst (v := 4) hx hb dL_law_21 (by decide) ?_
      refine lv_isub hx hb dL_law_22 (tk_i (v := 0) (by decide +kernel) ?_)
      refine lv_icmp_gt (tgt := 1086) hx hb dL_law_23 (by decide) (fun _ => ?_) (fun h9 => absurd (by decide +kernel) h9)
      refine lv_iconst (v := 1) hx hb dL_law_1086 (by decide) ?_
      refine va_forget (fun q hq => by have h9 := hS.2.2 q hq; rw [← hAe] at h9; exact h9) ?_
      refine W.widen (k := 600000) (n := 7302250) (by decide) (by decide) ?_
      exact lw_ret hx hb hr hlocks dL_law_1087
set_option maxHeartbeats 8000000 in
set_option maxRecDepth 100000 in
theorem lc_12 {p : Program} {e : Env} {s : State} {m : MethodId} {below : List Frame} {meth : Method} {c : Code} (l : Launch) {b : Nat} {xs : Nat → Int32} (C0 : lw_At p s m meth c b 4 xs) (dC : Nat → ClassId) (dI : Nat → Nat → Nat) (cI c2 : ClassId) (q1 : Nat) (q2 : Nat) (q3 : Nat) (q4 : Nat) (q5 : Nat) (q6 : Nat) (q7 : Nat) (q8 : Nat) (r9 : Nat → Nat) (q10 : Nat) (q11 : Nat) (q12 : Nat) (r13 : Nat → Nat) (q14 : Nat) (q15 : Nat) (q16 : Nat) (q17 : Nat) (q18 : Nat) (q19 : Nat) (q20 : Nat) (r21 : Nat → Nat) (q22 : Nat) (q23 : Nat) (q24 : Nat) (q25 : Nat) (q26 : Nat) (q27 : Nat) (q28 : Nat) (q29 : Nat) (q30 : Nat) (q31 : Nat) (q32 : Nat) (q33 : Nat) (q34 : Nat) (q35 : Nat) (q36 : Nat) (q37 : Nat) (q38 : Nat) (q39 : Nat) (q40 : Nat) (q41 : Nat) (q42 : Nat) (q43 : Nat) (q44 : Nat) (q45 : Nat) (q46 : Nat) (q47 : Nat) (q48 : Nat) (q49 : Nat) (q50 : Nat) (q51 : Nat) (q52 : Nat) (q53 : Nat) (q54 : Nat) (q55 : Nat) (q56 : Nat) (q57 : Nat) (q58 : Nat) (q59 : Nat) (q60 : Nat) (q61 : Nat) (q62 : Nat) (q63 : Nat) (q64 : Nat) (q65 : Nat) (q66 : Nat) (q67 : Nat) (a1 a2 a3 : Int32) (ha1 : xs (Int32.toNatClampNeg 1) = a1) (ha2 : xs (Int32.toNatClampNeg 2) = a2) (ha3 : xs (Int32.toNatClampNeg 3) = a3) (hK : va_K (dC, dI) vwCl [(cI, .int), (c2, .array .int)] s) (hN : nsAll s) (H : Heap) (locs : List Loc) (hP : va_P (dC, dI) vwCl [(q1, .inr (11, [.ref q2, .ref q4, .ref q6, .ref q18, .ref q23, .ref q28, .ref q33, .ref q36, .ref q37, .ref q40, .ref q44, .ref q48, .int 0])), (q2, .inr (4, [.ref q3, .int 0, .int 0])), (q3, .inl (cI, 12, .inl (fun _ => 0))), (q4, .inr (10, [.ref q5, .int 0, .int 0])), (q5, .inl (cI, 12, .inl (fun _ => (-1)))), (q6, .inr (6, [.ref q7, .ref q10, .ref q16, .ref q17, .int 0, .int 0, .int 0, .int 0, .int 0])), (q7, .inr (3, [.ref q8, .int 0])), (q8, .inl (c2, 13, .inr (.inr (.inr (.inr (fun i => if i < 13 then some (r9 i) else none)))))), (r9 0, .inl (cI, 12, .inl (fun _ => 0))), (q10, .inr (5, [.ref q11, .ref q14, .ref q15, .int 0, .int 0, .int 0])), (q11, .inr (3, [.ref q12, .int 0])), (q12, .inl (c2, 13, .inr (.inr (.inr (.inr (fun i => if i < 13 then some (r13 i) else none)))))), (r13 0, .inl (cI, 12, .inl (fun _ => 0))), (q14, .inl (cI, 4096, .inl (fun _ => 0))), (q18, .inr (9, [.ref q19, .ref q22, .int 0, .int (-1)])), (q19, .inr (3, [.ref q20, .int 0])), (q20, .inl (c2, 13, .inr (.inr (.inr (.inr (fun i => if i < 13 then some (r21 i) else none)))))), (r21 0, .inl (cI, 12, .inl (fun _ => 0))), (q23, .inr (1, [.int 0, .ref q24, .ref q25, .ref q26, .ref q27, .int 0, .int (-1), .int (-1)])), (q28, .inr (1, [.int 1, .ref q29, .ref q30, .ref q31, .ref q32, .int 0, .int (-1), .int (-1)])), (q33, .inr (7, [.ref q34, .ref q35, .int 0, .int (-1)])), (q35, .inl (cI, 12, .inl (fun _ => 0))), (q37, .inr (2, [.ref q38, .ref q39, .int 0, .int (-1)])), (q40, .inr (0, [.ref q42, .ref q41, .ref q43, .int 0, .int 0, .int 0, .int 0, .int (-1)])), (q42, .inl (cI, 4096, .inl (fun _ => 0))), (q44, .inr (0, [.ref q46, .ref q45, .ref q47, .int 0, .int 0, .int 0, .int 0, .int (-1)])), (q46, .inl (cI, 256, .inl (fun _ => 0))), (q48, .inl (cI, 5, .inl (fun _ => 0))), (q49, .inr (12, [.int 0, .ref q50, .int 0, .ref q51, .int 0, .ref q52, .ref q53, .int 0, .ref q54, .int 0, .ref q55, .int (-9), .int 0, .int 0, .ref q56, .ref q57, .ref q58, .ref q59, .ref q60, .int 0, .ref q61, .ref q62, .ref q63, .int 0, .ref q64, .ref q65, .ref q66, .int 0, .ref q67])), (q50, .inl (cI, 5, .inl (fun _ => 0))), (q51, .inl (cI, 12, .inl (fun _ => 0))), (q52, .inl (cI, 12, .inl (fun _ => (-9)))), (q56, .inl (cI, 12, .inl (fun _ => 0))), (q57, .inl (cI, 12, .inl (fun _ => 0))), (q58, .inl (cI, 49152, .inl (fun _ => 0))), (q59, .inl (cI, 4096, .inl (fun _ => 0))), (q67, .inl (cI, 12, .inl (fun _ => 0)))] H) (hD : va_D (fun q : Nat => s.heap.size ≤ q) [(q1, .inr (11, [.ref q2, .ref q4, .ref q6, .ref q18, .ref q23, .ref q28, .ref q33, .ref q36, .ref q37, .ref q40, .ref q44, .ref q48, .int 0])), (q2, .inr (4, [.ref q3, .int 0, .int 0])), (q3, .inl (cI, 12, .inl (fun _ => 0))), (q4, .inr (10, [.ref q5, .int 0, .int 0])), (q5, .inl (cI, 12, .inl (fun _ => (-1)))), (q6, .inr (6, [.ref q7, .ref q10, .ref q16, .ref q17, .int 0, .int 0, .int 0, .int 0, .int 0])), (q7, .inr (3, [.ref q8, .int 0])), (q8, .inl (c2, 13, .inr (.inr (.inr (.inr (fun i => if i < 13 then some (r9 i) else none)))))), (r9 0, .inl (cI, 12, .inl (fun _ => 0))), (q10, .inr (5, [.ref q11, .ref q14, .ref q15, .int 0, .int 0, .int 0])), (q11, .inr (3, [.ref q12, .int 0])), (q12, .inl (c2, 13, .inr (.inr (.inr (.inr (fun i => if i < 13 then some (r13 i) else none)))))), (r13 0, .inl (cI, 12, .inl (fun _ => 0))), (q14, .inl (cI, 4096, .inl (fun _ => 0))), (q18, .inr (9, [.ref q19, .ref q22, .int 0, .int (-1)])), (q19, .inr (3, [.ref q20, .int 0])), (q20, .inl (c2, 13, .inr (.inr (.inr (.inr (fun i => if i < 13 then some (r21 i) else none)))))), (r21 0, .inl (cI, 12, .inl (fun _ => 0))), (q23, .inr (1, [.int 0, .ref q24, .ref q25, .ref q26, .ref q27, .int 0, .int (-1), .int (-1)])), (q28, .inr (1, [.int 1, .ref q29, .ref q30, .ref q31, .ref q32, .int 0, .int (-1), .int (-1)])), (q33, .inr (7, [.ref q34, .ref q35, .int 0, .int (-1)])), (q35, .inl (cI, 12, .inl (fun _ => 0))), (q37, .inr (2, [.ref q38, .ref q39, .int 0, .int (-1)])), (q40, .inr (0, [.ref q42, .ref q41, .ref q43, .int 0, .int 0, .int 0, .int 0, .int (-1)])), (q42, .inl (cI, 4096, .inl (fun _ => 0))), (q44, .inr (0, [.ref q46, .ref q45, .ref q47, .int 0, .int 0, .int 0, .int 0, .int (-1)])), (q46, .inl (cI, 256, .inl (fun _ => 0))), (q48, .inl (cI, 5, .inl (fun _ => 0))), (q49, .inr (12, [.int 0, .ref q50, .int 0, .ref q51, .int 0, .ref q52, .ref q53, .int 0, .ref q54, .int 0, .ref q55, .int (-9), .int 0, .int 0, .ref q56, .ref q57, .ref q58, .ref q59, .ref q60, .int 0, .ref q61, .ref q62, .ref q63, .int 0, .ref q64, .ref q65, .ref q66, .int 0, .ref q67])), (q50, .inl (cI, 5, .inl (fun _ => 0))), (q51, .inl (cI, 12, .inl (fun _ => 0))), (q52, .inl (cI, 12, .inl (fun _ => (-9)))), (q56, .inl (cI, 12, .inl (fun _ => 0))), (q57, .inl (cI, 12, .inl (fun _ => 0))), (q58, .inl (cI, 49152, .inl (fun _ => 0))), (q59, .inl (cI, 4096, .inl (fun _ => 0))), (q67, .inl (cI, 12, .inl (fun _ => 0)))]) (hS : va_S (fun q : Nat => s.heap.size ≤ q) s.heap H locs) (ls : Array Slot) (hl : lv_has ls 4 [(3, .int 0), (2, .ref q49), (1, .ref q1), (0, .ref b)]) : W p l e room_1 s m #[Value.ref b] below meth c H locs 128 161896 (lw_Z below #[Value.ref b] s) (F0 m 478 ls []) := by
  obtain ⟨hx, hb, hr, hml, hown0, hts0, hX, hbl, hlocks, hgv⟩ := id C0
  have hown : s.vm.findClass RL = some m.cls := hown0
  have hts : ∀ w ∈ wsL_law, w.before #[Value.ref b] s = true := fun w h => hts0 w (wsL_law_in w h)
  have hA : ∀ q : Nat, s.heap.size ≤ q → (fun q : Nat => s.heap.size ≤ q) q := fun _ h => h
  have hbA : ¬ (fun q : Nat => s.heap.size ≤ q) b := Nat.not_le.mpr hbl
  generalize hAe : (fun q : Nat => s.heap.size ≤ q) = A at hD hS hA hbA
  have a1_rg := i_rng a1
  have a2_rg := i_rng a2
  have a3_rg := i_rng a3
  obtain ⟨a1_l, a1_h⟩ := a1_rg
  obtain ⟨a2_l, a2_h⟩ := a2_rg
  obtain ⟨a3_l, a3_h⟩ := a3_rg
  rcases (show a1.toInt ≤ (-1) ∨ 0 ≤ a1.toInt by omega) with g_a1_0 | g_a1_0
  ·
    refine lv_aload_n hx hb dL_law_478 rfl (lv_at hl 2 rfl) ?_
    refine lv_aload_n hx hb dL_law_479 rfl (lv_at hl 3 rfl) ?_
    refine lv_iload_n hx hb dL_law_480 rfl (lv_at hl 0 rfl) ?_
    refine lv_iconst (v := 1) hx hb dL_law_481 (by decide) ?_
    refine lv_iadd hx hb dL_law_482 (tk_i (v := 1) (by decide +kernel) ?_)
    refine va_sld hx hb hX hbl hbA hS (vin (by decide +kernel)) dL_law_483 (tk_i (v := a1) ha1 ?_)
    refine kcall_i (D := (dC, dI)) (S := Unit) (v := (-1)) (wc := [(q1, .inr (11, [.ref q2, .ref q4, .ref q6, .ref q18, .ref q23, .ref q28, .ref q33, .ref q36, .ref q37, .ref q40, .ref q44, .ref q48, .int 0]))]) (wr := [(q49, .inr (12, [.int 0, .ref q50, .int 0, .ref q51, .int 0, .ref q52, .ref q53, .int 0, .ref q54, .int 0, .ref q55, .int (-9), .int 0, .int 0, .ref q56, .ref q57, .ref q58, .ref q59, .ref q60, .int 0, .ref q61, .ref q62, .ref q63, .int 0, .ref q64, .ref q65, .ref q66, .int 0, .ref q67]))]) (w1 := fun _ => []) (fun hPc hDc => va_runV (As := [.int a1]) (rest := []) ⟨hx, hb, hml, hown, hts⟩ (kX11_least_1 l dC dI cI c2 q1 q2 q4 q6 q18 q23 q28 q33 q36 q37 q40 q44 q48 H.size a1 (by omega) (by omega)) (cwV 1 hts gL_law_X11_least rfl rfl rfl (by decide +kernel) ⟨Nat.le_of_ble_eq_true rfl, Nat.le_of_ble_eq_true rfl⟩) (pre_V hPc hK hDc hN (ci := 11) (q0 := 0) rfl rfl) rfl rfl hl.1 rfl (lv_room (Nat.le_of_ble_eq_true rfl)) dL_law_484 ⟨Nat.le_of_ble_eq_true rfl, Nat.le_of_ble_eq_true rfl⟩) hP hD hS hA [0] [28] rfl rfl (by decide) (by decide) (by decide) (fun u H locs hP hD hS => ?_)
    have hP : va_P (dC, dI) vwCl [(q49, .inr (12, [.int 0, .ref q50, .int 0, .ref q51, .int 0, .ref q52, .ref q53, .int 0, .ref q54, .int 0, .ref q55, .int (-9), .int 0, .int 0, .ref q56, .ref q57, .ref q58, .ref q59, .ref q60, .int 0, .ref q61, .ref q62, .ref q63, .int 0, .ref q64, .ref q65, .ref q66, .int 0, .ref q67]))] H := hP
    have hD : va_D A [(q49, .inr (12, [.int 0, .ref q50, .int 0, .ref q51, .int 0, .ref q52, .ref q53, .int 0, .ref q54, .int 0, .ref q55, .int (-9), .int 0, .int 0, .ref q56, .ref q57, .ref q58, .ref q59, .ref q60, .int 0, .ref q61, .ref q62, .ref q63, .int 0, .ref q64, .ref q65, .ref q66, .int 0, .ref q67]))] := hD
    refine lv_aload_n hx hb dL_law_487 rfl (lv_at hl 1 rfl) ?_
    refine lv_aload_n hx hb dL_law_488 rfl (lv_at hl 3 rfl) ?_
    refine lv_iload_n hx hb dL_law_489 rfl (lv_at hl 0 rfl) ?_
    refine lv_iconst (v := 1) hx hb dL_law_490 (by decide) ?_
    refine lv_iadd hx hb dL_law_491 (tk_i (v := 1) (by decide +kernel) ?_)
    refine va_sld hx hb hX hbl hbA hS (vin (by decide +kernel)) dL_law_492 (tk_i (v := a1) ha1 ?_)
    refine kcall_i (D := (dC, dI)) (S := Unit) (v := (-1)) (wc := [(q49, .inr (12, [.int 0, .ref q50, .int 0, .ref q51, .int 0, .ref q52, .ref q53, .int 0, .ref q54, .int 0, .ref q55, .int (-9), .int 0, .int 0, .ref q56, .ref q57, .ref q58, .ref q59, .ref q60, .int 0, .ref q61, .ref q62, .ref q63, .int 0, .ref q64, .ref q65, .ref q66, .int 0, .ref q67]))]) (wr := []) (w1 := fun _ => []) (fun hPc hDc => va_runV (As := [.int a1]) (rest := [.int (-1)]) ⟨hx, hb, hml, hown, hts⟩ (kX12_least_1 l dC dI cI c2 q49 q50 q51 q52 q53 q54 q55 q56 q57 q58 q59 q60 q61 q62 q63 q64 q65 q66 q67 H.size a1 (by omega) (by omega)) (cwV 1 hts gL_law_X12_least rfl rfl rfl (by decide +kernel) ⟨Nat.le_of_ble_eq_true rfl, Nat.le_of_ble_eq_true rfl⟩) (pre_V hPc hK hDc hN (ci := 12) (q0 := 0) rfl rfl) rfl rfl hl.1 rfl (lv_room (Nat.le_of_ble_eq_true rfl)) dL_law_493 ⟨Nat.le_of_ble_eq_true rfl, Nat.le_of_ble_eq_true rfl⟩) hP hD hS hA [0] [] rfl rfl (by decide) (by decide) (by decide) (fun u H locs hP hD hS => ?_)
    have hP : va_P (dC, dI) vwCl [] H := hP
    have hD : va_D A [] := hD
    refine lv_icmp_eq (tgt := 1080) hx hb dL_law_496 (by decide) (fun _ => ?_) (fun h9 => absurd (by decide +kernel) h9)
    refine lv_iinc (v := 4) (lv' := [(3, .int 4), (2, .ref q49), (1, .ref q1), (0, .ref b)]) hx hb dL_law_1080 hl (k := 0) rfl (by decide +kernel) (by decide) rfl (fun ls hl => ?_)
    refine lv_goto (tgt := 18) hx hb dL_law_1083 (by decide) ?_
    refine lv_iload_n hx hb dL_law_18 rfl (lv_at hl 0 rfl) ?_
    refine lv_aload_n hx hb dL_law_19 rfl (lv_at hl 3 rfl) ?_
    refine va_slen hx hb hX hbl hbA hS dL_law_20 (tk_i (v := 4) (by decide +kernel) ?_)
    refine lv_iconst (v := 4) hx hb dL_law_21 (by decide) ?_
    refine lv_isub hx hb dL_law_22 (tk_i (v := 0) (by decide +kernel) ?_)
    refine lv_icmp_gt (tgt := 1086) hx hb dL_law_23 (by decide) (fun _ => ?_) (fun h9 => absurd (by decide +kernel) h9)
    refine lv_iconst (v := 1) hx hb dL_law_1086 (by decide) ?_
    refine va_forget (fun q hq => by have h9 := hS.2.2 q hq; rw [← hAe] at h9; exact h9) ?_
    refine W.widen (k := 600000) (n := 7302250) (by decide) (by decide) ?_
    exact lw_ret hx hb hr hlocks dL_law_1087
  ·
    rcases (show a1.toInt ≤ 0 ∨ 1 ≤ a1.toInt by omega) with g_a1_1 | g_a1_1
    ·
      have e_a1 : a1 = 0 := ib_eq (X := 0) (by omega) (by decide +kernel)
      subst e_a1
      refine lv_aload_n hx hb dL_law_478 rfl (lv_at hl 2 rfl) ?_
      refine lv_aload_n hx hb dL_law_479 rfl (lv_at hl 3 rfl) ?_
      refine lv_iload_n hx hb dL_law_480 rfl (lv_at hl 0 rfl) ?_
      refine lv_iconst (v := 1) hx hb dL_law_481 (by decide) ?_
      refine lv_iadd hx hb dL_law_482 (tk_i (v := 1) (by decide +kernel) ?_)
      refine va_sld hx hb hX hbl hbA hS (vin (by decide +kernel)) dL_law_483 (tk_i (v := 0) ha1 ?_)
      refine kcall_i (D := (dC, dI)) (S := Unit) (v := 0) (wc := [(q1, .inr (11, [.ref q2, .ref q4, .ref q6, .ref q18, .ref q23, .ref q28, .ref q33, .ref q36, .ref q37, .ref q40, .ref q44, .ref q48, .int 0])), (q6, .inr (6, [.ref q7, .ref q10, .ref q16, .ref q17, .int 0, .int 0, .int 0, .int 0, .int 0])), (q7, .inr (3, [.ref q8, .int 0])), (q2, .inr (4, [.ref q3, .int 0, .int 0])), (q8, .inl (c2, 13, .inr (.inr (.inr (.inr (fun i => if i < 13 then some (r9 i) else none)))))), (q3, .inl (cI, 12, .inl (fun _ => 0))), (r9 0, .inl (cI, 12, .inl (fun _ => 0))), (q10, .inr (5, [.ref q11, .ref q14, .ref q15, .int 0, .int 0, .int 0])), (q11, .inr (3, [.ref q12, .int 0])), (q12, .inl (c2, 13, .inr (.inr (.inr (.inr (fun i => if i < 13 then some (r13 i) else none)))))), (r13 0, .inl (cI, 12, .inl (fun _ => 0))), (q14, .inl (cI, 4096, .inl (fun _ => 0)))]) (wr := [(q49, .inr (12, [.int 0, .ref q50, .int 0, .ref q51, .int 0, .ref q52, .ref q53, .int 0, .ref q54, .int 0, .ref q55, .int (-9), .int 0, .int 0, .ref q56, .ref q57, .ref q58, .ref q59, .ref q60, .int 0, .ref q61, .ref q62, .ref q63, .int 0, .ref q64, .ref q65, .ref q66, .int 0, .ref q67])), (q51, .inl (cI, 12, .inl (fun _ => 0))), (q56, .inl (cI, 12, .inl (fun _ => 0))), (q57, .inl (cI, 12, .inl (fun _ => 0))), (q58, .inl (cI, 49152, .inl (fun _ => 0))), (q59, .inl (cI, 4096, .inl (fun _ => 0)))]) (w1 := fun _ => []) (fun hPc hDc => va_runV (As := [.int 0]) (rest := []) ⟨hx, hb, hml, hown, hts⟩ (kX11_least_2 l dC dI cI c2 q1 q6 q7 q2 q8 q3 r9 q10 q11 q12 r13 q14 q4 q18 q23 q28 q33 q36 q37 q40 q44 q48 q16 q17 q15 H.size) (cwV 1 hts gL_law_X11_least rfl rfl rfl (by decide +kernel) ⟨Nat.le_of_ble_eq_true rfl, Nat.le_of_ble_eq_true rfl⟩) (pre_V hPc hK hDc hN (ci := 11) (q0 := 0) rfl rfl) rfl rfl hl.1 rfl (lv_room (Nat.le_of_ble_eq_true rfl)) dL_law_484 ⟨Nat.le_of_ble_eq_true rfl, Nat.le_of_ble_eq_true rfl⟩) hP hD hS hA [0, 5, 6, 1, 7, 2, 8, 9, 10, 11, 12, 13] [28, 30, 32, 33, 34, 35] rfl rfl (by decide) (by decide) (by decide) (fun u H locs hP hD hS => ?_)
      have hP : va_P (dC, dI) vwCl [(q49, .inr (12, [.int 0, .ref q50, .int 0, .ref q51, .int 0, .ref q52, .ref q53, .int 0, .ref q54, .int 0, .ref q55, .int (-9), .int 0, .int 0, .ref q56, .ref q57, .ref q58, .ref q59, .ref q60, .int 0, .ref q61, .ref q62, .ref q63, .int 0, .ref q64, .ref q65, .ref q66, .int 0, .ref q67])), (q51, .inl (cI, 12, .inl (fun _ => 0))), (q56, .inl (cI, 12, .inl (fun _ => 0))), (q57, .inl (cI, 12, .inl (fun _ => 0))), (q58, .inl (cI, 49152, .inl (fun _ => 0))), (q59, .inl (cI, 4096, .inl (fun _ => 0)))] H := hP
      have hD : va_D A [(q49, .inr (12, [.int 0, .ref q50, .int 0, .ref q51, .int 0, .ref q52, .ref q53, .int 0, .ref q54, .int 0, .ref q55, .int (-9), .int 0, .int 0, .ref q56, .ref q57, .ref q58, .ref q59, .ref q60, .int 0, .ref q61, .ref q62, .ref q63, .int 0, .ref q64, .ref q65, .ref q66, .int 0, .ref q67])), (q51, .inl (cI, 12, .inl (fun _ => 0))), (q56, .inl (cI, 12, .inl (fun _ => 0))), (q57, .inl (cI, 12, .inl (fun _ => 0))), (q58, .inl (cI, 49152, .inl (fun _ => 0))), (q59, .inl (cI, 4096, .inl (fun _ => 0)))] := hD
      refine lv_aload_n hx hb dL_law_487 rfl (lv_at hl 1 rfl) ?_
      refine lv_aload_n hx hb dL_law_488 rfl (lv_at hl 3 rfl) ?_
      refine lv_iload_n hx hb dL_law_489 rfl (lv_at hl 0 rfl) ?_
      refine lv_iconst (v := 1) hx hb dL_law_490 (by decide) ?_
      refine lv_iadd hx hb dL_law_491 (tk_i (v := 1) (by decide +kernel) ?_)
      refine va_sld hx hb hX hbl hbA hS (vin (by decide +kernel)) dL_law_492 (tk_i (v := 0) ha1 ?_)
      refine kcall_i (D := (dC, dI)) (S := Unit) (v := 0) (wc := [(q49, .inr (12, [.int 0, .ref q50, .int 0, .ref q51, .int 0, .ref q52, .ref q53, .int 0, .ref q54, .int 0, .ref q55, .int (-9), .int 0, .int 0, .ref q56, .ref q57, .ref q58, .ref q59, .ref q60, .int 0, .ref q61, .ref q62, .ref q63, .int 0, .ref q64, .ref q65, .ref q66, .int 0, .ref q67])), (q51, .inl (cI, 12, .inl (fun _ => 0))), (q58, .inl (cI, 49152, .inl (fun _ => 0))), (q59, .inl (cI, 4096, .inl (fun _ => 0))), (q56, .inl (cI, 12, .inl (fun _ => 0))), (q57, .inl (cI, 12, .inl (fun _ => 0)))]) (wr := []) (w1 := fun _ => []) (fun hPc hDc => va_runV (As := [.int 0]) (rest := [.int 0]) ⟨hx, hb, hml, hown, hts⟩ (kX12_least_2 l dC dI cI c2 q49 q51 q58 q59 q56 q57 q50 q52 q53 q54 q55 q60 q61 q62 q63 q64 q65 q66 q67 H.size) (cwV 1 hts gL_law_X12_least rfl rfl rfl (by decide +kernel) ⟨Nat.le_of_ble_eq_true rfl, Nat.le_of_ble_eq_true rfl⟩) (pre_V hPc hK hDc hN (ci := 12) (q0 := 0) rfl rfl) rfl rfl hl.1 rfl (lv_room (Nat.le_of_ble_eq_true rfl)) dL_law_493 ⟨Nat.le_of_ble_eq_true rfl, Nat.le_of_ble_eq_true rfl⟩) hP hD hS hA [0, 1, 4, 5, 2, 3] [] rfl rfl (by decide) (by decide) (by decide) (fun u H locs hP hD hS => ?_)
      have hP : va_P (dC, dI) vwCl [] H := hP
      have hD : va_D A [] := hD
      refine lv_icmp_eq (tgt := 1080) hx hb dL_law_496 (by decide) (fun _ => ?_) (fun h9 => absurd (by decide +kernel) h9)
      refine lv_iinc (v := 4) (lv' := [(3, .int 4), (2, .ref q49), (1, .ref q1), (0, .ref b)]) hx hb dL_law_1080 hl (k := 0) rfl (by decide +kernel) (by decide) rfl (fun ls hl => ?_)
      refine lv_goto (tgt := 18) hx hb dL_law_1083 (by decide) ?_
      refine lv_iload_n hx hb dL_law_18 rfl (lv_at hl 0 rfl) ?_
      refine lv_aload_n hx hb dL_law_19 rfl (lv_at hl 3 rfl) ?_
      refine va_slen hx hb hX hbl hbA hS dL_law_20 (tk_i (v := 4) (by decide +kernel) ?_)
      refine lv_iconst (v := 4) hx hb dL_law_21 (by decide) ?_
      refine lv_isub hx hb dL_law_22 (tk_i (v := 0) (by decide +kernel) ?_)
      refine lv_icmp_gt (tgt := 1086) hx hb dL_law_23 (by decide) (fun _ => ?_) (fun h9 => absurd (by decide +kernel) h9)
      refine lv_iconst (v := 1) hx hb dL_law_1086 (by decide) ?_
      refine va_forget (fun q hq => by have h9 := hS.2.2 q hq; rw [← hAe] at h9; exact h9) ?_
      refine W.widen (k := 600000) (n := 7302250) (by decide) (by decide) ?_
      exact lw_ret hx hb hr hlocks dL_law_1087
    ·
      rcases (show a1.toInt ≤ 1 ∨ 2 ≤ a1.toInt by omega) with g_a1_2 | g_a1_2
      ·
        have e_a1 : a1 = 1 := ib_eq (X := 1) (by omega) (by decide +kernel)
        subst e_a1
        refine lv_aload_n hx hb dL_law_478 rfl (lv_at hl 2 rfl) ?_
        refine lv_aload_n hx hb dL_law_479 rfl (lv_at hl 3 rfl) ?_
        refine lv_iload_n hx hb dL_law_480 rfl (lv_at hl 0 rfl) ?_
        refine lv_iconst (v := 1) hx hb dL_law_481 (by decide) ?_
        refine lv_iadd hx hb dL_law_482 (tk_i (v := 1) (by decide +kernel) ?_)
        refine va_sld hx hb hX hbl hbA hS (vin (by decide +kernel)) dL_law_483 (tk_i (v := 1) ha1 ?_)
        refine kcall_i (D := (dC, dI)) (S := Unit) (v := 0) (wc := [(q1, .inr (11, [.ref q2, .ref q4, .ref q6, .ref q18, .ref q23, .ref q28, .ref q33, .ref q36, .ref q37, .ref q40, .ref q44, .ref q48, .int 0])), (q6, .inr (6, [.ref q7, .ref q10, .ref q16, .ref q17, .int 0, .int 0, .int 0, .int 0, .int 0])), (q7, .inr (3, [.ref q8, .int 0])), (q2, .inr (4, [.ref q3, .int 0, .int 0])), (q8, .inl (c2, 13, .inr (.inr (.inr (.inr (fun i => if i < 13 then some (r9 i) else none)))))), (q3, .inl (cI, 12, .inl (fun _ => 0))), (r9 0, .inl (cI, 12, .inl (fun _ => 0))), (q10, .inr (5, [.ref q11, .ref q14, .ref q15, .int 0, .int 0, .int 0])), (q11, .inr (3, [.ref q12, .int 0])), (q12, .inl (c2, 13, .inr (.inr (.inr (.inr (fun i => if i < 13 then some (r13 i) else none)))))), (r13 0, .inl (cI, 12, .inl (fun _ => 0))), (q14, .inl (cI, 4096, .inl (fun _ => 0)))]) (wr := [(q49, .inr (12, [.int 0, .ref q50, .int 0, .ref q51, .int 0, .ref q52, .ref q53, .int 0, .ref q54, .int 0, .ref q55, .int (-9), .int 0, .int 0, .ref q56, .ref q57, .ref q58, .ref q59, .ref q60, .int 0, .ref q61, .ref q62, .ref q63, .int 0, .ref q64, .ref q65, .ref q66, .int 0, .ref q67])), (q51, .inl (cI, 12, .inl (fun _ => 0))), (q56, .inl (cI, 12, .inl (fun _ => 0))), (q57, .inl (cI, 12, .inl (fun _ => 0))), (q58, .inl (cI, 49152, .inl (fun _ => 0))), (q59, .inl (cI, 4096, .inl (fun _ => 0)))]) (w1 := fun _ => []) (fun hPc hDc => va_runV (As := [.int 1]) (rest := []) ⟨hx, hb, hml, hown, hts⟩ (kX11_least_3 l dC dI cI c2 q1 q6 q7 q2 q8 q3 r9 q10 q11 q12 r13 q14 q4 q18 q23 q28 q33 q36 q37 q40 q44 q48 q16 q17 q15 H.size) (cwV 1 hts gL_law_X11_least rfl rfl rfl (by decide +kernel) ⟨Nat.le_of_ble_eq_true rfl, Nat.le_of_ble_eq_true rfl⟩) (pre_V hPc hK hDc hN (ci := 11) (q0 := 0) rfl rfl) rfl rfl hl.1 rfl (lv_room (Nat.le_of_ble_eq_true rfl)) dL_law_484 ⟨Nat.le_of_ble_eq_true rfl, Nat.le_of_ble_eq_true rfl⟩) hP hD hS hA [0, 5, 6, 1, 7, 2, 8, 9, 10, 11, 12, 13] [28, 30, 32, 33, 34, 35] rfl rfl (by decide) (by decide) (by decide) (fun u H locs hP hD hS => ?_)
        have hP : va_P (dC, dI) vwCl [(q49, .inr (12, [.int 0, .ref q50, .int 0, .ref q51, .int 0, .ref q52, .ref q53, .int 0, .ref q54, .int 0, .ref q55, .int (-9), .int 0, .int 0, .ref q56, .ref q57, .ref q58, .ref q59, .ref q60, .int 0, .ref q61, .ref q62, .ref q63, .int 0, .ref q64, .ref q65, .ref q66, .int 0, .ref q67])), (q51, .inl (cI, 12, .inl (fun _ => 0))), (q56, .inl (cI, 12, .inl (fun _ => 0))), (q57, .inl (cI, 12, .inl (fun _ => 0))), (q58, .inl (cI, 49152, .inl (fun _ => 0))), (q59, .inl (cI, 4096, .inl (fun _ => 0)))] H := hP
        have hD : va_D A [(q49, .inr (12, [.int 0, .ref q50, .int 0, .ref q51, .int 0, .ref q52, .ref q53, .int 0, .ref q54, .int 0, .ref q55, .int (-9), .int 0, .int 0, .ref q56, .ref q57, .ref q58, .ref q59, .ref q60, .int 0, .ref q61, .ref q62, .ref q63, .int 0, .ref q64, .ref q65, .ref q66, .int 0, .ref q67])), (q51, .inl (cI, 12, .inl (fun _ => 0))), (q56, .inl (cI, 12, .inl (fun _ => 0))), (q57, .inl (cI, 12, .inl (fun _ => 0))), (q58, .inl (cI, 49152, .inl (fun _ => 0))), (q59, .inl (cI, 4096, .inl (fun _ => 0)))] := hD
        refine lv_aload_n hx hb dL_law_487 rfl (lv_at hl 1 rfl) ?_
        refine lv_aload_n hx hb dL_law_488 rfl (lv_at hl 3 rfl) ?_
        refine lv_iload_n hx hb dL_law_489 rfl (lv_at hl 0 rfl) ?_
        refine lv_iconst (v := 1) hx hb dL_law_490 (by decide) ?_
        refine lv_iadd hx hb dL_law_491 (tk_i (v := 1) (by decide +kernel) ?_)
        refine va_sld hx hb hX hbl hbA hS (vin (by decide +kernel)) dL_law_492 (tk_i (v := 1) ha1 ?_)
        refine kcall_i (D := (dC, dI)) (S := Unit) (v := 0) (wc := [(q49, .inr (12, [.int 0, .ref q50, .int 0, .ref q51, .int 0, .ref q52, .ref q53, .int 0, .ref q54, .int 0, .ref q55, .int (-9), .int 0, .int 0, .ref q56, .ref q57, .ref q58, .ref q59, .ref q60, .int 0, .ref q61, .ref q62, .ref q63, .int 0, .ref q64, .ref q65, .ref q66, .int 0, .ref q67])), (q51, .inl (cI, 12, .inl (fun _ => 0))), (q58, .inl (cI, 49152, .inl (fun _ => 0))), (q59, .inl (cI, 4096, .inl (fun _ => 0))), (q56, .inl (cI, 12, .inl (fun _ => 0))), (q57, .inl (cI, 12, .inl (fun _ => 0)))]) (wr := []) (w1 := fun _ => []) (fun hPc hDc => va_runV (As := [.int 1]) (rest := [.int 0]) ⟨hx, hb, hml, hown, hts⟩ (kX12_least_3 l dC dI cI c2 q49 q51 q58 q59 q56 q57 q50 q52 q53 q54 q55 q60 q61 q62 q63 q64 q65 q66 q67 H.size) (cwV 1 hts gL_law_X12_least rfl rfl rfl (by decide +kernel) ⟨Nat.le_of_ble_eq_true rfl, Nat.le_of_ble_eq_true rfl⟩) (pre_V hPc hK hDc hN (ci := 12) (q0 := 0) rfl rfl) rfl rfl hl.1 rfl (lv_room (Nat.le_of_ble_eq_true rfl)) dL_law_493 ⟨Nat.le_of_ble_eq_true rfl, Nat.le_of_ble_eq_true rfl⟩) hP hD hS hA [0, 1, 4, 5, 2, 3] [] rfl rfl (by decide) (by decide) (by decide) (fun u H locs hP hD hS => ?_)
        have hP : va_P (dC, dI) vwCl [] H := hP
        have hD : va_D A [] := hD
        refine lv_icmp_eq (tgt := 1080) hx hb dL_law_496 (by decide) (fun _ => ?_) (fun h9 => absurd (by decide +kernel) h9)
        refine lv_iinc (v := 4) (lv' := [(3, .int 4), (2, .ref q49), (1, .ref q1), (0, .ref b)]) hx hb dL_law_1080 hl (k := 0) rfl (by decide +kernel) (by decide) rfl (fun ls hl => ?_)
        refine lv_goto (tgt := 18) hx hb dL_law_1083 (by decide) ?_
        refine lv_iload_n hx hb dL_law_18 rfl (lv_at hl 0 rfl) ?_
        refine lv_aload_n hx hb dL_law_19 rfl (lv_at hl 3 rfl) ?_
        refine va_slen hx hb hX hbl hbA hS dL_law_20 (tk_i (v := 4) (by decide +kernel) ?_)
        refine lv_iconst (v := 4) hx hb dL_law_21 (by decide) ?_
        refine lv_isub hx hb dL_law_22 (tk_i (v := 0) (by decide +kernel) ?_)
        refine lv_icmp_gt (tgt := 1086) hx hb dL_law_23 (by decide) (fun _ => ?_) (fun h9 => absurd (by decide +kernel) h9)
        refine lv_iconst (v := 1) hx hb dL_law_1086 (by decide) ?_
        refine va_forget (fun q hq => by have h9 := hS.2.2 q hq; rw [← hAe] at h9; exact h9) ?_
        refine W.widen (k := 600000) (n := 7302250) (by decide) (by decide) ?_
        exact lw_ret hx hb hr hlocks dL_law_1087
      ·
        refine lv_aload_n hx hb dL_law_478 rfl (lv_at hl 2 rfl) ?_
        refine lv_aload_n hx hb dL_law_479 rfl (lv_at hl 3 rfl) ?_
        refine lv_iload_n hx hb dL_law_480 rfl (lv_at hl 0 rfl) ?_
        refine lv_iconst (v := 1) hx hb dL_law_481 (by decide) ?_
        refine lv_iadd hx hb dL_law_482 (tk_i (v := 1) (by decide +kernel) ?_)
        refine va_sld hx hb hX hbl hbA hS (vin (by decide +kernel)) dL_law_483 (tk_i (v := a1) ha1 ?_)
        refine kcall_i (D := (dC, dI)) (S := Unit) (v := (-1)) (wc := [(q1, .inr (11, [.ref q2, .ref q4, .ref q6, .ref q18, .ref q23, .ref q28, .ref q33, .ref q36, .ref q37, .ref q40, .ref q44, .ref q48, .int 0]))]) (wr := [(q49, .inr (12, [.int 0, .ref q50, .int 0, .ref q51, .int 0, .ref q52, .ref q53, .int 0, .ref q54, .int 0, .ref q55, .int (-9), .int 0, .int 0, .ref q56, .ref q57, .ref q58, .ref q59, .ref q60, .int 0, .ref q61, .ref q62, .ref q63, .int 0, .ref q64, .ref q65, .ref q66, .int 0, .ref q67]))]) (w1 := fun _ => []) (fun hPc hDc => va_runV (As := [.int a1]) (rest := []) ⟨hx, hb, hml, hown, hts⟩ (kX11_least_4 l dC dI cI c2 q1 q2 q4 q6 q18 q23 q28 q33 q36 q37 q40 q44 q48 H.size a1 (by omega) (by omega)) (cwV 1 hts gL_law_X11_least rfl rfl rfl (by decide +kernel) ⟨Nat.le_of_ble_eq_true rfl, Nat.le_of_ble_eq_true rfl⟩) (pre_V hPc hK hDc hN (ci := 11) (q0 := 0) rfl rfl) rfl rfl hl.1 rfl (lv_room (Nat.le_of_ble_eq_true rfl)) dL_law_484 ⟨Nat.le_of_ble_eq_true rfl, Nat.le_of_ble_eq_true rfl⟩) hP hD hS hA [0] [28] rfl rfl (by decide) (by decide) (by decide) (fun u H locs hP hD hS => ?_)
        have hP : va_P (dC, dI) vwCl [(q49, .inr (12, [.int 0, .ref q50, .int 0, .ref q51, .int 0, .ref q52, .ref q53, .int 0, .ref q54, .int 0, .ref q55, .int (-9), .int 0, .int 0, .ref q56, .ref q57, .ref q58, .ref q59, .ref q60, .int 0, .ref q61, .ref q62, .ref q63, .int 0, .ref q64, .ref q65, .ref q66, .int 0, .ref q67]))] H := hP
        have hD : va_D A [(q49, .inr (12, [.int 0, .ref q50, .int 0, .ref q51, .int 0, .ref q52, .ref q53, .int 0, .ref q54, .int 0, .ref q55, .int (-9), .int 0, .int 0, .ref q56, .ref q57, .ref q58, .ref q59, .ref q60, .int 0, .ref q61, .ref q62, .ref q63, .int 0, .ref q64, .ref q65, .ref q66, .int 0, .ref q67]))] := hD
        refine lv_aload_n hx hb dL_law_487 rfl (lv_at hl 1 rfl) ?_
        refine lv_aload_n hx hb dL_law_488 rfl (lv_at hl 3 rfl) ?_
        refine lv_iload_n hx hb dL_law_489 rfl (lv_at hl 0 rfl) ?_
        refine lv_iconst (v := 1) hx hb dL_law_490 (by decide) ?_
        refine lv_iadd hx hb dL_law_491 (tk_i (v := 1) (by decide +kernel) ?_)
        refine va_sld hx hb hX hbl hbA hS (vin (by decide +kernel)) dL_law_492 (tk_i (v := a1) ha1 ?_)
        refine kcall_i (D := (dC, dI)) (S := Unit) (v := (-1)) (wc := [(q49, .inr (12, [.int 0, .ref q50, .int 0, .ref q51, .int 0, .ref q52, .ref q53, .int 0, .ref q54, .int 0, .ref q55, .int (-9), .int 0, .int 0, .ref q56, .ref q57, .ref q58, .ref q59, .ref q60, .int 0, .ref q61, .ref q62, .ref q63, .int 0, .ref q64, .ref q65, .ref q66, .int 0, .ref q67]))]) (wr := []) (w1 := fun _ => []) (fun hPc hDc => va_runV (As := [.int a1]) (rest := [.int (-1)]) ⟨hx, hb, hml, hown, hts⟩ (kX12_least_4 l dC dI cI c2 q49 q50 q51 q52 q53 q54 q55 q56 q57 q58 q59 q60 q61 q62 q63 q64 q65 q66 q67 H.size a1 (by omega) (by omega)) (cwV 1 hts gL_law_X12_least rfl rfl rfl (by decide +kernel) ⟨Nat.le_of_ble_eq_true rfl, Nat.le_of_ble_eq_true rfl⟩) (pre_V hPc hK hDc hN (ci := 12) (q0 := 0) rfl rfl) rfl rfl hl.1 rfl (lv_room (Nat.le_of_ble_eq_true rfl)) dL_law_493 ⟨Nat.le_of_ble_eq_true rfl, Nat.le_of_ble_eq_true rfl⟩) hP hD hS hA [0] [] rfl rfl (by decide) (by decide) (by decide) (fun u H locs hP hD hS => ?_)
        have hP : va_P (dC, dI) vwCl [] H := hP
        have hD : va_D A [] := hD
        refine lv_icmp_eq (tgt := 1080) hx hb dL_law_496 (by decide) (fun _ => ?_) (fun h9 => absurd (by decide +kernel) h9)
        refine lv_iinc (v := 4) (lv' := [(3, .int 4), (2, .ref q49), (1, .ref q1), (0, .ref b)]) hx hb dL_law_1080 hl (k := 0) rfl (by decide +kernel) (by decide) rfl (fun ls hl => ?_)
        refine lv_goto (tgt := 18) hx hb dL_law_1083 (by decide) ?_
        refine lv_iload_n hx hb dL_law_18 rfl (lv_at hl 0 rfl) ?_
        refine lv_aload_n hx hb dL_law_19 rfl (lv_at hl 3 rfl) ?_
        refine va_slen hx hb hX hbl hbA hS dL_law_20 (tk_i (v := 4) (by decide +kernel) ?_)
        refine lv_iconst (v := 4) hx hb dL_law_21 (by decide) ?_
        refine lv_isub hx hb dL_law_22 (tk_i (v := 0) (by decide +kernel) ?_)
        refine lv_icmp_gt (tgt := 1086) hx hb dL_law_23 (by decide) (fun _ => ?_) (fun h9 => absurd (by decide +kernel) h9)
        refine lv_iconst (v := 1) hx hb dL_law_1086 (by decide) ?_
        refine va_forget (fun q hq => by have h9 := hS.2.2 q hq; rw [← hAe] at h9; exact h9) ?_
        refine W.widen (k := 600000) (n := 7302250) (by decide) (by decide) ?_
        exact lw_ret hx hb hr hlocks dL_law_1087
