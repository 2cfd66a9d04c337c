set_option maxHeartbeats 8000000 in
set_option maxRecDepth 100000 in
theorem law_loop {p : Program} {e : Env} {s : State} {m : MethodId} {below : List Frame} {meth : Method} {c : Code} (l : Launch) {b L : Nat} {xs : Nat → Int32} (hL : L ≤ 2048) (C0 : lw_At p s m meth c b L xs) (dC : Nat → ClassId) (dI : Nat → Nat → Nat) (cI c2 cZ : ClassId) (o : Nat → Nat) (rr : Nat → Nat → Nat) (hK : va_K (dC, dI) vwCl [(cI, .int), (c2, .array .int), (cZ, .boolean)] s) (hN : nsAll s) : ∀ (N : Nat) (iv : Nat → Int32) (ar : Nat → Nat → Int32) (gg : Nat → Nat → Nat → Int32) (i : Int32) (H : Heap) (locs : List Loc) (ls : Array Slot), (2048 - i.toInt).toNat < N → Iv 0 2048 i → lawH (Int32.toInt i) iv ar gg → va_P (dC, dI) vwCl (lawW o rr cI c2 cZ iv ar gg) H → va_D (fun q : Nat => s.heap.size ≤ q) (lawW o rr cI c2 cZ iv ar gg) → va_S (fun q : Nat => s.heap.size ≤ q) s.heap H locs → lv_has ls 4 [(3, .int i), (2, .ref (o 46)), (1, .ref (o 0)), (0, .ref b)] → W p l e room_1 s m #[Value.ref b] below meth c H locs 128 161896 (lw_Z below #[Value.ref b] s) (F0 m 18 ls []) := by
  obtain ⟨hx, hb, hr, hml, hown0, hts0, hX, hbl, hlocks, hgv⟩ := id C0
  have hown : s.vm.findClass RL = some m.cls := hown0
  have hts : ∀ w ∈ wsL_law, w.before #[Value.ref b] s = true := fun w h => hts0 w (wsL_law_in w h)
  have hA : ∀ q : Nat, s.heap.size ≤ q → (fun q : Nat => s.heap.size ≤ q) q := fun _ h => h
  have hbA : ¬ (fun q : Nat => s.heap.size ≤ q) b := Nat.not_le.mpr hbl
  intro N
  induction N with
  | zero =>
    intro iv ar gg i H locs ls hM
    exact absurd hM (Nat.not_lt_zero _)
  | succ N ih =>
    intro iv ar gg i H locs ls hM i_h0 hh hP hD hS hl
    refine lv_iload_n hx hb dL_law_18 rfl (lv_at hl 0 rfl) ?_
    refine lv_aload_n hx hb dL_law_19 rfl (lv_at hl 3 rfl) ?_
    refine va_slen hx hb hX hbl hbA hS dL_law_20 (lv_topi (fun len len_e => ?_))
    refine lv_iconst (v := 4) hx hb dL_law_21 (by decide) ?_
    refine lv_isub hx hb dL_law_22 (lv_topi (fun y y_e => ?_))
    refine lv_icmp_gt (tgt := 1085) hx hb dL_law_23 (by decide) (fun _ => ?_) (fun h1 => ?_)
    · refine lv_iconst (v := 1) hx hb dL_law_1085 (by decide) ?_
      refine va_forget (fun q hq => hS.2.2 q hq) ?_
      refine W.widen (k := 600000) (n := 7302250) (by decide) (by decide) ?_
      exact lw_ret hx hb hr hlocks dL_law_1086
    · obtain ⟨i_h, hiL⟩ := lw_go hL len_e y_e i_h0 (nlt_i h1)
      have kk : ∀ (iv : Nat → Int32) (ar : Nat → Nat → Int32) (gg : Nat → Nat → Nat → Int32) (H : Heap) (locs : List Loc) (ls : Array Slot), lawH (Int32.toInt i + 4) iv ar gg → va_P (dC, dI) vwCl (lawW o rr cI c2 cZ iv ar gg) H → va_D (fun q : Nat => s.heap.size ≤ q) (lawW o rr cI c2 cZ iv ar gg) → va_S (fun q : Nat => s.heap.size ≤ q) s.heap H locs → lv_has ls 4 [(3, .int i), (2, .ref (o 46)), (1, .ref (o 0)), (0, .ref b)] → W p l e room_1 s m #[Value.ref b] below meth c H locs 128 161896 (lw_Z below #[Value.ref b] s) (F0 m 1079 ls []) := by
        intro iv ar gg H locs ls hh hP hD hS hl
        obtain ⟨z, z_e⟩ : ∃ z : Int32, z = i + 4 := ⟨_, rfl⟩
        obtain ⟨z_h, z_m⟩ := lw_step hL i_h hiL z_e hM
        have hh : lawH (Int32.toInt z) iv ar gg := by rw [tia (k := 4) (c := 4) z_e i_h (iv_k (by decide +kernel)) (by decide)]; exact hh
        refine lv_iinc (v := z) (lv' := [(3, .int z), (2, .ref (o 46)), (1, .ref (o 0)), (0, .ref b)]) hx hb dL_law_1079 hl (k := 0) rfl (incN (by decide +kernel) z_e) (by decide) rfl (fun ls hl => ?_)
        refine lv_goto (tgt := 18) hx hb dL_law_1082 (by decide) ?_
        exact ih iv ar gg z _ _ _ z_m z_h hh hP hD hS hl
      refine lv_aload_n hx hb dL_law_26 rfl (lv_at hl 3 rfl) ?_
      refine lv_iload_n hx hb dL_law_27 rfl (lv_at hl 0 rfl) ?_
      refine va_sld hx hb hX hbl hbA hS (sc_i0 i_h hiL) dL_law_28 ?_
      refine lv_bipush (v := 63) hx hb dL_law_29 (by decide) ?_
      refine lv_iand hx hb dL_law_31 ?_
      obtain ⟨j, hj, ej⟩ := pk_andE (xs (Int32.toNatClampNeg i)) (m := 63) 6 (by decide +kernel)
      refine tk_i ej ?_
      rcases (show j = 0 ∨ j = 1 ∨ j = 2 ∨ j = 3 ∨ j = 4 ∨ j = 5 ∨ j = 6 ∨ j = 7 ∨ j = 8 ∨ j = 9 ∨ j = 10 ∨ j = 11 ∨ j = 12 ∨ j = 13 ∨ j = 14 ∨ j = 15 ∨ j = 16 ∨ j = 17 ∨ j = 18 ∨ j = 19 ∨ j = 20 ∨ j = 21 ∨ j = 22 ∨ j = 23 ∨ j = 24 ∨ j = 25 ∨ j = 26 ∨ j = 27 ∨ j = 28 ∨ j = 29 ∨ j = 30 ∨ j = 31 ∨ j = 32 ∨ j = 33 ∨ j = 34 ∨ j = 35 ∨ j = 36 ∨ 37 ≤ j by omega) with rfl | rfl | rfl | rfl | rfl | rfl | rfl | rfl | rfl | rfl | rfl | rfl | rfl | rfl | rfl | rfl | rfl | rfl | rfl | rfl | rfl | rfl | rfl | rfl | rfl | rfl | rfl | rfl | rfl | rfl | rfl | rfl | rfl | rfl | rfl | rfl | rfl | hj9
      · refine lv_tableIn (off := 164) (tgt := 196) hx hb dL_law_32 (by decide +kernel) (by decide +kernel) (by decide +kernel) (by decide) ?_
        exact lc_0 l hL C0 dC dI cI c2 cZ o rr hK hN i i_h hiL kk iv ar gg hh _ _ ls hP hD hS hl
      · refine lv_tableIn (off := 187) (tgt := 219) hx hb dL_law_32 (by decide +kernel) (by decide +kernel) (by decide +kernel) (by decide) ?_
        exact lc_1 l hL C0 dC dI cI c2 cZ o rr hK hN i i_h hiL kk iv ar gg hh _ _ ls hP hD hS hl
      · refine lv_tableIn (off := 246) (tgt := 278) hx hb dL_law_32 (by decide +kernel) (by decide +kernel) (by decide +kernel) (by decide) ?_
        exact lc_2 l hL C0 dC dI cI c2 cZ o rr hK hN i i_h hiL kk iv ar gg hh _ _ ls hP hD hS hl
      · refine lv_tableIn (off := 269) (tgt := 301) hx hb dL_law_32 (by decide +kernel) (by decide +kernel) (by decide +kernel) (by decide) ?_
        exact lc_3 l hL C0 dC dI cI c2 cZ o rr hK hN i i_h hiL kk iv ar gg hh _ _ ls hP hD hS hl
      · refine lv_tableIn (off := 292) (tgt := 324) hx hb dL_law_32 (by decide +kernel) (by decide +kernel) (by decide +kernel) (by decide) ?_
        exact lc_4 l hL C0 dC dI cI c2 cZ o rr hK hN i i_h hiL kk iv ar gg hh _ _ ls hP hD hS hl
      · refine lv_tableIn (off := 325) (tgt := 357) hx hb dL_law_32 (by decide +kernel) (by decide +kernel) (by decide +kernel) (by decide) ?_
        exact lc_5 l hL C0 dC dI cI c2 cZ o rr hK hN i i_h hiL kk iv ar gg hh _ _ ls hP hD hS hl
      · refine lv_tableIn (off := 338) (tgt := 370) hx hb dL_law_32 (by decide +kernel) (by decide +kernel) (by decide +kernel) (by decide) ?_
        exact lc_6 l hL C0 dC dI cI c2 cZ o rr hK hN i i_h hiL kk iv ar gg hh _ _ ls hP hD hS hl
      · refine lv_tableIn (off := 361) (tgt := 393) hx hb dL_law_32 (by decide +kernel) (by decide +kernel) (by decide +kernel) (by decide) ?_
        exact lc_7 l hL C0 dC dI cI c2 cZ o rr hK hN i i_h hiL kk iv ar gg hh _ _ ls hP hD hS hl
      · refine lv_tableIn (off := 374) (tgt := 406) hx hb dL_law_32 (by decide +kernel) (by decide +kernel) (by decide +kernel) (by decide) ?_
        exact lc_8 l hL C0 dC dI cI c2 cZ o rr hK hN i i_h hiL kk iv ar gg hh _ _ ls hP hD hS hl
      · refine lv_tableIn (off := 387) (tgt := 419) hx hb dL_law_32 (by decide +kernel) (by decide +kernel) (by decide +kernel) (by decide) ?_
        exact lc_9 l hL C0 dC dI cI c2 cZ o rr hK hN i i_h hiL kk iv ar gg hh _ _ ls hP hD hS hl
      · refine lv_tableIn (off := 410) (tgt := 442) hx hb dL_law_32 (by decide +kernel) (by decide +kernel) (by decide +kernel) (by decide) ?_
        exact lc_10 l hL C0 dC dI cI c2 cZ o rr hK hN i i_h hiL kk iv ar gg hh _ _ ls hP hD hS hl
      · refine lv_tableIn (off := 423) (tgt := 455) hx hb dL_law_32 (by decide +kernel) (by decide +kernel) (by decide +kernel) (by decide) ?_
        exact lc_11 l hL C0 dC dI cI c2 cZ o rr hK hN i i_h hiL kk iv ar gg hh _ _ ls hP hD hS hl
      · refine lv_tableIn (off := 446) (tgt := 478) hx hb dL_law_32 (by decide +kernel) (by decide +kernel) (by decide +kernel) (by decide) ?_
        exact lc_12 l hL C0 dC dI cI c2 cZ o rr hK hN i i_h hiL kk iv ar gg hh _ _ ls hP hD hS hl
      · refine lv_tableIn (off := 469) (tgt := 501) hx hb dL_law_32 (by decide +kernel) (by decide +kernel) (by decide +kernel) (by decide) ?_
        exact lc_13 l hL C0 dC dI cI c2 cZ o rr hK hN i i_h hiL kk iv ar gg hh _ _ ls hP hD hS hl
      · refine lv_tableIn (off := 492) (tgt := 524) hx hb dL_law_32 (by decide +kernel) (by decide +kernel) (by decide +kernel) (by decide) ?_
        exact lc_14 l hL C0 dC dI cI c2 cZ o rr hK hN i i_h hiL kk iv ar gg hh _ _ ls hP hD hS hl
      · refine lv_tableIn (off := 515) (tgt := 547) hx hb dL_law_32 (by decide +kernel) (by decide +kernel) (by decide +kernel) (by decide) ?_
        exact lc_15 l hL C0 dC dI cI c2 cZ o rr hK hN i i_h hiL kk iv ar gg hh _ _ ls hP hD hS hl
      · refine lv_tableIn (off := 528) (tgt := 560) hx hb dL_law_32 (by decide +kernel) (by decide +kernel) (by decide +kernel) (by decide) ?_
        exact lc_16 l hL C0 dC dI cI c2 cZ o rr hK hN i i_h hiL kk iv ar gg hh _ _ ls hP hD hS hl
      · refine lv_tableIn (off := 551) (tgt := 583) hx hb dL_law_32 (by decide +kernel) (by decide +kernel) (by decide +kernel) (by decide) ?_
        exact lc_17 l hL C0 dC dI cI c2 cZ o rr hK hN i i_h hiL kk iv ar gg hh _ _ ls hP hD hS hl
      · refine lv_tableIn (off := 564) (tgt := 596) hx hb dL_law_32 (by decide +kernel) (by decide +kernel) (by decide +kernel) (by decide) ?_
        exact lc_18 l hL C0 dC dI cI c2 cZ o rr hK hN i i_h hiL kk iv ar gg hh _ _ ls hP hD hS hl
      · refine lv_tableIn (off := 587) (tgt := 619) hx hb dL_law_32 (by decide +kernel) (by decide +kernel) (by decide +kernel) (by decide) ?_
        exact lc_19 l hL C0 dC dI cI c2 cZ o rr hK hN i i_h hiL kk iv ar gg hh _ _ ls hP hD hS hl
      · refine lv_tableIn (off := 610) (tgt := 642) hx hb dL_law_32 (by decide +kernel) (by decide +kernel) (by decide +kernel) (by decide) ?_
        exact lc_20 l hL C0 dC dI cI c2 cZ o rr hK hN i i_h hiL kk iv ar gg hh _ _ ls hP hD hS hl
      · refine lv_tableIn (off := 623) (tgt := 655) hx hb dL_law_32 (by decide +kernel) (by decide +kernel) (by decide +kernel) (by decide) ?_
        exact lc_21 l hL C0 dC dI cI c2 cZ o rr hK hN i i_h hiL kk iv ar gg hh _ _ ls hP hD hS hl
      · refine lv_tableIn (off := 656) (tgt := 688) hx hb dL_law_32 (by decide +kernel) (by decide +kernel) (by decide +kernel) (by decide) ?_
        exact lc_22 l hL C0 dC dI cI c2 cZ o rr hK hN i i_h hiL kk iv ar gg hh _ _ ls hP hD hS hl
      · refine lv_tableIn (off := 699) (tgt := 731) hx hb dL_law_32 (by decide +kernel) (by decide +kernel) (by decide +kernel) (by decide) ?_
        exact lc_23 l hL C0 dC dI cI c2 cZ o rr hK hN i i_h hiL kk iv ar gg hh _ _ ls hP hD hS hl
      · refine lv_tableIn (off := 722) (tgt := 754) hx hb dL_law_32 (by decide +kernel) (by decide +kernel) (by decide +kernel) (by decide) ?_
        exact lc_24 l hL C0 dC dI cI c2 cZ o rr hK hN i i_h hiL kk iv ar gg hh _ _ ls hP hD hS hl
      · refine lv_tableIn (off := 771) (tgt := 803) hx hb dL_law_32 (by decide +kernel) (by decide +kernel) (by decide +kernel) (by decide) ?_
        exact lc_25 l hL C0 dC dI cI c2 cZ o rr hK hN i i_h hiL kk iv ar gg hh _ _ ls hP hD hS hl
      · refine lv_tableIn (off := 794) (tgt := 826) hx hb dL_law_32 (by decide +kernel) (by decide +kernel) (by decide +kernel) (by decide) ?_
        exact lc_26 l hL C0 dC dI cI c2 cZ o rr hK hN i i_h hiL kk iv ar gg hh _ _ ls hP hD hS hl
      · refine lv_tableIn (off := 817) (tgt := 849) hx hb dL_law_32 (by decide +kernel) (by decide +kernel) (by decide +kernel) (by decide) ?_
        exact lc_27 l hL C0 dC dI cI c2 cZ o rr hK hN i i_h hiL kk iv ar gg hh _ _ ls hP hD hS hl
      · refine lv_tableIn (off := 850) (tgt := 882) hx hb dL_law_32 (by decide +kernel) (by decide +kernel) (by decide +kernel) (by decide) ?_
        exact lc_28 l hL C0 dC dI cI c2 cZ o rr hK hN i i_h hiL kk iv ar gg hh _ _ ls hP hD hS hl
      · refine lv_tableIn (off := 873) (tgt := 905) hx hb dL_law_32 (by decide +kernel) (by decide +kernel) (by decide +kernel) (by decide) ?_
        exact lc_29 l hL C0 dC dI cI c2 cZ o rr hK hN i i_h hiL kk iv ar gg hh _ _ ls hP hD hS hl
      · refine lv_tableIn (off := 896) (tgt := 928) hx hb dL_law_32 (by decide +kernel) (by decide +kernel) (by decide +kernel) (by decide) ?_
        exact lc_30 l hL C0 dC dI cI c2 cZ o rr hK hN i i_h hiL kk iv ar gg hh _ _ ls hP hD hS hl
      · refine lv_tableIn (off := 939) (tgt := 971) hx hb dL_law_32 (by decide +kernel) (by decide +kernel) (by decide +kernel) (by decide) ?_
        exact lc_31 l hL C0 dC dI cI c2 cZ o rr hK hN i i_h hiL kk iv ar gg hh _ _ ls hP hD hS hl
      · refine lv_tableIn (off := 952) (tgt := 984) hx hb dL_law_32 (by decide +kernel) (by decide +kernel) (by decide +kernel) (by decide) ?_
        exact lc_32 l hL C0 dC dI cI c2 cZ o rr hK hN i i_h hiL kk iv ar gg hh _ _ ls hP hD hS hl
      · refine lv_tableIn (off := 975) (tgt := 1007) hx hb dL_law_32 (by decide +kernel) (by decide +kernel) (by decide +kernel) (by decide) ?_
        exact lc_33 l hL C0 dC dI cI c2 cZ o rr hK hN i i_h hiL kk iv ar gg hh _ _ ls hP hD hS hl
      · refine lv_tableIn (off := 998) (tgt := 1030) hx hb dL_law_32 (by decide +kernel) (by decide +kernel) (by decide +kernel) (by decide) ?_
        exact lc_34 l hL C0 dC dI cI c2 cZ o rr hK hN i i_h hiL kk iv ar gg hh _ _ ls hP hD hS hl
      · refine lv_tableIn (off := 1011) (tgt := 1043) hx hb dL_law_32 (by decide +kernel) (by decide +kernel) (by decide +kernel) (by decide) ?_
        exact lc_35 l hL C0 dC dI cI c2 cZ o rr hK hN i i_h hiL kk iv ar gg hh _ _ ls hP hD hS hl
      · refine lv_tableIn (off := 1034) (tgt := 1066) hx hb dL_law_32 (by decide +kernel) (by decide +kernel) (by decide +kernel) (by decide) ?_
        exact lc_36 l hL C0 dC dI cI c2 cZ o rr hK hN i i_h hiL kk iv ar gg hh _ _ ls hP hD hS hl
      · refine lv_tableOut (tgt := 1079) hx hb dL_law_32 (Or.inr (by rw [nI_toInt (by omega)]; omega)) (by decide) ?_
        exact kk iv ar gg _ _ ls (lawH_up hh) hP hD hS hl
