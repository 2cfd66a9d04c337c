def nsW_0 : List Cond := [Cond.fieldLinkNest RX3 23 "HolelessHouse$Graph" "near" "[I" RX11, Cond.fieldLinkNest RX8 37 "HolelessHouse$Graph" "near" "[I" RX11, Cond.fieldLinkNest RX2 48 "HolelessHouse$Graph" "near" "[I" RX11, Cond.fieldLinkNest RX7 43 "HolelessHouse$Graph" "near" "[I" RX11, Cond.fieldLinkNest RX1 48 "HolelessHouse$Graph" "near" "[I" RX11, Cond.fieldLinkNest RX11 108 "HolelessHouse$Graph" "near" "[I" RX11, Cond.fieldLinkNest RX9 53 "HolelessHouse$Graph" "near" "[I" RX11, Cond.fieldLinkNest RX3 20 "HolelessHouse$Graph" "size" "I" RX11, Cond.fieldLinkNest RX7 30 "HolelessHouse$Graph" "size" "I" RX11, Cond.fieldLinkNest RX2 33 "HolelessHouse$Graph" "size" "I" RX11, Cond.fieldLinkNest RX5 46 "HolelessHouse$Graph" "size" "I" RX11, Cond.fieldLinkNest RX9 42 "HolelessHouse$Graph" "size" "I" RX11, Cond.fieldLinkNest RX1 43 "HolelessHouse$Graph" "size" "I" RX11, Cond.fieldLinkNest RX6 61 "HolelessHouse$Graph" "size" "I" RX11, Cond.fieldLinkNest RX11 142 "HolelessHouse$Graph" "size" "I" RX11, Cond.fieldLinkNest RX9 29 "HolelessHouse$Graph" "version" "I" RX11, Cond.fieldLinkNest RX7 25 "HolelessHouse$Graph" "version" "I" RX11, Cond.fieldLinkNest RX8 28 "HolelessHouse$Graph" "version" "I" RX11, Cond.fieldLinkNest RX2 28 "HolelessHouse$Graph" "version" "I" RX11, Cond.fieldLinkNest RX1 38 "HolelessHouse$Graph" "version" "I" RX11]
def nsW_1 : List Cond := [Cond.fieldLinkNest RX11 297 "HolelessHouse$Graph" "version" "I" RX11, Cond.fieldLinkNest RX11 136 "HolelessHouse$Table" "rows" "[I" RX11, Cond.fieldLinkNest RX11 133 "HolelessHouse$Table" "width" "I" RX11, Cond.fieldLinkNest RX11 313 "HolelessHouse$Table" "version" "I" RX11, Cond.fieldLinkNest RX6 98 "HolelessHouse$Going" "near" "[[I" RX11, Cond.fieldLinkNest RX11 183 "HolelessHouse$Ordering" "places" "[I" RX11, Cond.fieldLinkNest RX11 285 "HolelessHouse$Ordering" "drafts" "[I" RX11, Cond.fieldLinkNest RX11 158 "HolelessHouse$Ordering" "draftSize" "I" RX11, Cond.fieldLinkNest RX11 186 "HolelessHouse$Ordering" "there" "Z" RX11, Cond.fieldLinkNest RX11 170 "HolelessHouse$Ordering" "filled" "I" RX11, Cond.fieldLinkNest RX11 180 "HolelessHouse$Ordering" "width" "I" RX11, Cond.fieldLinkNest RX11 130 "HolelessHouse$Ring" "path" "[I" RX11, Cond.fieldLinkNest RX11 127 "HolelessHouse$Ring" "length" "I" RX11, Cond.fieldLinkNest RX11 196 "HolelessHouse$Cliques" "sets" "[I" RX11, Cond.fieldLinkNest RX11 219 "HolelessHouse$Cliques" "parents" "[I" RX11, Cond.fieldLinkNest RX11 222 "HolelessHouse$Cliques" "shared" "[I" RX11, Cond.fieldLinkNest RX11 194 "HolelessHouse$Cliques" "size" "I" RX11, Cond.fieldLinkNest RX11 213 "HolelessHouse$Paint" "hues" "[I" RX11, Cond.fieldLinkNest RX11 210 "HolelessHouse$Paint" "most" "I" RX11, Cond.fieldLinkNest RX11 229 "HolelessHouse$Parts" "sets" "[I" RX11]
def nsW_2 : List Cond := [Cond.fieldLinkNest RX11 228 "HolelessHouse$Parts" "size" "I" RX11, Cond.fieldLinkNest RX11 246 "HolelessHouse$FarThree" "three" "[I" RX11, Cond.fieldLinkNest RX11 245 "HolelessHouse$FarThree" "there" "Z" RX11, Cond.fieldLinkNest RX11 237 "HolelessHouse$Benches" "places" "[I" RX11, Cond.fieldLinkNest RX11 236 "HolelessHouse$Benches" "width" "I" RX11, Cond.fieldLinkNest RX11 269 "HolelessHouse$Benches" "ways" "I" RX11, Cond.fieldLinkNest RX11 233 "HolelessHouse$Benches" "seated" "Z" RX11, Cond.fieldLinkNest RX11 294 "HolelessHouse$Benches" "madeFor" "I" RX11, Cond.methodLinkNest RX11 9 yX4_init RX11, Cond.methodLinkNest RX11 18 yX10_init RX11, Cond.methodLinkNest RX11 25 yX6_init RX11, Cond.methodLinkNest RX6 11 yX3_init RX11, Cond.methodLinkNest RX6 20 yX5_init RX11, Cond.methodLinkNest RX5 11 yX3_init RX11, Cond.methodLinkNest RX11 32 yX9_init RX11, Cond.methodLinkNest RX9 11 yX3_init RX11, Cond.methodLinkNest RX11 39 yX1_init RX11, Cond.methodLinkNest RX11 51 yX7_init RX11, Cond.methodLinkNest RX11 58 yX8_init RX11, Cond.methodLinkNest RX11 65 yX2_init RX11]
def nsW_3 : List Cond := [Cond.methodLinkNest RX11 72 yX0_init RX11, Cond.methodLinkNest RX11 290 yX4_restart RX11, Cond.methodLinkNest RX11 105 yX6_drop RX11, Cond.methodLinkNest RX11 164 yX4_all RX11, Cond.methodLinkNest RX11 291 yX6_keepDrafted RX11, Cond.methodLinkNest RX6 53 yX11_in RX11, Cond.methodLinkNest RX11 93 yX4_has RX11, Cond.methodLinkNest RX11 97 yX4_touches RX11, Cond.methodLinkNest RX4 22 yX11_in RX11, Cond.methodLinkNest RX11 101 yX4_set RX11, Cond.methodLinkNest RX11 202 yX4_isClique RX11, Cond.methodLinkNest RX11 123 yX9_bring RX11, Cond.methodLinkNest RX9 34 yX3_goesWithoutFill RX11, Cond.methodLinkNest RX3 70 yX4_all RX11, Cond.methodLinkNest RX3 44 yX11_in RX11, Cond.methodLinkNest RX3 38 yX11_withoutLeast RX11, Cond.methodLinkNest RX9 56 yX11_in RX11, Cond.methodLinkNest RX11 139 yX4_joinAll RX11, Cond.methodLinkNest RX11 145 yX4_invert RX11, Cond.methodLinkNest RX11 148 yX4_pairs RX11]
def nsW_4 : List Cond := [Cond.methodLinkNest RX11 152 yX6_drafted RX11, Cond.methodLinkNest RX11 155 yX6_addToDraft RX11, Cond.methodLinkNest RX11 161 yX6_draftSet RX11, Cond.methodLinkNest RX11 167 yX6_followDraft RX11, Cond.methodLinkNest RX6 57 yX3_start RX11, Cond.methodLinkNest RX6 64 yX3_lack RX11, Cond.methodLinkNest RX6 68 yX3_width RX11, Cond.methodLinkNest RX6 75 yX3_leave RX11, Cond.methodLinkNest RX11 173 yX6_followRule RX11, Cond.methodLinkNest RX6 85 yX4_all RX11, Cond.methodLinkNest RX6 88 yX3_cheapest RX11, Cond.methodLinkNest RX11 177 yX6_followLeast RX11, Cond.methodLinkNest RX6 92 yX5_begin RX11, Cond.methodLinkNest RX5 37 yX3_start RX11, Cond.methodLinkNest RX5 41 yX4_all RX11, Cond.methodLinkNest RX5 57 yX11_in RX11, Cond.methodLinkNest RX5 61 yX3_price RX11, Cond.methodLinkNest RX5 87 yX3_leastTight RX11, Cond.methodLinkNest RX5 90 yX3_hasWayOutside RX11, Cond.methodLinkNest RX3 51 yX11_reached RX11]
def nsW_5 : List Cond := [Cond.methodLinkNest RX5 65 yX3_leave RX11, Cond.methodLinkNest RX6 95 yX5_letFirstGo RX11, Cond.methodLinkNest RX11 181 yX6_length RX11, Cond.methodLinkNest RX11 190 yX6_fillIn RX11, Cond.methodLinkNest RX6 102 yX4_joinAll RX11, Cond.methodLinkNest RX11 193 yX1_bring RX11, Cond.methodLinkNest RX1 44 yX4_all RX11, Cond.methodLinkNest RX1 67 yX11_in RX11, Cond.methodLinkNest RX11 195 yX1_has RX11, Cond.methodLinkNest RX11 199 yX1_widest RX11, Cond.methodLinkNest RX11 205 yX4_isLoose RX11, Cond.methodLinkNest RX11 208 yX7_bring RX11, Cond.methodLinkNest RX11 216 yX1_bringTree RX11, Cond.methodLinkNest RX11 225 yX8_bring RX11, Cond.methodLinkNest RX8 33 yX4_all RX11, Cond.methodLinkNest RX8 48 yX4_reach RX11, Cond.methodLinkNest RX4 48 yX11_reached RX11, Cond.methodLinkNest RX8 52 yX11_in RX11, Cond.methodLinkNest RX8 56 yX4_around RX11, Cond.methodLinkNest RX4 45 yX11_withoutLeast RX11]
def nsW_6 : List Cond := [Cond.methodLinkNest RX11 300 yX0_refuse RX11, Cond.methodLinkNest RX11 303 yX0_restart RX11, Cond.methodLinkNest RX11 304 yX1_with RX11, Cond.methodLinkNest RX11 307 yX0_addRow RX11, Cond.methodLinkNest RX11 310 yX0_findFirst RX11, Cond.methodLinkNest RX0 62 yX11_in RX11, Cond.methodLinkNest RX11 238 yX0_lastOf RX11, Cond.methodLinkNest RX11 241 yX0_firstOf RX11, Cond.methodLinkNest RX11 244 yX2_bring RX11, Cond.methodLinkNest RX2 44 yX4_all RX11, Cond.methodLinkNest RX2 51 yX11_in RX11, Cond.methodLinkNest RX2 55 yX4_reach RX11, Cond.methodLinkNest RX11 249 yX10_restart RX11, Cond.methodLinkNest RX11 252 yX10_hasPlace RX11, Cond.methodLinkNest RX11 255 yX10_put RX11, Cond.methodLinkNest RX11 259 yX10_hasRun RX11, Cond.methodLinkNest RX11 262 yX10_move RX11, Cond.methodLinkNest RX11 314 yX0_countWays RX11, Cond.methodLinkNest RX11 272 yX10_present RX11]
def nsW : List Cond := nsW_0 ++ (nsW_1 ++ (nsW_2 ++ (nsW_3 ++ (nsW_4 ++ (nsW_5 ++ (nsW_6))))))
def isNs : Cond → Bool
  | .fieldLinkNest _ _ _ _ _ _ => true
  | .methodLinkNest _ _ _ _ => true
  | _ => false
theorem nsW_ns : nsW.all isNs = true := by decide +kernel
theorem mem_ps {big ws : List Cond} (ps : List Nat) (h : ws = ps.filterMap (fun i => big[i]?)) : ∀ w ∈ ws, w ∈ big := fun w hw => by
  rw [h] at hw
  obtain ⟨i, -, hi⟩ := List.mem_filterMap.mp hw
  exact List.mem_of_getElem? hi
theorem mem_app {big a b : List Cond} (ha : ∀ w ∈ a, w ∈ big) (hb : ∀ w ∈ b, w ∈ big) : ∀ w ∈ a ++ b, w ∈ big := fun w h => (List.mem_append.mp h).elim (ha w) (hb w)
set_option maxRecDepth 20000 in
theorem nsW_0_in : ∀ w ∈ nsW_0, w ∈ lw_tbl := mem_ps [141, 142, 143, 144, 145, 146, 147, 149, 150, 151, 152, 153, 154, 155, 156, 158, 159, 160, 161, 162] (by decide +kernel)
set_option maxRecDepth 20000 in
theorem nsW_1_in : ∀ w ∈ nsW_1, w ∈ lw_tbl := mem_ps [163, 182, 184, 186, 209, 247, 249, 251, 254, 256, 258, 288, 290, 310, 312, 314, 316, 343, 346, 364] (by decide +kernel)
set_option maxRecDepth 20000 in
theorem nsW_2_in : ∀ w ∈ nsW_2, w ∈ lw_tbl := mem_ps [366, 390, 392, 415, 418, 420, 422, 424, 136, 174, 196, 202, 218, 223, 280, 285, 303, 338, 359, 383] (by decide +kernel)
set_option maxRecDepth 20000 in
theorem nsW_3_in : ∀ w ∈ nsW_3, w ∈ lw_tbl := mem_ps [405, 490, 495, 499, 503, 507, 514, 518, 522, 523, 539, 561, 565, 576, 581, 590, 611, 620, 628, 633] (by decide +kernel)
set_option maxRecDepth 20000 in
theorem nsW_4_in : ∀ w ∈ nsW_4, w ∈ lw_tbl := mem_ps [642, 650, 658, 659, 667, 672, 677, 682, 687, 691, 692, 706, 710, 714, 715, 729, 730, 735, 736, 740] (by decide +kernel)
set_option maxRecDepth 20000 in
theorem nsW_5_in : ∀ w ∈ nsW_5, w ∈ lw_tbl := mem_ps [745, 754, 762, 774, 778, 783, 787, 795, 803, 811, 820, 828, 845, 857, 861, 866, 870, 871, 872, 877] (by decide +kernel)
set_option maxRecDepth 20000 in
theorem nsW_6_in : ∀ w ∈ nsW_6, w ∈ lw_tbl := mem_ps [890, 898, 899, 903, 907, 919, 924, 928, 936, 944, 945, 946, 955, 963, 967, 983, 987, 1000, 1012] (by decide +kernel)
theorem nsW_in : ∀ w ∈ nsW, w ∈ lw_tbl := mem_app nsW_0_in (mem_app nsW_1_in (mem_app nsW_2_in (mem_app nsW_3_in (mem_app nsW_4_in (mem_app nsW_5_in (nsW_6_in))))))
def nsAll (U : State) : Prop := (∀ w ∈ nsW, va_Nw w U) ∧ va_AOA .int U
theorem nw_warm {s U : State} (hW : s.WarmedH U.vm) {w : Cond} (hw : isNs w = true) (h : va_Nw w s) : va_Nw w U := by
  cases w <;> first | exact va_Nw.warmF hW h | exact va_Nw.warmM hW h | cases hw
theorem nw_same {u U : State} (hv : u.vm = U.vm) {w : Cond} (hw : isNs w = true) (h : va_Nw w u) : va_Nw w U := by
  cases w <;> first | exact va_Nw.same rfl hv h | cases hw
theorem aoa_same {u U : State} (hv : u.vm = U.vm) {ty : FieldType} (h : va_AOA ty u) : va_AOA ty U := by
  unfold va_AOA Cond.before Cond.holds at *
  simp only [Cond.value] at *
  rw [← hv]
  exact h
theorem aoa_warm {s U : State} (hW : s.WarmedH U.vm) {ty : FieldType} (h : va_AOA ty s) : va_AOA ty U := by
  have h1 : (Cond.arrayOver (.array ty)).before #[] (s.setVm U.vm) = true := by rw [Cond.arrayOver_setVmC hW.alike]; exact h
  exact aoa_same (u := s.setVm U.vm) (U := U) rfl h1
theorem nsAll_warm {s U : State} (hW : s.WarmedH U.vm) (h : nsAll s) : nsAll U := ⟨fun w hw => nw_warm hW (List.all_eq_true.mp nsW_ns w hw) (h.1 w hw), aoa_warm hW h.2⟩
theorem nsAll_same {u U : State} (hv : u.vm = U.vm) (h : nsAll u) : nsAll U := ⟨fun w hw => nw_same hv (List.all_eq_true.mp nsW_ns w hw) (h.1 w hw), aoa_same hv h.2⟩
theorem nsAll.use {U : State} (h : nsAll U) {w : Cond} (hw : w ∈ nsW) {A : Array Value} : w.before A U = true := by
  have h1 := List.all_eq_true.mp nsW_ns w hw
  have h2 := h.1 w hw
  cases w <;> first | exact va_Nw.use rfl h2 | cases h1
/-- a contract's start: the heap's size, the cells, the classes, apart, the nest's words -/
def wPre (D : va_G) (tys : List (ClassId × FieldType)) (ws : va_W) (sz : Nat) (U : State) : Prop := U.heap.size = sz ∧ va_P D vwCl ws U.heap ∧ va_K D vwCl tys U ∧ va_D (fun _ => True) ws ∧ nsAll U
/-- a contract's end -/
def wPost (D : va_G) (tys : List (ClassId × FieldType)) (A : Nat → Prop) (ws : va_W) (t : State) : Prop := va_P D vwCl ws t.heap ∧ va_K D vwCl tys t ∧ va_D A ws
theorem fb_pre {av : List Value} {D : va_G} {tys : List (ClassId × FieldType)} {ws : va_W} {sz : Nat} : FrameBlind (va_Pc av (wPre D tys ws sz)) := fun a U g mk q => by
  obtain ⟨q0, q1, qP, qK, qD, qN⟩ := q
  exact ⟨q0, q1, qP, va_K.moved (u := U) (U := U.calling g mk a) (Vm.Alike.refl U.vm) qK, qD, nsAll_same (u := U) (U := U.calling g mk a) rfl qN⟩
theorem pre_S {s : State} {H : Heap} {D : va_G} {tys : List (ClassId × FieldType)} {ws : va_W} {A : Nat → Prop} {As : List Value} (hP : va_P D vwCl ws H) (hK : va_K D vwCl tys s) (hD : va_D A ws) (hN : nsAll s) : PreS s H (va_Pc As (wPre D tys ws H.size)) As := ⟨fb_pre, fun U hU hW => ⟨rfl, by rw [hU], by rw [hU]; exact hP, va_K.moved hW.alike hK, hD.weaken (fun _ _ _ _ => trivial), nsAll_warm hW hN⟩⟩
theorem pre_V {s : State} {H : Heap} {D : va_G} {tys : List (ClassId × FieldType)} {ws : va_W} {A : Nat → Prop} {As : List Value} {b q0 ci : Nat} {q : vw_C} {fs : List Value} (hP : va_P D vwCl ws H) (hK : va_K D vwCl tys s) (hD : va_D A ws) (hN : nsAll s) (hc : vwCl[ci]? = some q) (he : ws[q0]? = some (b, .inr (ci, fs))) : PreV s H q.1 b (va_Pc (.ref b :: As) (wPre D tys ws H.size)) As := ⟨fb_pre, va_recv hK hP hc he, fun U hU hW => ⟨rfl, by rw [hU], by rw [hU]; exact hP, va_K.moved hW.alike hK, hD.weaken (fun _ _ _ _ => trivial), nsAll_warm hW hN⟩⟩
theorem P_map {D : va_G} {cl : List vw_C} {ws wc : va_W} {H : Heap} (h : va_P D cl ws H) (is : List Nat) (hs : is.map (fun i => ws[i]?) = wc.map some) : va_P D cl wc H := by
  refine h.sub is ?_
  have e : is.filterMap (fun i => ws[i]?) = (is.map (fun i => ws[i]?)).filterMap id := by rw [List.filterMap_map]; rfl
  rw [e, hs, List.filterMap_map]
  simp
/-- the arrays' contents matter below their length alone -/
theorem P_arr {D : va_G} {cl : List vw_C} {ws : va_W} {H : Heap} (hP : va_P D cl ws H) (k : Nat) {a : Nat} {cA : ClassId} {n : Nat} {f : Nat → Int32} (g : Nat → Int32) (he : ws[k]? = some (a, .inl (cA, n, .inl f))) (hfg : ∀ j, j < n → f j = g j) : va_P D cl (ws.set k (a, .inl (cA, n, .inl g))) H := by
  intro k9 q hq
  by_cases e : k9 = k
  · subst e
    have hlt : k9 < ws.length := (List.getElem?_eq_some_iff.mp he).1
    rw [List.getElem?_set_self hlt] at hq
    cases hq
    have h1 := hP k9 _ he
    show H[a]? = some (vp_cell cA (n, .inl g))
    rw [show H[a]? = some (vp_cell cA (n, .inl f)) from h1]
    rw [vp_cell_i, vp_cell_i]
    unfold arrV
    have e2 : (Array.ofFn (n := n) fun j => Value.int (f j.val)) = (Array.ofFn (n := n) fun j => Value.int (g j.val)) := by
      congr 1
      funext j
      rw [hfg j.val j.isLt]
    rw [e2]
  · rw [List.getElem?_set_ne (fun h => e h.symm)] at hq
    exact hP k9 q hq
theorem D_arr {A : Nat → Prop} {ws : va_W} (hD : va_D A ws) (k : Nat) {a : Nat} {e0 e : va_E} (he : ws[k]? = some (a, e0)) : va_D A (ws.set k (a, e)) := hD.set he
theorem ib_lt {x y : Int32} {X Y : Int} (hx : x.toInt = X) (hy : y.toInt = Y) (h : X < Y) : x < y := by rw [Int32.lt_iff_toInt_lt, hx, hy]; exact h
theorem ib_nlt {x y : Int32} {X Y : Int} (hx : x.toInt = X) (hy : y.toInt = Y) (h : ¬ X < Y) : ¬ x < y := by rw [Int32.lt_iff_toInt_lt, hx, hy]; exact h
theorem ib_le {x y : Int32} {X Y : Int} (hx : x.toInt = X) (hy : y.toInt = Y) (h : X ≤ Y) : x ≤ y := by rw [Int32.le_iff_toInt_le, hx, hy]; exact h
theorem ib_nle {x y : Int32} {X Y : Int} (hx : x.toInt = X) (hy : y.toInt = Y) (h : ¬ X ≤ Y) : ¬ x ≤ y := by rw [Int32.le_iff_toInt_le, hx, hy]; exact h
theorem ib_ne {x y : Int32} {X Y : Int} (hx : x.toInt = X) (hy : y.toInt = Y) (h : ¬ X = Y) : ¬ x = y := fun e => h (by rw [← hx, ← hy, e])
theorem ib_eq {x y : Int32} {X : Int} (hx : x.toInt = X) (hy : y.toInt = X) : x = y := Int32.toInt_inj.mp (hx.trans hy.symm)
section KC
variable {p : Program} {l : Launch} {e : Env} {R : Room} {s : State} {m : MethodId} {args : Array Value} {below : List Frame} {meth : Method} {c : Code} {H H0 : Heap} {locs : List Loc} {cells slots mc ms : Nat} {Q : State → Prop} {pc : Nat} {ls : Array Slot} {rest st0 : List Value} {a : Array Value} {D : va_G} {A : Nat → Prop} {tys : List (ClassId × FieldType)} {ws wc wr : va_W}
theorem tk_i {x v : Int32} (h : x = v) (k : W p l e R s m args below meth c H locs cells slots Q (F0 m pc ls (.int v :: rest))) : W p l e R s m args below meth c H locs cells slots Q (F0 m pc ls (.int x :: rest)) := h ▸ k
theorem tk_l {x v : Int64} (h : x = v) (k : W p l e R s m args below meth c H locs cells slots Q (F0 m pc ls (.long v :: rest))) : W p l e R s m args below meth c H locs cells slots Q (F0 m pc ls (.long x :: rest)) := h ▸ k
theorem tk_r {x v : Value} (h : x = v) (k : W p l e R s m args below meth c H locs cells slots Q (F0 m pc ls (v :: rest))) : W p l e R s m args below meth c H locs cells slots Q (F0 m pc ls (x :: rest)) := h ▸ k
theorem va_alda {cc : ByteArray} (hexec : p.tables.exec = Jvm.exec) (hb : c.code = cc) {cl : List vw_C} (hK : va_K D cl tys s) (hP : va_P D cl ws H) (q0 t0 : Nat) {b : Nat} {cA : ClassId} {ty : FieldType} {n : Nat} {f : Nat → Option Nat} (ha : ws[q0]? = some (b, .inl (cA, n, .inr (.inr (.inr (.inr f)))))) (ht : tys[t0]? = some (cA, .array ty)) {i : Int32} (hin : vp_in i n) (hdg : decode cc pc = .ok (.aaload, 1))
    (kk : W p l e R s m args below meth c H locs cells slots Q (F0 m (pc + 1) ls (va_rf (f i.toNatClampNeg) :: rest))) : W p l e R s m args below meth c H locs cells slots Q (F0 m pc ls (.int i :: .ref b :: rest)) := by
  have hlt : i.toNatClampNeg < n := Nat.not_le.mp fun q => hin (Or.inr q)
  exact W.aald (v := va_rf (f i.toNatClampNeg)) (ty := .array ty) hexec hb (hP q0 _ ha) ((hK.2 t0 _ ht).1 n (fun j => va_rf (f j))) rfl (fun q => by cases q) (by show ¬ (i < 0 ∨ (arrV _ _ _).slots.size ≤ _); rw [arrV_size]; exact hin) (by show (arrV _ _ _).slots[_]? = _; rw [arrV_read _ _ hlt]) rfl rfl hdg kk
theorem kcall_i {S : Type} {v : Int32} {w1 : S → va_W}
    (hr : va_P D vwCl wc H → va_D A wc → va_Run p l e R s m args below meth c H locs cells slots mc ms (F0 m pc ls st0) rest (va_Qi (fun r (_ : S) => r = v) (fun u t => wPost D tys (va_A wc H.size) (w1 u) t) (va_A wc H.size) a) (va_A wc H.size))
    (hP : va_P D vwCl ws H) (hD : va_D A ws) (hS : va_S A H0 H locs) (hA : ∀ q, H0.size ≤ q → A q) (isC isR : List Nat) (hC : isC.map (fun i => ws[i]?) = wc.map some) (hR : isR.map (fun i => ws[i]?) = wr.map some) (hnC : va_nd isC = true) (hn : va_nd isR = true) (hdis : ∀ i ∈ isR, i ∉ isC)
    (kk : ∀ (u : S) (H1 : Heap) (locs1 : List Loc), va_P D vwCl (wr ++ w1 u) H1 → va_D A (wr ++ w1 u) → va_S A H0 H1 locs1 → W p l e R s m args below meth c H1 locs1 (cells + mc) (slots + ms) Q (F0 m (pc + 3) ls (.int v :: rest))) : W p l e R s m args below meth c H locs cells slots Q (F0 m pc ls st0) := by
  have hFc := va_free (wc := wc) hD hS hA isC hC
  refine va_calli (hr (P_map hP isC hC) (hD.sub isC hnC hC)) hS (fun q _ h => hFc q h) hFc (fun r u t H1 locs1 ht hvm hw hB hz1 hk1 hS1 => ?_)
  obtain ⟨hP1, hK1, hD1⟩ := hB
  rw [ht] at hP1
  obtain ⟨hP2, hD2⟩ := va_join hP hD isC isR hC hR hn hdis hk1 hFc hP1 hD1
  subst hw
  exact kk u H1 locs1 hP2 hD2 hS1
theorem kcall_l {S : Type} {v : Int64} {w1 : S → va_W}
    (hr : va_P D vwCl wc H → va_D A wc → va_Run p l e R s m args below meth c H locs cells slots mc ms (F0 m pc ls st0) rest (va_Ql (fun r (_ : S) => r = v) (fun u t => wPost D tys (va_A wc H.size) (w1 u) t) (va_A wc H.size) a) (va_A wc H.size))
    (hP : va_P D vwCl ws H) (hD : va_D A ws) (hS : va_S A H0 H locs) (hA : ∀ q, H0.size ≤ q → A q) (isC isR : List Nat) (hC : isC.map (fun i => ws[i]?) = wc.map some) (hR : isR.map (fun i => ws[i]?) = wr.map some) (hnC : va_nd isC = true) (hn : va_nd isR = true) (hdis : ∀ i ∈ isR, i ∉ isC)
    (kk : ∀ (u : S) (H1 : Heap) (locs1 : List Loc), va_P D vwCl (wr ++ w1 u) H1 → va_D A (wr ++ w1 u) → va_S A H0 H1 locs1 → W p l e R s m args below meth c H1 locs1 (cells + mc) (slots + ms) Q (F0 m (pc + 3) ls (.long v :: rest))) : W p l e R s m args below meth c H locs cells slots Q (F0 m pc ls st0) := by
  have hFc := va_free (wc := wc) hD hS hA isC hC
  refine va_calll (hr (P_map hP isC hC) (hD.sub isC hnC hC)) hS (fun q _ h => hFc q h) hFc (fun r u t H1 locs1 ht hvm hw hB hz1 hk1 hS1 => ?_)
  obtain ⟨hP1, hK1, hD1⟩ := hB
  rw [ht] at hP1
  obtain ⟨hP2, hD2⟩ := va_join hP hD isC isR hC hR hn hdis hk1 hFc hP1 hD1
  subst hw
  exact kk u H1 locs1 hP2 hD2 hS1
theorem kcall_v {S : Type} {w1 : S → va_W}
    (hr : va_P D vwCl wc H → va_D A wc → va_Run p l e R s m args below meth c H locs cells slots mc ms (F0 m pc ls st0) rest (va_Qv (fun (_ : S) => True) (fun u t => wPost D tys (va_A wc H.size) (w1 u) t) (va_A wc H.size) a) (va_A wc H.size))
    (hP : va_P D vwCl ws H) (hD : va_D A ws) (hS : va_S A H0 H locs) (hA : ∀ q, H0.size ≤ q → A q) (isC isR : List Nat) (hC : isC.map (fun i => ws[i]?) = wc.map some) (hR : isR.map (fun i => ws[i]?) = wr.map some) (hnC : va_nd isC = true) (hn : va_nd isR = true) (hdis : ∀ i ∈ isR, i ∉ isC)
    (kk : ∀ (u : S) (H1 : Heap) (locs1 : List Loc), va_P D vwCl (wr ++ w1 u) H1 → va_D A (wr ++ w1 u) → va_S A H0 H1 locs1 → W p l e R s m args below meth c H1 locs1 (cells + mc) (slots + ms) Q (F0 m (pc + 3) ls rest)) : W p l e R s m args below meth c H locs cells slots Q (F0 m pc ls st0) := by
  have hFc := va_free (wc := wc) hD hS hA isC hC
  refine va_callv (hr (P_map hP isC hC) (hD.sub isC hnC hC)) hS (fun q _ h => hFc q h) hFc (fun u t H1 locs1 ht hvm hw hB hz1 hk1 hS1 => ?_)
  obtain ⟨hP1, hK1, hD1⟩ := hB
  rw [ht] at hP1
  obtain ⟨hP2, hD2⟩ := va_join hP hD isC isR hC hR hn hdis hk1 hFc hP1 hD1
  exact kk u H1 locs1 hP2 hD2 hS1
theorem and_m1 (x : Int32) : x &&& (-1) = x := by
  apply Int32.toBitVec_inj.mp
  rw [Int32.toBitVec_and]
  show x.toBitVec &&& BitVec.allOnes 32 = x.toBitVec
  exact BitVec.and_allOnes
theorem K_int {D : va_G} {cI c2 cA : ClassId} {U : State} (hK : va_K D vwCl ([(cI, .int), (c2, .array .int)] ++ [(cA, .int)]) U) : cI = cA := by
  have h1 : U.vm.findClass ("[" ++ (FieldType.int).toString) = some cI := (hK.2 0 _ rfl).2
  have h2 : U.vm.findClass ("[" ++ (FieldType.int).toString) = some cA := (hK.2 2 _ rfl).2
  exact Option.some.inj (h1.symm.trans h2)
theorem K_grid {D : va_G} {cI c2 cA : ClassId} {U : State} (hK : va_K D vwCl ([(cI, .int), (c2, .array .int)] ++ [(cA, .array .int)]) U) : c2 = cA := by
  have h1 : U.vm.findClass ("[" ++ (FieldType.array .int).toString) = some c2 := (hK.2 1 _ rfl).2
  have h2 : U.vm.findClass ("[" ++ (FieldType.array .int).toString) = some cA := (hK.2 2 _ rfl).2
  exact Option.some.inj (h1.symm.trans h2)
theorem pl_first {N : Nat} (hN : 0 < N) (r : Nat → Nat) (f : Nat → va_E) (e : va_E) : ∃ tl : va_W, va_pl ([] ++ (List.range N).map r) (vr_up f ((List.range N).map r) e) = [(r 0, e)] ++ tl := by
  obtain ⟨n, rfl⟩ : ∃ n, N = n + 1 := ⟨N - 1, by omega⟩
  refine ⟨((List.range (n + 1)).map r).tail.map (fun a => (a, vr_up f ((List.range (n + 1)).map r) e a)), ?_⟩
  have hl : (List.range (n + 1)).map r = r 0 :: ((List.range (n + 1)).map r).tail := by rw [List.range_succ_eq_map]; rfl
  have h0 : r 0 ∈ (List.range (n + 1)).map r := List.mem_map.mpr ⟨0, List.mem_range.mpr (by omega), rfl⟩
  unfold va_pl
  rw [List.nil_append]
  conv => lhs; rw [hl]
  rw [List.map_cons, ← hl, vr_up_in h0]
  rfl
theorem mna0 {cI c2 : ClassId} {cc : ByteArray} (hexec : p.tables.exec = Jvm.exec) (hb : c.code = cc) {own : String} {index : Nat} (hown : s.vm.findClass own = some m.cls) (hclink : (Cond.classLink own index "[[I").before args s = true) (hover : va_AOA .int s) (harr : (Cond.arrayClass .int).before args s = true)
    (hK : va_K D vwCl tys s) (htys : tys = [(cI, .int), (c2, .array .int)]) (hpl : True = True) (hP : va_P D vwCl ws H) (hD : va_D A ws) (hS : va_S A H0 H locs) (hA : ∀ q, H0.size ≤ q → A q) {n k : Int32} {N' K' : Nat} (h0 : 0 < N') (hn : ¬ n < 0) (hk : ¬ k < 0) (hN : n.toNatClampNeg = N') (hM : k.toNatClampNeg = K')
    (hb1 : N' * 4 ≤ 536870912) (hb2 : K' * componentBytes .int ≤ 536870912) (hb3 : K' ≤ 536870912) (hcells : cells + (1 + N') ≤ R.cells) (hslots : slots + (N' + N' * K') ≤ R.slots) (hdg : decode cc pc = .ok (.multianewarray index 2, 4))
    (kk : ∀ (q : Nat) (r : Nat → Nat) (H1 : Heap), va_P D vwCl ((ws ++ [(q, .inl (c2, N', .inr (.inr (.inr (.inr (fun i => if i < N' then some (r i) else none))))))]) ++ [(r 0, .inl (cI, K', .inl (fun _ => 0)))]) H1 → va_D A ((ws ++ [(q, .inl (c2, N', .inr (.inr (.inr (.inr (fun i => if i < N' then some (r i) else none))))))]) ++ [(r 0, .inl (cI, K', .inl (fun _ => 0)))]) → va_S A H0 H1 locs →
      W p l e R s m args below meth c H1 locs (cells + 1 + N') (slots + N' + N' * K') Q (F0 m (pc + 4) ls (.ref q :: rest))) : W p l e R s m args below meth c H locs cells slots Q (F0 m pc ls (.int k :: .int n :: rest)) := by
  subst htys
  have hcy : s.vm.findClass (FieldType.array .int).toString = some cI := (hK.2 0 _ rfl).2
  have hz : ∀ c : ClassId, Jvm.Free.Multi.innerC c K' (defaultValue .int) = vp_cell c (K', .inl (fun _ => 0)) := fun c => by
    rw [vp_cell_i]
    exact arrV_new c K' (.int 0)
  refine va_mna (X := ws) (L := []) (f := fun _ => .inr (0, [])) (cy := cI) (ty := .int) (N' := N') (K' := K') (z := (K', .inl (fun _ => 0))) hexec hb hown hclink hover harr hcy hK (by simpa [va_pl] using hP) (by simpa [va_pl] using hD) hS hA hn hk hN hM hb1 hb2 hb3 rfl rfl hcells hslots hz hdg (fun q r cA H1 hinj hnl hK1 hP1 hD1 hS1 => ?_)
  have e9 : c2 = cA := K_grid hK1
  subst e9
  obtain ⟨tl, htl⟩ := pl_first h0 r (fun _ => .inr (0, [])) (.inl (cI, K', .inl (fun _ => 0)))
  rw [htl] at hP1 hD1
  rw [← List.append_assoc] at hP1 hD1
  refine kk q r H1 (fun k9 x9 hx9 => hP1 k9 x9 ?_) ⟨fun i j x y hi hj hxy => hD1.1 i j x y ?_ ?_ hxy, fun k9 x9 hx9 => hD1.2 k9 x9 ?_⟩ hS1
  · rw [List.getElem?_append_left (List.getElem?_eq_some_iff.mp hx9).1]; exact hx9
  · rw [List.getElem?_append_left (List.getElem?_eq_some_iff.mp hi).1]; exact hi
  · rw [List.getElem?_append_left (List.getElem?_eq_some_iff.mp hj).1]; exact hj
  · rw [List.getElem?_append_left (List.getElem?_eq_some_iff.mp hx9).1]; exact hx9
end KC
set_option maxRecDepth 20000 in
theorem ns_0 : Cond.fieldLinkNest RX3 23 "HolelessHouse$Graph" "near" "[I" RX11 ∈ nsW := List.mem_of_getElem? (i := 0) (by decide +kernel)
set_option maxRecDepth 20000 in
theorem ns_1 : Cond.fieldLinkNest RX8 37 "HolelessHouse$Graph" "near" "[I" RX11 ∈ nsW := List.mem_of_getElem? (i := 1) (by decide +kernel)
set_option maxRecDepth 20000 in
theorem ns_2 : Cond.fieldLinkNest RX2 48 "HolelessHouse$Graph" "near" "[I" RX11 ∈ nsW := List.mem_of_getElem? (i := 2) (by decide +kernel)
set_option maxRecDepth 20000 in
theorem ns_3 : Cond.fieldLinkNest RX7 43 "HolelessHouse$Graph" "near" "[I" RX11 ∈ nsW := List.mem_of_getElem? (i := 3) (by decide +kernel)
set_option maxRecDepth 20000 in
theorem ns_4 : Cond.fieldLinkNest RX1 48 "HolelessHouse$Graph" "near" "[I" RX11 ∈ nsW := List.mem_of_getElem? (i := 4) (by decide +kernel)
set_option maxRecDepth 20000 in
theorem ns_5 : Cond.fieldLinkNest RX11 108 "HolelessHouse$Graph" "near" "[I" RX11 ∈ nsW := List.mem_of_getElem? (i := 5) (by decide +kernel)
set_option maxRecDepth 20000 in
theorem ns_6 : Cond.fieldLinkNest RX9 53 "HolelessHouse$Graph" "near" "[I" RX11 ∈ nsW := List.mem_of_getElem? (i := 6) (by decide +kernel)
set_option maxRecDepth 20000 in
theorem ns_7 : Cond.fieldLinkNest RX3 20 "HolelessHouse$Graph" "size" "I" RX11 ∈ nsW := List.mem_of_getElem? (i := 7) (by decide +kernel)
set_option maxRecDepth 20000 in
theorem ns_8 : Cond.fieldLinkNest RX7 30 "HolelessHouse$Graph" "size" "I" RX11 ∈ nsW := List.mem_of_getElem? (i := 8) (by decide +kernel)
set_option maxRecDepth 20000 in
theorem ns_9 : Cond.fieldLinkNest RX2 33 "HolelessHouse$Graph" "size" "I" RX11 ∈ nsW := List.mem_of_getElem? (i := 9) (by decide +kernel)
set_option maxRecDepth 20000 in
theorem ns_10 : Cond.fieldLinkNest RX5 46 "HolelessHouse$Graph" "size" "I" RX11 ∈ nsW := List.mem_of_getElem? (i := 10) (by decide +kernel)
set_option maxRecDepth 20000 in
theorem ns_11 : Cond.fieldLinkNest RX9 42 "HolelessHouse$Graph" "size" "I" RX11 ∈ nsW := List.mem_of_getElem? (i := 11) (by decide +kernel)
set_option maxRecDepth 20000 in
theorem ns_12 : Cond.fieldLinkNest RX1 43 "HolelessHouse$Graph" "size" "I" RX11 ∈ nsW := List.mem_of_getElem? (i := 12) (by decide +kernel)
set_option maxRecDepth 20000 in
theorem ns_13 : Cond.fieldLinkNest RX6 61 "HolelessHouse$Graph" "size" "I" RX11 ∈ nsW := List.mem_of_getElem? (i := 13) (by decide +kernel)
set_option maxRecDepth 20000 in
theorem ns_14 : Cond.fieldLinkNest RX11 142 "HolelessHouse$Graph" "size" "I" RX11 ∈ nsW := List.mem_of_getElem? (i := 14) (by decide +kernel)
set_option maxRecDepth 20000 in
theorem ns_15 : Cond.fieldLinkNest RX9 29 "HolelessHouse$Graph" "version" "I" RX11 ∈ nsW := List.mem_of_getElem? (i := 15) (by decide +kernel)
set_option maxRecDepth 20000 in
theorem ns_16 : Cond.fieldLinkNest RX7 25 "HolelessHouse$Graph" "version" "I" RX11 ∈ nsW := List.mem_of_getElem? (i := 16) (by decide +kernel)
set_option maxRecDepth 20000 in
theorem ns_17 : Cond.fieldLinkNest RX8 28 "HolelessHouse$Graph" "version" "I" RX11 ∈ nsW := List.mem_of_getElem? (i := 17) (by decide +kernel)
set_option maxRecDepth 20000 in
theorem ns_18 : Cond.fieldLinkNest RX2 28 "HolelessHouse$Graph" "version" "I" RX11 ∈ nsW := List.mem_of_getElem? (i := 18) (by decide +kernel)
set_option maxRecDepth 20000 in
theorem ns_19 : Cond.fieldLinkNest RX1 38 "HolelessHouse$Graph" "version" "I" RX11 ∈ nsW := List.mem_of_getElem? (i := 19) (by decide +kernel)
set_option maxRecDepth 20000 in
theorem ns_20 : Cond.fieldLinkNest RX11 297 "HolelessHouse$Graph" "version" "I" RX11 ∈ nsW := List.mem_of_getElem? (i := 20) (by decide +kernel)
set_option maxRecDepth 20000 in
theorem ns_21 : Cond.fieldLinkNest RX11 136 "HolelessHouse$Table" "rows" "[I" RX11 ∈ nsW := List.mem_of_getElem? (i := 21) (by decide +kernel)
set_option maxRecDepth 20000 in
theorem ns_22 : Cond.fieldLinkNest RX11 133 "HolelessHouse$Table" "width" "I" RX11 ∈ nsW := List.mem_of_getElem? (i := 22) (by decide +kernel)
set_option maxRecDepth 20000 in
theorem ns_23 : Cond.fieldLinkNest RX11 313 "HolelessHouse$Table" "version" "I" RX11 ∈ nsW := List.mem_of_getElem? (i := 23) (by decide +kernel)
set_option maxRecDepth 20000 in
theorem ns_24 : Cond.fieldLinkNest RX6 98 "HolelessHouse$Going" "near" "[[I" RX11 ∈ nsW := List.mem_of_getElem? (i := 24) (by decide +kernel)
set_option maxRecDepth 20000 in
theorem ns_25 : Cond.fieldLinkNest RX11 183 "HolelessHouse$Ordering" "places" "[I" RX11 ∈ nsW := List.mem_of_getElem? (i := 25) (by decide +kernel)
set_option maxRecDepth 20000 in
theorem ns_26 : Cond.fieldLinkNest RX11 285 "HolelessHouse$Ordering" "drafts" "[I" RX11 ∈ nsW := List.mem_of_getElem? (i := 26) (by decide +kernel)
set_option maxRecDepth 20000 in
theorem ns_27 : Cond.fieldLinkNest RX11 158 "HolelessHouse$Ordering" "draftSize" "I" RX11 ∈ nsW := List.mem_of_getElem? (i := 27) (by decide +kernel)
set_option maxRecDepth 20000 in
theorem ns_28 : Cond.fieldLinkNest RX11 186 "HolelessHouse$Ordering" "there" "Z" RX11 ∈ nsW := List.mem_of_getElem? (i := 28) (by decide +kernel)
set_option maxRecDepth 20000 in
theorem ns_29 : Cond.fieldLinkNest RX11 170 "HolelessHouse$Ordering" "filled" "I" RX11 ∈ nsW := List.mem_of_getElem? (i := 29) (by decide +kernel)
set_option maxRecDepth 20000 in
theorem ns_30 : Cond.fieldLinkNest RX11 180 "HolelessHouse$Ordering" "width" "I" RX11 ∈ nsW := List.mem_of_getElem? (i := 30) (by decide +kernel)
set_option maxRecDepth 20000 in
theorem ns_31 : Cond.fieldLinkNest RX11 130 "HolelessHouse$Ring" "path" "[I" RX11 ∈ nsW := List.mem_of_getElem? (i := 31) (by decide +kernel)
set_option maxRecDepth 20000 in
theorem ns_32 : Cond.fieldLinkNest RX11 127 "HolelessHouse$Ring" "length" "I" RX11 ∈ nsW := List.mem_of_getElem? (i := 32) (by decide +kernel)
set_option maxRecDepth 20000 in
theorem ns_33 : Cond.fieldLinkNest RX11 196 "HolelessHouse$Cliques" "sets" "[I" RX11 ∈ nsW := List.mem_of_getElem? (i := 33) (by decide +kernel)
set_option maxRecDepth 20000 in
theorem ns_34 : Cond.fieldLinkNest RX11 219 "HolelessHouse$Cliques" "parents" "[I" RX11 ∈ nsW := List.mem_of_getElem? (i := 34) (by decide +kernel)
set_option maxRecDepth 20000 in
theorem ns_35 : Cond.fieldLinkNest RX11 222 "HolelessHouse$Cliques" "shared" "[I" RX11 ∈ nsW := List.mem_of_getElem? (i := 35) (by decide +kernel)
set_option maxRecDepth 20000 in
theorem ns_36 : Cond.fieldLinkNest RX11 194 "HolelessHouse$Cliques" "size" "I" RX11 ∈ nsW := List.mem_of_getElem? (i := 36) (by decide +kernel)
set_option maxRecDepth 20000 in
theorem ns_37 : Cond.fieldLinkNest RX11 213 "HolelessHouse$Paint" "hues" "[I" RX11 ∈ nsW := List.mem_of_getElem? (i := 37) (by decide +kernel)
set_option maxRecDepth 20000 in
theorem ns_38 : Cond.fieldLinkNest RX11 210 "HolelessHouse$Paint" "most" "I" RX11 ∈ nsW := List.mem_of_getElem? (i := 38) (by decide +kernel)
set_option maxRecDepth 20000 in
theorem ns_39 : Cond.fieldLinkNest RX11 229 "HolelessHouse$Parts" "sets" "[I" RX11 ∈ nsW := List.mem_of_getElem? (i := 39) (by decide +kernel)
set_option maxRecDepth 20000 in
theorem ns_40 : Cond.fieldLinkNest RX11 228 "HolelessHouse$Parts" "size" "I" RX11 ∈ nsW := List.mem_of_getElem? (i := 40) (by decide +kernel)
set_option maxRecDepth 20000 in
theorem ns_41 : Cond.fieldLinkNest RX11 246 "HolelessHouse$FarThree" "three" "[I" RX11 ∈ nsW := List.mem_of_getElem? (i := 41) (by decide +kernel)
set_option maxRecDepth 20000 in
theorem ns_42 : Cond.fieldLinkNest RX11 245 "HolelessHouse$FarThree" "there" "Z" RX11 ∈ nsW := List.mem_of_getElem? (i := 42) (by decide +kernel)
set_option maxRecDepth 20000 in
theorem ns_43 : Cond.fieldLinkNest RX11 237 "HolelessHouse$Benches" "places" "[I" RX11 ∈ nsW := List.mem_of_getElem? (i := 43) (by decide +kernel)
set_option maxRecDepth 20000 in
theorem ns_44 : Cond.fieldLinkNest RX11 236 "HolelessHouse$Benches" "width" "I" RX11 ∈ nsW := List.mem_of_getElem? (i := 44) (by decide +kernel)
set_option maxRecDepth 20000 in
theorem ns_45 : Cond.fieldLinkNest RX11 269 "HolelessHouse$Benches" "ways" "I" RX11 ∈ nsW := List.mem_of_getElem? (i := 45) (by decide +kernel)
set_option maxRecDepth 20000 in
theorem ns_46 : Cond.fieldLinkNest RX11 233 "HolelessHouse$Benches" "seated" "Z" RX11 ∈ nsW := List.mem_of_getElem? (i := 46) (by decide +kernel)
set_option maxRecDepth 20000 in
theorem ns_47 : Cond.fieldLinkNest RX11 294 "HolelessHouse$Benches" "madeFor" "I" RX11 ∈ nsW := List.mem_of_getElem? (i := 47) (by decide +kernel)
set_option maxRecDepth 20000 in
theorem ns_48 : Cond.methodLinkNest RX11 9 yX4_init RX11 ∈ nsW := List.mem_of_getElem? (i := 48) (by decide +kernel)
set_option maxRecDepth 20000 in
theorem ns_49 : Cond.methodLinkNest RX11 18 yX10_init RX11 ∈ nsW := List.mem_of_getElem? (i := 49) (by decide +kernel)
set_option maxRecDepth 20000 in
theorem ns_50 : Cond.methodLinkNest RX11 25 yX6_init RX11 ∈ nsW := List.mem_of_getElem? (i := 50) (by decide +kernel)
set_option maxRecDepth 20000 in
theorem ns_51 : Cond.methodLinkNest RX6 11 yX3_init RX11 ∈ nsW := List.mem_of_getElem? (i := 51) (by decide +kernel)
set_option maxRecDepth 20000 in
theorem ns_52 : Cond.methodLinkNest RX6 20 yX5_init RX11 ∈ nsW := List.mem_of_getElem? (i := 52) (by decide +kernel)
set_option maxRecDepth 20000 in
theorem ns_53 : Cond.methodLinkNest RX5 11 yX3_init RX11 ∈ nsW := List.mem_of_getElem? (i := 53) (by decide +kernel)
set_option maxRecDepth 20000 in
theorem ns_54 : Cond.methodLinkNest RX11 32 yX9_init RX11 ∈ nsW := List.mem_of_getElem? (i := 54) (by decide +kernel)
set_option maxRecDepth 20000 in
theorem ns_55 : Cond.methodLinkNest RX9 11 yX3_init RX11 ∈ nsW := List.mem_of_getElem? (i := 55) (by decide +kernel)
set_option maxRecDepth 20000 in
theorem ns_56 : Cond.methodLinkNest RX11 39 yX1_init RX11 ∈ nsW := List.mem_of_getElem? (i := 56) (by decide +kernel)
set_option maxRecDepth 20000 in
theorem ns_57 : Cond.methodLinkNest RX11 51 yX7_init RX11 ∈ nsW := List.mem_of_getElem? (i := 57) (by decide +kernel)
set_option maxRecDepth 20000 in
theorem ns_58 : Cond.methodLinkNest RX11 58 yX8_init RX11 ∈ nsW := List.mem_of_getElem? (i := 58) (by decide +kernel)
set_option maxRecDepth 20000 in
theorem ns_59 : Cond.methodLinkNest RX11 65 yX2_init RX11 ∈ nsW := List.mem_of_getElem? (i := 59) (by decide +kernel)
set_option maxRecDepth 20000 in
theorem ns_60 : Cond.methodLinkNest RX11 72 yX0_init RX11 ∈ nsW := List.mem_of_getElem? (i := 60) (by decide +kernel)
set_option maxRecDepth 20000 in
theorem ns_61 : Cond.methodLinkNest RX11 290 yX4_restart RX11 ∈ nsW := List.mem_of_getElem? (i := 61) (by decide +kernel)
set_option maxRecDepth 20000 in
theorem ns_62 : Cond.methodLinkNest RX11 105 yX6_drop RX11 ∈ nsW := List.mem_of_getElem? (i := 62) (by decide +kernel)
set_option maxRecDepth 20000 in
theorem ns_63 : Cond.methodLinkNest RX11 164 yX4_all RX11 ∈ nsW := List.mem_of_getElem? (i := 63) (by decide +kernel)
set_option maxRecDepth 20000 in
theorem ns_64 : Cond.methodLinkNest RX11 291 yX6_keepDrafted RX11 ∈ nsW := List.mem_of_getElem? (i := 64) (by decide +kernel)
set_option maxRecDepth 20000 in
theorem ns_65 : Cond.methodLinkNest RX6 53 yX11_in RX11 ∈ nsW := List.mem_of_getElem? (i := 65) (by decide +kernel)
set_option maxRecDepth 20000 in
theorem ns_66 : Cond.methodLinkNest RX11 93 yX4_has RX11 ∈ nsW := List.mem_of_getElem? (i := 66) (by decide +kernel)
set_option maxRecDepth 20000 in
theorem ns_67 : Cond.methodLinkNest RX11 97 yX4_touches RX11 ∈ nsW := List.mem_of_getElem? (i := 67) (by decide +kernel)
set_option maxRecDepth 20000 in
theorem ns_68 : Cond.methodLinkNest RX4 22 yX11_in RX11 ∈ nsW := List.mem_of_getElem? (i := 68) (by decide +kernel)
set_option maxRecDepth 20000 in
theorem ns_69 : Cond.methodLinkNest RX11 101 yX4_set RX11 ∈ nsW := List.mem_of_getElem? (i := 69) (by decide +kernel)
set_option maxRecDepth 20000 in
theorem ns_70 : Cond.methodLinkNest RX11 202 yX4_isClique RX11 ∈ nsW := List.mem_of_getElem? (i := 70) (by decide +kernel)
set_option maxRecDepth 20000 in
theorem ns_71 : Cond.methodLinkNest RX11 123 yX9_bring RX11 ∈ nsW := List.mem_of_getElem? (i := 71) (by decide +kernel)
set_option maxRecDepth 20000 in
theorem ns_72 : Cond.methodLinkNest RX9 34 yX3_goesWithoutFill RX11 ∈ nsW := List.mem_of_getElem? (i := 72) (by decide +kernel)
set_option maxRecDepth 20000 in
theorem ns_73 : Cond.methodLinkNest RX3 70 yX4_all RX11 ∈ nsW := List.mem_of_getElem? (i := 73) (by decide +kernel)
set_option maxRecDepth 20000 in
theorem ns_74 : Cond.methodLinkNest RX3 44 yX11_in RX11 ∈ nsW := List.mem_of_getElem? (i := 74) (by decide +kernel)
set_option maxRecDepth 20000 in
theorem ns_75 : Cond.methodLinkNest RX3 38 yX11_withoutLeast RX11 ∈ nsW := List.mem_of_getElem? (i := 75) (by decide +kernel)
set_option maxRecDepth 20000 in
theorem ns_76 : Cond.methodLinkNest RX9 56 yX11_in RX11 ∈ nsW := List.mem_of_getElem? (i := 76) (by decide +kernel)
set_option maxRecDepth 20000 in
theorem ns_77 : Cond.methodLinkNest RX11 139 yX4_joinAll RX11 ∈ nsW := List.mem_of_getElem? (i := 77) (by decide +kernel)
set_option maxRecDepth 20000 in
theorem ns_78 : Cond.methodLinkNest RX11 145 yX4_invert RX11 ∈ nsW := List.mem_of_getElem? (i := 78) (by decide +kernel)
set_option maxRecDepth 20000 in
theorem ns_79 : Cond.methodLinkNest RX11 148 yX4_pairs RX11 ∈ nsW := List.mem_of_getElem? (i := 79) (by decide +kernel)
set_option maxRecDepth 20000 in
theorem ns_80 : Cond.methodLinkNest RX11 152 yX6_drafted RX11 ∈ nsW := List.mem_of_getElem? (i := 80) (by decide +kernel)
set_option maxRecDepth 20000 in
theorem ns_81 : Cond.methodLinkNest RX11 155 yX6_addToDraft RX11 ∈ nsW := List.mem_of_getElem? (i := 81) (by decide +kernel)
set_option maxRecDepth 20000 in
theorem ns_82 : Cond.methodLinkNest RX11 161 yX6_draftSet RX11 ∈ nsW := List.mem_of_getElem? (i := 82) (by decide +kernel)
set_option maxRecDepth 20000 in
theorem ns_83 : Cond.methodLinkNest RX11 167 yX6_followDraft RX11 ∈ nsW := List.mem_of_getElem? (i := 83) (by decide +kernel)
set_option maxRecDepth 20000 in
theorem ns_84 : Cond.methodLinkNest RX6 57 yX3_start RX11 ∈ nsW := List.mem_of_getElem? (i := 84) (by decide +kernel)
set_option maxRecDepth 20000 in
theorem ns_85 : Cond.methodLinkNest RX6 64 yX3_lack RX11 ∈ nsW := List.mem_of_getElem? (i := 85) (by decide +kernel)
set_option maxRecDepth 20000 in
theorem ns_86 : Cond.methodLinkNest RX6 68 yX3_width RX11 ∈ nsW := List.mem_of_getElem? (i := 86) (by decide +kernel)
set_option maxRecDepth 20000 in
theorem ns_87 : Cond.methodLinkNest RX6 75 yX3_leave RX11 ∈ nsW := List.mem_of_getElem? (i := 87) (by decide +kernel)
set_option maxRecDepth 20000 in
theorem ns_88 : Cond.methodLinkNest RX11 173 yX6_followRule RX11 ∈ nsW := List.mem_of_getElem? (i := 88) (by decide +kernel)
set_option maxRecDepth 20000 in
theorem ns_89 : Cond.methodLinkNest RX6 85 yX4_all RX11 ∈ nsW := List.mem_of_getElem? (i := 89) (by decide +kernel)
set_option maxRecDepth 20000 in
theorem ns_90 : Cond.methodLinkNest RX6 88 yX3_cheapest RX11 ∈ nsW := List.mem_of_getElem? (i := 90) (by decide +kernel)
set_option maxRecDepth 20000 in
theorem ns_91 : Cond.methodLinkNest RX11 177 yX6_followLeast RX11 ∈ nsW := List.mem_of_getElem? (i := 91) (by decide +kernel)
set_option maxRecDepth 20000 in
theorem ns_92 : Cond.methodLinkNest RX6 92 yX5_begin RX11 ∈ nsW := List.mem_of_getElem? (i := 92) (by decide +kernel)
set_option maxRecDepth 20000 in
theorem ns_93 : Cond.methodLinkNest RX5 37 yX3_start RX11 ∈ nsW := List.mem_of_getElem? (i := 93) (by decide +kernel)
set_option maxRecDepth 20000 in
theorem ns_94 : Cond.methodLinkNest RX5 41 yX4_all RX11 ∈ nsW := List.mem_of_getElem? (i := 94) (by decide +kernel)
set_option maxRecDepth 20000 in
theorem ns_95 : Cond.methodLinkNest RX5 57 yX11_in RX11 ∈ nsW := List.mem_of_getElem? (i := 95) (by decide +kernel)
set_option maxRecDepth 20000 in
theorem ns_96 : Cond.methodLinkNest RX5 61 yX3_price RX11 ∈ nsW := List.mem_of_getElem? (i := 96) (by decide +kernel)
set_option maxRecDepth 20000 in
theorem ns_97 : Cond.methodLinkNest RX5 87 yX3_leastTight RX11 ∈ nsW := List.mem_of_getElem? (i := 97) (by decide +kernel)
set_option maxRecDepth 20000 in
theorem ns_98 : Cond.methodLinkNest RX5 90 yX3_hasWayOutside RX11 ∈ nsW := List.mem_of_getElem? (i := 98) (by decide +kernel)
set_option maxRecDepth 20000 in
theorem ns_99 : Cond.methodLinkNest RX3 51 yX11_reached RX11 ∈ nsW := List.mem_of_getElem? (i := 99) (by decide +kernel)
set_option maxRecDepth 20000 in
theorem ns_100 : Cond.methodLinkNest RX5 65 yX3_leave RX11 ∈ nsW := List.mem_of_getElem? (i := 100) (by decide +kernel)
set_option maxRecDepth 20000 in
theorem ns_101 : Cond.methodLinkNest RX6 95 yX5_letFirstGo RX11 ∈ nsW := List.mem_of_getElem? (i := 101) (by decide +kernel)
set_option maxRecDepth 20000 in
theorem ns_102 : Cond.methodLinkNest RX11 181 yX6_length RX11 ∈ nsW := List.mem_of_getElem? (i := 102) (by decide +kernel)
set_option maxRecDepth 20000 in
theorem ns_103 : Cond.methodLinkNest RX11 190 yX6_fillIn RX11 ∈ nsW := List.mem_of_getElem? (i := 103) (by decide +kernel)
set_option maxRecDepth 20000 in
theorem ns_104 : Cond.methodLinkNest RX6 102 yX4_joinAll RX11 ∈ nsW := List.mem_of_getElem? (i := 104) (by decide +kernel)
set_option maxRecDepth 20000 in
theorem ns_105 : Cond.methodLinkNest RX11 193 yX1_bring RX11 ∈ nsW := List.mem_of_getElem? (i := 105) (by decide +kernel)
set_option maxRecDepth 20000 in
theorem ns_106 : Cond.methodLinkNest RX1 44 yX4_all RX11 ∈ nsW := List.mem_of_getElem? (i := 106) (by decide +kernel)
set_option maxRecDepth 20000 in
theorem ns_107 : Cond.methodLinkNest RX1 67 yX11_in RX11 ∈ nsW := List.mem_of_getElem? (i := 107) (by decide +kernel)
set_option maxRecDepth 20000 in
theorem ns_108 : Cond.methodLinkNest RX11 195 yX1_has RX11 ∈ nsW := List.mem_of_getElem? (i := 108) (by decide +kernel)
set_option maxRecDepth 20000 in
theorem ns_109 : Cond.methodLinkNest RX11 199 yX1_widest RX11 ∈ nsW := List.mem_of_getElem? (i := 109) (by decide +kernel)
set_option maxRecDepth 20000 in
theorem ns_110 : Cond.methodLinkNest RX11 205 yX4_isLoose RX11 ∈ nsW := List.mem_of_getElem? (i := 110) (by decide +kernel)
set_option maxRecDepth 20000 in
theorem ns_111 : Cond.methodLinkNest RX11 208 yX7_bring RX11 ∈ nsW := List.mem_of_getElem? (i := 111) (by decide +kernel)
set_option maxRecDepth 20000 in
theorem ns_112 : Cond.methodLinkNest RX11 216 yX1_bringTree RX11 ∈ nsW := List.mem_of_getElem? (i := 112) (by decide +kernel)
set_option maxRecDepth 20000 in
theorem ns_113 : Cond.methodLinkNest RX11 225 yX8_bring RX11 ∈ nsW := List.mem_of_getElem? (i := 113) (by decide +kernel)
set_option maxRecDepth 20000 in
theorem ns_114 : Cond.methodLinkNest RX8 33 yX4_all RX11 ∈ nsW := List.mem_of_getElem? (i := 114) (by decide +kernel)
set_option maxRecDepth 20000 in
theorem ns_115 : Cond.methodLinkNest RX8 48 yX4_reach RX11 ∈ nsW := List.mem_of_getElem? (i := 115) (by decide +kernel)
set_option maxRecDepth 20000 in
theorem ns_116 : Cond.methodLinkNest RX4 48 yX11_reached RX11 ∈ nsW := List.mem_of_getElem? (i := 116) (by decide +kernel)
set_option maxRecDepth 20000 in
theorem ns_117 : Cond.methodLinkNest RX8 52 yX11_in RX11 ∈ nsW := List.mem_of_getElem? (i := 117) (by decide +kernel)
set_option maxRecDepth 20000 in
theorem ns_118 : Cond.methodLinkNest RX8 56 yX4_around RX11 ∈ nsW := List.mem_of_getElem? (i := 118) (by decide +kernel)
set_option maxRecDepth 20000 in
theorem ns_119 : Cond.methodLinkNest RX4 45 yX11_withoutLeast RX11 ∈ nsW := List.mem_of_getElem? (i := 119) (by decide +kernel)
set_option maxRecDepth 20000 in
theorem ns_120 : Cond.methodLinkNest RX11 300 yX0_refuse RX11 ∈ nsW := List.mem_of_getElem? (i := 120) (by decide +kernel)
set_option maxRecDepth 20000 in
theorem ns_121 : Cond.methodLinkNest RX11 303 yX0_restart RX11 ∈ nsW := List.mem_of_getElem? (i := 121) (by decide +kernel)
set_option maxRecDepth 20000 in
theorem ns_122 : Cond.methodLinkNest RX11 304 yX1_with RX11 ∈ nsW := List.mem_of_getElem? (i := 122) (by decide +kernel)
set_option maxRecDepth 20000 in
theorem ns_123 : Cond.methodLinkNest RX11 307 yX0_addRow RX11 ∈ nsW := List.mem_of_getElem? (i := 123) (by decide +kernel)
set_option maxRecDepth 20000 in
theorem ns_124 : Cond.methodLinkNest RX11 310 yX0_findFirst RX11 ∈ nsW := List.mem_of_getElem? (i := 124) (by decide +kernel)
set_option maxRecDepth 20000 in
theorem ns_125 : Cond.methodLinkNest RX0 62 yX11_in RX11 ∈ nsW := List.mem_of_getElem? (i := 125) (by decide +kernel)
set_option maxRecDepth 20000 in
theorem ns_126 : Cond.methodLinkNest RX11 238 yX0_lastOf RX11 ∈ nsW := List.mem_of_getElem? (i := 126) (by decide +kernel)
set_option maxRecDepth 20000 in
theorem ns_127 : Cond.methodLinkNest RX11 241 yX0_firstOf RX11 ∈ nsW := List.mem_of_getElem? (i := 127) (by decide +kernel)
set_option maxRecDepth 20000 in
theorem ns_128 : Cond.methodLinkNest RX11 244 yX2_bring RX11 ∈ nsW := List.mem_of_getElem? (i := 128) (by decide +kernel)
set_option maxRecDepth 20000 in
theorem ns_129 : Cond.methodLinkNest RX2 44 yX4_all RX11 ∈ nsW := List.mem_of_getElem? (i := 129) (by decide +kernel)
set_option maxRecDepth 20000 in
theorem ns_130 : Cond.methodLinkNest RX2 51 yX11_in RX11 ∈ nsW := List.mem_of_getElem? (i := 130) (by decide +kernel)
set_option maxRecDepth 20000 in
theorem ns_131 : Cond.methodLinkNest RX2 55 yX4_reach RX11 ∈ nsW := List.mem_of_getElem? (i := 131) (by decide +kernel)
set_option maxRecDepth 20000 in
theorem ns_132 : Cond.methodLinkNest RX11 249 yX10_restart RX11 ∈ nsW := List.mem_of_getElem? (i := 132) (by decide +kernel)
set_option maxRecDepth 20000 in
theorem ns_133 : Cond.methodLinkNest RX11 252 yX10_hasPlace RX11 ∈ nsW := List.mem_of_getElem? (i := 133) (by decide +kernel)
set_option maxRecDepth 20000 in
theorem ns_134 : Cond.methodLinkNest RX11 255 yX10_put RX11 ∈ nsW := List.mem_of_getElem? (i := 134) (by decide +kernel)
set_option maxRecDepth 20000 in
theorem ns_135 : Cond.methodLinkNest RX11 259 yX10_hasRun RX11 ∈ nsW := List.mem_of_getElem? (i := 135) (by decide +kernel)
set_option maxRecDepth 20000 in
theorem ns_136 : Cond.methodLinkNest RX11 262 yX10_move RX11 ∈ nsW := List.mem_of_getElem? (i := 136) (by decide +kernel)
set_option maxRecDepth 20000 in
theorem ns_137 : Cond.methodLinkNest RX11 314 yX0_countWays RX11 ∈ nsW := List.mem_of_getElem? (i := 137) (by decide +kernel)
set_option maxRecDepth 20000 in
theorem ns_138 : Cond.methodLinkNest RX11 272 yX10_present RX11 ∈ nsW := List.mem_of_getElem? (i := 138) (by decide +kernel)
