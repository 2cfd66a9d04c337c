theorem fit_z {v : Int32} (h : Iv 0 1 v) : fits .boolean (.int v) = true := by
  rcases iv01 h with rfl | rfl <;> rfl
theorem ntz_t : ((List.range 64).all fun a => (List.range 64).all fun b => (decide (64 * a + b = 0) || (decide (0 ≤ ((nI (64 * a + b) ^^^ (-1)) &&& (nI (64 * a + b) - 1)).toInt) && decide (((nI (64 * a + b) ^^^ (-1)) &&& (nI (64 * a + b) - 1)).toInt ≤ 2047)))) = true := by decide +kernel
theorem ntz_m {x u v : Int32} (eu : u = x ^^^ (-1)) (ev : v = x - 1) (hx : Iv 1 4095 x) : Iv 0 2047 (u &&& v) := by
  obtain ⟨j, hj, h1, h2, e, -⟩ := iv_nI hx (by decide)
  subst eu
  subst ev
  subst e
  have t1 := List.all_eq_true.mp ntz_t (j / 64) (List.mem_range.mpr (by omega))
  have t2 := List.all_eq_true.mp t1 (j % 64) (List.mem_range.mpr (by omega))
  rw [show 64 * (j / 64) + j % 64 = j by omega] at t2
  rcases (Bool.or_eq_true _ _).mp t2 with t3 | t3
  · have t3 := of_decide_eq_true t3
    omega
  · obtain ⟨t4, t5⟩ := k2 t3
    exact ⟨of_decide_eq_true t4, of_decide_eq_true t5⟩
theorem shl_32 {v : Int32} (h : Iv 32 32 v) : Iv 1 1 ((1 : Int32) <<< (v &&& 31)) := by
  have e : v = 32 := d_eq h (iv_k (by decide +kernel))
  subst e
  exact iv_k (by decide +kernel)
theorem incN {x z k : Int32} {n : Int} (hk : Int32.ofInt n = k) (h : z = x + k) : x + Int32.ofInt n = z := by rw [hk, h]
theorem tia {z x k : Int32} {a b c : Int} (e : z = x + k) (hx : Iv a b x) (hk : Iv c c k) (q : (decide (-2147483648 ≤ a + c) && decide (b + c ≤ 2147483647)) = true) : z.toInt = x.toInt + c := by
  have h := ti_addc hx hk q
  rw [e, h]
  unfold Iv at hk
  omega
theorem ivb_sub {z x k : Int32} {a b c lo hi e f : Int} (ez : z = x - k) (hx : Iv a b x) (hk : Iv c c k) (hz : Iv lo hi z) (q : ((decide (-2147483648 ≤ a - c) && decide (b - c ≤ 2147483647)) && ((decide (e ≤ lo + c) || decide (e ≤ a)) && (decide (hi + c ≤ f) || decide (b ≤ f)))) = true) : Iv e f x := by
  obtain ⟨q1, q2⟩ := k2 q
  have h := ti_subc hx hk q1
  rw [← ez] at h
  obtain ⟨q3, q4⟩ := k2 q2
  unfold Iv at *
  constructor
  · rcases (Bool.or_eq_true _ _).mp q3 with t | t
    · have t := of_decide_eq_true t
      omega
    · have t := of_decide_eq_true t
      omega
  · rcases (Bool.or_eq_true _ _).mp q4 with t | t
    · have t := of_decide_eq_true t
      omega
    · have t := of_decide_eq_true t
      omega
theorem ivb_add {z x k : Int32} {a b c lo hi e f : Int} (ez : z = x + k) (hx : Iv a b x) (hk : Iv c c k) (hz : Iv lo hi z) (q : ((decide (-2147483648 ≤ a + c) && decide (b + c ≤ 2147483647)) && ((decide (e ≤ lo - c) || decide (e ≤ a)) && (decide (hi - c ≤ f) || decide (b ≤ f)))) = true) : Iv e f x := by
  obtain ⟨q1, q2⟩ := k2 q
  have h := ti_addc hx hk q1
  rw [← ez] at h
  obtain ⟨q3, q4⟩ := k2 q2
  unfold Iv at *
  constructor
  · rcases (Bool.or_eq_true _ _).mp q3 with t | t
    · have t := of_decide_eq_true t
      omega
    · have t := of_decide_eq_true t
      omega
  · rcases (Bool.or_eq_true _ _).mp q4 with t | t
    · have t := of_decide_eq_true t
      omega
    · have t := of_decide_eq_true t
      omega
theorem nneg {x : Int32} {b : Int} (h : Iv 0 b x) : ¬ x < 0 := by
  rw [Int32.lt_iff_toInt_lt]
  exact Int.not_lt.mpr h.1
theorem cp_sum {x n : Int32} {b d : Int} {N : Nat} (hx : Iv 0 b x) (hn : Iv 0 d n) (h : x.toInt + n.toInt ≤ (N : Int)) : x.toNatClampNeg + n.toNatClampNeg ≤ N := by
  show x.toInt.toNat + n.toInt.toNat ≤ N
  unfold Iv at *
  omega
theorem K3_int {D : va_G} {cI c2 cZ cA : ClassId} {U : State} (hK : va_K D vwCl ([(cI, .int), (c2, .array .int), (cZ, .boolean)] ++ [(cA, .int)]) U) : cI = cA := by
  have h1 : U.vm.findClass ("[" ++ (FieldType.int).toString) = some cI := (hK.2 0 _ rfl).2
  have h2 : U.vm.findClass ("[" ++ (FieldType.int).toString) = some cA := (hK.2 3 _ rfl).2
  exact Option.some.inj (h1.symm.trans h2)
theorem K3_z {D : va_G} {cI c2 cZ cA : ClassId} {U : State} (hK : va_K D vwCl ([(cI, .int), (c2, .array .int), (cZ, .boolean)] ++ [(cA, .boolean)]) U) : cZ = cA := by
  have h1 : U.vm.findClass ("[" ++ (FieldType.boolean).toString) = some cZ := (hK.2 2 _ rfl).2
  have h2 : U.vm.findClass ("[" ++ (FieldType.boolean).toString) = some cA := (hK.2 3 _ rfl).2
  exact Option.some.inj (h1.symm.trans h2)
theorem K3_grid {D : va_G} {cI c2 cZ cA : ClassId} {U : State} (hK : va_K D vwCl ([(cI, .int), (c2, .array .int), (cZ, .boolean)] ++ [(cA, .array .int)]) U) : c2 = cA := by
  have h1 : U.vm.findClass ("[" ++ (FieldType.array .int).toString) = some c2 := (hK.2 1 _ rfl).2
  have h2 : U.vm.findClass ("[" ++ (FieldType.array .int).toString) = some cA := (hK.2 3 _ rfl).2
  exact Option.some.inj (h1.symm.trans h2)
theorem pl_gr {N K : Nat} {cI : ClassId} (r : Nat → Nat) (f : Nat → va_E) : va_pl ([] ++ (List.range N).map r) (vr_up f ((List.range N).map r) (.inl (cI, K, .inl (fun _ => 0)))) = gr r cI N K (fun _ _ => 0) := by
  unfold va_pl gr
  rw [List.nil_append, List.map_map]
  apply List.map_congr_left
  intro i hi
  have h0 : r i ∈ (List.range N).map r := List.mem_map.mpr ⟨i, hi, rfl⟩
  show (r i, vr_up f _ _ (r i)) = _
  rw [vr_up_in h0]
section KE
variable {p : Program} {l : Launch} {e : Env} {R : Room} {s : State} {m : MethodId} {args : Array Value} {below : List Frame} {meth : Method} {c : Code} {H H0 : Heap} {locs : List Loc} {cells slots mc ms : Nat} {Q : State → Prop} {pc : Nat} {ls : Array Slot} {rest st0 : List Value} {D : va_G} {A : Nat → Prop} {tys : List (ClassId × FieldType)} {ws wc wr : va_W}
theorem k_zast {cc : ByteArray} {a : Nat} {cl : List vw_C} (hexec : p.tables.exec = Jvm.exec) (hb : c.code = cc) (hK : va_K D cl tys s) (hP : va_P D cl ws H) (hD : va_D A ws) (hS : va_S A H0 H locs) (q0 t0 : Nat) {cA : ClassId} {n : Nat} {f : Nat → Int32} (ha : ws[q0]? = some (a, .inl (cA, n, .inl f))) (ht : tys[t0]? = some (cA, .boolean)) {i : Int32} {x : Int32} (hin : vp_in i n) (hdg : decode cc pc = .ok (.bastore, 1))
    (kk : ∀ (f2 : Nat → Int32) (H1 : Heap) (locs1 : List Loc), f2 = upd f i.toNatClampNeg (vp_nar .boolean x) → va_P D cl (ws.set q0 (a, .inl (cA, n, .inl f2))) H1 → va_D A (ws.set q0 (a, .inl (cA, n, .inl f2))) → va_S A H0 H1 locs1 → W p l e R s m args below meth c H1 locs1 cells slots Q (F0 m (pc + 1) ls rest)) : W p l e R s m args below meth c H locs cells slots Q (F0 m pc ls (.int x :: .int i :: .ref a :: rest)) := va_zast hexec hb hK hP hD hS q0 t0 ha ht hin hdg (fun H1 locs1 hP1 hD1 hS1 => kk _ H1 locs1 rfl hP1 hD1 hS1)
theorem k_gcpy {cc : ByteArray} {cl : List vw_C} {pre po : va_W} {r : Nat → Nat} {K N : Nat} {G : Nat → Nat → Int32} {i0 : Nat} (hexec : p.tables.exec = Jvm.exec) (hb : c.code = cc) (hml : c.maxLocals = ls.size) {own : String} {index : Nat} (hown : s.vm.findClass own = some m.cls) (hlink : (Cond.methodLink own index arraycopyName).before args s = true) (hnat : (Cond.native arraycopyName).before args s = true) (hstat : (Cond.static arraycopyName).before args s = true) (hini : (Cond.initialized "java/lang/System").before args s = true)
    (hK : va_K D cl tys s) {cA : ClassId} {n1 : Nat} (hP : va_P D cl (pre ++ (gr r cA N n1 G ++ po)) H) (hD : va_D A (pre ++ (gr r cA N n1 G ++ po))) (hS : va_S A H0 H locs) (hlen : pre.length = K) (hi0 : i0 < N) (q0 t0 : Nat) {a0 n0 : Nat} {f : Nat → Int32} (ha0 : (pre ++ (gr r cA N n1 G ++ po))[q0]? = some (a0, .inl (cA, n0, .inl f))) (ht : tys[t0]? = some (cA, .int))
    {sp dp n : Int32} (h1 : ¬ sp < 0) (h2 : ¬ dp < 0) (h3 : ¬ n < 0) (h4 : sp.toNatClampNeg + n.toNatClampNeg ≤ n0) (h5 : dp.toNatClampNeg + n.toNatClampNeg ≤ n1) (hframes : 1 ≤ R.frames) (hlocals : (rest.map fun v => v.category).sum + (nativeFrameWords "java/lang/System" "arraycopy" 5 + 11) ≤ R.locals) (hdg : decode cc pc = .ok (.invokestatic index, 3))
    (kk : ∀ (f2 : Nat → Int32) (G2 : Nat → Nat → Int32) (H1 : Heap) (locs1 : List Loc), f2 = va_cpy f (G i0) sp.toNatClampNeg dp.toNatClampNeg n.toNatClampNeg → G2 = gup G i0 f2 → va_P D cl (pre ++ (gr r cA N n1 G2 ++ po)) H1 → va_D A (pre ++ (gr r cA N n1 G2 ++ po)) → va_S A H0 H1 locs1 → W p l e R s m args below meth c H1 locs1 cells slots Q (F0 m (pc + 3) ls rest)) : W p l e R s m args below meth c H locs cells slots Q (F0 m pc ls (.int n :: .int dp :: .ref (r i0) :: .int sp :: .ref a0 :: rest)) :=
  va_copyi hexec hb hml hown hlink hnat hstat hini hK hP hD hS q0 (K + i0) t0 t0 ha0 (gr_get hlen hi0) ht ht rfl h1 h2 h3 h4 h5 (fun _ _ => rfl) hframes hlocals hdg (fun H1 locs1 hP1 hD1 hS1 => kk _ _ H1 locs1 rfl rfl (by rw [gr_set hlen hi0 rfl] at hP1; exact hP1) (by rw [gr_set hlen hi0 rfl] at hD1; exact hD1) hS1)
theorem mnaG {cI c2 cZ : ClassId} {cc : ByteArray} (hexec : p.tables.exec = Jvm.exec) (hb : c.code = cc) {own : String} {index : Nat} (hown : s.vm.findClass own = some m.cls) (hclink : (Cond.classLink own index "[[I").before args s = true) (hover : va_AOA .int s) (harr : (Cond.arrayClass .int).before args s = true)
    (hK : va_K D vwCl tys s) (htys : tys = [(cI, .int), (c2, .array .int), (cZ, .boolean)]) (hP : va_P D vwCl ws H) (hD : va_D A ws) (hS : va_S A H0 H locs) (hA : ∀ q, H0.size ≤ q → A q) {n k : Int32} {N' K' : Nat} (hn : ¬ n < 0) (hk : ¬ k < 0) (hN : n.toNatClampNeg = N') (hM : k.toNatClampNeg = K')
    (hb1 : N' * 4 ≤ 536870912) (hb2 : K' * componentBytes .int ≤ 536870912) (hb3 : K' ≤ 536870912) (hcells : cells + (1 + N') ≤ R.cells) (hslots : slots + (N' + N' * K') ≤ R.slots) (hdg : decode cc pc = .ok (.multianewarray index 2, 4))
    (kk : ∀ (q : Nat) (r : Nat → Nat) (G : Nat → Nat → Int32) (H1 : Heap), G = (fun _ _ => 0) → va_P D vwCl ((ws ++ [(q, .inl (c2, N', .inr (.inr (.inr (.inr (fun i => if i < N' then some (r i) else none))))))]) ++ gr r cI N' K' G) H1 → va_D A ((ws ++ [(q, .inl (c2, N', .inr (.inr (.inr (.inr (fun i => if i < N' then some (r i) else none))))))]) ++ gr r cI N' K' G) → va_S A H0 H1 locs →
      W p l e R s m args below meth c H1 locs (cells + 1 + N') (slots + N' + N' * K') Q (F0 m (pc + 4) ls (.ref q :: rest))) : W p l e R s m args below meth c H locs cells slots Q (F0 m pc ls (.int k :: .int n :: rest)) := by
  subst htys
  have hcy : s.vm.findClass (FieldType.array .int).toString = some cI := (hK.2 0 _ rfl).2
  have hz : ∀ c : ClassId, Jvm.Free.Multi.innerC c K' (defaultValue .int) = vp_cell c (K', .inl (fun _ => 0)) := fun c => by
    rw [vp_cell_i]
    exact arrV_new c K' (.int 0)
  refine va_mna (X := ws) (L := []) (f := fun _ => .inr (0, [])) (cy := cI) (ty := .int) (N' := N') (K' := K') (z := (K', .inl (fun _ => 0))) hexec hb hown hclink hover harr hcy hK (by simpa [va_pl] using hP) (by simpa [va_pl] using hD) hS hA hn hk hN hM hb1 hb2 hb3 rfl rfl hcells hslots hz hdg (fun q r cA H1 hinj hnl hK1 hP1 hD1 hS1 => ?_)
  have e9 : c2 = cA := K3_grid hK1
  subst e9
  rw [pl_gr r (fun _ => .inr (0, []))] at hP1 hD1
  exact kk q r _ H1 rfl hP1 hD1 hS1
end KE
