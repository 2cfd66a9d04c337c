/-! THE CLAIM OUT OF ONE WALK OF THE LAW'S BODY. Your part is whole_start (and what it stands on); all else here is the same for every law, but numbers. -/
def R_law : String := "HolelessHouseLaw"
def lw_P (b : Addr) (xs : List Int32) (args : Array Value) (s : State) : Prop := args = #[.ref b] ∧ s.IntsAt b xs ∧ xs.length ≤ 2048 ∧ (Jvm.Cond.and given_1 narrow_1).before args s = true
def lw_Q (_ : Array Value) (s : State) (o : Outcome) (t : State) : Prop := o = .returned (some (.int 1)) ∧ Framed s o t [] 600000 7302250
def lw_Z (below : List Frame) (a : Array Value) (s : State) : State → Prop := fun t => ∃ o, t.status = .running ∧ Ended t below o ∧ lw_Q a s o t
/-- the law's own end, with 1 on the stack, nothing written that was there before, its room as the claim has it -/
theorem lw_ret {p : Program} {l : Launch} {e : Env} {s : State} {m : MethodId} {below : List Frame} {meth : Method} {c : Code} {b : Nat} (hx : p.tables.exec = Jvm.exec) (hb : c.code = code) (hr : meth.sig.returnType = ret) (hlocks : meth.locks = false) {pc : Nat} {H : Heap} {ls : Array Slot} (hdg : decode code pc = .ok (.ireturn, 1)) : W p l e room_1 s m #[Value.ref b] below meth c H [] 600000 7302250 (lw_Z below #[Value.ref b] s) (F0 m pc ls [.int 1]) := by
  intro T hT X
  obtain ⟨fs, hret, hrun, hended, hW, hframe⟩ := X.leave (v := some (.int 1)) (hlocks := hlocks) (fun h => by rw [hr] at h; cases h)
  have hmeth' : T.vm.method? m = some meth := X.method'
  refine ⟨T.setFrames fs, ?_, .returned (some (.int 1)), hrun, hended, rfl, ⟨_, rfl⟩, hW, hframe⟩
  jvm_step X.here [X.here.top, hx, hb, hdg, hmeth', hr, ret, narrow_b1]
  (try refine ⟨rfl, ?_⟩); (try refine ⟨rfl, ?_⟩)
  first | (intro acts; rw [hret _ acts rfl rfl rfl]) | rw [hret _ _ rfl rfl rfl]
  exact Steps.refl _
/-- what holds at the law's entry: the machine, the code, the tables' words (any of lw_tbl by 'hts w (by decide +kernel)'), the script of L ints xs at the cell b, what the Statement gives of the start (any of its parts by flat_of_before) -/
def lw_At (p : Program) (s : State) (m : MethodId) (meth : Method) (c : Code) (b L : Nat) (xs : Nat → Int32) : Prop :=
  p.tables.exec = Jvm.exec ∧ c.code = code ∧ meth.sig.returnType = ret ∧ c.maxLocals = 4 ∧ s.vm.findClass R_law = some m.cls ∧ (∀ w ∈ lw_tbl, w.before #[Value.ref b] s = true) ∧ va_X b L xs s s.heap ∧ b < s.heap.size ∧ meth.locks = false ∧ (Jvm.Cond.and given_1 narrow_1).before #[Value.ref b] s = true
theorem fb_rng (x : Int32) : -2147483648 ≤ x.toInt ∧ x.toInt < 2147483648 := by
  have h1 := Int32.le_toInt x
  have h2 := Int32.toInt_lt x
  omega
theorem fb_bmod {z : Int} (h1 : -2147483648 ≤ z) (h2 : z < 2147483648) : z.bmod (2 ^ 32) = z := by
  rw [Int.bmod_eq_of_le (by omega) (by omega)]
theorem fb_addI {x y : Int32} (h1 : -2147483648 ≤ x.toInt + y.toInt) (h2 : x.toInt + y.toInt < 2147483648) : (x + y).toInt = x.toInt + y.toInt := by
  rw [Int32.toInt_add, fb_bmod h1 h2]
theorem fb_subI {x y : Int32} (h1 : -2147483648 ≤ x.toInt - y.toInt) (h2 : x.toInt - y.toInt < 2147483648) : (x - y).toInt = x.toInt - y.toInt := by
  rw [Int32.toInt_sub, fb_bmod h1 h2]
theorem i_rng (x : Int32) : -2147483648 ≤ x.toInt ∧ x.toInt ≤ 2147483647 := by
  have h1 := Int32.le_toInt x
  have h2 := Int32.toInt_lt x
  exact ⟨by omega, by omega⟩
theorem arr_known {ty : FieldType} {A : Array Value} {s : State} (h : (Cond.arrayClass ty).before A s = true) : ∃ c : ClassId, ArrOfT s c ty ∧ s.vm.findClass ("[" ++ ty.toString) = some c := by
  obtain ⟨cA, kA, comp, hf, hk, hkind⟩ := Cond.arrayClass_spec h
  exact ⟨cA, fun n z => ⟨(fun q hq => by cases hq), kA, hk, comp, hkind⟩, hf⟩
theorem grid_known {A : Array Value} {s : State} (h : (Cond.arrayOver (.array .int)).before A s = true) : ∃ c : ClassId, ArrOfT s c (.array .int) ∧ va_RA s c (.array .int) := by
  unfold Cond.before at h
  simp only [Cond.holds, Cond.value, beq_iff_eq] at h
  cases hc : s.vm.findClass (FieldType.array .int).toString with
  | none => simp [hc] at h
  | some comp =>
    simp only [hc, Option.bind_some, Option.bind_eq_some_iff, Option.map_eq_some_iff] at h
    obtain ⟨c, hi, k, hk, hb⟩ := h
    cases hkind : k.kind with
    | array cm ty =>
      rw [hkind] at hb
      simp at hb
      exact ⟨c, fun n z => ⟨(fun q hq => by cases hq), k, hk, cm, by rw [hkind, hb.1]⟩, hb.2⟩
    | _ => rw [hkind] at hb; simp at hb
theorem nw_of {A : Array Value} {U : State} {w : Cond} (hw : isNs w = true) (h : w.before A U = true) : va_Nw w U := by
  cases w <;> first | exact va_Nw.of rfl h | cases hw
theorem lt4 {L : Nat} (h : L < 4) : Int32.ofNat L - 4 < 0 := by
  rcases (show L = 0 ∨ L = 1 ∨ L = 2 ∨ L = 3 by omega) with rfl | rfl | rfl | rfl <;> decide +kernel
theorem ti_add {x c : Int32} {C : Int} (hc : c.toInt = C) (h1 : -2147483648 ≤ x.toInt + C) (h2 : x.toInt + C ≤ 2147483647) : (x + c).toInt = x.toInt + C := by
  rw [fb_addI (by omega) (by omega), hc]
theorem ti_sub {x c : Int32} {C : Int} (hc : c.toInt = C) (h1 : -2147483648 ≤ C - x.toInt) (h2 : C - x.toInt ≤ 2147483647) : (c - x).toInt = C - x.toInt := by
  rw [fb_subI (by omega) (by omega), hc]
theorem i_nle {a : Int32} (h : 0 < a) : ¬ a ≤ 0 := by
  rw [Int32.lt_iff_toInt_lt] at h
  rw [Int32.le_iff_toInt_le]
  omega
theorem i_le {a : Int32} (h : ¬ 0 < a) : a ≤ 0 := by
  rw [Int32.lt_iff_toInt_lt] at h
  rw [Int32.le_iff_toInt_le]
  omega
theorem lg_gt {x y : Int64} (h : y.toInt < x.toInt) : 0 < lg_cmp x y := by
  unfold lg_cmp
  rw [if_pos (show x > y from Int64.lt_iff_toInt_lt.mpr h)]
  decide
theorem lg_ngt {x y : Int64} (h : ¬ y.toInt < x.toInt) : ¬ 0 < lg_cmp x y := by
  unfold lg_cmp
  rw [if_neg (show ¬ x > y from fun q => h (Int64.lt_iff_toInt_lt.mp q))]
  split <;> decide
theorem sum_ti {x : Int32} {k : Int64} {K : Int} (hk : k.toInt = K) (h1 : -4294967296 ≤ x.toInt + K) (h2 : x.toInt + K ≤ 4294967296) : (x.toInt64 + k).toInt = x.toInt + K := by
  rw [Int64.toInt_add, Int32.toInt_toInt64, hk]
  apply Int.bmod_eq_of_le <;> omega
theorem lc_sum {x : Int32} {k y : Int64} {K Y : Int} (hk : k.toInt = K) (hy : y.toInt = Y) (h1 : -4294967296 ≤ x.toInt + K) (h2 : x.toInt + K ≤ 4294967296) (h : Y < x.toInt + K) : 0 < lg_cmp (x.toInt64 + k) y := lg_gt (by rw [sum_ti hk h1 h2, hy]; exact h)
theorem lc_nsum {x : Int32} {k y : Int64} {K Y : Int} (hk : k.toInt = K) (hy : y.toInt = Y) (h1 : -4294967296 ≤ x.toInt + K) (h2 : x.toInt + K ≤ 4294967296) (h : ¬ Y < x.toInt + K) : ¬ 0 < lg_cmp (x.toInt64 + k) y := lg_ngt (by rw [sum_ti hk h1 h2, hy]; exact h)
theorem lc_sum2 {x z : Int32} (h1 : 0 ≤ x.toInt) (h2 : 0 ≤ z.toInt) (h : 12 < x.toInt + z.toInt) : 0 < lg_cmp (x.toInt64 + z.toInt64) 12 := by
  have hx := i_rng x
  have hz := i_rng z
  refine lg_gt ?_
  rw [sum_ti (K := z.toInt) (Int32.toInt_toInt64 z) (by omega) (by omega)]
  exact h
theorem cp_in {x n : Int32} {N len : Nat} (hn : n.toNatClampNeg = N) (h0 : 0 ≤ x.toInt) (h1 : x.toInt + (N : Int) ≤ (len : Int)) : x.toNatClampNeg + n.toNatClampNeg ≤ len := by
  rw [hn]
  show x.toInt.toNat + N ≤ len
  omega
theorem vin {i : Int32} {n : Nat} (h : (!(decide (i < 0)) && Nat.blt i.toNatClampNeg n) = true) : vp_in i n := by
  simp only [Bool.and_eq_true, Bool.not_eq_true', decide_eq_false_iff_not] at h
  have h2 : i.toNatClampNeg < n := Nat.blt_eq.mp h.2
  exact fun q => q.elim h.1 (fun z => Nat.not_le.mpr h2 z)
