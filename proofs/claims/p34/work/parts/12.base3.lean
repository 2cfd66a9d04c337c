def Iv (a b : Int) (x : Int32) : Prop := a ≤ x.toInt ∧ x.toInt ≤ b
def Bd (n : Nat) (a b : Int) (f : Nat → Int32) : Prop := ∀ j, j < n → Iv a b (f j)
def Bg (N n : Nat) (a b : Int) (G : Nat → Nat → Int32) : Prop := ∀ i, i < N → Bd n a b (G i)
theorem iv_full (x : Int32) : Iv (-2147483648) 2147483647 x := i_rng x
theorem iv_k {x : Int32} {a : Int} (h : x.toInt = a) : Iv a a x := ⟨Int.le_of_eq h.symm, Int.le_of_eq h⟩
theorem iv_e {x y : Int32} {a b : Int} (e : x = y) (h : Iv a b y) : Iv a b x := by rw [e]; exact h
theorem k2 {a b : Bool} (h : (a && b) = true) : a = true ∧ b = true := by cases a <;> cases b <;> first | exact ⟨rfl, rfl⟩ | cases h
theorem iv_w {a b c d : Int} {x : Int32} (h : Iv a b x) (k : (decide (c ≤ a) && decide (b ≤ d)) = true) : Iv c d x := by
  obtain ⟨k1, k2⟩ := k2 k
  have k1 := of_decide_eq_true k1
  have k2 := of_decide_eq_true k2
  exact ⟨Int.le_trans k1 h.1, Int.le_trans h.2 k2⟩
theorem iv_add {a b c d e f : Int} {x y : Int32} (hx : Iv a b x) (hy : Iv c d y) (k : ((decide (-2147483648 ≤ e) && decide (e ≤ a + c)) && (decide (b + d ≤ f) && decide (f ≤ 2147483647))) = true) : Iv e f (x + y) := by
  obtain ⟨k1, k3⟩ := k2 k
  obtain ⟨k1, k2'⟩ := k2 k1
  obtain ⟨k3, k4⟩ := k2 k3
  have k1 := of_decide_eq_true k1
  have k2' := of_decide_eq_true k2'
  have k3 := of_decide_eq_true k3
  have k4 := of_decide_eq_true k4
  unfold Iv at *
  rw [fb_addI (by omega) (by omega)]
  omega
theorem ti_addc {a b c d : Int} {x y : Int32} (hx : Iv a b x) (hy : Iv c d y) (k : (decide (-2147483648 ≤ a + c) && decide (b + d ≤ 2147483647)) = true) : (x + y).toInt = x.toInt + y.toInt := by
  obtain ⟨k1, k3⟩ := k2 k
  have k1 := of_decide_eq_true k1
  have k3 := of_decide_eq_true k3
  unfold Iv at *
  exact fb_addI (by omega) (by omega)
theorem iv_sub {a b c d e f : Int} {x y : Int32} (hx : Iv a b x) (hy : Iv c d y) (k : ((decide (-2147483648 ≤ e) && decide (e ≤ a - d)) && (decide (b - c ≤ f) && decide (f ≤ 2147483647))) = true) : Iv e f (x - y) := by
  obtain ⟨k1, k3⟩ := k2 k
  obtain ⟨k1, k2'⟩ := k2 k1
  obtain ⟨k3, k4⟩ := k2 k3
  have k1 := of_decide_eq_true k1
  have k2' := of_decide_eq_true k2'
  have k3 := of_decide_eq_true k3
  have k4 := of_decide_eq_true k4
  unfold Iv at *
  rw [fb_subI (by omega) (by omega)]
  omega
theorem ti_subc {a b c d : Int} {x y : Int32} (hx : Iv a b x) (hy : Iv c d y) (k : (decide (-2147483648 ≤ a - d) && decide (b - c ≤ 2147483647)) = true) : (x - y).toInt = x.toInt - y.toInt := by
  obtain ⟨k1, k3⟩ := k2 k
  have k1 := of_decide_eq_true k1
  have k3 := of_decide_eq_true k3
  unfold Iv at *
  exact fb_subI (by omega) (by omega)
theorem ti_mulc {a b c d : Int} {x y : Int32} (hx : Iv a b x) (hy : Iv c d y) (k : ((decide (0 ≤ a) && decide (0 ≤ c)) && decide (b * d ≤ 2147483647)) = true) : (x * y).toInt = x.toInt * y.toInt := by
  obtain ⟨k1, k3⟩ := k2 k
  obtain ⟨k1, k2'⟩ := k2 k1
  have k1 := of_decide_eq_true k1
  have k2' := of_decide_eq_true k2'
  have k3 := of_decide_eq_true k3
  unfold Iv at *
  have h1 : 0 ≤ x.toInt * y.toInt := Int.mul_nonneg (by omega) (by omega)
  have h2 : x.toInt * y.toInt ≤ b * d := Int.mul_le_mul (by omega) (by omega) (by omega) (by omega)
  rw [Int32.toInt_mul, fb_bmod (by omega) (by omega)]
theorem iv_mul {a b c d f : Int} {x y : Int32} (hx : Iv a b x) (hy : Iv c d y) (k : ((decide (0 ≤ a) && decide (0 ≤ c)) && (decide (b * d ≤ f) && decide (f ≤ 2147483647))) = true) : Iv 0 f (x * y) := by
  obtain ⟨k1, k3⟩ := k2 k
  obtain ⟨k1, k2'⟩ := k2 k1
  obtain ⟨k3, k4⟩ := k2 k3
  have k1 := of_decide_eq_true k1
  have k2' := of_decide_eq_true k2'
  have k3 := of_decide_eq_true k3
  have k4 := of_decide_eq_true k4
  unfold Iv at *
  have h1 : 0 ≤ x.toInt * y.toInt := Int.mul_nonneg (by omega) (by omega)
  have h2 : x.toInt * y.toInt ≤ b * d := Int.mul_le_mul (by omega) (by omega) (by omega) (by omega)
  rw [Int32.toInt_mul, fb_bmod (by omega) (by omega)]
  omega
theorem iv_nI {a b : Int} {x : Int32} (h : Iv a b x) (h0 : 0 ≤ a) : ∃ j : Nat, j < 2 ^ 31 ∧ (j : Int) ≤ b ∧ a ≤ (j : Int) ∧ x = nI j ∧ x.toInt = (j : Int) := by
  obtain ⟨j, hj, e⟩ := nI_of (x := x) (by rw [Int32.lt_iff_toInt_lt]; exact Int.not_lt.mpr (Int.le_trans h0 h.1))
  have e2 : x.toInt = (j : Int) := by rw [e]; exact nI_toInt hj
  exact ⟨j, hj, by rw [← e2]; exact h.2, by rw [← e2]; exact h.1, e, e2⟩
theorem nI_of32 (x : Int32) : ∃ n, n < 2 ^ 32 ∧ x = nI n := ⟨x.toBitVec.toNat, x.toBitVec.isLt, Int32.toBitVec_inj.mp (by show _ = BitVec.ofNat 32 _; simp)⟩
theorem nI_andN (a b : Nat) : nI a &&& nI b = nI (a &&& b) := by
  apply Int32.toBitVec_inj.mp
  rw [Int32.toBitVec_and]
  show BitVec.ofNat 32 a &&& BitVec.ofNat 32 b = BitVec.ofNat 32 (a &&& b)
  apply BitVec.eq_of_getLsbD_eq
  intro i hi
  simp [BitVec.getLsbD_and, BitVec.getLsbD_ofNat, hi]
theorem nI_orN (a b : Nat) : nI a ||| nI b = nI (a ||| b) := by
  apply Int32.toBitVec_inj.mp
  rw [Int32.toBitVec_or]
  show BitVec.ofNat 32 a ||| BitVec.ofNat 32 b = BitVec.ofNat 32 (a ||| b)
  apply BitVec.eq_of_getLsbD_eq
  intro i hi
  simp [BitVec.getLsbD_or, BitVec.getLsbD_ofNat, hi]
theorem iv_andL {a b : Int} {x : Int32} (y : Int32) (hx : Iv a b x) (k : decide (0 ≤ a) = true) : Iv 0 b (x &&& y) := by
  obtain ⟨i, hi, h1, h2, e, -⟩ := iv_nI hx (of_decide_eq_true k)
  obtain ⟨j, hj, e2⟩ := nI_of32 y
  subst e
  subst e2
  have h3 : i &&& j ≤ i := Nat.and_le_left
  rw [nI_andN]
  unfold Iv
  rw [nI_toInt (by omega)]
  omega
theorem i_andc (x y : Int32) : x &&& y = y &&& x := by
  apply Int32.toBitVec_inj.mp
  rw [Int32.toBitVec_and, Int32.toBitVec_and, BitVec.and_comm]
theorem iv_andR {a b : Int} (x : Int32) {y : Int32} (hy : Iv a b y) (k : decide (0 ≤ a) = true) : Iv 0 b (x &&& y) := by
  rw [i_andc]
  exact iv_andL x hy k
theorem iv_or {a b c d : Int} {x y : Int32} (n : Nat) (hx : Iv a b x) (hy : Iv c d y) (k : ((decide (0 ≤ a) && decide (0 ≤ c)) && ((decide (b < 2 ^ n) && decide (d < 2 ^ n)) && decide (n ≤ 30))) = true) : Iv 0 (2 ^ n - 1) (x ||| y) := by
  obtain ⟨k1, k3⟩ := k2 k
  obtain ⟨k1, k2'⟩ := k2 k1
  obtain ⟨k3, k5⟩ := k2 k3
  obtain ⟨k3, k4⟩ := k2 k3
  have k3 := of_decide_eq_true k3
  have k4 := of_decide_eq_true k4
  have k5 := of_decide_eq_true k5
  obtain ⟨i, hi, h1, h2, e, -⟩ := iv_nI hx (of_decide_eq_true k1)
  obtain ⟨j, hj, h3, h4, e2, -⟩ := iv_nI hy (of_decide_eq_true k2')
  subst e
  subst e2
  have hi2 : i < 2 ^ n := by
    have : (i : Int) < ((2 ^ n : Nat) : Int) := by rw [Int.natCast_pow]; exact Int.lt_of_le_of_lt h1 k3
    omega
  have hj2 : j < 2 ^ n := by
    have : (j : Int) < ((2 ^ n : Nat) : Int) := by rw [Int.natCast_pow]; exact Int.lt_of_le_of_lt h3 k4
    omega
  have h5 : i ||| j < 2 ^ n := Nat.or_lt_two_pow hi2 hj2
  have h6 : 2 ^ n ≤ 2 ^ 30 := Nat.pow_le_pow_right (by decide) k5
  rw [nI_orN]
  unfold Iv
  rw [nI_toInt (by omega)]
  have h7 : ((2 ^ n : Nat) : Int) = (2 : Int) ^ n := by rw [Int.natCast_pow]; rfl
  omega
theorem sh1 : ∀ n, n < 31 → ((1 : Int32) <<< (nI n &&& 31)).toInt = 2 ^ n := by decide +kernel
theorem iv_shl1 {a b e f : Int} {v : Int32} (hv : Iv a b v) (k : ((decide (0 ≤ a) && decide (b ≤ 30)) && (decide (e ≤ 2 ^ a.toNat) && decide (2 ^ b.toNat ≤ f))) = true) : Iv e f ((1 : Int32) <<< (v &&& 31)) := by
  obtain ⟨k1, k3⟩ := k2 k
  obtain ⟨k1, k2'⟩ := k2 k1
  obtain ⟨k3, k4⟩ := k2 k3
  have k2' := of_decide_eq_true k2'
  have k3 := of_decide_eq_true k3
  have k4 := of_decide_eq_true k4
  have k1 := of_decide_eq_true k1
  obtain ⟨i, hi, h1, h2, e0, -⟩ := iv_nI hv k1
  subst e0
  unfold Iv
  rw [sh1 i (by omega)]
  have m1 : (2 : Int) ^ a.toNat ≤ 2 ^ i := by
    have : 2 ^ a.toNat ≤ 2 ^ i := Nat.pow_le_pow_right (by decide) (by omega)
    have h := Int.ofNat_le.mpr this
    rw [Int.natCast_pow, Int.natCast_pow] at h
    exact h
  have m2 : (2 : Int) ^ i ≤ 2 ^ b.toNat := by
    have : 2 ^ i ≤ 2 ^ b.toNat := Nat.pow_le_pow_right (by decide) (by omega)
    have h := Int.ofNat_le.mpr this
    rw [Int.natCast_pow, Int.natCast_pow] at h
    exact h
  omega
theorem b01 (x : Int32) : Iv 0 1 (x &&& 1) := by
  have h : Iv 1 1 (1 : Int32) := iv_k (by decide +kernel)
  exact iv_andR x h (by decide)
theorem iv_ushr {a b e f : Int} {x y : Int32} (n : Nat) (hx : Iv a b x) (hy : ((y.toUInt32 &&& Int32.toUInt32 31).toBitVec % 32).toNat = n) (k : (decide (0 ≤ a) && (decide (e ≤ a / 2 ^ n) && decide (b / 2 ^ n ≤ f))) = true) : Iv e f (x.toUInt32 >>> (y.toUInt32 &&& Int32.toUInt32 31)).toInt32 := by
  obtain ⟨k1, k3⟩ := k2 k
  obtain ⟨k3, k4⟩ := k2 k3
  have k1 := of_decide_eq_true k1
  have k3 := of_decide_eq_true k3
  have k4 := of_decide_eq_true k4
  obtain ⟨i, hi, h1, h2, e0, -⟩ := iv_nI hx k1
  subst e0
  rw [pk_ushrN (by omega) y n hy]
  unfold Iv
  have h9 : i / 2 ^ n ≤ i := Nat.div_le_self _ _
  rw [nI_toInt (by omega)]
  have hp : (0 : Int) < 2 ^ n := by
    have : 0 < 2 ^ n := Nat.two_pow_pos n
    have h := Int.ofNat_lt.mpr this
    rw [Int.natCast_pow] at h
    exact h
  have e1 : ((i / 2 ^ n : Nat) : Int) = (i : Int) / 2 ^ n := by rw [Int.natCast_ediv, Int.natCast_pow]; rfl
  rw [e1]
  exact ⟨Int.le_trans k3 (Int.ediv_le_ediv hp h2), Int.le_trans (Int.ediv_le_ediv hp h1) k4⟩
theorem lt_i {x y : Int32} (h : x < y) : x.toInt < y.toInt := Int32.lt_iff_toInt_lt.mp h
theorem nlt_i {x y : Int32} (h : ¬ x < y) : y.toInt ≤ x.toInt := Int.not_lt.mp (fun q => h (Int32.lt_iff_toInt_lt.mpr q))
theorem le_i {x y : Int32} (h : x ≤ y) : x.toInt ≤ y.toInt := Int32.le_iff_toInt_le.mp h
theorem nle_i {x y : Int32} (h : ¬ x ≤ y) : y.toInt < x.toInt := Int.not_le.mp (fun q => h (Int32.le_iff_toInt_le.mpr q))
theorem ne_i {x y : Int32} (h : ¬ x = y) : x.toInt ≠ y.toInt := fun q => h (Int32.toInt_inj.mp q)
theorem r_ltl {x y : Int32} {a b c d f : Int} (h : x.toInt < y.toInt) (hx : Iv a b x) (hy : Iv c d y) (k : decide (d - 1 ≤ f) = true) : Iv a f x := by
  have k := of_decide_eq_true k
  unfold Iv at *
  omega
theorem r_ltr {x y : Int32} {a b c d e : Int} (h : x.toInt < y.toInt) (hx : Iv a b x) (hy : Iv c d y) (k : decide (e ≤ a + 1) = true) : Iv e d y := by
  have k := of_decide_eq_true k
  unfold Iv at *
  omega
theorem r_lel {x y : Int32} {a b c d f : Int} (h : x.toInt ≤ y.toInt) (hx : Iv a b x) (hy : Iv c d y) (k : decide (d ≤ f) = true) : Iv a f x := by
  have k := of_decide_eq_true k
  unfold Iv at *
  omega
theorem r_ler {x y : Int32} {a b c d e : Int} (h : x.toInt ≤ y.toInt) (hx : Iv a b x) (hy : Iv c d y) (k : decide (e ≤ a) = true) : Iv e d y := by
  have k := of_decide_eq_true k
  unfold Iv at *
  omega
theorem r_eq {x y : Int32} {c d : Int} (h : x = y) (hy : Iv c d y) : Iv c d x := by rw [h]; exact hy
theorem r_nelo {x y : Int32} {a b e : Int} (h : ¬ x = y) (hx : Iv a b x) (hy : Iv a a y) (k : decide (e = a + 1) = true) : Iv e b x := by
  have k := of_decide_eq_true k
  have q := ne_i h
  unfold Iv at *
  omega
theorem r_nehi {x y : Int32} {a b f : Int} (h : ¬ x = y) (hx : Iv a b x) (hy : Iv b b y) (k : decide (f = b - 1) = true) : Iv a f x := by
  have k := of_decide_eq_true k
  have q := ne_i h
  unfold Iv at *
  omega
theorem d_lt {x y : Int32} {a b c d : Int} (hx : Iv a b x) (hy : Iv c d y) (k : decide (b < c) = true) : x < y := by
  have k := of_decide_eq_true k
  rw [Int32.lt_iff_toInt_lt]
  unfold Iv at *
  omega
theorem d_nlt {x y : Int32} {a b c d : Int} (hx : Iv a b x) (hy : Iv c d y) (k : decide (d ≤ a) = true) : ¬ x < y := by
  have k := of_decide_eq_true k
  rw [Int32.lt_iff_toInt_lt]
  unfold Iv at *
  omega
theorem d_le {x y : Int32} {a b c d : Int} (hx : Iv a b x) (hy : Iv c d y) (k : decide (b ≤ c) = true) : x ≤ y := by
  have k := of_decide_eq_true k
  rw [Int32.le_iff_toInt_le]
  unfold Iv at *
  omega
theorem d_nle {x y : Int32} {a b c d : Int} (hx : Iv a b x) (hy : Iv c d y) (k : decide (d < a) = true) : ¬ x ≤ y := by
  have k := of_decide_eq_true k
  rw [Int32.le_iff_toInt_le]
  unfold Iv at *
  omega
theorem d_ne {x y : Int32} {a b c d : Int} (hx : Iv a b x) (hy : Iv c d y) (k : (decide (b < c) || decide (d < a)) = true) : ¬ x = y := by
  intro e
  subst e
  have k := (Bool.or_eq_true _ _).mp k
  unfold Iv at *
  rcases k with k | k
  · have k := of_decide_eq_true k
    omega
  · have k := of_decide_eq_true k
    omega
theorem d_eq {x y : Int32} {a : Int} (hx : Iv a a x) (hy : Iv a a y) : x = y := Int32.toInt_inj.mp (by unfold Iv at *; omega)
theorem vin_iv {x : Int32} {a b : Int} {n : Nat} (h : Iv a b x) (k : (decide (0 ≤ a) && decide (b < (n : Int))) = true) : vp_in x n := by
  obtain ⟨k1, k3⟩ := k2 k
  have k1 := of_decide_eq_true k1
  have k3 := of_decide_eq_true k3
  unfold Iv at h
  exact vp_in_iff.mpr ⟨by omega, by omega⟩
theorem cl_lt {x : Int32} {a b : Int} {n : Nat} (h : Iv a b x) (k : (decide (0 ≤ a) && decide (b < (n : Int))) = true) : x.toNatClampNeg < n := by
  have h1 := vin_iv h k
  exact Nat.not_le.mp fun q => h1 (Or.inr q)
theorem bd_at {n : Nat} {a b : Int} {f : Nat → Int32} {i : Int32} (h : Bd n a b f) (hi : vp_in i n) : Iv a b (f i.toNatClampNeg) := h _ (Nat.not_le.mp fun q => hi (Or.inr q))
theorem bd_w {n : Nat} {a b c d : Int} {f : Nat → Int32} (h : Bd n a b f) (k : (decide (c ≤ a) && decide (b ≤ d)) = true) : Bd n c d f := fun j hj => iv_w (h j hj) k
theorem bd_upd {n j : Nat} {a b c d : Int} {f g : Nat → Int32} {x : Int32} (e : g = upd f j x) (h : Bd n a b f) (hx : Iv c d x) (k : (decide (a ≤ c) && decide (d ≤ b)) = true) : Bd n a b g := by
  intro i hi
  rw [e]
  unfold upd
  split
  · exact iv_w hx k
  · exact h i hi
theorem bd_c {n : Nat} {a b c d : Int} {x : Int32} (hx : Iv c d x) (k : (decide (a ≤ c) && decide (d ≤ b)) = true) : Bd n a b (fun _ => x) := fun _ _ => iv_w hx k
theorem bd_cpy {n0 n1 sp dp n : Nat} {a b : Int} {f g h : Nat → Int32} (e : h = va_cpy f g sp dp n) (hf : Bd n0 a b f) (hg : Bd n1 a b g) (hs : sp + n ≤ n0) : Bd n1 a b h := by
  intro j hj
  rw [e]
  by_cases q : dp ≤ j ∧ j < dp + n
  · rw [pk_cpy_in q.1 q.2]
    exact hf _ (by omega)
  · rw [pk_cpy_out (by omega)]
    exact hg j hj
def gr (r : Nat → Nat) (cI : ClassId) (N n : Nat) (G : Nat → Nat → Int32) : va_W := (List.range N).map (fun i => (r i, .inl (cI, n, .inl (G i))))
def gup (G : Nat → Nat → Int32) (i : Nat) (g : Nat → Int32) : Nat → Nat → Int32 := fun a => if a = i then g else G a
theorem gr_len {r : Nat → Nat} {cI : ClassId} {N n : Nat} {G : Nat → Nat → Int32} : (gr r cI N n G).length = N := by simp [gr]
theorem gr_get {pre post : va_W} {r : Nat → Nat} {cI : ClassId} {N n K i : Nat} {G : Nat → Nat → Int32} (hK : pre.length = K) (hi : i < N) : (pre ++ (gr r cI N n G ++ post))[K + i]? = some (r i, .inl (cI, n, .inl (G i))) := by
  rw [List.getElem?_append_right (by omega), List.getElem?_append_left (by rw [gr_len]; omega)]
  unfold gr
  rw [List.getElem?_map, List.getElem?_range (by omega)]
  simp [show K + i - pre.length = i by omega]
theorem gr_set {pre post : va_W} {r : Nat → Nat} {cI : ClassId} {N n K i : Nat} {G G2 : Nat → Nat → Int32} {g : Nat → Int32} (hK : pre.length = K) (hi : i < N) (e : G2 = gup G i g) : (pre ++ (gr r cI N n G ++ post)).set (K + i) (r i, .inl (cI, n, .inl g)) = pre ++ (gr r cI N n G2 ++ post) := by
  subst e
  rw [List.set_append_right _ _ (by omega), List.set_append_left _ _ (by rw [gr_len]; omega)]
  congr 2
  unfold gr
  apply List.ext_getElem?
  intro k
  rw [show K + i - pre.length = i by omega]
  by_cases hk : k = i
  · subst hk
    rw [List.getElem?_set_self (by simp; omega), List.getElem?_map, List.getElem?_range hi]
    simp [gup]
  · rw [List.getElem?_set_ne (fun h => hk h.symm), List.getElem?_map, List.getElem?_map]
    by_cases hN : k < N
    · rw [List.getElem?_range hN]
      simp [gup, hk]
    · simp [hN]
theorem gr_ref {N i : Nat} {r : Nat → Nat} (hi : i < N) : va_rf (if i < N then some (r i) else none) = .ref (r i) := by rw [if_pos hi]; rfl
theorem bg_at {N n i : Nat} {a b : Int} {G : Nat → Nat → Int32} {j : Int32} (h : Bg N n a b G) (hi : i < N) (hj : vp_in j n) : Iv a b (G i j.toNatClampNeg) := bd_at (h i hi) hj
theorem bg_up {N n i : Nat} {a b : Int} {G G2 : Nat → Nat → Int32} {g : Nat → Int32} (e : G2 = gup G i g) (h : Bg N n a b G) (hg : Bd n a b g) : Bg N n a b G2 := by
  subst e
  intro k hk
  unfold gup
  split
  · exact hg
  · exact h k hk
theorem ii1 : Int32.ofInt 1 = 1 := by decide +kernel
theorem iim1 : Int32.ofInt (-1) = -1 := by decide +kernel
theorem inc1 {x z : Int32} (h : z = x + 1) : x + Int32.ofInt 1 = z := by rw [h, ii1]
theorem dec1 {x z : Int32} (h : z = x + (-1)) : x + Int32.ofInt (-1) = z := by rw [h, iim1]
theorem ms_up {x z : Int32} {a b hi : Int} {N : Nat} (e : z = x + 1) (hx : Iv a b x) (k : (decide (b + 1 ≤ hi) && decide (hi ≤ 2147483647)) = true) (hM : (hi - x.toInt).toNat < N + 1) : (hi - z.toInt).toNat < N := by
  obtain ⟨k1, k3⟩ := k2 k
  have k1 := of_decide_eq_true k1
  have k3 := of_decide_eq_true k3
  have h1 := i_rng x
  have e1 : (1 : Int32).toInt = 1 := by decide +kernel
  unfold Iv at hx
  have e2 : z.toInt = x.toInt + 1 := by rw [e, fb_addI (by rw [e1]; omega) (by rw [e1]; omega), e1]
  omega
theorem ms_dn {x z : Int32} {a b lo : Int} {N : Nat} (e : z = x + (-1)) (hx : Iv a b x) (k : (decide (lo ≤ a - 1) && decide (-2147483648 ≤ lo)) = true) (hM : (x.toInt - lo).toNat < N + 1) : (z.toInt - lo).toNat < N := by
  obtain ⟨k1, k3⟩ := k2 k
  have k1 := of_decide_eq_true k1
  have k3 := of_decide_eq_true k3
  have h1 := i_rng x
  have e1 : (-1 : Int32).toInt = -1 := by decide +kernel
  unfold Iv at hx
  have e2 : z.toInt = x.toInt + -1 := by rw [e, fb_addI (by rw [e1]; omega) (by rw [e1]; omega), e1]
  omega
theorem iv01 {v : Int32} (h : Iv 0 1 v) : v = 0 ∨ v = 1 := by
  unfold Iv at h
  have e0 : (0 : Int32).toInt = 0 := by decide +kernel
  have e1 : (1 : Int32).toInt = 1 := by decide +kernel
  rcases (show v.toInt = 0 ∨ v.toInt = 1 by omega) with q | q
  · exact Or.inl (Int32.toInt_inj.mp (by rw [q, e0]))
  · exact Or.inr (Int32.toInt_inj.mp (by rw [q, e1]))
theorem nar_z {v : Int32} (h : Iv 0 1 v) : narrow .boolean (.int v) = .int v := by
  rcases iv01 h with rfl | rfl <;> rfl
theorem iv_max {a b c d e f : Int} {x y : Int32} (hx : Iv a b x) (hy : Iv c d y) (k : ((decide (e ≤ a) && decide (e ≤ c)) && (decide (b ≤ f) && decide (d ≤ f))) = true) : Iv e f (if x < y then y else x) := by
  obtain ⟨k1, k3⟩ := k2 k
  obtain ⟨k1, k2'⟩ := k2 k1
  obtain ⟨k3, k4⟩ := k2 k3
  split
  · exact iv_w hy (by rw [k2', k4]; rfl)
  · exact iv_w hx (by rw [k1, k3]; rfl)
section KD
variable {p : Program} {l : Launch} {e : Env} {R : Room} {s : State} {m : MethodId} {args : Array Value} {below : List Frame} {meth : Method} {c : Code} {H H0 : Heap} {locs : List Loc} {cells slots mc ms : Nat} {Q : State → Prop} {pc : Nat} {ls : Array Slot} {rest st0 : List Value} {a : Array Value} {D : va_G} {A : Nat → Prop} {tys : List (ClassId × FieldType)} {ws wc wr : va_W} {g : JFrame}
theorem gen_Q (h : ∀ Q' : State → Prop, Q' = Q → W p l e R s m args below meth c H locs cells slots Q' g) : W p l e R s m args below meth c H locs cells slots Q g := h Q rfl
theorem kc_i {S : Type} {post : Int32 → S → Prop} {w1 wn : S → va_W}
    (hr : va_P D vwCl wc H → va_D A wc → va_Run p l e R s m args below meth c H locs cells slots 0 0 (F0 m pc ls st0) rest (va_Qi post (fun u t => wPost D tys (va_A wc H.size) (w1 u) t) (va_A wc H.size) a) (va_A wc H.size))
    (hP : va_P D vwCl ws H) (hD : va_D A ws) (hS : va_S A H0 H locs) (hA : ∀ q, H0.size ≤ q → A q) (isC isR isN : List Nat) (hC : isC.map (fun i => ws[i]?) = wc.map some) (hR : isR.map (fun i => ws[i]?) = wr.map some) (hnC : va_nd isC = true) (hn : va_nd isR = true) (hnN : va_nd isN = true) (hdis : ∀ i ∈ isR, i ∉ isC) (hN : ∀ u, isN.map (fun i => (wr ++ w1 u)[i]?) = (wn u).map some)
    (kk : ∀ (r : Int32) (u : S) (H1 : Heap) (locs1 : List Loc), post r u → va_P D vwCl (wn u) H1 → va_D A (wn u) → va_S A H0 H1 locs1 → W p l e R s m args below meth c H1 locs1 cells slots Q (F0 m (pc + 3) ls (.int r :: rest))) : W p l e R s m args below meth c H locs cells slots Q (F0 m pc ls st0) := by
  have hFc := va_free (wc := wc) hD hS hA isC hC
  refine va_calli (hr (P_map hP isC hC) (hD.sub isC hnC hC)) hS (fun q _ h => hFc q h) hFc (fun r u t H1 locs1 ht hvm hw hB hz1 hk1 hS1 => ?_)
  obtain ⟨hP1, hK1, hD1⟩ := hB
  rw [ht] at hP1
  obtain ⟨hP2, hD2⟩ := va_join hP hD isC isR hC hR hn hdis hk1 hFc hP1 hD1
  exact kk r u H1 locs1 hw (P_map hP2 isN (hN u)) (hD2.sub isN hnN (hN u)) hS1
theorem kc_l {S : Type} {post : Int64 → S → Prop} {w1 wn : S → va_W}
    (hr : va_P D vwCl wc H → va_D A wc → va_Run p l e R s m args below meth c H locs cells slots 0 0 (F0 m pc ls st0) rest (va_Ql post (fun u t => wPost D tys (va_A wc H.size) (w1 u) t) (va_A wc H.size) a) (va_A wc H.size))
    (hP : va_P D vwCl ws H) (hD : va_D A ws) (hS : va_S A H0 H locs) (hA : ∀ q, H0.size ≤ q → A q) (isC isR isN : List Nat) (hC : isC.map (fun i => ws[i]?) = wc.map some) (hR : isR.map (fun i => ws[i]?) = wr.map some) (hnC : va_nd isC = true) (hn : va_nd isR = true) (hnN : va_nd isN = true) (hdis : ∀ i ∈ isR, i ∉ isC) (hN : ∀ u, isN.map (fun i => (wr ++ w1 u)[i]?) = (wn u).map some)
    (kk : ∀ (r : Int64) (u : S) (H1 : Heap) (locs1 : List Loc), post r u → va_P D vwCl (wn u) H1 → va_D A (wn u) → va_S A H0 H1 locs1 → W p l e R s m args below meth c H1 locs1 cells slots Q (F0 m (pc + 3) ls (.long r :: rest))) : W p l e R s m args below meth c H locs cells slots Q (F0 m pc ls st0) := by
  have hFc := va_free (wc := wc) hD hS hA isC hC
  refine va_calll (hr (P_map hP isC hC) (hD.sub isC hnC hC)) hS (fun q _ h => hFc q h) hFc (fun r u t H1 locs1 ht hvm hw hB hz1 hk1 hS1 => ?_)
  obtain ⟨hP1, hK1, hD1⟩ := hB
  rw [ht] at hP1
  obtain ⟨hP2, hD2⟩ := va_join hP hD isC isR hC hR hn hdis hk1 hFc hP1 hD1
  exact kk r u H1 locs1 hw (P_map hP2 isN (hN u)) (hD2.sub isN hnN (hN u)) hS1
theorem kc_v {S : Type} {post : S → Prop} {w1 wn : S → va_W}
    (hr : va_P D vwCl wc H → va_D A wc → va_Run p l e R s m args below meth c H locs cells slots mc ms (F0 m pc ls st0) rest (va_Qv post (fun u t => wPost D tys (va_A wc H.size) (w1 u) t) (va_A wc H.size) a) (va_A wc H.size))
    (hP : va_P D vwCl ws H) (hD : va_D A ws) (hS : va_S A H0 H locs) (hA : ∀ q, H0.size ≤ q → A q) (isC isR isN : List Nat) (hC : isC.map (fun i => ws[i]?) = wc.map some) (hR : isR.map (fun i => ws[i]?) = wr.map some) (hnC : va_nd isC = true) (hn : va_nd isR = true) (hnN : va_nd isN = true) (hdis : ∀ i ∈ isR, i ∉ isC) (hN : ∀ u, isN.map (fun i => (wr ++ w1 u)[i]?) = (wn u).map some)
    (kk : ∀ (u : S) (H1 : Heap) (locs1 : List Loc), post u → va_P D vwCl (wn u) H1 → va_D A (wn u) → va_S A H0 H1 locs1 → W p l e R s m args below meth c H1 locs1 (cells + mc) (slots + ms) Q (F0 m (pc + 3) ls rest)) : W p l e R s m args below meth c H locs cells slots Q (F0 m pc ls st0) := by
  have hFc := va_free (wc := wc) hD hS hA isC hC
  refine va_callv (hr (P_map hP isC hC) (hD.sub isC hnC hC)) hS (fun q _ h => hFc q h) hFc (fun u t H1 locs1 ht hvm hw hB hz1 hk1 hS1 => ?_)
  obtain ⟨hP1, hK1, hD1⟩ := hB
  rw [ht] at hP1
  obtain ⟨hP2, hD2⟩ := va_join hP hD isC isR hC hR hn hdis hk1 hFc hP1 hD1
  exact kk u H1 locs1 hw (P_map hP2 isN (hN u)) (hD2.sub isN hnN (hN u)) hS1
theorem k_iast {cc : ByteArray} {a : Nat} {cl : List vw_C} (hexec : p.tables.exec = Jvm.exec) (hb : c.code = cc) (hK : va_K D cl tys s) (hP : va_P D cl ws H) (hD : va_D A ws) (hS : va_S A H0 H locs) (q0 t0 : Nat) {cA : ClassId} {n : Nat} {f : Nat → Int32} (ha : ws[q0]? = some (a, .inl (cA, n, .inl f))) (ht : tys[t0]? = some (cA, .int)) {i : Int32} {x : Int32} (hin : vp_in i n) (hdg : decode cc pc = .ok (.iastore, 1))
    (kk : ∀ (f2 : Nat → Int32) (H1 : Heap) (locs1 : List Loc), f2 = upd f i.toNatClampNeg x → va_P D cl (ws.set q0 (a, .inl (cA, n, .inl f2))) H1 → va_D A (ws.set q0 (a, .inl (cA, n, .inl f2))) → va_S A H0 H1 locs1 → W p l e R s m args below meth c H1 locs1 cells slots Q (F0 m (pc + 1) ls rest)) : W p l e R s m args below meth c H locs cells slots Q (F0 m pc ls (.int x :: .int i :: .ref a :: rest)) := va_iast hexec hb hK hP hD hS q0 t0 ha ht hin hdg (fun H1 locs1 hP1 hD1 hS1 => kk _ H1 locs1 rfl hP1 hD1 hS1)
theorem k_gast {cc : ByteArray} {cl : List vw_C} {pre po : va_W} {r : Nat → Nat} {K N : Nat} {G : Nat → Nat → Int32} {i0 : Nat} (hexec : p.tables.exec = Jvm.exec) (hb : c.code = cc) (hK : va_K D cl tys s) {cA : ClassId} {n : Nat} (hP : va_P D cl (pre ++ (gr r cA N n G ++ po)) H) (hD : va_D A (pre ++ (gr r cA N n G ++ po))) (hS : va_S A H0 H locs) (hlen : pre.length = K) (hi0 : i0 < N) (t0 : Nat) (ht : tys[t0]? = some (cA, .int)) {i : Int32} {x : Int32} (hin : vp_in i n) (hdg : decode cc pc = .ok (.iastore, 1))
    (kk : ∀ (f2 : Nat → Int32) (G2 : Nat → Nat → Int32) (H1 : Heap) (locs1 : List Loc), f2 = upd (G i0) i.toNatClampNeg x → G2 = gup G i0 f2 → va_P D cl (pre ++ (gr r cA N n G2 ++ po)) H1 → va_D A (pre ++ (gr r cA N n G2 ++ po)) → va_S A H0 H1 locs1 → W p l e R s m args below meth c H1 locs1 cells slots Q (F0 m (pc + 1) ls rest)) : W p l e R s m args below meth c H locs cells slots Q (F0 m pc ls (.int x :: .int i :: .ref (r i0) :: rest)) := va_iast hexec hb hK hP hD hS (K + i0) t0 (gr_get hlen hi0) ht hin hdg (fun H1 locs1 hP1 hD1 hS1 => kk _ _ H1 locs1 rfl rfl (by rw [gr_set hlen hi0 rfl] at hP1; exact hP1) (by rw [gr_set hlen hi0 rfl] at hD1; exact hD1) hS1)
end KD
