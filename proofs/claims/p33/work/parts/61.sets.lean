theorem bt_nI {n i : Nat} (hi : i < 32) : bt (nI n) i = n.testBit i := by
  unfold bt
  show (BitVec.ofNat 32 n).getLsbD i = _
  rw [BitVec.getLsbD_ofNat]
  simp [hi]
theorem bt_1 : ∀ i, i < 32 → bt 1 i = decide (i = 0) := by decide +kernel
theorem v_nI {v : Int32} {a b : Int} (h : Iv a b v) (h0 : 0 ≤ a) : v = nI v.toNatClampNeg ∧ (v.toNatClampNeg : Int) = v.toInt := by
  obtain ⟨j, hj, -, -, e, e2⟩ := iv_nI h h0
  have e3 : v.toNatClampNeg = j := by rw [e]; exact nI_clamp hj
  exact ⟨by rw [e3]; exact e, by rw [e3, e2]⟩
theorem bt_hi {x : Int32} (h : Iv 0 4095 x) {i : Nat} (hi : 12 ≤ i) : bt x i = false := by
  obtain ⟨j, hj, h1, h2, e, -⟩ := iv_nI h (by decide)
  subst e
  rcases Nat.lt_or_ge i 32 with q | q
  · rw [bt_nI q]
    exact Nat.testBit_lt_two_pow (Nat.lt_of_lt_of_le (show j < 2 ^ 12 by omega) (Nat.pow_le_pow_right (by decide) hi))
  · exact b_big q
theorem bt_one {k : Int32} {b : Int} (hk : Iv 0 b k) (hb : b ≤ 12) {i : Nat} (hi : i < 32) : bt ((1 : Int32) <<< (k &&& 31)) i = decide (i = k.toNatClampNeg) := by
  obtain ⟨e, e2⟩ := v_nI hk (by decide)
  unfold Iv at hk
  have hn : k.toNatClampNeg < 32 := by omega
  generalize hq : k.toNatClampNeg = q at *
  rw [e, b_shl q hn 1 hi]
  by_cases h : q ≤ i
  · rw [bt_1 _ (by omega)]
    by_cases h2 : i = q
    · subst h2
      simp
    · rw [decide_eq_true h, decide_eq_false h2, decide_eq_false (by omega)]
      rfl
  · rw [decide_eq_false h, decide_eq_false (by omega)]
    rfl
theorem has_bt {set v x1 x2 : Int32} (hv : Iv 0 12 v) (e1 : x1 = set >>> (v &&& 31)) (e2 : x2 = x1 &&& 1) : x2 = if bt set v.toNatClampNeg = true then 1 else 0 := by
  obtain ⟨e, e3⟩ := v_nI hv (by decide)
  unfold Iv at hv
  have hn : v.toNatClampNeg < 32 := by omega
  generalize hq : v.toNatClampNeg = q at *
  apply b_ext
  intro i hi
  rw [e2, e1, b_and, bt_1 i hi, e, b_sshr q hn set hi]
  by_cases h0 : i = 0
  · subst h0
    rw [Nat.add_zero, if_pos hn]
    cases hb : bt set q
    · rw [if_neg (by decide), b_0]
      rfl
    · rw [if_pos rfl, bt_1 0 (by omega)]
      rfl
  · rw [decide_eq_false h0, Bool.and_false]
    split
    · rw [bt_1 i hi, decide_eq_false h0]
    · rw [b_0]
theorem has_1 {set v x1 x2 : Int32} (hv : Iv 0 12 v) (e1 : x1 = set >>> (v &&& 31)) (e2 : x2 = x1 &&& 1) (h : x2 = 1) : (1 : Int32) = if bt set v.toNatClampNeg = true then 1 else 0 := by
  rw [← has_bt hv e1 e2, h]
theorem has_0 {set v x1 x2 : Int32} (hv : Iv 0 12 v) (e1 : x1 = set >>> (v &&& 31)) (e2 : x2 = x1 &&& 1) (h : ¬ x2 = 1) : (0 : Int32) = if bt set v.toNatClampNeg = true then 1 else 0 := by
  have q := has_bt hv e1 e2
  by_cases hb : bt set v.toNatClampNeg = true
  · rw [if_pos hb] at q
    exact absurd q h
  · rw [if_neg hb]
theorem has_t {r set v : Int32} (h : r = if bt set v.toNatClampNeg = true then 1 else 0) (hr : ¬ r = 0) : bt set v.toNatClampNeg = true := by
  by_cases hb : bt set v.toNatClampNeg = true
  · exact hb
  · rw [if_neg hb] at h
    exact absurd h hr
theorem has_f {r set v : Int32} (h : r = if bt set v.toNatClampNeg = true then 1 else 0) (hr : r = 0) : bt set v.toNatClampNeg = false := by
  cases hb : bt set v.toNatClampNeg
  · rfl
  · rw [hb, if_pos rfl, hr] at h
    exact absurd h (by decide)
theorem clr_bt {x k y z w : Int32} {b : Int} (hk : Iv 0 b k) (hb : b ≤ 12) (ez : z = 1 <<< (k &&& 31)) (ew : w = z ^^^ (-1)) (ey : y = x &&& w) {i : Nat} (hi : i < 32) : bt y i = (bt x i && !decide (i = k.toNatClampNeg)) := by
  rw [ey, b_and, ew, b_xor, ez, bt_one hk hb hi, b_m1 i hi]
  cases decide (i = k.toNatClampNeg) <;> rfl
theorem set_bt {x k y z : Int32} {b : Int} (hk : Iv 0 b k) (hb : b ≤ 12) (ez : z = 1 <<< (k &&& 31)) (ey : y = x ||| z) {i : Nat} (hi : i < 32) : bt y i = (bt x i || decide (i = k.toNatClampNeg)) := by
  rw [ey, b_or, ez, bt_one hk hb hi]
theorem lt_tb {n m : Nat} (i : Nat) (h1 : n.testBit i = false) (h2 : m.testBit i = true) (h : ∀ j, i < j → n.testBit j = m.testBit j) : n < m := by
  have hq : n / 2 ^ (i + 1) = m / 2 ^ (i + 1) := Nat.eq_of_testBit_eq (fun j => by
    rw [Nat.testBit_div_two_pow, Nat.testBit_div_two_pow]
    exact h _ (by omega))
  have ha : n % 2 ^ (i + 1) < 2 ^ i := Nat.lt_pow_two_of_testBit _ (fun k hk => by
    rw [Nat.testBit_mod_two_pow]
    rcases Nat.lt_or_ge k (i + 1) with g | g
    · rw [show k = i by omega, h1, Bool.and_false]
    · rw [decide_eq_false (by omega), Bool.false_and])
  have hb : 2 ^ i ≤ m % 2 ^ (i + 1) := Nat.ge_two_pow_of_testBit (by
    rw [Nat.testBit_mod_two_pow, h2, decide_eq_true (by omega)]
    rfl)
  have e1 := Nat.div_add_mod n (2 ^ (i + 1))
  have e2 := Nat.div_add_mod m (2 ^ (i + 1))
  rw [hq] at e1
  generalize 2 ^ (i + 1) * (m / 2 ^ (i + 1)) = w at e1 e2
  omega
theorem lt_bt {x y : Int32} {b d : Int} (hx : Iv 0 b x) (hy : Iv 0 d y) {i : Nat} (hi : i < 32) (h1 : bt y i = false) (h2 : bt x i = true) (h : ∀ j, i < j → j < 32 → bt y j = bt x j) : y.toInt < x.toInt := by
  obtain ⟨a, ha, -, -, ea, ea2⟩ := iv_nI hx (by decide)
  obtain ⟨c, hc, -, -, ec, ec2⟩ := iv_nI hy (by decide)
  rw [ea2, ec2]
  subst ea
  subst ec
  rw [bt_nI hi] at h1 h2
  have := lt_tb i h1 h2 (fun j hj => by
    rcases Nat.lt_or_ge j 32 with q | q
    · have := h j hj q
      rw [bt_nI q, bt_nI q] at this
      exact this
    · rw [Nat.testBit_lt_two_pow (Nat.lt_of_lt_of_le (show c < 2 ^ 32 by omega) (Nat.pow_le_pow_right (by decide) q)), Nat.testBit_lt_two_pow (Nat.lt_of_lt_of_le (show a < 2 ^ 32 by omega) (Nat.pow_le_pow_right (by decide) q))])
  omega
theorem kn {k : Int32} {b : Int} (hk : Iv 0 b k) (hb : b ≤ 12) : k.toNatClampNeg ≤ 12 := by
  obtain ⟨-, e2⟩ := v_nI hk (by decide)
  unfold Iv at hk
  omega
theorem clr_lt {x k y z w : Int32} {b c : Int} (hx : Iv 0 c x) (hk : Iv 0 b k) (hb : b ≤ 12) (ez : z = 1 <<< (k &&& 31)) (ew : w = z ^^^ (-1)) (ey : y = x &&& w) (h : bt x k.toNatClampNeg = true) : y.toInt < x.toInt := by
  have hn := kn hk hb
  have hy : Iv 0 c y := by rw [ey]; exact iv_andL w hx (by decide)
  refine lt_bt hx hy (i := k.toNatClampNeg) (by omega) ?_ h (fun j h1 h2 => ?_)
  · rw [clr_bt hk hb ez ew ey (by omega)]
    simp
  · rw [clr_bt hk hb ez ew ey h2, decide_eq_false (by omega)]
    simp
theorem set_gt {x k y z : Int32} {b c d : Int} (hx : Iv 0 c x) (hy : Iv 0 d y) (hk : Iv 0 b k) (hb : b ≤ 12) (ez : z = 1 <<< (k &&& 31)) (ey : y = x ||| z) (h : bt x k.toNatClampNeg = false) : x.toInt < y.toInt := by
  have hn := kn hk hb
  refine lt_bt hy hx (i := k.toNatClampNeg) (by omega) h ?_ (fun j h1 h2 => ?_)
  · rw [set_bt hk hb ez ey (by omega)]
    simp
  · rw [set_bt hk hb ez ey h2, decide_eq_false (by omega)]
    simp
theorem or_ge {x y z : Int32} {a b c d : Int} (ez : z = x ||| y) (hx : Iv a b x) (hy : Iv c d y) (k : (decide (0 ≤ a) && decide (0 ≤ c)) = true) : x.toInt ≤ z.toInt := by
  obtain ⟨k1, k2'⟩ := k2 k
  obtain ⟨i, hi, -, -, e, e2⟩ := iv_nI hx (of_decide_eq_true k1)
  obtain ⟨j, hj, -, -, e3, -⟩ := iv_nI hy (of_decide_eq_true k2')
  rw [e2, ez, e, e3, nI_orN, nI_toInt (Nat.or_lt_two_pow hi hj)]
  exact Int.ofNat_le.mpr Nat.left_le_or
theorem bt_zero {x : Int32} (h : Iv 0 4095 x) (hz : ∀ i, i < 12 → bt x i = false) : x = 0 := by
  apply b_ext
  intro i hi
  rw [b_0]
  rcases Nat.lt_or_ge i 12 with q | q
  · exact hz i q
  · exact bt_hi h q
theorem bt_some {x : Int32} (h : Iv 0 4095 x) (h0 : ¬ x = 0) : ∃ i, i < 12 ∧ bt x i = true := by
  refine Classical.byContradiction fun hx => h0 (bt_zero h (fun i hi => ?_))
  cases hb : bt x i
  · rfl
  · exact absurd ⟨i, hi, hb⟩ hx
/-- how many of the first n -/
def ct (x : Int32) (n : Nat) : Nat := fb_ct (bt x) n
theorem ct_clr {x k y z w : Int32} {b : Int} {n : Nat} (hk : Iv 0 b k) (hb : b ≤ 12) (hn : k.toNatClampNeg < n) (hn2 : n ≤ 32) (ez : z = 1 <<< (k &&& 31)) (ew : w = z ^^^ (-1)) (ey : y = x &&& w) (h : bt x k.toNatClampNeg = true) : ct y n + 1 = ct x n := by
  have h1 := fb_ct_upd (bt x) false hn
  rw [h] at h1
  have h2 : ct y n = fb_ct (fun q => if q = k.toNatClampNeg then false else bt x q) n := fb_ct_cong (fun q hq => by
    rw [clr_bt hk hb ez ew ey (by omega)]
    by_cases e : q = k.toNatClampNeg
    · simp [e]
    · simp [e])
  unfold ct at *
  rw [h2]
  simpa using h1
theorem ct_set {x k y z : Int32} {b : Int} {n : Nat} (hk : Iv 0 b k) (hb : b ≤ 12) (hn : k.toNatClampNeg < n) (hn2 : n ≤ 32) (ez : z = 1 <<< (k &&& 31)) (ey : y = x ||| z) (h : bt x k.toNatClampNeg = false) : ct y n = ct x n + 1 := by
  have h1 := fb_ct_upd (bt x) true hn
  rw [h] at h1
  have h2 : ct y n = fb_ct (fun q => if q = k.toNatClampNeg then true else bt x q) n := fb_ct_cong (fun q hq => by
    rw [set_bt hk hb ez ey (by omega)]
    by_cases e : q = k.toNatClampNeg
    · simp [e]
    · simp [e])
  unfold ct at *
  rw [h2]
  simpa using h1
theorem ct_lt {x : Int32} {n i : Nat} (hi : i < n) (h : bt x i = false) : ct x n < n := by
  rcases Nat.lt_or_ge (ct x n) n with q | q
  · exact q
  · have e : fb_ct (bt x) n = n := by have := fb_ct_le (bt x) n; unfold ct at q; omega
    have := fb_ct_all.mp e i hi
    rw [h] at this
    cases this
theorem ct_pos {x : Int32} {n i : Nat} (hi : i < n) (h : bt x i = true) : 0 < ct x n := fb_ct_pos.mpr ⟨i, hi, h⟩
theorem ct_0 (n : Nat) : ct 0 n = 0 := fb_ct_zero.mpr (fun k _ => b_0 k)
