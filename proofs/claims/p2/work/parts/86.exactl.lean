
def nodeF (a : Int32) : Int32 := if 0 ≤ a.toInt ∧ a.toInt ≤ 12 then a else -1
theorem nodeF_lo {a : Int32} (q : a.toInt < Int32.toInt 0) : (-1 : Int32) = nodeF a := by
  have e : Int32.toInt 0 = 0 := by decide +kernel
  unfold nodeF
  rw [if_neg (by omega)]
theorem nodeF_hi {a : Int32} (q : Int32.toInt 12 < a.toInt) : (-1 : Int32) = nodeF a := by
  have e : Int32.toInt 12 = 12 := by decide +kernel
  unfold nodeF
  rw [if_neg (by omega)]
theorem nodeF_ok {a : Int32} (h : Iv 0 12 a) : a = nodeF a := by
  unfold nodeF
  rw [if_pos (show 0 ≤ a.toInt ∧ a.toInt ≤ 12 from h)]
theorem nodeF_no {a r : Int32} (e : r = if Int32.toInt 0 ≤ a.toInt ∧ a.toInt ≤ Int32.toInt 12 then 1 else 0) (h : r = 0) : (-1 : Int32) = nodeF a := by
  have e0 : Int32.toInt 0 = 0 := by decide +kernel
  have e1 : Int32.toInt 12 = 12 := by decide +kernel
  unfold nodeF
  rw [e0, e1] at e
  by_cases q : 0 ≤ a.toInt ∧ a.toInt ≤ 12
  · rw [if_pos q, h] at e
    exact absurd e (by decide)
  · rw [if_neg q]
theorem inx_t {v lo hi : Int32} (h1 : lo.toInt ≤ v.toInt) (h2 : v.toInt ≤ hi.toInt) : (1 : Int32) = if lo.toInt ≤ v.toInt ∧ v.toInt ≤ hi.toInt then 1 else 0 := by rw [if_pos ⟨h1, h2⟩]
theorem inx_l {v lo hi : Int32} (h : v.toInt < lo.toInt) : (0 : Int32) = if lo.toInt ≤ v.toInt ∧ v.toInt ≤ hi.toInt then 1 else 0 := by rw [if_neg (by omega)]
theorem inx_h {v lo hi : Int32} (h : hi.toInt < v.toInt) : (0 : Int32) = if lo.toInt ≤ v.toInt ∧ v.toInt ≤ hi.toInt then 1 else 0 := by rw [if_neg (by omega)]
theorem DR_z {n d : Int32} {f : Nat → Int32} (h : Iv 0 0 d) : DR n d f := by
  have e : d = 0 := d_eq h (iv_k (by decide +kernel))
  rw [e]
  exact DR_0
theorem sc_in {x i k : Int32} {K : Int} {L : Nat} (e : x = i + k) (hi : Iv 0 2044 i) (hk : Iv K K k) (q : (decide (0 ≤ K) && decide (K ≤ 3)) = true) (hL : i.toInt + 4 ≤ (L : Int)) : vp_in x L := by
  obtain ⟨q1, q2⟩ := k2 q
  have q1 := of_decide_eq_true q1
  have q2 := of_decide_eq_true q2
  have h := fb_addI (x := i) (y := k) (by unfold Iv at *; omega) (by unfold Iv at *; omega)
  rw [← e] at h
  unfold Iv at *
  exact vp_in_iff.mpr ⟨by omega, by omega⟩
theorem sc_i0 {i : Int32} {L : Nat} (hi : Iv 0 2044 i) (hL : i.toInt + 4 ≤ (L : Int)) : vp_in i L := by
  unfold Iv at hi
  exact vp_in_iff.mpr ⟨by omega, by omega⟩
theorem scr_eq {xs : Nat → Int32} {a a2 x x2 y : Int32} (h : a = xs x.toNatClampNeg) (h2 : a2 = xs x2.toNatClampNeg) (e : x = y) (e2 : x2 = y) : a2 = a := by rw [h, h2, e, e2]
theorem len_t {L : Nat} (h : L ≤ 2048) : (Int32.ofNat L).toInt = (L : Int) := nI_toInt (by omega)
theorem lw_step {i z : Int32} {L N : Nat} (hL : L ≤ 2048) (hi : Iv 0 2044 i) (h4 : i.toInt + 4 ≤ (L : Int)) (ez : z = i + 4) (hM : (2048 - i.toInt).toNat < N + 1) : Iv 0 2048 z ∧ (2048 - z.toInt).toNat < N := by
  have e := tia (k := 4) (c := 4) ez hi (iv_k (by decide +kernel)) (by decide)
  unfold Iv at *
  omega
theorem lw_go {i y len : Int32} {L : Nat} (hL : L ≤ 2048) (el : len = Int32.ofNat L) (ey : y = len - 4) (hi : Iv 0 2048 i) (q : i.toInt ≤ y.toInt) : Iv 0 2044 i ∧ i.toInt + 4 ≤ (L : Int) := by
  have h1 : len.toInt = (L : Int) := by rw [el]; exact len_t hL
  have h4 : (4 : Int32).toInt = 4 := by decide +kernel
  have h2 : y.toInt = len.toInt - 4 := by rw [ey, fb_subI (by rw [h4]; omega) (by rw [h4]; omega), h4]
  unfold Iv at *
  omega
