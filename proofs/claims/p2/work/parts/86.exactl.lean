
def apl (a b : va_W) : va_W := a ++ b
def nodeF (a : Int32) : Int32 := if 0 ≤ a.toInt ∧ a.toInt ≤ 12 then a else -1
theorem nodeF_lo {a : Int32} (q : a.toInt < Int32.toInt 0) : (-1 : Int32) = nodeF a := by
  have e : Int32.toInt 0 = 0 := by decide +kernel
  unfold nodeF
  rw [if_neg (by omega)]
theorem nodeF_hi {a : Int32} (q : Int32.toInt 12 < a.toInt) : (-1 : Int32) = nodeF a := by
  have e : Int32.toInt 12 = 12 := by decide +kernel
  unfold nodeF
  rw [if_neg (by omega)]
theorem nodeF_ok {a : Int32} (h : Iv 0 12 a) : a = nodeF a := by
  unfold nodeF
  rw [if_pos (show 0 ≤ a.toInt ∧ a.toInt ≤ 12 from h)]
theorem nodeF_no {a r : Int32} (e : r = if Int32.toInt 0 ≤ a.toInt ∧ a.toInt ≤ Int32.toInt 12 then 1 else 0) (h : r = 0) : (-1 : Int32) = nodeF a := by
  have e0 : Int32.toInt 0 = 0 := by decide +kernel
  have e1 : Int32.toInt 12 = 12 := by decide +kernel
  unfold nodeF
  rw [e0, e1] at e
  by_cases q : 0 ≤ a.toInt ∧ a.toInt ≤ 12
  · rw [if_pos q, h] at e
    exact absurd e (by decide)
  · rw [if_neg q]
theorem inx_t {v lo hi : Int32} (h1 : lo.toInt ≤ v.toInt) (h2 : v.toInt ≤ hi.toInt) : (1 : Int32) = if lo.toInt ≤ v.toInt ∧ v.toInt ≤ hi.toInt then 1 else 0 := by rw [if_pos ⟨h1, h2⟩]
theorem inx_l {v lo hi : Int32} (h : v.toInt < lo.toInt) : (0 : Int32) = if lo.toInt ≤ v.toInt ∧ v.toInt ≤ hi.toInt then 1 else 0 := by rw [if_neg (by omega)]
theorem inx_h {v lo hi : Int32} (h : hi.toInt < v.toInt) : (0 : Int32) = if lo.toInt ≤ v.toInt ∧ v.toInt ≤ hi.toInt then 1 else 0 := by rw [if_neg (by omega)]
theorem DR_z {n d : Int32} {f : Nat → Int32} (h : Iv 0 0 d) : DR n d f := by
  have e : d = 0 := d_eq h (iv_k (by decide +kernel))
  rw [e]
  exact DR_0
theorem sc_in {x i k : Int32} {K : Int} {L : Nat} (e : x = i + k) (hi : Iv 0 2044 i) (hk : Iv K K k) (q : (decide (0 ≤ K) && decide (K ≤ 3)) = true) (hL : i.toInt + 4 ≤ (L : Int)) : vp_in x L := by
  obtain ⟨q1, q2⟩ := k2 q
  have q1 := of_decide_eq_true q1
  have q2 := of_decide_eq_true q2
  have h := fb_addI (x := i) (y := k) (by unfold Iv at *; omega) (by unfold Iv at *; omega)
  rw [← e] at h
  unfold Iv at *
  exact vp_in_iff.mpr ⟨by omega, by omega⟩
theorem sc_i0 {i : Int32} {L : Nat} (hi : Iv 0 2044 i) (hL : i.toInt + 4 ≤ (L : Int)) : vp_in i L := by
  unfold Iv at hi
  exact vp_in_iff.mpr ⟨by omega, by omega⟩
theorem scr_eq {xs : Nat → Int32} {a a2 x x2 y : Int32} (h : a = xs x.toNatClampNeg) (h2 : a2 = xs x2.toNatClampNeg) (e : x = y) (e2 : x2 = y) : a2 = a := by rw [h, h2, e, e2]
theorem len_t {L : Nat} (h : L ≤ 2048) : (Int32.ofNat L).toInt = (L : Int) := nI_toInt (by omega)
theorem lw_step {i z : Int32} {L N : Nat} (hL : L ≤ 2048) (hi : Iv 0 2044 i) (h4 : i.toInt + 4 ≤ (L : Int)) (ez : z = i + 4) (hM : (2048 - i.toInt).toNat < N + 1) : Iv 0 2048 z ∧ (2048 - z.toInt).toNat < N := by
  have e := tia (k := 4) (c := 4) ez hi (iv_k (by decide +kernel)) (by decide)
  unfold Iv at *
  omega
theorem lw_go {i y len : Int32} {L : Nat} (hL : L ≤ 2048) (el : len = Int32.ofNat L) (ey : y = len - 4) (hi : Iv 0 2048 i) (q : i.toInt ≤ y.toInt) : Iv 0 2044 i ∧ i.toInt + 4 ≤ (L : Int) := by
  have h1 : len.toInt = (L : Int) := by rw [el]; exact len_t hL
  have h4 : (4 : Int32).toInt = 4 := by decide +kernel
  have h2 : y.toInt = len.toInt - 4 := by rw [ey, fb_subI (by rw [h4]; omega) (by rw [h4]; omega), h4]
  unfold Iv at *
  omega
def colF (c : Int32) : Int32 := if 8 < c.toInt then -1 else if c.toInt < 0 then -3 else c
theorem colF_hi {c : Int32} (q : Int32.toInt 8 < c.toInt) : (-1 : Int32) = colF c := by
  have e : Int32.toInt 8 = 8 := by decide +kernel
  unfold colF
  rw [if_pos (by omega)]
theorem colF_lo {c r : Int32} (q : c.toInt < Int32.toInt 0) (hr : r = -3) : r = colF c := by
  have e : Int32.toInt 0 = 0 := by decide +kernel
  unfold colF
  rw [if_neg (by omega), if_pos (by omega), hr]
theorem colF_ok {c : Int32} (h : Iv 0 8 c) : c = colF c := by
  unfold Iv at h
  unfold colF
  rw [if_neg (by omega), if_neg (by omega)]
def runP (r n : Int32) : Prop := 0 ≤ r.toInt ∧ 0 ≤ n.toInt ∧ r.toInt + n.toInt ≤ 12
theorem run_t {r n x : Int32} (hr : Iv 0 12 r) (hn : Iv 0 2147483647 n) (ex : x = 12 - r) (q : n.toInt ≤ x.toInt) : runP r n := by
  have h := (congrArg Int32.toInt ex).trans (ti_subc (iv_k (a := 12) (by decide +kernel)) hr (by decide))
  have e : (12 : Int32).toInt = 12 := by decide +kernel
  unfold Iv at *
  exact ⟨by omega, by omega, by omega⟩
theorem run_f {r n x : Int32} (hr : Iv 0 12 r) (ex : x = 12 - r) (q : x.toInt < n.toInt) : ¬ runP r n := by
  have h := (congrArg Int32.toInt ex).trans (ti_subc (iv_k (a := 12) (by decide +kernel)) hr (by decide))
  have e : (12 : Int32).toInt = 12 := by decide +kernel
  unfold Iv at *
  rintro ⟨h1, h2, h3⟩
  omega
theorem run_r {r n : Int32} (q : r.toInt < Int32.toInt 0) : ¬ runP r n := by
  have e : Int32.toInt 0 = 0 := by decide +kernel
  rintro ⟨h1, h2, h3⟩
  omega
theorem run_n {r n : Int32} (q : n.toInt < Int32.toInt 0) : ¬ runP r n := by
  have e : Int32.toInt 0 = 0 := by decide +kernel
  rintro ⟨h1, h2, h3⟩
  omega
theorem run_h {r n : Int32} (q : Int32.toInt 12 < r.toInt) : ¬ runP r n := by
  have e : Int32.toInt 12 = 12 := by decide +kernel
  rintro ⟨h1, h2, h3⟩
  omega
theorem run_s {r n : Int32} {a b c d : Int} (h : r.toInt + n.toInt ≤ 12) (hr : Iv 0 b r) (hn : Iv 0 d n) : runP r n := ⟨hr.1, hn.1, h⟩
theorem run_g {r n z : Int32} {l1 l2 y : Int64} (e1 : l1 = r.toInt64) (e2 : l2 = n.toInt64) (ey : y = l1 + l2) (ez : z = lg_cmp y 12) (h : Int32.toInt 0 < z.toInt) : ¬ runP r n := by
  have hr := i_rng r
  have hn := i_rng n
  rintro ⟨h1, h2, h3⟩
  have e12 : (12 : Int64).toInt = 12 := by decide +kernel
  have hs : y.toInt = r.toInt + n.toInt := by
    rw [ey, e1, e2]
    exact sum_ti (Int32.toInt_toInt64 n) (by omega) (by omega)
  have hg : ¬ 0 < lg_cmp y 12 := lg_ngt (by rw [e12, hs]; omega)
  rw [← ez, Int32.lt_iff_toInt_lt] at hg
  exact hg h

def copyF (r t n : Int32) : Int32 := if ((0 ≤ r.toInt ∧ 0 ≤ n.toInt ∧ r.toInt + n.toInt ≤ 12) ∧ (0 ≤ t.toInt ∧ 0 ≤ n.toInt ∧ t.toInt + n.toInt ≤ 12)) then 1 else -3
theorem copyF_t {r t n : Int32} (h1 : runP r n) (h2 : runP t n) : (1 : Int32) = copyF r t n := by
  unfold copyF
  rw [if_pos ⟨h1, h2⟩]
theorem copyF_1 {r t n x : Int32} (h : ¬ runP r n) (hx : x = -3) : x = copyF r t n := by
  unfold copyF
  rw [if_neg (fun q => h q.1), hx]
theorem copyF_2 {r t n x : Int32} (h : ¬ runP t n) (hx : x = -3) : x = copyF r t n := by
  unfold copyF
  rw [if_neg (fun q => h q.2), hx]
