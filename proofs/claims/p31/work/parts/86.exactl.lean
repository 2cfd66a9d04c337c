
def apl (a b : va_W) : va_W := a ++ b
def nodeF (a : Int32) : Int32 := if 0 ≤ a.toInt ∧ a.toInt ≤ 12 then a else -1
theorem nodeF_lo {a : Int32} (q : a.toInt < Int32.toInt 0) : (-1 : Int32) = nodeF a := by
  have e : Int32.toInt 0 = 0 := by decide +kernel
  unfold nodeF
  rw [if_neg (by omega)]
theorem nodeF_hi {a : Int32} (q : Int32.toInt 12 < a.toInt) : (-1 : Int32) = nodeF a := by
  have e : Int32.toInt 12 = 12 := by decide +kernel
  unfold nodeF
  rw [if_neg (by omega)]
theorem nodeF_ok {a : Int32} (h : Iv 0 12 a) : a = nodeF a := by
  unfold nodeF
  rw [if_pos (show 0 ≤ a.toInt ∧ a.toInt ≤ 12 from h)]
theorem nodeF_no {a r : Int32} (e : r = if Int32.toInt 0 ≤ a.toInt ∧ a.toInt ≤ Int32.toInt 12 then 1 else 0) (h : r = 0) : (-1 : Int32) = nodeF a := by
  have e0 : Int32.toInt 0 = 0 := by decide +kernel
  have e1 : Int32.toInt 12 = 12 := by decide +kernel
  unfold nodeF
  rw [e0, e1] at e
  by_cases q : 0 ≤ a.toInt ∧ a.toInt ≤ 12
  · rw [if_pos q, h] at e
    exact absurd e (by decide)
  · rw [if_neg q]
theorem inx_t {v lo hi : Int32} (h1 : lo.toInt ≤ v.toInt) (h2 : v.toInt ≤ hi.toInt) : (1 : Int32) = if lo.toInt ≤ v.toInt ∧ v.toInt ≤ hi.toInt then 1 else 0 := by rw [if_pos ⟨h1, h2⟩]
theorem inx_l {v lo hi : Int32} (h : v.toInt < lo.toInt) : (0 : Int32) = if lo.toInt ≤ v.toInt ∧ v.toInt ≤ hi.toInt then 1 else 0 := by rw [if_neg (by omega)]
theorem inx_h {v lo hi : Int32} (h : hi.toInt < v.toInt) : (0 : Int32) = if lo.toInt ≤ v.toInt ∧ v.toInt ≤ hi.toInt then 1 else 0 := by rw [if_neg (by omega)]
theorem DR_z {n d : Int32} {f : Nat → Int32} (h : Iv 0 0 d) : DR n d f := by
  have e : d = 0 := d_eq h (iv_k (by decide +kernel))
  rw [e]
  exact DR_0
theorem sc_in {x i k : Int32} {K : Int} {L : Nat} (e : x = i + k) (hi : Iv 0 2044 i) (hk : Iv K K k) (q : (decide (0 ≤ K) && decide (K ≤ 3)) = true) (hL : i.toInt + 4 ≤ (L : Int)) : vp_in x L := by
  obtain ⟨q1, q2⟩ := k2 q
  have q1 := of_decide_eq_true q1
  have q2 := of_decide_eq_true q2
  have h := fb_addI (x := i) (y := k) (by unfold Iv at *; omega) (by unfold Iv at *; omega)
  rw [← e] at h
  unfold Iv at *
  exact vp_in_iff.mpr ⟨by omega, by omega⟩
theorem sc_i0 {i : Int32} {L : Nat} (hi : Iv 0 2044 i) (hL : i.toInt + 4 ≤ (L : Int)) : vp_in i L := by
  unfold Iv at hi
  exact vp_in_iff.mpr ⟨by omega, by omega⟩
theorem scr_eq {xs : Nat → Int32} {a a2 x x2 y : Int32} (h : a = xs x.toNatClampNeg) (h2 : a2 = xs x2.toNatClampNeg) (e : x = y) (e2 : x2 = y) : a2 = a := by rw [h, h2, e, e2]
theorem len_t {L : Nat} (h : L ≤ 2048) : (Int32.ofNat L).toInt = (L : Int) := nI_toInt (by omega)
theorem lw_step {i z : Int32} {L N : Nat} (hL : L ≤ 2048) (hi : Iv 0 2044 i) (h4 : i.toInt + 4 ≤ (L : Int)) (ez : z = i + 4) (hM : (2048 - i.toInt).toNat < N + 1) : Iv 0 2048 z ∧ (2048 - z.toInt).toNat < N := by
  have e := tia (k := 4) (c := 4) ez hi (iv_k (by decide +kernel)) (by decide)
  unfold Iv at *
  omega
theorem lw_go {i y len : Int32} {L : Nat} (hL : L ≤ 2048) (el : len = Int32.ofNat L) (ey : y = len - 4) (hi : Iv 0 2048 i) (q : i.toInt ≤ y.toInt) : Iv 0 2044 i ∧ i.toInt + 4 ≤ (L : Int) := by
  have h1 : len.toInt = (L : Int) := by rw [el]; exact len_t hL
  have h4 : (4 : Int32).toInt = 4 := by decide +kernel
  have h2 : y.toInt = len.toInt - 4 := by rw [ey, fb_subI (by rw [h4]; omega) (by rw [h4]; omega), h4]
  unfold Iv at *
  omega
def colF (c : Int32) : Int32 := if 8 < c.toInt then -1 else if c.toInt < 0 then -3 else c
theorem colF_hi {c : Int32} (q : Int32.toInt 8 < c.toInt) : (-1 : Int32) = colF c := by
  have e : Int32.toInt 8 = 8 := by decide +kernel
  unfold colF
  rw [if_pos (by omega)]
theorem colF_lo {c r : Int32} (q : c.toInt < Int32.toInt 0) (hr : r = -3) : r = colF c := by
  have e : Int32.toInt 0 = 0 := by decide +kernel
  unfold colF
  rw [if_neg (by omega), if_pos (by omega), hr]
theorem colF_ok {c : Int32} (h : Iv 0 8 c) : c = colF c := by
  unfold Iv at h
  unfold colF
  rw [if_neg (by omega), if_neg (by omega)]
def runP (r n : Int32) : Prop := 0 ≤ r.toInt ∧ 0 ≤ n.toInt ∧ r.toInt + n.toInt ≤ 12
theorem run_t {r n x : Int32} (hr : Iv 0 12 r) (hn : Iv 0 2147483647 n) (ex : x = 12 - r) (q : n.toInt ≤ x.toInt) : runP r n := by
  have h := (congrArg Int32.toInt ex).trans (ti_subc (iv_k (a := 12) (by decide +kernel)) hr (by decide))
  have e : (12 : Int32).toInt = 12 := by decide +kernel
  unfold Iv at *
  exact ⟨by omega, by omega, by omega⟩
theorem run_f {r n x : Int32} (hr : Iv 0 12 r) (ex : x = 12 - r) (q : x.toInt < n.toInt) : ¬ runP r n := by
  have h := (congrArg Int32.toInt ex).trans (ti_subc (iv_k (a := 12) (by decide +kernel)) hr (by decide))
  have e : (12 : Int32).toInt = 12 := by decide +kernel
  unfold Iv at *
  rintro ⟨h1, h2, h3⟩
  omega
theorem run_r {r n : Int32} (q : r.toInt < Int32.toInt 0) : ¬ runP r n := by
  have e : Int32.toInt 0 = 0 := by decide +kernel
  rintro ⟨h1, h2, h3⟩
  omega
theorem run_n {r n : Int32} (q : n.toInt < Int32.toInt 0) : ¬ runP r n := by
  have e : Int32.toInt 0 = 0 := by decide +kernel
  rintro ⟨h1, h2, h3⟩
  omega
theorem run_h {r n : Int32} (q : Int32.toInt 12 < r.toInt) : ¬ runP r n := by
  have e : Int32.toInt 12 = 12 := by decide +kernel
  rintro ⟨h1, h2, h3⟩
  omega
theorem run_s {r n : Int32} {a b c d : Int} (h : r.toInt + n.toInt ≤ 12) (hr : Iv 0 b r) (hn : Iv 0 d n) : runP r n := ⟨hr.1, hn.1, h⟩
theorem run_g {r n z : Int32} {l1 l2 y : Int64} (e1 : l1 = r.toInt64) (e2 : l2 = n.toInt64) (ey : y = l1 + l2) (ez : z = lg_cmp y 12) (h : Int32.toInt 0 < z.toInt) : ¬ runP r n := by
  have hr := i_rng r
  have hn := i_rng n
  rintro ⟨h1, h2, h3⟩
  have e12 : (12 : Int64).toInt = 12 := by decide +kernel
  have hs : y.toInt = r.toInt + n.toInt := by
    rw [ey, e1, e2]
    exact sum_ti (Int32.toInt_toInt64 n) (by omega) (by omega)
  have hg : ¬ 0 < lg_cmp y 12 := lg_ngt (by rw [e12, hs]; omega)
  rw [← ez, Int32.lt_iff_toInt_lt] at hg
  exact hg h

def copyF (r t n : Int32) : Int32 := if ((0 ≤ r.toInt ∧ 0 ≤ n.toInt ∧ r.toInt + n.toInt ≤ 12) ∧ (0 ≤ t.toInt ∧ 0 ≤ n.toInt ∧ t.toInt + n.toInt ≤ 12)) then 1 else -3
theorem copyF_t {r t n : Int32} (h1 : runP r n) (h2 : runP t n) : (1 : Int32) = copyF r t n := by
  unfold copyF
  rw [if_pos ⟨h1, h2⟩]
theorem copyF_1 {r t n x : Int32} (h : ¬ runP r n) (hx : x = -3) : x = copyF r t n := by
  unfold copyF
  rw [if_neg (fun q => h q.1), hx]
theorem copyF_2 {r t n x : Int32} (h : ¬ runP t n) (hx : x = -3) : x = copyF r t n := by
  unfold copyF
  rw [if_neg (fun q => h q.2), hx]
theorem up_at {f g : Nat → Int32} {j : Nat} {x : Int32} (e : g = upd f j x) (i : Nat) : g i = if i = j then x else f i := by rw [e]; rfl
theorem fil_0 {f : Nat → Int32} {v : Int32} : ∀ i : Nat, i < Int32.toNatClampNeg 0 → f i = v := by
  rw [tz0]
  exact fun i h => absurd h (Nat.not_lt_zero _)
theorem fil_s {f g : Nat → Int32} {v x z : Int32} (F : ∀ i : Nat, i < x.toNatClampNeg → f i = v) (hx : Iv 0 4095 x) (e : z = x + 1) (eg : g = upd f x.toNatClampNeg v) : ∀ i : Nat, i < z.toNatClampNeg → g i = v := by
  rw [cl_s e hx]
  intro i h
  rw [up_at eg]
  by_cases q : i = x.toNatClampNeg
  · rw [if_pos q]
  · rw [if_neg q]
    exact F i (by omega)
theorem fil_e {g : Nat → Int32} {v x : Int32} (F : ∀ i : Nat, i < x.toNatClampNeg → g i = v) (q : Int32.toInt 12 ≤ x.toInt) : ∀ i : Nat, i < 12 → g i = v := by
  have e : Int32.toInt 12 = 12 := by decide +kernel
  have h : (12 : Nat) ≤ x.toNatClampNeg := by show 12 ≤ x.toInt.toNat; omega
  exact fun i hi => F i (by omega)
def colP (k c w : Int32) (f : Nat → Int32) (w2 : Int32) (f2 : Nat → Int32) : Prop := ((0 ≤ c.toInt ∧ c.toInt ≤ 8) ∧ w2 = c ∧ ∀ i : Nat, i < 12 → f2 i = k) ∨ (¬ (0 ≤ c.toInt ∧ c.toInt ≤ 8) ∧ w2 = w ∧ f2 = f)
theorem colP_hi {k c w : Int32} {f : Nat → Int32} (q : Int32.toInt 8 < c.toInt) : colP k c w f w f := by
  have e : Int32.toInt 8 = 8 := by decide +kernel
  exact Or.inr ⟨by omega, rfl, rfl⟩
theorem colP_lo {k c w : Int32} {f : Nat → Int32} (q : c.toInt < Int32.toInt 0) : colP k c w f w f := by
  have e : Int32.toInt 0 = 0 := by decide +kernel
  exact Or.inr ⟨by omega, rfl, rfl⟩
theorem colP_ok {k c w w2 : Int32} {f f2 : Nat → Int32} (h : Iv 0 8 c) (hw : w2 = c) (hf : ∀ i : Nat, i < 12 → f2 i = k) : colP k c w f w2 f2 := Or.inl ⟨h, hw, hf⟩
def RR (a b : Int32) : Prop := (a = -1 ∧ b.toInt < 0) ∨ (a = b ∧ 0 ≤ b.toInt)
def TB (w : Int32) (f : Nat → Int32) (w2 : Int32) (g : Nat → Int32) : Prop := w = w2 ∧ ∀ i : Nat, i < 12 → RR (f i) (g i)
theorem m9_neg : (-9 : Int32).toInt < 0 := by decide +kernel
theorem TB_s {w w2 : Int32} {f g : Nat → Int32} (e : w = 0) (e2 : w2 = 0) (hf : ∀ i : Nat, i < 12 → f i = -1) (hg : ∀ i : Nat, i < 12 → g i = -9) : TB w f w2 g := by
  refine ⟨e.trans e2.symm, fun i hi => Or.inl ⟨hf i hi, ?_⟩⟩
  rw [hg i hi]
  exact m9_neg
theorem WB_col {c c2 w w2 v v2 : Int32} {f g f2 g2 : Nat → Int32} (hw : w = w2) (ec : c2 = c) (h1 : colP (-1) c w f v f2) (h2 : colP (-9) c2 w2 g v2 g2) : v = v2 := by
  subst ec
  rcases h1 with ⟨a, b, d⟩ | ⟨a, b, d⟩
  · rcases h2 with ⟨a2, b2, d2⟩ | ⟨a2, b2, d2⟩
    · rw [b, b2]
    · exact absurd a a2
  · rcases h2 with ⟨a2, b2, d2⟩ | ⟨a2, b2, d2⟩
    · exact absurd a2 a
    · rw [b, b2, hw]
theorem TB_col {c c2 w w2 v v2 : Int32} {f g f2 g2 : Nat → Int32} (hT : TB w f w2 g) (ec : c2 = c) (h1 : colP (-1) c w f v f2) (h2 : colP (-9) c2 w2 g v2 g2) : TB v f2 v2 g2 := by
  refine ⟨WB_col hT.1 ec h1 h2, ?_⟩
  subst ec
  rcases h1 with ⟨a, b, d⟩ | ⟨a, b, d⟩
  · rcases h2 with ⟨a2, b2, d2⟩ | ⟨a2, b2, d2⟩
    · intro i hi
      refine Or.inl ⟨d i hi, ?_⟩
      rw [d2 i hi]
      exact m9_neg
    · exact absurd a a2
  · rcases h2 with ⟨a2, b2, d2⟩ | ⟨a2, b2, d2⟩
    · exact absurd a2 a
    · rw [d, d2]
      exact hT.2
theorem inx_ne {r v lo hi : Int32} (e : r = if lo.toInt ≤ v.toInt ∧ v.toInt ≤ hi.toInt then 1 else 0) (h : ¬ r = 0) : lo.toInt ≤ v.toInt ∧ v.toInt ≤ hi.toInt := by
  by_cases q : lo.toInt ≤ v.toInt ∧ v.toInt ≤ hi.toInt
  · exact q
  · rw [if_neg q] at e
    exact absurd e h
theorem inx_eq {r v lo hi : Int32} (e : r = if lo.toInt ≤ v.toInt ∧ v.toInt ≤ hi.toInt then 1 else 0) (h : r = 0) : ¬ (lo.toInt ≤ v.toInt ∧ v.toInt ≤ hi.toInt) := by
  intro q
  rw [if_pos q, h] at e
  exact absurd e (by decide)
theorem hpl_t {a : Int32} (h : Iv 0 11 a) : (1 : Int32) = if Int32.toInt 0 ≤ a.toInt ∧ a.toInt ≤ Int32.toInt 11 then 1 else 0 := by
  have e0 : Int32.toInt 0 = 0 := by decide +kernel
  have e1 : Int32.toInt 11 = 11 := by decide +kernel
  unfold Iv at h
  rw [if_pos ⟨by omega, by omega⟩]
theorem hpl_l {a : Int32} (h : a.toInt < Int32.toInt 0) : (0 : Int32) = if Int32.toInt 0 ≤ a.toInt ∧ a.toInt ≤ Int32.toInt 11 then 1 else 0 := by rw [if_neg (by omega)]
theorem hpl_h {a : Int32} (h : Int32.toInt 12 ≤ a.toInt) : (0 : Int32) = if Int32.toInt 0 ≤ a.toInt ∧ a.toInt ≤ Int32.toInt 11 then 1 else 0 := by
  have e0 : Int32.toInt 12 = 12 := by decide +kernel
  have e1 : Int32.toInt 11 = 11 := by decide +kernel
  rw [if_neg (by omega)]
def plP (r : Int32) : Prop := Int32.toInt 0 ≤ r.toInt ∧ r.toInt ≤ Int32.toInt 11
def bitP (b w : Int32) : Prop := 0 ≤ b.toInt ∧ b.toInt < ((1 : Int32) <<< (w &&& 31)).toInt
theorem bit_lo {b w : Int32} (q : b.toInt < Int32.toInt 0) : ¬ bitP b w := by
  have e : Int32.toInt 0 = 0 := by decide +kernel
  exact fun h => absurd h.1 (by omega)
theorem bit_hi {b w x : Int32} (e : x = (1 : Int32) <<< (w &&& 31)) (q : x.toInt ≤ b.toInt) : ¬ bitP b w := by
  rw [e] at q
  exact fun h => absurd h.2 (by omega)
theorem bit_ok {b w x : Int32} {d : Int} (h : Iv 0 d b) (e : x = (1 : Int32) <<< (w &&& 31)) (q : b.toInt < x.toInt) : bitP b w := by
  rw [e] at q
  exact ⟨h.1, q⟩
theorem bit_r {b w x y : Int32} (e : x = (1 : Int32) <<< (w &&& 31)) (hx : Iv 1 256 x) (ey : y = x - 1) (h : Int32.toInt 0 ≤ b.toInt ∧ b.toInt ≤ y.toInt) : bitP b w := by
  have e0 : Int32.toInt 0 = 0 := by decide +kernel
  have e1 : Int32.toInt 1 = 1 := by decide +kernel
  have h2 := (congrArg Int32.toInt ey).trans (ti_subc hx (iv_k (a := 1) (by decide +kernel)) (by decide))
  refine ⟨by omega, ?_⟩
  rw [← e]
  omega
theorem bit_rn {b w x y : Int32} (e : x = (1 : Int32) <<< (w &&& 31)) (hx : Iv 1 256 x) (ey : y = x - 1) (h : ¬ (Int32.toInt 0 ≤ b.toInt ∧ b.toInt ≤ y.toInt)) : ¬ bitP b w := by
  have e0 : Int32.toInt 0 = 0 := by decide +kernel
  have e1 : Int32.toInt 1 = 1 := by decide +kernel
  have h2 := (congrArg Int32.toInt ey).trans (ti_subc hx (iv_k (a := 1) (by decide +kernel)) (by decide))
  intro q
  have q2 := q.2
  rw [← e] at q2
  exact h ⟨by have := q.1; omega, by omega⟩
def rowP (r b w : Int32) (f f2 : Nat → Int32) (x : Int32) : Prop := (¬ bitP b w ∧ x = -1 ∧ f2 = f) ∨ (bitP b w ∧ ¬ plP r ∧ x = -3 ∧ f2 = f) ∨ (bitP b w ∧ plP r ∧ x = 1 ∧ f2 = upd f r.toNatClampNeg b)
theorem rowP_1 {r b w : Int32} {f : Nat → Int32} (h : ¬ bitP b w) : rowP r b w f f (-1) := Or.inl ⟨h, rfl, rfl⟩
theorem rowP_2 {r b w x : Int32} {f : Nat → Int32} (h : bitP b w) (h2 : ¬ plP r) (hx : x = -3) : rowP r b w f f x := Or.inr (Or.inl ⟨h, h2, hx, rfl⟩)
theorem rowP_3 {r b w : Int32} {f f2 : Nat → Int32} (h : bitP b w) (h2 : plP r) (e : f2 = upd f r.toNatClampNeg b) : rowP r b w f f2 1 := Or.inr (Or.inr ⟨h, h2, rfl, e⟩)
theorem row_eq {r b r2 b2 w w2 x y : Int32} {f g f2 g2 : Nat → Int32} (hw : w = w2) (er : r2 = r) (eb : b2 = b) (h1 : rowP r b w f f2 x) (h2 : rowP r2 b2 w2 g g2 y) : x = y := by
  subst er
  subst eb
  subst hw
  rcases h1 with ⟨a, c, d⟩ | ⟨a, a', c, d⟩ | ⟨a, a', c, d⟩ <;> rcases h2 with ⟨p, q, s⟩ | ⟨p, p', q, s⟩ | ⟨p, p', q, s⟩ <;> first | (exact c.trans q.symm) | (exact absurd p a) | (exact absurd a p) | (exact absurd p' a') | (exact absurd a' p')
theorem RR_up {f g f2 g2 : Nat → Int32} {j : Nat} {x y : Int32} (h : ∀ i : Nat, i < 12 → RR (f i) (g i)) (e : f2 = upd f j x) (e2 : g2 = upd g j y) (hx : RR x y) : ∀ i : Nat, i < 12 → RR (f2 i) (g2 i) := by
  intro i hi
  rw [up_at e, up_at e2]
  by_cases q : i = j
  · rw [if_pos q, if_pos q]
    exact hx
  · rw [if_neg q, if_neg q]
    exact h i hi
theorem TB_row {r b r2 b2 w w2 x y : Int32} {f g f2 g2 : Nat → Int32} (hT : TB w f w2 g) (er : r2 = r) (eb : b2 = b) (h1 : rowP r b w f f2 x) (h2 : rowP r2 b2 w2 g g2 y) : TB w f2 w2 g2 := by
  obtain ⟨hw, hR⟩ := hT
  refine ⟨hw, ?_⟩
  subst er
  subst eb
  subst hw
  rcases h1 with ⟨a, c, d⟩ | ⟨a, a', c, d⟩ | ⟨a, a', c, d⟩ <;> rcases h2 with ⟨p, q, s⟩ | ⟨p, p', q, s⟩ | ⟨p, p', q, s⟩ <;> first | (rw [d, s]; exact hR) | (exact absurd p a) | (exact absurd a p) | (exact absurd p' a') | (exact absurd a' p') | (exact RR_up hR d s (Or.inr ⟨rfl, a.1⟩))
def hasP (r : Int32) (f : Nat → Int32) : Prop := plP r ∧ 0 ≤ (f r.toNatClampNeg).toInt
theorem has_no {r : Int32} {f : Nat → Int32} (h : ¬ plP r) : ¬ hasP r f := fun q => h q.1
theorem has_m {r x : Int32} {f : Nat → Int32} (e : x = f r.toNatClampNeg) (h : Iv (-1) (-1) x) : ¬ hasP r f := by
  intro q
  have q2 := q.2
  rw [← e] at q2
  unfold Iv at h
  omega
theorem has_n {r x : Int32} {f : Nat → Int32} (e : x = f r.toNatClampNeg) (h : x.toInt < Int32.toInt 0) : ¬ hasP r f := by
  have e0 : Int32.toInt 0 = 0 := by decide +kernel
  intro q
  have q2 := q.2
  rw [← e] at q2
  omega
theorem has_y {r x : Int32} {f : Nat → Int32} {d : Int} (hp : plP r) (e : x = f r.toNatClampNeg) (h : Iv 0 d x) : hasP r f := ⟨hp, by rw [← e]; exact h.1⟩
theorem pl_iv {r : Int32} (h : Iv 0 11 r) : plP r := by
  have e0 : Int32.toInt 0 = 0 := by decide +kernel
  have e1 : Int32.toInt 11 = 11 := by decide +kernel
  unfold Iv at h
  exact ⟨by omega, by omega⟩
theorem pl_lt {r : Int32} (h : plP r) : r.toNatClampNeg < 12 := by
  have e0 : Int32.toInt 0 = 0 := by decide +kernel
  have e1 : Int32.toInt 11 = 11 := by decide +kernel
  obtain ⟨h1, h2⟩ := h
  show r.toInt.toNat < 12
  omega
theorem has_iff {r : Int32} {w w2 : Int32} {f g : Nat → Int32} (hT : TB w f w2 g) : hasP r f ↔ hasP r g := by
  refine ⟨fun ⟨a, b⟩ => ⟨a, ?_⟩, fun ⟨a, b⟩ => ⟨a, ?_⟩⟩
  · rcases hT.2 _ (pl_lt a) with ⟨c, d⟩ | ⟨c, d⟩
    · rw [c] at b
      exact absurd b (by decide +kernel)
    · exact d
  · rcases hT.2 _ (pl_lt a) with ⟨c, d⟩ | ⟨c, d⟩
    · exact absurd b (by omega)
    · rw [c]
      exact d
def tolP (r : Int32) (f : Nat → Int32) (x : Int32) : Prop := (¬ hasP r f ∧ x = -3) ∨ (hasP r f ∧ x = f r.toNatClampNeg)
theorem tol_eq {r r2 w w2 x y : Int32} {f g : Nat → Int32} (hT : TB w f w2 g) (er : r2 = r) (h1 : tolP r f x) (h2 : tolP r2 g y) : x = y := by
  subst er
  rcases h1 with ⟨a, b⟩ | ⟨a, b⟩
  · rcases h2 with ⟨c, d⟩ | ⟨c, d⟩
    · rw [b, d]
    · exact absurd ((has_iff hT).mpr c) a
  · rcases h2 with ⟨c, d⟩ | ⟨c, d⟩
    · exact absurd ((has_iff hT).mp a) c
    · rw [b, d]
      rcases hT.2 _ (pl_lt a.1) with ⟨p, q⟩ | ⟨p, q⟩
      · have := c.2
        omega
      · exact p
def teaP (k r : Int32) (f f2 : Nat → Int32) (x : Int32) : Prop := (¬ hasP r f ∧ x = -3 ∧ f2 = f) ∨ (hasP r f ∧ x = 1 ∧ f2 = upd f r.toNatClampNeg k)
theorem teaP_1 {k r x : Int32} {f : Nat → Int32} (h : ¬ hasP r f) (hx : x = -3) : teaP k r f f x := Or.inl ⟨h, hx, rfl⟩
theorem teaP_2 {k r : Int32} {f f2 : Nat → Int32} (h : hasP r f) (e : f2 = upd f r.toNatClampNeg k) : teaP k r f f2 1 := Or.inr ⟨h, rfl, e⟩
theorem tea_eq {r r2 w w2 x y : Int32} {f g f2 g2 : Nat → Int32} (hT : TB w f w2 g) (er : r2 = r) (h1 : teaP (-1) r f f2 x) (h2 : teaP (-9) r2 g g2 y) : x = y ∧ TB w f2 w2 g2 := by
  subst er
  rcases h1 with ⟨a, b, e⟩ | ⟨a, b, e⟩
  · rcases h2 with ⟨c, d, e2⟩ | ⟨c, d, e2⟩
    · rw [b, d, e, e2]
      exact ⟨rfl, hT⟩
    · exact absurd ((has_iff hT).mpr c) a
  · rcases h2 with ⟨c, d, e2⟩ | ⟨c, d, e2⟩
    · exact absurd ((has_iff hT).mp a) c
    · refine ⟨b.trans d.symm, hT.1, RR_up hT.2 e e2 (Or.inl ⟨rfl, m9_neg⟩)⟩
def cpyP (r t n : Int32) (f f2 : Nat → Int32) : Prop := ((runP r n ∧ runP t n) ∧ ∀ i : Nat, i < 12 → f2 i = va_cpy f f r.toNatClampNeg t.toNatClampNeg n.toNatClampNeg i) ∨ (¬ (runP r n ∧ runP t n) ∧ f2 = f)
theorem cpyP_t {r t n : Int32} {f f2 : Nat → Int32} (h1 : runP r n) (h2 : runP t n) (e : f2 = va_cpy f f r.toNatClampNeg t.toNatClampNeg n.toNatClampNeg) : cpyP r t n f f2 := Or.inl ⟨⟨h1, h2⟩, fun i _ => by rw [e]⟩
theorem cpyP_1 {r t n : Int32} {f : Nat → Int32} (h : ¬ runP r n) : cpyP r t n f f := Or.inr ⟨fun q => h q.1, rfl⟩
theorem cpyP_2 {r t n : Int32} {f : Nat → Int32} (h : ¬ runP t n) : cpyP r t n f f := Or.inr ⟨fun q => h q.2, rfl⟩
theorem run_cl {r n : Int32} (h : runP r n) : r.toNatClampNeg + n.toNatClampNeg ≤ 12 := by
  obtain ⟨h1, h2, h3⟩ := h
  show r.toInt.toNat + n.toInt.toNat ≤ 12
  omega
theorem TB_cpy {r t n r2 t2 n2 w w2 : Int32} {f g f2 g2 : Nat → Int32} (hT : TB w f w2 g) (er : r2 = r) (et : t2 = t) (en : n2 = n) (h1 : cpyP r t n f f2) (h2 : cpyP r2 t2 n2 g g2) : TB w f2 w2 g2 := by
  subst er
  subst et
  subst en
  refine ⟨hT.1, ?_⟩
  rcases h1 with ⟨a, b⟩ | ⟨a, b⟩
  · rcases h2 with ⟨c, d⟩ | ⟨c, d⟩
    · intro i hi
      rw [b i hi, d i hi]
      have k1 := run_cl a.1
      by_cases q : t2.toNatClampNeg ≤ i ∧ i < t2.toNatClampNeg + n2.toNatClampNeg
      · rw [pk_cpy_in q.1 q.2, pk_cpy_in q.1 q.2]
        exact hT.2 _ (by omega)
      · rw [pk_cpy_out (by omega), pk_cpy_out (by omega)]
        exact hT.2 _ hi
    · exact absurd a c
  · rcases h2 with ⟨c, d⟩ | ⟨c, d⟩
    · exact absurd c a
    · rw [b, d]
      exact hT.2
theorem cl_add {r k x : Int32} (hr : Iv 0 12 r) (hk : Iv 0 12 k) (e : x = r + k) : x.toNatClampNeg = r.toNatClampNeg + k.toNatClampNeg := by
  have h := (congrArg Int32.toInt e).trans (ti_addc hr hk (by decide))
  show x.toInt.toNat = r.toInt.toNat + k.toInt.toNat
  unfold Iv at *
  omega
theorem mv_0 {m f : Nat → Int32} {r : Nat} : ∀ j : Nat, j < Int32.toNatClampNeg 0 → m j = f (r + j) := by
  rw [tz0]
  exact fun i h => absurd h (Nat.not_lt_zero _)
theorem mv_s {m m2 f : Nat → Int32} {r k x v z : Int32} (F : ∀ j : Nat, j < k.toNatClampNeg → m j = f (r.toNatClampNeg + j)) (hr : Iv 0 12 r) (hk : Iv 0 12 k) (ex : x = r + k) (ev : v = f x.toNatClampNeg) (em : m2 = upd m k.toNatClampNeg v) (ez : z = k + 1) : ∀ j : Nat, j < z.toNatClampNeg → m2 j = f (r.toNatClampNeg + j) := by
  rw [cl_s ez (iv_w hk (by decide))]
  intro j h
  rw [up_at em]
  by_cases q : j = k.toNatClampNeg
  · rw [if_pos q, ev, cl_add hr hk ex, q]
  · rw [if_neg q]
    exact F j (by omega)
theorem cw_0 {m f : Nat → Int32} {t : Nat} : ∀ j : Nat, f j = va_cpy m f 0 t (Int32.toNatClampNeg 0) j := by
  rw [tz0]
  intro j
  rw [pk_cpy_out (by omega)]
theorem cw_s {m f g g2 : Nat → Int32} {t k x v z : Int32} (F : ∀ j : Nat, g j = va_cpy m f 0 t.toNatClampNeg k.toNatClampNeg j) (ht : Iv 0 12 t) (hk : Iv 0 12 k) (ex : x = t + k) (ev : v = m k.toNatClampNeg) (em : g2 = upd g x.toNatClampNeg v) (ez : z = k + 1) : ∀ j : Nat, g2 j = va_cpy m f 0 t.toNatClampNeg z.toNatClampNeg j := by
  rw [cl_s ez (iv_w hk (by decide))]
  intro j
  rw [up_at em, cl_add ht hk ex]
  by_cases q : j = t.toNatClampNeg + k.toNatClampNeg
  · rw [if_pos q, ev, pk_cpy_in (by omega) (by omega)]
    congr 1
    omega
  · rw [if_neg q, F j]
    by_cases q2 : t.toNatClampNeg ≤ j ∧ j < t.toNatClampNeg + k.toNatClampNeg
    · rw [pk_cpy_in q2.1 q2.2, pk_cpy_in (by omega) (by omega)]
    · rw [pk_cpy_out (by omega), pk_cpy_out (by omega)]
theorem kn_0 {n : Int32} {b : Int} (h : Iv 0 b n) : Int32.toInt 0 ≤ n.toInt := by
  have e : Int32.toInt 0 = 0 := by decide +kernel
  unfold Iv at h
  omega
theorem kn_s {k n z : Int32} (hk : Iv 0 4095 k) (e : z = k + 1) (q : k.toInt < n.toInt) : z.toInt ≤ n.toInt := by
  have h := tia (k := 1) (c := 1) e hk (iv_k (by decide +kernel)) (by decide)
  omega
theorem cpyP_r {r t n k1 k2 : Int32} {m f g : Nat → Int32} (h1 : runP r n) (h2 : runP t n) (F : ∀ j : Nat, j < k1.toNatClampNeg → m j = f (r.toNatClampNeg + j)) (q1 : n.toInt ≤ k1.toInt) (G : ∀ j : Nat, g j = va_cpy m f 0 t.toNatClampNeg k2.toNatClampNeg j) (q2 : n.toInt ≤ k2.toInt) (q3 : k2.toInt ≤ n.toInt) : cpyP r t n f g := by
  refine Or.inl ⟨⟨h1, h2⟩, fun i _ => ?_⟩
  have e : k2 = n := Int32.toInt_inj.mp (by omega)
  subst e
  rw [G i]
  by_cases q : t.toNatClampNeg ≤ i ∧ i < t.toNatClampNeg + k2.toNatClampNeg
  · rw [pk_cpy_in q.1 q.2, pk_cpy_in q.1 q.2, Nat.zero_add]
    refine F _ ?_
    have h3 : k2.toNatClampNeg ≤ k1.toNatClampNeg := by
      show k2.toInt.toNat ≤ k1.toInt.toNat
      omega
    omega
  · rw [pk_cpy_out (by omega), pk_cpy_out (by omega)]
theorem ex_tr {x y a b : Int32} {F : Int32 → Int32} (h1 : x = F a) (h2 : y = F b) (e : b = a) : x = y := by rw [h1, h2, e]
theorem ex_tr3 {x y a b c a2 b2 c2 : Int32} {F : Int32 → Int32 → Int32 → Int32} (h1 : x = F a b c) (h2 : y = F a2 b2 c2) (e1 : a2 = a) (e2 : b2 = b) (e3 : c2 = c) : x = y := by rw [h1, h2, e1, e2, e3]
