
def apl (a b : va_W) : va_W := a ++ b
def nodeF (a : Int32) : Int32 := if 0 ≤ a.toInt ∧ a.toInt ≤ 12 then a else -1
theorem nodeF_lo {a : Int32} (q : a.toInt < Int32.toInt 0) : (-1 : Int32) = nodeF a := by
  have e : Int32.toInt 0 = 0 := by decide +kernel
  unfold nodeF
  rw [if_neg (by omega)]
theorem nodeF_hi {a : Int32} (q : Int32.toInt 12 < a.toInt) : (-1 : Int32) = nodeF a := by
  have e : Int32.toInt 12 = 12 := by decide +kernel
  unfold nodeF
  rw [if_neg (by omega)]
theorem nodeF_ok {a : Int32} (h : Iv 0 12 a) : a = nodeF a := by
  unfold nodeF
  rw [if_pos (show 0 ≤ a.toInt ∧ a.toInt ≤ 12 from h)]
theorem nodeF_no {a r : Int32} (e : r = if Int32.toInt 0 ≤ a.toInt ∧ a.toInt ≤ Int32.toInt 12 then 1 else 0) (h : r = 0) : (-1 : Int32) = nodeF a := by
  have e0 : Int32.toInt 0 = 0 := by decide +kernel
  have e1 : Int32.toInt 12 = 12 := by decide +kernel
  unfold nodeF
  rw [e0, e1] at e
  by_cases q : 0 ≤ a.toInt ∧ a.toInt ≤ 12
  · rw [if_pos q, h] at e
    exact absurd e (by decide)
  · rw [if_neg q]
theorem inx_t {v lo hi : Int32} (h1 : lo.toInt ≤ v.toInt) (h2 : v.toInt ≤ hi.toInt) : (1 : Int32) = if lo.toInt ≤ v.toInt ∧ v.toInt ≤ hi.toInt then 1 else 0 := by rw [if_pos ⟨h1, h2⟩]
theorem inx_l {v lo hi : Int32} (h : v.toInt < lo.toInt) : (0 : Int32) = if lo.toInt ≤ v.toInt ∧ v.toInt ≤ hi.toInt then 1 else 0 := by rw [if_neg (by omega)]
theorem inx_h {v lo hi : Int32} (h : hi.toInt < v.toInt) : (0 : Int32) = if lo.toInt ≤ v.toInt ∧ v.toInt ≤ hi.toInt then 1 else 0 := by rw [if_neg (by omega)]
theorem DR_z {n d : Int32} {f : Nat → Int32} (h : Iv 0 0 d) : DR n d f := by
  have e : d = 0 := d_eq h (iv_k (by decide +kernel))
  rw [e]
  exact DR_0
theorem sc_in {x i k : Int32} {K : Int} {L : Nat} (e : x = i + k) (hi : Iv 0 2044 i) (hk : Iv K K k) (q : (decide (0 ≤ K) && decide (K ≤ 3)) = true) (hL : i.toInt + 4 ≤ (L : Int)) : vp_in x L := by
  obtain ⟨q1, q2⟩ := k2 q
  have q1 := of_decide_eq_true q1
  have q2 := of_decide_eq_true q2
  have h := fb_addI (x := i) (y := k) (by unfold Iv at *; omega) (by unfold Iv at *; omega)
  rw [← e] at h
  unfold Iv at *
  exact vp_in_iff.mpr ⟨by omega, by omega⟩
theorem sc_i0 {i : Int32} {L : Nat} (hi : Iv 0 2044 i) (hL : i.toInt + 4 ≤ (L : Int)) : vp_in i L := by
  unfold Iv at hi
  exact vp_in_iff.mpr ⟨by omega, by omega⟩
theorem scr_eq {xs : Nat → Int32} {a a2 x x2 y : Int32} (h : a = xs x.toNatClampNeg) (h2 : a2 = xs x2.toNatClampNeg) (e : x = y) (e2 : x2 = y) : a2 = a := by rw [h, h2, e, e2]
theorem len_t {L : Nat} (h : L ≤ 2048) : (Int32.ofNat L).toInt = (L : Int) := nI_toInt (by omega)
theorem lw_step {i z : Int32} {L N : Nat} (hL : L ≤ 2048) (hi : Iv 0 2044 i) (h4 : i.toInt + 4 ≤ (L : Int)) (ez : z = i + 4) (hM : (2048 - i.toInt).toNat < N + 1) : Iv 0 2048 z ∧ (2048 - z.toInt).toNat < N := by
  have e := tia (k := 4) (c := 4) ez hi (iv_k (by decide +kernel)) (by decide)
  unfold Iv at *
  omega
theorem lw_go {i y len : Int32} {L : Nat} (hL : L ≤ 2048) (el : len = Int32.ofNat L) (ey : y = len - 4) (hi : Iv 0 2048 i) (q : i.toInt ≤ y.toInt) : Iv 0 2044 i ∧ i.toInt + 4 ≤ (L : Int) := by
  have h1 : len.toInt = (L : Int) := by rw [el]; exact len_t hL
  have h4 : (4 : Int32).toInt = 4 := by decide +kernel
  have h2 : y.toInt = len.toInt - 4 := by rw [ey, fb_subI (by rw [h4]; omega) (by rw [h4]; omega), h4]
  unfold Iv at *
  omega
def colF (c : Int32) : Int32 := if 8 < c.toInt then -1 else if c.toInt < 0 then -3 else c
theorem colF_hi {c : Int32} (q : Int32.toInt 8 < c.toInt) : (-1 : Int32) = colF c := by
  have e : Int32.toInt 8 = 8 := by decide +kernel
  unfold colF
  rw [if_pos (by omega)]
theorem colF_lo {c r : Int32} (q : c.toInt < Int32.toInt 0) (hr : r = -3) : r = colF c := by
  have e : Int32.toInt 0 = 0 := by decide +kernel
  unfold colF
  rw [if_neg (by omega), if_pos (by omega), hr]
theorem colF_ok {c : Int32} (h : Iv 0 8 c) : c = colF c := by
  unfold Iv at h
  unfold colF
  rw [if_neg (by omega), if_neg (by omega)]
def runP (r n : Int32) : Prop := 0 ≤ r.toInt ∧ 0 ≤ n.toInt ∧ r.toInt + n.toInt ≤ 12
theorem run_t {r n x : Int32} (hr : Iv 0 12 r) (hn : Iv 0 2147483647 n) (ex : x = 12 - r) (q : n.toInt ≤ x.toInt) : runP r n := by
  have h := (congrArg Int32.toInt ex).trans (ti_subc (iv_k (a := 12) (by decide +kernel)) hr (by decide))
  have e : (12 : Int32).toInt = 12 := by decide +kernel
  unfold Iv at *
  exact ⟨by omega, by omega, by omega⟩
theorem run_f {r n x : Int32} (hr : Iv 0 12 r) (ex : x = 12 - r) (q : x.toInt < n.toInt) : ¬ runP r n := by
  have h := (congrArg Int32.toInt ex).trans (ti_subc (iv_k (a := 12) (by decide +kernel)) hr (by decide))
  have e : (12 : Int32).toInt = 12 := by decide +kernel
  unfold Iv at *
  rintro ⟨h1, h2, h3⟩
  omega
theorem run_r {r n : Int32} (q : r.toInt < Int32.toInt 0) : ¬ runP r n := by
  have e : Int32.toInt 0 = 0 := by decide +kernel
  rintro ⟨h1, h2, h3⟩
  omega
theorem run_n {r n : Int32} (q : n.toInt < Int32.toInt 0) : ¬ runP r n := by
  have e : Int32.toInt 0 = 0 := by decide +kernel
  rintro ⟨h1, h2, h3⟩
  omega
theorem run_h {r n : Int32} (q : Int32.toInt 12 < r.toInt) : ¬ runP r n := by
  have e : Int32.toInt 12 = 12 := by decide +kernel
  rintro ⟨h1, h2, h3⟩
  omega
theorem run_s {r n : Int32} {a b c d : Int} (h : r.toInt + n.toInt ≤ 12) (hr : Iv 0 b r) (hn : Iv 0 d n) : runP r n := ⟨hr.1, hn.1, h⟩
theorem run_g {r n z : Int32} {l1 l2 y : Int64} (e1 : l1 = r.toInt64) (e2 : l2 = n.toInt64) (ey : y = l1 + l2) (ez : z = lg_cmp y 12) (h : Int32.toInt 0 < z.toInt) : ¬ runP r n := by
  have hr := i_rng r
  have hn := i_rng n
  rintro ⟨h1, h2, h3⟩
  have e12 : (12 : Int64).toInt = 12 := by decide +kernel
  have hs : y.toInt = r.toInt + n.toInt := by
    rw [ey, e1, e2]
    exact sum_ti (Int32.toInt_toInt64 n) (by omega) (by omega)
  have hg : ¬ 0 < lg_cmp y 12 := lg_ngt (by rw [e12, hs]; omega)
  rw [← ez, Int32.lt_iff_toInt_lt] at hg
  exact hg h

def copyF (r t n : Int32) : Int32 := if ((0 ≤ r.toInt ∧ 0 ≤ n.toInt ∧ r.toInt + n.toInt ≤ 12) ∧ (0 ≤ t.toInt ∧ 0 ≤ n.toInt ∧ t.toInt + n.toInt ≤ 12)) then 1 else -3
theorem copyF_t {r t n : Int32} (h1 : runP r n) (h2 : runP t n) : (1 : Int32) = copyF r t n := by
  unfold copyF
  rw [if_pos ⟨h1, h2⟩]
theorem copyF_1 {r t n x : Int32} (h : ¬ runP r n) (hx : x = -3) : x = copyF r t n := by
  unfold copyF
  rw [if_neg (fun q => h q.1), hx]
theorem copyF_2 {r t n x : Int32} (h : ¬ runP t n) (hx : x = -3) : x = copyF r t n := by
  unfold copyF
  rw [if_neg (fun q => h q.2), hx]
theorem up_at {f g : Nat → Int32} {j : Nat} {x : Int32} (e : g = upd f j x) (i : Nat) : g i = if i = j then x else f i := by rw [e]; rfl
theorem fil_0 {f : Nat → Int32} {v : Int32} : ∀ i : Nat, i < Int32.toNatClampNeg 0 → f i = v := by
  rw [tz0]
  exact fun i h => absurd h (Nat.not_lt_zero _)
theorem fil_s {f g : Nat → Int32} {v x z : Int32} (F : ∀ i : Nat, i < x.toNatClampNeg → f i = v) (hx : Iv 0 4095 x) (e : z = x + 1) (eg : g = upd f x.toNatClampNeg v) : ∀ i : Nat, i < z.toNatClampNeg → g i = v := by
  rw [cl_s e hx]
  intro i h
  rw [up_at eg]
  by_cases q : i = x.toNatClampNeg
  · rw [if_pos q]
  · rw [if_neg q]
    exact F i (by omega)
theorem fil_e {g : Nat → Int32} {v x : Int32} (F : ∀ i : Nat, i < x.toNatClampNeg → g i = v) (q : Int32.toInt 12 ≤ x.toInt) : ∀ i : Nat, i < 12 → g i = v := by
  have e : Int32.toInt 12 = 12 := by decide +kernel
  have h : (12 : Nat) ≤ x.toNatClampNeg := by show 12 ≤ x.toInt.toNat; omega
  exact fun i hi => F i (by omega)
def colP (k c w : Int32) (f : Nat → Int32) (w2 : Int32) (f2 : Nat → Int32) : Prop := ((0 ≤ c.toInt ∧ c.toInt ≤ 8) ∧ w2 = c ∧ ∀ i : Nat, i < 12 → f2 i = k) ∨ (¬ (0 ≤ c.toInt ∧ c.toInt ≤ 8) ∧ w2 = w ∧ f2 = f)
theorem colP_hi {k c w : Int32} {f : Nat → Int32} (q : Int32.toInt 8 < c.toInt) : colP k c w f w f := by
  have e : Int32.toInt 8 = 8 := by decide +kernel
  exact Or.inr ⟨by omega, rfl, rfl⟩
theorem colP_lo {k c w : Int32} {f : Nat → Int32} (q : c.toInt < Int32.toInt 0) : colP k c w f w f := by
  have e : Int32.toInt 0 = 0 := by decide +kernel
  exact Or.inr ⟨by omega, rfl, rfl⟩
theorem colP_ok {k c w w2 : Int32} {f f2 : Nat → Int32} (h : Iv 0 8 c) (hw : w2 = c) (hf : ∀ i : Nat, i < 12 → f2 i = k) : colP k c w f w2 f2 := Or.inl ⟨h, hw, hf⟩
def RR (a b : Int32) : Prop := (a = -1 ∧ b.toInt < 0) ∨ (a = b ∧ 0 ≤ b.toInt)
def TB (w : Int32) (f : Nat → Int32) (w2 : Int32) (g : Nat → Int32) : Prop := w = w2 ∧ ∀ i : Nat, i < 12 → RR (f i) (g i)
theorem m9_neg : (-9 : Int32).toInt < 0 := by decide +kernel
theorem TB_s {w w2 : Int32} {f g : Nat → Int32} (e : w = 0) (e2 : w2 = 0) (hf : ∀ i : Nat, i < 12 → f i = -1) (hg : ∀ i : Nat, i < 12 → g i = -9) : TB w f w2 g := by
  refine ⟨e.trans e2.symm, fun i hi => Or.inl ⟨hf i hi, ?_⟩⟩
  rw [hg i hi]
  exact m9_neg
theorem WB_col {c c2 w w2 v v2 : Int32} {f g f2 g2 : Nat → Int32} (hw : w = w2) (ec : c2 = c) (h1 : colP (-1) c w f v f2) (h2 : colP (-9) c2 w2 g v2 g2) : v = v2 := by
  subst ec
  rcases h1 with ⟨a, b, d⟩ | ⟨a, b, d⟩
  · rcases h2 with ⟨a2, b2, d2⟩ | ⟨a2, b2, d2⟩
    · rw [b, b2]
    · exact absurd a a2
  · rcases h2 with ⟨a2, b2, d2⟩ | ⟨a2, b2, d2⟩
    · exact absurd a2 a
    · rw [b, b2, hw]
theorem TB_col {c c2 w w2 v v2 : Int32} {f g f2 g2 : Nat → Int32} (hT : TB w f w2 g) (ec : c2 = c) (h1 : colP (-1) c w f v f2) (h2 : colP (-9) c2 w2 g v2 g2) : TB v f2 v2 g2 := by
  refine ⟨WB_col hT.1 ec h1 h2, ?_⟩
  subst ec
  rcases h1 with ⟨a, b, d⟩ | ⟨a, b, d⟩
  · rcases h2 with ⟨a2, b2, d2⟩ | ⟨a2, b2, d2⟩
    · intro i hi
      refine Or.inl ⟨d i hi, ?_⟩
      rw [d2 i hi]
      exact m9_neg
    · exact absurd a a2
  · rcases h2 with ⟨a2, b2, d2⟩ | ⟨a2, b2, d2⟩
    · exact absurd a2 a
    · rw [d, d2]
      exact hT.2
theorem inx_ne {r v lo hi : Int32} (e : r = if lo.toInt ≤ v.toInt ∧ v.toInt ≤ hi.toInt then 1 else 0) (h : ¬ r = 0) : lo.toInt ≤ v.toInt ∧ v.toInt ≤ hi.toInt := by
  by_cases q : lo.toInt ≤ v.toInt ∧ v.toInt ≤ hi.toInt
  · exact q
  · rw [if_neg q] at e
    exact absurd e h
theorem inx_eq {r v lo hi : Int32} (e : r = if lo.toInt ≤ v.toInt ∧ v.toInt ≤ hi.toInt then 1 else 0) (h : r = 0) : ¬ (lo.toInt ≤ v.toInt ∧ v.toInt ≤ hi.toInt) := by
  intro q
  rw [if_pos q, h] at e
  exact absurd e (by decide)
theorem hpl_t {a : Int32} (h : Iv 0 11 a) : (1 : Int32) = if Int32.toInt 0 ≤ a.toInt ∧ a.toInt ≤ Int32.toInt 11 then 1 else 0 := by
  have e0 : Int32.toInt 0 = 0 := by decide +kernel
  have e1 : Int32.toInt 11 = 11 := by decide +kernel
  unfold Iv at h
  rw [if_pos ⟨by omega, by omega⟩]
theorem hpl_l {a : Int32} (h : a.toInt < Int32.toInt 0) : (0 : Int32) = if Int32.toInt 0 ≤ a.toInt ∧ a.toInt ≤ Int32.toInt 11 then 1 else 0 := by rw [if_neg (by omega)]
theorem hpl_h {a : Int32} (h : Int32.toInt 12 ≤ a.toInt) : (0 : Int32) = if Int32.toInt 0 ≤ a.toInt ∧ a.toInt ≤ Int32.toInt 11 then 1 else 0 := by
  have e0 : Int32.toInt 12 = 12 := by decide +kernel
  have e1 : Int32.toInt 11 = 11 := by decide +kernel
  rw [if_neg (by omega)]
def plP (r : Int32) : Prop := Int32.toInt 0 ≤ r.toInt ∧ r.toInt ≤ Int32.toInt 11
def bitP (b w : Int32) : Prop := 0 ≤ b.toInt ∧ b.toInt < ((1 : Int32) <<< (w &&& 31)).toInt
theorem bit_lo {b w : Int32} (q : b.toInt < Int32.toInt 0) : ¬ bitP b w := by
  have e : Int32.toInt 0 = 0 := by decide +kernel
  exact fun h => absurd h.1 (by omega)
theorem bit_hi {b w x : Int32} (e : x = (1 : Int32) <<< (w &&& 31)) (q : x.toInt ≤ b.toInt) : ¬ bitP b w := by
  rw [e] at q
  exact fun h => absurd h.2 (by omega)
theorem bit_ok {b w x : Int32} {d : Int} (h : Iv 0 d b) (e : x = (1 : Int32) <<< (w &&& 31)) (q : b.toInt < x.toInt) : bitP b w := by
  rw [e] at q
  exact ⟨h.1, q⟩
theorem bit_r {b w x y : Int32} (e : x = (1 : Int32) <<< (w &&& 31)) (hx : Iv 1 256 x) (ey : y = x - 1) (h : Int32.toInt 0 ≤ b.toInt ∧ b.toInt ≤ y.toInt) : bitP b w := by
  have e0 : Int32.toInt 0 = 0 := by decide +kernel
  have e1 : Int32.toInt 1 = 1 := by decide +kernel
  have h2 := (congrArg Int32.toInt ey).trans (ti_subc hx (iv_k (a := 1) (by decide +kernel)) (by decide))
  refine ⟨by omega, ?_⟩
  rw [← e]
  omega
theorem bit_rn {b w x y : Int32} (e : x = (1 : Int32) <<< (w &&& 31)) (hx : Iv 1 256 x) (ey : y = x - 1) (h : ¬ (Int32.toInt 0 ≤ b.toInt ∧ b.toInt ≤ y.toInt)) : ¬ bitP b w := by
  have e0 : Int32.toInt 0 = 0 := by decide +kernel
  have e1 : Int32.toInt 1 = 1 := by decide +kernel
  have h2 := (congrArg Int32.toInt ey).trans (ti_subc hx (iv_k (a := 1) (by decide +kernel)) (by decide))
  intro q
  have q2 := q.2
  rw [← e] at q2
  exact h ⟨by have := q.1; omega, by omega⟩
def rowP (r b w : Int32) (f f2 : Nat → Int32) (x : Int32) : Prop := (¬ bitP b w ∧ x = -1 ∧ f2 = f) ∨ (bitP b w ∧ ¬ plP r ∧ x = -3 ∧ f2 = f) ∨ (bitP b w ∧ plP r ∧ x = 1 ∧ f2 = upd f r.toNatClampNeg b)
theorem rowP_1 {r b w : Int32} {f : Nat → Int32} (h : ¬ bitP b w) : rowP r b w f f (-1) := Or.inl ⟨h, rfl, rfl⟩
theorem rowP_2 {r b w x : Int32} {f : Nat → Int32} (h : bitP b w) (h2 : ¬ plP r) (hx : x = -3) : rowP r b w f f x := Or.inr (Or.inl ⟨h, h2, hx, rfl⟩)
theorem rowP_3 {r b w : Int32} {f f2 : Nat → Int32} (h : bitP b w) (h2 : plP r) (e : f2 = upd f r.toNatClampNeg b) : rowP r b w f f2 1 := Or.inr (Or.inr ⟨h, h2, rfl, e⟩)
theorem row_eq {r b r2 b2 w w2 x y : Int32} {f g f2 g2 : Nat → Int32} (hw : w = w2) (er : r2 = r) (eb : b2 = b) (h1 : rowP r b w f f2 x) (h2 : rowP r2 b2 w2 g g2 y) : x = y := by
  subst er
  subst eb
  subst hw
  rcases h1 with ⟨a, c, d⟩ | ⟨a, a', c, d⟩ | ⟨a, a', c, d⟩ <;> rcases h2 with ⟨p, q, s⟩ | ⟨p, p', q, s⟩ | ⟨p, p', q, s⟩ <;> first | (exact c.trans q.symm) | (exact absurd p a) | (exact absurd a p) | (exact absurd p' a') | (exact absurd a' p')
theorem RR_up {f g f2 g2 : Nat → Int32} {j : Nat} {x y : Int32} (h : ∀ i : Nat, i < 12 → RR (f i) (g i)) (e : f2 = upd f j x) (e2 : g2 = upd g j y) (hx : RR x y) : ∀ i : Nat, i < 12 → RR (f2 i) (g2 i) := by
  intro i hi
  rw [up_at e, up_at e2]
  by_cases q : i = j
  · rw [if_pos q, if_pos q]
    exact hx
  · rw [if_neg q, if_neg q]
    exact h i hi
theorem TB_row {r b r2 b2 w w2 x y : Int32} {f g f2 g2 : Nat → Int32} (hT : TB w f w2 g) (er : r2 = r) (eb : b2 = b) (h1 : rowP r b w f f2 x) (h2 : rowP r2 b2 w2 g g2 y) : TB w f2 w2 g2 := by
  obtain ⟨hw, hR⟩ := hT
  refine ⟨hw, ?_⟩
  subst er
  subst eb
  subst hw
  rcases h1 with ⟨a, c, d⟩ | ⟨a, a', c, d⟩ | ⟨a, a', c, d⟩ <;> rcases h2 with ⟨p, q, s⟩ | ⟨p, p', q, s⟩ | ⟨p, p', q, s⟩ <;> first | (rw [d, s]; exact hR) | (exact absurd p a) | (exact absurd a p) | (exact absurd p' a') | (exact absurd a' p') | (exact RR_up hR d s (Or.inr ⟨rfl, a.1⟩))
def hasP (r : Int32) (f : Nat → Int32) : Prop := plP r ∧ 0 ≤ (f r.toNatClampNeg).toInt
theorem has_no {r : Int32} {f : Nat → Int32} (h : ¬ plP r) : ¬ hasP r f := fun q => h q.1
theorem has_m {r x : Int32} {f : Nat → Int32} (e : x = f r.toNatClampNeg) (h : Iv (-1) (-1) x) : ¬ hasP r f := by
  intro q
  have q2 := q.2
  rw [← e] at q2
  unfold Iv at h
  omega
theorem has_n {r x : Int32} {f : Nat → Int32} (e : x = f r.toNatClampNeg) (h : x.toInt < Int32.toInt 0) : ¬ hasP r f := by
  have e0 : Int32.toInt 0 = 0 := by decide +kernel
  intro q
  have q2 := q.2
  rw [← e] at q2
  omega
theorem has_y {r x : Int32} {f : Nat → Int32} {d : Int} (hp : plP r) (e : x = f r.toNatClampNeg) (h : Iv 0 d x) : hasP r f := ⟨hp, by rw [← e]; exact h.1⟩
theorem pl_iv {r : Int32} (h : Iv 0 11 r) : plP r := by
  have e0 : Int32.toInt 0 = 0 := by decide +kernel
  have e1 : Int32.toInt 11 = 11 := by decide +kernel
  unfold Iv at h
  exact ⟨by omega, by omega⟩
theorem pl_lt {r : Int32} (h : plP r) : r.toNatClampNeg < 12 := by
  have e0 : Int32.toInt 0 = 0 := by decide +kernel
  have e1 : Int32.toInt 11 = 11 := by decide +kernel
  obtain ⟨h1, h2⟩ := h
  show r.toInt.toNat < 12
  omega
theorem has_iff {r : Int32} {w w2 : Int32} {f g : Nat → Int32} (hT : TB w f w2 g) : hasP r f ↔ hasP r g := by
  refine ⟨fun ⟨a, b⟩ => ⟨a, ?_⟩, fun ⟨a, b⟩ => ⟨a, ?_⟩⟩
  · rcases hT.2 _ (pl_lt a) with ⟨c, d⟩ | ⟨c, d⟩
    · rw [c] at b
      exact absurd b (by decide +kernel)
    · exact d
  · rcases hT.2 _ (pl_lt a) with ⟨c, d⟩ | ⟨c, d⟩
    · exact absurd b (by omega)
    · rw [c]
      exact d
def tolP (r : Int32) (f : Nat → Int32) (x : Int32) : Prop := (¬ hasP r f ∧ x = -3) ∨ (hasP r f ∧ x = f r.toNatClampNeg)
theorem tol_eq {r r2 w w2 x y : Int32} {f g : Nat → Int32} (hT : TB w f w2 g) (er : r2 = r) (h1 : tolP r f x) (h2 : tolP r2 g y) : x = y := by
  subst er
  rcases h1 with ⟨a, b⟩ | ⟨a, b⟩
  · rcases h2 with ⟨c, d⟩ | ⟨c, d⟩
    · rw [b, d]
    · exact absurd ((has_iff hT).mpr c) a
  · rcases h2 with ⟨c, d⟩ | ⟨c, d⟩
    · exact absurd ((has_iff hT).mp a) c
    · rw [b, d]
      rcases hT.2 _ (pl_lt a.1) with ⟨p, q⟩ | ⟨p, q⟩
      · have := c.2
        omega
      · exact p
def teaP (k r : Int32) (f f2 : Nat → Int32) (x : Int32) : Prop := (¬ hasP r f ∧ x = -3 ∧ f2 = f) ∨ (hasP r f ∧ x = 1 ∧ f2 = upd f r.toNatClampNeg k)
theorem teaP_1 {k r x : Int32} {f : Nat → Int32} (h : ¬ hasP r f) (hx : x = -3) : teaP k r f f x := Or.inl ⟨h, hx, rfl⟩
theorem teaP_2 {k r : Int32} {f f2 : Nat → Int32} (h : hasP r f) (e : f2 = upd f r.toNatClampNeg k) : teaP k r f f2 1 := Or.inr ⟨h, rfl, e⟩
theorem tea_eq {r r2 w w2 x y : Int32} {f g f2 g2 : Nat → Int32} (hT : TB w f w2 g) (er : r2 = r) (h1 : teaP (-1) r f f2 x) (h2 : teaP (-9) r2 g g2 y) : x = y ∧ TB w f2 w2 g2 := by
  subst er
  rcases h1 with ⟨a, b, e⟩ | ⟨a, b, e⟩
  · rcases h2 with ⟨c, d, e2⟩ | ⟨c, d, e2⟩
    · rw [b, d, e, e2]
      exact ⟨rfl, hT⟩
    · exact absurd ((has_iff hT).mpr c) a
  · rcases h2 with ⟨c, d, e2⟩ | ⟨c, d, e2⟩
    · exact absurd ((has_iff hT).mp a) c
    · refine ⟨b.trans d.symm, hT.1, RR_up hT.2 e e2 (Or.inl ⟨rfl, m9_neg⟩)⟩
def cpyP (r t n : Int32) (f f2 : Nat → Int32) : Prop := ((runP r n ∧ runP t n) ∧ ∀ i : Nat, i < 12 → f2 i = va_cpy f f r.toNatClampNeg t.toNatClampNeg n.toNatClampNeg i) ∨ (¬ (runP r n ∧ runP t n) ∧ f2 = f)
theorem cpyP_t {r t n : Int32} {f f2 : Nat → Int32} (h1 : runP r n) (h2 : runP t n) (e : f2 = va_cpy f f r.toNatClampNeg t.toNatClampNeg n.toNatClampNeg) : cpyP r t n f f2 := Or.inl ⟨⟨h1, h2⟩, fun i _ => by rw [e]⟩
theorem cpyP_1 {r t n : Int32} {f : Nat → Int32} (h : ¬ runP r n) : cpyP r t n f f := Or.inr ⟨fun q => h q.1, rfl⟩
theorem cpyP_2 {r t n : Int32} {f : Nat → Int32} (h : ¬ runP t n) : cpyP r t n f f := Or.inr ⟨fun q => h q.2, rfl⟩
theorem run_cl {r n : Int32} (h : runP r n) : r.toNatClampNeg + n.toNatClampNeg ≤ 12 := by
  obtain ⟨h1, h2, h3⟩ := h
  show r.toInt.toNat + n.toInt.toNat ≤ 12
  omega
theorem TB_cpy {r t n r2 t2 n2 w w2 : Int32} {f g f2 g2 : Nat → Int32} (hT : TB w f w2 g) (er : r2 = r) (et : t2 = t) (en : n2 = n) (h1 : cpyP r t n f f2) (h2 : cpyP r2 t2 n2 g g2) : TB w f2 w2 g2 := by
  subst er
  subst et
  subst en
  refine ⟨hT.1, ?_⟩
  rcases h1 with ⟨a, b⟩ | ⟨a, b⟩
  · rcases h2 with ⟨c, d⟩ | ⟨c, d⟩
    · intro i hi
      rw [b i hi, d i hi]
      have k1 := run_cl a.1
      by_cases q : t2.toNatClampNeg ≤ i ∧ i < t2.toNatClampNeg + n2.toNatClampNeg
      · rw [pk_cpy_in q.1 q.2, pk_cpy_in q.1 q.2]
        exact hT.2 _ (by omega)
      · rw [pk_cpy_out (by omega), pk_cpy_out (by omega)]
        exact hT.2 _ hi
    · exact absurd a c
  · rcases h2 with ⟨c, d⟩ | ⟨c, d⟩
    · exact absurd c a
    · rw [b, d]
      exact hT.2
theorem cl_add {r k x : Int32} (hr : Iv 0 12 r) (hk : Iv 0 12 k) (e : x = r + k) : x.toNatClampNeg = r.toNatClampNeg + k.toNatClampNeg := by
  have h := (congrArg Int32.toInt e).trans (ti_addc hr hk (by decide))
  show x.toInt.toNat = r.toInt.toNat + k.toInt.toNat
  unfold Iv at *
  omega
theorem mv_0 {m f : Nat → Int32} {r : Nat} : ∀ j : Nat, j < Int32.toNatClampNeg 0 → m j = f (r + j) := by
  rw [tz0]
  exact fun i h => absurd h (Nat.not_lt_zero _)
theorem mv_s {m m2 f : Nat → Int32} {r k x v z : Int32} (F : ∀ j : Nat, j < k.toNatClampNeg → m j = f (r.toNatClampNeg + j)) (hr : Iv 0 12 r) (hk : Iv 0 12 k) (ex : x = r + k) (ev : v = f x.toNatClampNeg) (em : m2 = upd m k.toNatClampNeg v) (ez : z = k + 1) : ∀ j : Nat, j < z.toNatClampNeg → m2 j = f (r.toNatClampNeg + j) := by
  rw [cl_s ez (iv_w hk (by decide))]
  intro j h
  rw [up_at em]
  by_cases q : j = k.toNatClampNeg
  · rw [if_pos q, ev, cl_add hr hk ex, q]
  · rw [if_neg q]
    exact F j (by omega)
theorem cw_0 {m f : Nat → Int32} {t : Nat} : ∀ j : Nat, f j = va_cpy m f 0 t (Int32.toNatClampNeg 0) j := by
  rw [tz0]
  intro j
  rw [pk_cpy_out (by omega)]
theorem cw_s {m f g g2 : Nat → Int32} {t k x v z : Int32} (F : ∀ j : Nat, g j = va_cpy m f 0 t.toNatClampNeg k.toNatClampNeg j) (ht : Iv 0 12 t) (hk : Iv 0 12 k) (ex : x = t + k) (ev : v = m k.toNatClampNeg) (em : g2 = upd g x.toNatClampNeg v) (ez : z = k + 1) : ∀ j : Nat, g2 j = va_cpy m f 0 t.toNatClampNeg z.toNatClampNeg j := by
  rw [cl_s ez (iv_w hk (by decide))]
  intro j
  rw [up_at em, cl_add ht hk ex]
  by_cases q : j = t.toNatClampNeg + k.toNatClampNeg
  · rw [if_pos q, ev, pk_cpy_in (by omega) (by omega)]
    congr 1
    omega
  · rw [if_neg q, F j]
    by_cases q2 : t.toNatClampNeg ≤ j ∧ j < t.toNatClampNeg + k.toNatClampNeg
    · rw [pk_cpy_in q2.1 q2.2, pk_cpy_in (by omega) (by omega)]
    · rw [pk_cpy_out (by omega), pk_cpy_out (by omega)]
theorem kn_0 {n : Int32} {b : Int} (h : Iv 0 b n) : Int32.toInt 0 ≤ n.toInt := by
  have e : Int32.toInt 0 = 0 := by decide +kernel
  unfold Iv at h
  omega
theorem kn_s {k n z : Int32} (hk : Iv 0 4095 k) (e : z = k + 1) (q : k.toInt < n.toInt) : z.toInt ≤ n.toInt := by
  have h := tia (k := 1) (c := 1) e hk (iv_k (by decide +kernel)) (by decide)
  omega
theorem cpyP_r {r t n k1 k2 : Int32} {m f g : Nat → Int32} (h1 : runP r n) (h2 : runP t n) (F : ∀ j : Nat, j < k1.toNatClampNeg → m j = f (r.toNatClampNeg + j)) (q1 : n.toInt ≤ k1.toInt) (G : ∀ j : Nat, g j = va_cpy m f 0 t.toNatClampNeg k2.toNatClampNeg j) (q2 : n.toInt ≤ k2.toInt) (q3 : k2.toInt ≤ n.toInt) : cpyP r t n f g := by
  refine Or.inl ⟨⟨h1, h2⟩, fun i _ => ?_⟩
  have e : k2 = n := Int32.toInt_inj.mp (by omega)
  subst e
  rw [G i]
  by_cases q : t.toNatClampNeg ≤ i ∧ i < t.toNatClampNeg + k2.toNatClampNeg
  · rw [pk_cpy_in q.1 q.2, pk_cpy_in q.1 q.2, Nat.zero_add]
    refine F _ ?_
    have h3 : k2.toNatClampNeg ≤ k1.toNatClampNeg := by
      show k2.toInt.toNat ≤ k1.toInt.toNat
      omega
    omega
  · rw [pk_cpy_out (by omega), pk_cpy_out (by omega)]
theorem ex_tr {x y a b : Int32} {F : Int32 → Int32} (h1 : x = F a) (h2 : y = F b) (e : b = a) : x = y := by rw [h1, h2, e]
theorem ex_tr3 {x y a b c a2 b2 c2 : Int32} {F : Int32 → Int32 → Int32 → Int32} (h1 : x = F a b c) (h2 : y = F a2 b2 c2) (e1 : a2 = a) (e2 : b2 = b) (e3 : c2 = c) : x = y := by rw [h1, h2, e1, e2, e3]
noncomputable def pick (p : Prop) (x : Nat) : Nat := @ite Nat p (Classical.propDecidable p) x 0
theorem pick_t {p : Prop} {x : Nat} (h : p) : pick p x = x := by unfold pick; rw [if_pos h]
theorem pick_f {p : Prop} {x : Nat} (h : ¬ p) : pick p x = 0 := by unfold pick; rw [if_neg h]
theorem pick_c {p q : Prop} {x y : Nat} (h : p ↔ q) (e : p → x = y) : pick p x = pick q y := by
  by_cases k : p
  · rw [pick_t k, pick_t (h.mp k), e k]
  · rw [pick_f k, pick_f (fun z => k (h.mpr z))]
def sumN (F : Nat → Nat) : Nat → Nat
  | 0 => 0
  | n + 1 => sumN F n + F n
theorem sumN_c {F G : Nat → Nat} : ∀ {n : Nat}, (∀ k, k < n → F k = G k) → sumN F n = sumN G n
  | 0, _ => rfl
  | n + 1, h => by
    unfold sumN
    rw [sumN_c (n := n) (fun k q => h k (by omega)), h n (by omega)]
theorem sumN_le {F : Nat → Nat} {b : Nat} : ∀ {n : Nat}, (∀ k, k < n → F k ≤ b) → sumN F n ≤ n * b
  | 0, _ => by unfold sumN; omega
  | n + 1, h => by
    have h1 := sumN_le (n := n) (fun k q => h k (by omega))
    have h2 := h n (by omega)
    unfold sumN
    rw [Nat.succ_mul]
    omega
def ins (S : Nat → Bool) (c : Nat) : Nat → Bool := fun i => S i || decide (i = c)
theorem ins_at (S : Nat → Bool) (c : Nat) : ins S c c = true := by unfold ins; rw [decide_eq_true rfl, Bool.or_true]
theorem ins_ne {S : Nat → Bool} {c i : Nat} (h : i ≠ c) : ins S c i = S i := by unfold ins; rw [decide_eq_false h, Bool.or_false]
noncomputable def Bk (ok : (Nat → Bool) → Nat → Prop) (w : Nat) : Nat → (Nat → Bool) → Nat
  | 0, _ => 1
  | n + 1, S => sumN (fun c => pick (S c = false ∧ ok S c) (Bk ok w n (ins S c))) w
noncomputable def VV (ok : (Nat → Bool) → Nat → Prop) (w : Nat) (S : Nat → Bool) : Nat := Bk ok w (w - fb_ct S w) S
theorem Bk_c {ok ok2 : (Nat → Bool) → Nat → Prop} {w : Nat} (h : ∀ S c, c < w → S c = false → (ok S c ↔ ok2 S c)) : ∀ (n : Nat) (S : Nat → Bool), Bk ok w n S = Bk ok2 w n S
  | 0, _ => rfl
  | n + 1, S => by
    unfold Bk
    refine sumN_c (fun c hc => pick_c ⟨fun q => ⟨q.1, (h S c hc q.1).mp q.2⟩, fun q => ⟨q.1, (h S c hc q.1).mpr q.2⟩⟩ (fun _ => Bk_c h n _))
theorem VV_c {ok ok2 : (Nat → Bool) → Nat → Prop} {w : Nat} (h : ∀ S c, c < w → S c = false → (ok S c ↔ ok2 S c)) (S : Nat → Bool) : VV ok w S = VV ok2 w S := Bk_c h _ S
theorem Bk_le {ok : (Nat → Bool) → Nat → Prop} {w : Nat} : ∀ (n : Nat) (S : Nat → Bool), Bk ok w n S ≤ w ^ n
  | 0, _ => by unfold Bk; exact Nat.le_refl 1
  | n + 1, S => by
    unfold Bk
    rw [Nat.pow_succ, Nat.mul_comm]
    refine sumN_le (fun c _ => ?_)
    by_cases q : S c = false ∧ ok S c
    · rw [pick_t q]
      exact Bk_le n _
    · rw [pick_f q]
      exact Nat.zero_le _
theorem VV_le {ok : (Nat → Bool) → Nat → Prop} {w : Nat} (hw : w ≤ 12) (S : Nat → Bool) : VV ok w S ≤ 12 ^ w := by
  unfold VV
  refine Nat.le_trans (Bk_le _ _) (Nat.le_trans (Nat.pow_le_pow_left hw _) (Nat.pow_le_pow_right (by decide) (by omega)))
theorem ct_ins {S : Nat → Bool} {c w : Nat} (hc : c < w) (h : S c = false) : fb_ct (ins S c) w = fb_ct S w + 1 := by
  have e : fb_ct (ins S c) w = fb_ct (fun k => if k = c then true else S k) w := fb_ct_cong (fun k _ => by
    by_cases q : k = c
    · rw [if_pos q, q, ins_at]
    · rw [if_neg q, ins_ne q])
  have h2 := fb_ct_upd S true (i := c) (n := w) hc
  rw [h] at h2
  rw [e]
  simpa using h2
theorem VV_full {ok : (Nat → Bool) → Nat → Prop} {w : Nat} {S : Nat → Bool} (h : ∀ c, c < w → S c = true) : VV ok w S = 1 := by
  unfold VV
  rw [fb_ct_all.mpr h, Nat.sub_self]
  rfl
theorem VV_step {ok : (Nat → Bool) → Nat → Prop} {w : Nat} {S : Nat → Bool} {d : Nat} (hd : d < w) (h : S d = false) : VV ok w S = sumN (fun c => pick (S c = false ∧ ok S c) (VV ok w (ins S c))) w := by
  have h1 : fb_ct S w < w := by
    rcases Nat.lt_or_ge (fb_ct S w) w with q | q
    · exact q
    · have := fb_ct_all.mp (Nat.le_antisymm (fb_ct_le S w) q) d hd
      rw [h] at this
      exact absurd this (by decide)
  obtain ⟨m, e⟩ : ∃ m, w - fb_ct S w = m + 1 := ⟨w - fb_ct S w - 1, by omega⟩
  unfold VV
  rw [e]
  show sumN _ w = _
  refine sumN_c (fun c hc => pick_c Iff.rfl (fun q => ?_))
  have e2 : w - fb_ct (ins S c) w = m := by rw [ct_ins hc q.1]; omega
  rw [e2]
/-- which row has which column -/
def TT (f : Nat → Int32) (r c : Nat) : Prop := r < 12 ∧ 0 ≤ (f r).toInt ∧ bt (f r) c = true
def WL (T : Nat → Nat → Prop) (w : Nat) (S : Nat → Bool) (c : Nat) : Prop := ∀ r, (∃ k, k < w ∧ T r k ∧ S k = true) → (∃ k, k < w ∧ T r k ∧ S k = false) → T r c
def okR (T : Nat → Nat → Prop) (w : Nat) (S : Nat → Bool) (c : Nat) : Prop := WL T w (ins S c) c
noncomputable def cnt (w : Nat) (f : Nat → Int32) : Nat := VV (okR (TT f) w) w (fun _ => false)
/-- the class's rows -/
def okS (sr : Nat → Int32) (n : Nat) (S : Nat → Bool) (c : Nat) : Prop := ∀ i, i < n → (∃ k, bt (sr i) k = true ∧ S k = true) → (∃ k, bt (sr i) k = true ∧ S k = false) → bt (sr i) c = true
def RB (w : Nat) (f : Nat → Int32) : Prop := ∀ r, r < 12 → 0 ≤ (f r).toInt → ∀ k, bt (f r) k = true → k < w
def SR (f sr : Nat → Int32) (m n : Nat) : Prop := (∀ i, i < n → ∃ r, r < m ∧ 0 ≤ (f r).toInt ∧ sr i = f r) ∧ (∀ r, r < m → 0 ≤ (f r).toInt → ∃ i, i < n ∧ sr i = f r)
theorem ok_eq {w n : Nat} {f sr : Nat → Int32} (hB : RB w f) (hR : SR f sr 12 n) (S : Nat → Bool) (c : Nat) (hc : S c = false) : okS sr n S c ↔ okR (TT f) w S c := by
  constructor
  · intro h r hb hu
    obtain ⟨k, hk, ⟨hr, h0, hT⟩, hS⟩ := hb
    by_cases q : bt (f r) c = true
    · exact ⟨hr, h0, q⟩
    · obtain ⟨i, hi, e⟩ := hR.2 r hr h0
      refine ⟨hr, h0, ?_⟩
      rw [← e]
      refine h i hi ⟨k, by rw [e]; exact hT, ?_⟩ ?_
      · by_cases z : k = c
        · rw [z] at hT
          exact absurd hT q
        · rw [ins_ne z] at hS
          exact hS
      · obtain ⟨j, hj, ⟨_, _, hT2⟩, hS2⟩ := hu
        refine ⟨j, by rw [e]; exact hT2, ?_⟩
        by_cases z : j = c
        · rw [z, ins_at] at hS2
          exact absurd hS2 (by decide)
        · rw [ins_ne z] at hS2
          exact hS2
  · intro h i hi hb hu
    obtain ⟨r, hr, h0, e⟩ := hR.1 i hi
    rw [e]
    rw [e] at hb hu
    by_cases q : bt (f r) c = true
    · exact q
    · obtain ⟨k, hT, hS⟩ := hb
      obtain ⟨j, hT2, hS2⟩ := hu
      refine (h r ⟨k, hB r hr h0 k hT, ⟨hr, h0, hT⟩, ?_⟩ ⟨j, hB r hr h0 j hT2, ⟨hr, h0, hT2⟩, ?_⟩).2.2
      · by_cases z : k = c
        · rw [z] at hT
          exact absurd hT q
        · rw [ins_ne z]
          exact hS
      · by_cases z : j = c
        · rw [z] at hT2
          exact absurd hT2 q
        · rw [ins_ne z]
          exact hS2
theorem cnt_eq {w n : Nat} {f sr : Nat → Int32} (hB : RB w f) (hR : SR f sr 12 n) : VV (okS sr n) w (fun _ => false) = cnt w f := VV_c (fun S c _ h => ok_eq hB hR S c h) _
theorem TT_eq {w w2 : Int32} {f g : Nat → Int32} (hT : TB w f w2 g) : TT f = TT g := by
  funext r c
  apply propext
  constructor
  · rintro ⟨hr, h0, h1⟩
    rcases hT.2 r hr with ⟨a, b⟩ | ⟨a, b⟩
    · rw [a] at h0
      exact absurd h0 (by decide +kernel)
    · rw [a] at h1
      exact ⟨hr, b, h1⟩
  · rintro ⟨hr, h0, h1⟩
    rcases hT.2 r hr with ⟨a, b⟩ | ⟨a, b⟩
    · omega
    · refine ⟨hr, by rw [a]; exact b, by rw [a]; exact h1⟩
/-- sums of the machine's numbers -/
def sI (F : Nat → Int32) : Nat → Int32
  | 0 => 0
  | n + 1 => sI F n + F n
theorem sI_c {F G : Nat → Int32} : ∀ {n : Nat}, (∀ k, k < n → F k = G k) → sI F n = sI G n
  | 0, _ => rfl
  | n + 1, h => by
    unfold sI
    rw [sI_c (n := n) (fun k q => h k (by omega)), h n (by omega)]
theorem sI_N {F : Nat → Nat} : ∀ (n : Nat), sI (fun k => Int32.ofNat (F k)) n = Int32.ofNat (sumN F n)
  | 0 => rfl
  | n + 1 => by
    unfold sI sumN
    rw [sI_N n, Int32.ofNat_add]
theorem sI_z {F : Nat → Int32} : ∀ {n : Nat}, (∀ k, k < n → F k = 0) → sI F n = 0
  | 0, _ => rfl
  | n + 1, h => by
    unfold sI
    rw [sI_z (n := n) (fun k q => h k (by omega)), h n (by omega)]
    rfl
theorem sI_up {F G : Nat → Int32} {t : Nat} {d : Int32} (ht : G t = F t + d) : ∀ {n : Nat}, (∀ k, k < n → k ≠ t → G k = F k) → t < n → sI G n = sI F n + d
  | 0, _, h => absurd h (Nat.not_lt_zero _)
  | n + 1, ho, h => by
    unfold sI
    by_cases q : n = t
    · rw [q, ht, sI_c (n := t) (F := G) (G := F) (fun k z => ho k (by omega) (by omega))]
      rw [Int32.add_assoc]
    · rw [ho n (by omega) q, sI_up ht (n := n) (fun k z => ho k (by omega)) (by omega), Int32.add_assoc, Int32.add_comm d, Int32.add_assoc]
noncomputable def Vn (ok : (Nat → Bool) → Nat → Prop) (w n : Nat) : Int32 := Int32.ofNat (VV ok w (bt (nI n)))
noncomputable def FS (ok : (Nat → Bool) → Nat → Prop) (w N : Nat) (nt : Nat → Int32) (s : Nat) : Int32 := sI (fun n => if s ≤ n then nt n * Vn ok w n else 0) N
theorem FS_split {ok : (Nat → Bool) → Nat → Prop} {w N s : Nat} {nt : Nat → Int32} (h : s < N) : FS ok w N nt s = FS ok w N nt (s + 1) + nt s * Vn ok w s := by
  unfold FS
  refine sI_up (t := s) ?_ (fun k _ q => ?_) h
  · rw [if_pos (Nat.le_refl s), if_neg (by omega), Int32.zero_add]
  · by_cases z : s ≤ k
    · rw [if_pos z, if_pos (by omega)]
    · rw [if_neg z, if_neg (by omega)]
theorem FS_end {ok : (Nat → Bool) → Nat → Prop} {w N : Nat} {nt : Nat → Int32} : FS ok w N nt N = 0 := by
  unfold FS
  exact sI_z (fun k h => if_neg (by omega))
theorem FS_last {ok : (Nat → Bool) → Nat → Prop} {w s : Nat} {nt : Nat → Int32} : FS ok w (s + 1) nt s = nt s * Vn ok w s := by
  rw [FS_split (Nat.lt_succ_self s), FS_end, Int32.zero_add]
theorem FS_upd {ok : (Nat → Bool) → Nat → Prop} {w N s t : Nat} {nt nt2 : Nat → Int32} {d : Int32} (e : nt2 = upd nt t (nt t + d)) (hs : s ≤ t) (ht : t < N) : FS ok w N nt2 s = FS ok w N nt s + d * Vn ok w t := by
  unfold FS
  refine sI_up (t := t) ?_ (fun k _ q => ?_) ht
  · rw [if_pos hs, if_pos hs, up_at e, if_pos rfl, Int32.add_mul]
  · rw [up_at e, if_neg q]
theorem FS_start {ok : (Nat → Bool) → Nat → Prop} {w N : Nat} {nt : Nat → Int32} (h0 : nt 0 = 1) (hz : ∀ k, 0 < k → k < N → nt k = 0) (hN : 0 < N) : FS ok w N nt 0 = Vn ok w 0 := by
  have h := sI_up (F := fun _ => 0) (G := fun n => if 0 ≤ n then nt n * Vn ok w n else 0) (t := 0) (d := Vn ok w 0) (by rw [if_pos (Nat.le_refl 0), h0, Int32.one_mul, Int32.zero_add]) (n := N) (fun k hk q => by rw [if_pos (Nat.zero_le k), hz k (by omega) hk, Int32.zero_mul]) hN
  unfold FS
  rw [h, sI_z (fun _ _ => rfl), Int32.zero_add]
noncomputable def pt (ok : (Nat → Bool) → Nat → Prop) (w : Nat) (S : Nat → Bool) (nx : Int32) (c : Nat) : Int32 := sI (fun k => if bt nx k = true then Int32.ofNat (VV ok w (ins S k)) else 0) c
theorem pt_end {ok : (Nat → Bool) → Nat → Prop} {w d : Nat} {S : Nat → Bool} {nx : Int32} (h : ∀ k, k < w → (bt nx k = true ↔ (S k = false ∧ ok S k))) (hd : d < w) (hS : S d = false) : pt ok w S nx w = Int32.ofNat (VV ok w S) := by
  unfold pt
  rw [VV_step hd hS, ← sI_N]
  refine sI_c (fun k hk => ?_)
  by_cases q : bt nx k = true
  · rw [if_pos q, pick_t ((h k hk).mp q)]
  · rw [if_neg q, pick_f (fun z => q ((h k hk).mpr z))]
    rfl
def FI (ok : (Nat → Bool) → Nat → Prop) (w N : Nat) (nt : Nat → Int32) (s : Nat) (n0 nx : Int32) (c : Nat) : Prop := nt s = n0 ∧ FS ok w N nt (s + 1) + n0 * Vn ok w s = Vn ok w 0 + n0 * pt ok w (bt (nI s)) nx c
theorem FI_0 {ok : (Nat → Bool) → Nat → Prop} {w N s : Nat} {nt : Nat → Int32} {n0 nx : Int32} (h : FS ok w N nt s = Vn ok w 0) (hs : s < N) (e : n0 = nt s) : FI ok w N nt s n0 nx 0 := by
  refine ⟨e.symm, ?_⟩
  rw [e, ← FS_split hs, h]
  unfold pt sI
  rw [Int32.mul_zero, Int32.add_zero]
theorem FI_f {ok : (Nat → Bool) → Nat → Prop} {w N s c : Nat} {nt : Nat → Int32} {n0 nx : Int32} (h : FI ok w N nt s n0 nx c) (q : bt nx c = false) : FI ok w N nt s n0 nx (c + 1) := by
  refine ⟨h.1, ?_⟩
  rw [h.2]
  show _ = Vn ok w 0 + n0 * (pt ok w (bt (nI s)) nx c + (if bt nx c = true then Int32.ofNat (VV ok w (ins (bt (nI s)) c)) else 0))
  rw [if_neg (by rw [q]; decide), Int32.add_zero]
theorem FI_t {ok : (Nat → Bool) → Nat → Prop} {w N s c t : Nat} {nt nt2 : Nat → Int32} {n0 nx : Int32} (h : FI ok w N nt s n0 nx c) (q : bt nx c = true) (e : nt2 = upd nt t (nt t + n0)) (hst : s < t) (ht : t < N) (hT : bt (nI t) = ins (bt (nI s)) c) : FI ok w N nt2 s n0 nx (c + 1) := by
  refine ⟨?_, ?_⟩
  · rw [up_at e, if_neg (by omega)]
    exact h.1
  · rw [FS_upd (s := s + 1) e hst ht]
    show _ = Vn ok w 0 + n0 * (pt ok w (bt (nI s)) nx c + (if bt nx c = true then Int32.ofNat (VV ok w (ins (bt (nI s)) c)) else 0))
    rw [if_pos q, Int32.mul_add, ← Int32.add_assoc, ← h.2]
    unfold Vn
    rw [hT, Int32.add_assoc, Int32.add_comm (n0 * _), ← Int32.add_assoc]
theorem FI_e {ok : (Nat → Bool) → Nat → Prop} {w N s d : Nat} {nt : Nat → Int32} {n0 nx : Int32} (h : FI ok w N nt s n0 nx w) (hm : ∀ k, k < w → (bt nx k = true ↔ (bt (nI s) k = false ∧ ok (bt (nI s)) k))) (hd : d < w) (hS : bt (nI s) d = false) : FS ok w N nt (s + 1) = Vn ok w 0 := by
  have h2 := h.2
  rw [pt_end hm hd hS] at h2
  exact (Int32.add_left_inj _).mp h2
theorem FI_z {ok : (Nat → Bool) → Nat → Prop} {w N s c : Nat} {nt : Nat → Int32} {n0 nx : Int32} (h : FI ok w N nt s n0 nx c) (e : n0 = 0) : FS ok w N nt (s + 1) = Vn ok w 0 := by
  have h2 := h.2
  rw [e, Int32.zero_mul, Int32.zero_mul, Int32.add_zero, Int32.add_zero] at h2
  exact h2
theorem bt_ins {x k y z : Int32} {b : Int} (hk : Iv 0 b k) (hb : b ≤ 12) (ez : z = 1 <<< (k &&& 31)) (ey : y = x ||| z) : bt y = ins (bt x) k.toNatClampNeg := by
  funext i
  unfold ins
  rcases Nat.lt_or_ge i 32 with h | h
  · exact set_bt hk hb ez ey h
  · rw [b_big h, b_big h, decide_eq_false (by have := kn hk hb; omega)]
    rfl
theorem bt_some32 {x : Int32} (h0 : ¬ x = 0) : ∃ i, bt x i = true := by
  rcases Classical.em (∃ i, bt x i = true) with h | h
  · exact h
  · exfalso
    refine h0 (b_ext (fun i _ => ?_))
    rw [b_0]
    cases q : bt x i
    · rfl
    · exact absurd ⟨i, q⟩ h
theorem bt_none {x : Int32} (h : x = 0) (i : Nat) : ¬ bt x i = true := by
  rw [h, b_0]
  decide
theorem bt_not {s y : Int32} (e : y = s ^^^ (-1)) {i : Nat} (hi : i < 32) : bt y i = !bt s i := by
  rw [e, b_xor, b_m1 i hi, Bool.xor_true]
def MC (sr : Nat → Int32) (n w : Nat) (s r : Int32) : Prop := ∀ k, bt r k = true ↔ (k < w ∧ bt s k = false ∧ okS sr n (bt s) k)
theorem MC_0 {sr : Nat → Int32} {w : Nat} {s x y z : Int32} (ha : alls w x) (ey : y = s ^^^ (-1)) (ez : z = x &&& y) : MC sr (Int32.toNatClampNeg 0) w s z := by
  rw [tz0]
  intro k
  rw [ez, b_and, ha.2.2 k]
  have h12 := ha.2.1
  constructor
  · intro h
    rw [Bool.and_eq_true] at h
    have hk : k < w := of_decide_eq_true h.1
    have h2 := h.2
    rw [bt_not ey (by omega)] at h2
    refine ⟨hk, by simpa using h2, fun i hi => absurd hi (Nat.not_lt_zero _)⟩
  · rintro ⟨hk, h2, _⟩
    rw [bt_not ey (by omega), h2, decide_eq_true hk]
    rfl
theorem okS_s {sr : Nat → Int32} {n k : Nat} {S : Nat → Bool} : okS sr (n + 1) S k ↔ (okS sr n S k ∧ ((∃ j, bt (sr n) j = true ∧ S j = true) → (∃ j, bt (sr n) j = true ∧ S j = false) → bt (sr n) k = true)) := by
  constructor
  · exact fun h => ⟨fun i hi => h i (by omega), h n (by omega)⟩
  · rintro ⟨h, h2⟩ i hi
    by_cases q : i = n
    · rw [q]
      exact h2
    · exact h i (by omega)
theorem MC_a {sr : Nat → Int32} {w : Nat} {s r i x y z : Int32} (h : MC sr i.toNatClampNeg w s r) (hi : Iv 0 4095 i) (ez : z = i + 1) (ex : x = sr i.toNatClampNeg) (ey : y = x &&& s) (h0 : y = 0) : MC sr z.toNatClampNeg w s r := by
  rw [cl_s ez hi]
  intro k
  rw [h k, okS_s, ← ex]
  refine ⟨fun ⟨a, b, c⟩ => ⟨a, b, c, fun ⟨j, p, q⟩ _ => ?_⟩, fun ⟨a, b, c, _⟩ => ⟨a, b, c⟩⟩
  refine absurd ?_ (bt_none h0 j)
  rw [ey, b_and, p, q]
  rfl
theorem MC_b {sr : Nat → Int32} {w : Nat} {s r i x y z u : Int32} (h : MC sr i.toNatClampNeg w s r) (hi : Iv 0 4095 i) (ez : z = i + 1) (ex : x = sr i.toNatClampNeg) (eu : u = s ^^^ (-1)) (ey : y = x &&& u) (h0 : y = 0) : MC sr z.toNatClampNeg w s r := by
  rw [cl_s ez hi]
  intro k
  rw [h k, okS_s, ← ex]
  refine ⟨fun ⟨a, b, c⟩ => ⟨a, b, c, fun _ ⟨j, p, q⟩ => ?_⟩, fun ⟨a, b, c, _⟩ => ⟨a, b, c⟩⟩
  refine absurd ?_ (bt_none h0 j)
  rw [ey, b_and, p, bt_not eu (bt_nn p), q]
  rfl
theorem MC_c {sr : Nat → Int32} {w : Nat} {s r r2 i x x2 x3 y y2 z u : Int32} (h : MC sr i.toNatClampNeg w s r) (hi : Iv 0 4095 i) (ez : z = i + 1) (ex : x = sr i.toNatClampNeg) (ey : y = x &&& s) (h0 : ¬ y = 0) (ex2 : x2 = sr i.toNatClampNeg) (eu : u = s ^^^ (-1)) (ey2 : y2 = x2 &&& u) (h2 : ¬ y2 = 0) (ex3 : x3 = sr i.toNatClampNeg) (er : r2 = r &&& x3) : MC sr z.toNatClampNeg w s r2 := by
  rw [cl_s ez hi]
  intro k
  rw [er, b_and, Bool.and_eq_true, h k, okS_s, ex3]
  obtain ⟨j, hj⟩ := bt_some32 h0
  obtain ⟨j2, hj2⟩ := bt_some32 h2
  rw [ey, b_and, Bool.and_eq_true, ex] at hj
  rw [ey2, b_and, Bool.and_eq_true, ex2] at hj2
  have hj3 : bt s j2 = false := by
    have := hj2.2
    rw [bt_not eu (bt_nn hj2.1)] at this
    simpa using this
  constructor
  · rintro ⟨⟨a, b, c⟩, d⟩
    exact ⟨a, b, c, fun _ _ => d⟩
  · rintro ⟨a, b, c, d⟩
    exact ⟨⟨a, b, c⟩, d ⟨j, hj⟩ ⟨j2, hj2.1, hj3⟩⟩
theorem bel_whole {w : Nat} {x t : Int32} {b : Int} (ha : alls w x) (hb : bel w t) (ht : Iv 0 b t) : t.toInt ≤ x.toInt := by
  have e : x = t ||| x := b_ext (fun i hi => by
    rw [b_or, ha.2.2 i]
    by_cases q : i < w
    · rw [decide_eq_true q, Bool.or_true]
    · rw [hb i (by omega), decide_eq_false q]
      rfl)
  have h := or_ge e ht ha.1 (by decide)
  exact h
theorem whole_lack {w : Nat} {x s : Int32} (ha : alls w x) (hs : Iv 0 4095 s) (h : s.toInt < x.toInt) : ∃ d, d < w ∧ bt s d = false := by
  rcases Classical.em (∃ d, d < w ∧ bt s d = false) with q | q
  · exact q
  · exfalso
    have hb := bel_le ha hs (Int.le_of_lt h)
    have e : s = x := b_ext (fun i hi => by
      rw [ha.2.2 i]
      by_cases z : i < w
      · rw [decide_eq_true z]
        cases y : bt s i
        · exact absurd ⟨i, z, y⟩ q
        · rfl
      · rw [hb i (by omega), decide_eq_false z])
    rw [e] at h
    omega
/-- the reference's words on seats -/
def Tt (th : Nat → Int32) (r k : Nat) : Prop := bt (th k) r = true
def IO (th : Nat → Int32) (S : Nat → Bool) (b : Bool) (n : Nat) (x : Int32) : Prop := ∀ r, bt x r = true ↔ ∃ k, k < n ∧ bt (th k) r = true ∧ S k = b
theorem IO_0 {th : Nat → Int32} {S : Nat → Bool} {b : Bool} : IO th S b (Int32.toNatClampNeg 0) 0 := by
  rw [tz0]
  intro r
  rw [b_0]
  exact ⟨fun h => absurd h (by decide), fun ⟨k, h, _⟩ => absurd h (Nat.not_lt_zero _)⟩
theorem IO_t {th : Nat → Int32} {S : Nat → Bool} {b : Bool} {i x v y z : Int32} (h : IO th S b i.toNatClampNeg x) (hi : Iv 0 4095 i) (ez : z = i + 1) (ev : v = th i.toNatClampNeg) (ey : y = x ||| v) (hS : S i.toNatClampNeg = b) : IO th S b z.toNatClampNeg y := by
  rw [cl_s ez hi]
  intro r
  rw [ey, b_or, Bool.or_eq_true, h r, ev]
  constructor
  · rintro (⟨k, a, c, d⟩ | q)
    · exact ⟨k, by omega, c, d⟩
    · exact ⟨_, Nat.lt_succ_self _, q, hS⟩
  · rintro ⟨k, a, c, d⟩
    by_cases q : k = i.toNatClampNeg
    · rw [q] at c
      exact Or.inr c
    · exact Or.inl ⟨k, by omega, c, d⟩
theorem IO_f {th : Nat → Int32} {S : Nat → Bool} {b : Bool} {i x z : Int32} (h : IO th S b i.toNatClampNeg x) (hi : Iv 0 4095 i) (ez : z = i + 1) (hS : ¬ S i.toNatClampNeg = b) : IO th S b z.toNatClampNeg x := by
  rw [cl_s ez hi]
  intro r
  rw [h r]
  constructor
  · rintro ⟨k, a, c, d⟩
    exact ⟨k, by omega, c, d⟩
  · rintro ⟨k, a, c, d⟩
    by_cases q : k = i.toNatClampNeg
    · rw [q] at d
      exact absurd d hS
    · exact ⟨k, by omega, c, d⟩
theorem IO_e {th : Nat → Int32} {S : Nat → Bool} {b : Bool} {i w x : Int32} (h : IO th S b i.toNatClampNeg x) (q : w.toInt ≤ i.toInt) (q2 : i.toInt ≤ w.toInt) : IO th S b w.toNatClampNeg x := by
  have e : i = w := Int32.toInt_inj.mp (by omega)
  rw [← e]
  exact h
theorem well_t {th : Nat → Int32} {S : Nat → Bool} {n : Nat} {a b u v y z l : Int32} (h1 : IO th S true n a) (h2 : IO th S false n b) (eu : u = a &&& b) (ev : v = th l.toNatClampNeg) (ey : y = v ^^^ (-1)) (ez : z = u &&& y) (h0 : z = 0) : WL (Tt th) n S l.toNatClampNeg := by
  intro r hb hu
  have g1 := (h1 r).mpr hb
  have g2 := (h2 r).mpr hu
  unfold Tt
  rw [← ev]
  cases q : bt v r
  · refine absurd ?_ (bt_none h0 r)
    rw [ez, b_and, eu, b_and, g1, g2, bt_not ey (bt_nn g1), q]
    rfl
  · rfl
theorem well_f {th : Nat → Int32} {S : Nat → Bool} {n : Nat} {a b u v y z l : Int32} (h1 : IO th S true n a) (h2 : IO th S false n b) (eu : u = a &&& b) (ev : v = th l.toNatClampNeg) (ey : y = v ^^^ (-1)) (ez : z = u &&& y) (h0 : ¬ z = 0) : ¬ WL (Tt th) n S l.toNatClampNeg := by
  intro h
  obtain ⟨r, hr⟩ := bt_some32 h0
  rw [ez, b_and, Bool.and_eq_true, eu, b_and, Bool.and_eq_true] at hr
  have g := h r ((h1 r).mp hr.1.1) ((h2 r).mp hr.1.2)
  unfold Tt at g
  rw [← ev] at g
  have g2 := hr.2
  rw [bt_not ey (bt_nn g2), g] at g2
  exact absurd g2 (by decide)
noncomputable def ce (th : Nat → Int32) (w s l : Nat) : Nat := pick (bt (nI s) l = true ∧ WL (Tt th) w (bt (nI s)) l) (VV (okR (Tt th) w) w (bt (nI s)))
def CE (th cts : Nat → Int32) (w s l : Nat) : Prop := cts (12 * s + l) = Int32.ofNat (ce th w s l)
def CA (th cts : Nat → Int32) (w : Nat) (lo : Int) (hi : Nat) : Prop := ∀ s : Nat, lo < (s : Int) → s ≤ hi → ∀ l, l < w → CE th cts w s l
def CL_ (th cts : Nat → Int32) (w s n : Nat) : Prop := ∀ l, l < n → l < w → CE th cts w s l
theorem ix12 {set l x y : Int32} (hs : Iv 0 4095 set) (hl : Iv 0 12 l) (e1 : x = 12 * set) (e2 : y = x + l) : y.toNatClampNeg = 12 * set.toNatClampNeg + l.toNatClampNeg := by
  have k12 : Iv 12 12 (12 : Int32) := iv_k (by decide +kernel)
  have h1 := (congrArg Int32.toInt e1).trans (ti_mulc (iv_w (c := 0) (d := 12) k12 (by decide)) hs (by decide))
  have e12 : (12 : Int32).toInt = 12 := by decide +kernel
  rw [e12] at h1
  have hx : Iv 0 49140 x := by unfold Iv at *; omega
  have h2 := (congrArg Int32.toInt e2).trans (ti_addc hx hl (by decide))
  show y.toInt.toNat = 12 * set.toInt.toNat + l.toInt.toNat
  unfold Iv at *
  omega
theorem CA_0 {th cts : Nat → Int32} {w : Nat} {x : Int32} {b : Int} (h : Iv 0 b x) : CA th cts w x.toInt x.toNatClampNeg := by
  intro s h1 h2
  have e : (x.toNatClampNeg : Int) = x.toInt := by
    show ((x.toInt.toNat : Nat) : Int) = x.toInt
    unfold Iv at h
    omega
  omega
theorem CA_s {th cts : Nat → Int32} {w : Int32} {s z l : Int32} {b : Int} {hi : Nat} (h : CA th cts w.toNatClampNeg s.toInt hi) (hL : CL_ th cts w.toNatClampNeg s.toNatClampNeg l.toNatClampNeg) (q : w.toInt ≤ l.toInt) (hs : Iv 0 b s) (hw : Iv 0 12 w) (ez : z.toInt = s.toInt - 1) : CA th cts w.toNatClampNeg z.toInt hi := by
  intro n h1 h2 k hk
  by_cases e : (n : Int) = s.toInt
  · have e2 : n = s.toNatClampNeg := by
      show n = s.toInt.toNat
      omega
    rw [e2]
    exact hL k (Nat.lt_of_lt_of_le hk (cl_le q hw)) hk
  · exact h n (by omega) h2 k hk
theorem CA_upd {th cts c2 : Nat → Int32} {w hi j : Nat} {s : Int32} {b : Int} {l : Nat} {x : Int32} (h : CA th cts w s.toInt hi) (hs : Iv 0 b s) (hw : w ≤ 12) (hl : l < 12) (ej : j = 12 * s.toNatClampNeg + l) (e : c2 = upd cts j x) : CA th c2 w s.toInt hi := by
  intro n h1 h2 k hk
  unfold CE
  rw [up_at e, if_neg ?_]
  · exact h n h1 h2 k hk
  · intro q
    have e2 : (s.toNatClampNeg : Int) = s.toInt := by
      show ((s.toInt.toNat : Nat) : Int) = s.toInt
      unfold Iv at hs
      omega
    omega
theorem CLl_upd {th cts c2 : Nat → Int32} {w s j l : Nat} {x : Int32} (h : CL_ th cts w s l) (ej : j = 12 * s + l) (e : c2 = upd cts j x) : CL_ th c2 w s l := by
  intro k h1 h2
  unfold CE
  rw [up_at e, if_neg (by omega)]
  exact h k h1 h2
theorem CLl_0 {th cts : Nat → Int32} {w s : Nat} : CL_ th cts w s (Int32.toNatClampNeg 0) := by
  rw [tz0]
  exact fun l h => absurd h (Nat.not_lt_zero _)
theorem CLl_s {th cts : Nat → Int32} {w s : Nat} {l z : Int32} (h : CL_ th cts w s l.toNatClampNeg) (hl : Iv 0 4095 l) (ez : z = l + 1) (h2 : CE th cts w s l.toNatClampNeg) : CL_ th cts w s z.toNatClampNeg := by
  rw [cl_s ez hl]
  intro k h1 h3
  by_cases q : k = l.toNatClampNeg
  · rw [q]
    exact h2
  · exact h k (by omega) h3
theorem cl_nI {x : Int32} {b : Int} (h : Iv 0 b x) : nI x.toNatClampNeg = x := (v_nI h (Int.le_refl 0)).1.symm
theorem CE_n {th c2 cts : Nat → Int32} {w j : Nat} {s l x : Int32} {b : Int} (hs : Iv 0 b s) (ej : j = 12 * s.toNatClampNeg + l.toNatClampNeg) (e : c2 = upd cts j x) (hx : x = 0) (h : ¬ (bt s l.toNatClampNeg = true ∧ WL (Tt th) w (bt s) l.toNatClampNeg)) : CE th c2 w s.toNatClampNeg l.toNatClampNeg := by
  unfold CE ce
  rw [cl_nI hs, pick_f h, up_at e, if_pos ej.symm, hx]
  rfl
noncomputable def ss (th : Nat → Int32) (w : Nat) (S : Nat → Bool) (k : Nat) : Nat := pick (S k = false ∧ okR (Tt th) w S k) (VV (okR (Tt th) w) w (ins S k))
/-- the inner sum -/
def CI_ (th cts : Nat → Int32) (w j : Nat) (s : Int32) (E k : Nat) : Prop := cts j = Int32.ofNat (E + sumN (ss th w (bt s)) k)
theorem CI_0 {th cts c2 : Nat → Int32} {w j E : Nat} {s x : Int32} (e : c2 = upd cts j x) (hx : x = Int32.ofNat E) : CI_ th c2 w j s E (Int32.toNatClampNeg 0) := by
  rw [tz0]
  unfold CI_ sumN
  rw [up_at e, if_pos rfl, hx, Nat.add_zero]
theorem CI_t {th cts c2 : Nat → Int32} {w j E : Nat} {s k z x y v : Int32} (h : CI_ th cts w j s E k.toNatClampNeg) (hk : Iv 0 4095 k) (ez : z = k + 1) (hb : bt s k.toNatClampNeg = true) (ex : x = cts j) (ey : y = x + 0) (e : c2 = upd cts j y) : CI_ th c2 w j s E z.toNatClampNeg := by
  unfold CI_ at *
  rw [cl_s ez hk, up_at e, if_pos rfl, ey, ex, Int32.add_zero, h]
  show _ = Int32.ofNat (E + (sumN _ _ + ss th w (bt s) k.toNatClampNeg))
  have e0 : ss th w (bt s) k.toNatClampNeg = 0 := pick_f (fun q => by rw [hb] at q; exact absurd q.1 (by decide))
  rw [e0, Nat.add_zero]
theorem CI_f {th cts c2 : Nat → Int32} {w j E hi : Nat} {s k z x y v t u p q : Int32} (h : CI_ th cts w j s E k.toNatClampNeg) (hA : CA th cts w s.toInt hi) (hs : Iv 0 4095 s) (hk : Iv 0 11 k) (hkw : k.toNatClampNeg < w) (ez : z = k + 1) (hb : bt s k.toNatClampNeg = false) (eu : u = 1 <<< (k &&& 31)) (et : t = s ||| u) (ht : Iv 0 4095 t) (hth : t.toNatClampNeg ≤ hi) (ep : p = 12 * t) (eq : q = p + k) (ev : v = cts q.toNatClampNeg) (ex : x = cts j) (ey : y = x + v) (e : c2 = upd cts j y) : CI_ th c2 w j s E z.toNatClampNeg := by
  have hg := set_gt hs ht hk (by decide) eu et hb
  have hi_ := ix12 ht (iv_w (c := 0) (d := 12) hk (by decide)) ep eq
  have e2 : (t.toNatClampNeg : Int) = t.toInt := (v_nI ht (Int.le_refl 0)).2
  have hc := hA t.toNatClampNeg (by omega) hth k.toNatClampNeg hkw
  unfold CE at hc
  rw [← hi_] at hc
  unfold CI_ at *
  rw [cl_s ez (iv_w hk (by decide)), up_at e, if_pos rfl, ey, ex, ev, h, hc, ← Int32.ofNat_add]
  show _ = Int32.ofNat (E + (sumN _ _ + ss th w (bt s) k.toNatClampNeg))
  have e3 : ce th w t.toNatClampNeg k.toNatClampNeg = ss th w (bt s) k.toNatClampNeg := by
    unfold ce ss
    rw [cl_nI ht, bt_ins hk (by decide) eu et]
    exact pick_c ⟨fun a => ⟨hb, a.2⟩, fun a => ⟨ins_at _ _, a.2⟩⟩ (fun _ => rfl)
  rw [e3, Nat.add_assoc]
theorem CE_1 {th cts : Nat → Int32} {w j : Nat} {s l k x W : Int32} (h : CI_ th cts W.toNatClampNeg j s 1 k.toNatClampNeg) (q : W.toInt ≤ k.toInt) (q2 : k.toInt ≤ W.toInt) (hs : Iv 0 4095 s) (ej : j = 12 * s.toNatClampNeg + l.toNatClampNeg) (ha : alls W.toNatClampNeg x) (es : s = x) (hb : bt s l.toNatClampNeg = true) (hw : WL (Tt th) W.toNatClampNeg (bt s) l.toNatClampNeg) : CE th cts W.toNatClampNeg s.toNatClampNeg l.toNatClampNeg := by
  have e : k = W := Int32.toInt_inj.mp (by omega)
  rw [e] at h
  have hf : ∀ c, c < W.toNatClampNeg → bt s c = true := fun c hc => by rw [es, ha.2.2 c, decide_eq_true hc]
  unfold CE ce
  rw [cl_nI hs, pick_t ⟨hb, hw⟩, VV_full hf, ← ej, h]
  have e0 : sumN (ss th W.toNatClampNeg (bt s)) W.toNatClampNeg = 0 := by
    have := sumN_le (F := ss th W.toNatClampNeg (bt s)) (b := 0) (n := W.toNatClampNeg) (fun c hc => Nat.le_of_eq (pick_f (fun z => by rw [hf c hc] at z; exact absurd z.1 (by decide))))
    omega
  rw [e0]
theorem CE_2 {th cts : Nat → Int32} {w j : Nat} {s l k x W : Int32} (h : CI_ th cts W.toNatClampNeg j s 0 k.toNatClampNeg) (q : W.toInt ≤ k.toInt) (q2 : k.toInt ≤ W.toInt) (hs : Iv 0 4095 s) (ej : j = 12 * s.toNatClampNeg + l.toNatClampNeg) (ha : alls W.toNatClampNeg x) (es : s.toInt < x.toInt) (hb : bt s l.toNatClampNeg = true) (hw : WL (Tt th) W.toNatClampNeg (bt s) l.toNatClampNeg) : CE th cts W.toNatClampNeg s.toNatClampNeg l.toNatClampNeg := by
  have e : k = W := Int32.toInt_inj.mp (by omega)
  rw [e] at h
  obtain ⟨d, hd, hd2⟩ := whole_lack ha hs es
  unfold CE ce
  rw [cl_nI hs, pick_t ⟨hb, hw⟩, VV_step hd hd2, ← ej, h, Nat.zero_add]
  rfl
def CD (th cts : Nat → Int32) (w : Nat) : Prop := ∃ x : Int32, alls w x ∧ CA th cts w 0 x.toNatClampNeg
theorem CD_i {th cts : Nat → Int32} {w : Nat} {x s : Int32} (ha : alls w x) (h : CA th cts w s.toInt x.toNatClampNeg) (q : s.toInt ≤ Int32.toInt 0) : CD th cts w := by
  have e : Int32.toInt 0 = 0 := by decide +kernel
  exact ⟨x, ha, fun n h1 => h n (by omega)⟩
/-- the lines -/
def LI (th : Nat → Int32) (w E k : Nat) (m : Int32) : Prop := m = Int32.ofNat (E + sumN (ss th w (fun _ => false)) k)
theorem LI_0 {th : Nat → Int32} {w E : Nat} {m : Int32} (h : m = Int32.ofNat E) : LI th w E (Int32.toNatClampNeg 0) m := by
  rw [tz0]
  unfold LI sumN
  rw [h, Nat.add_zero]
theorem bt_one_ins {k u : Int32} (hk : Iv 0 11 k) (eu : u = 1 <<< (k &&& 31)) : bt u = ins (fun _ => false) k.toNatClampNeg := by
  have h := bt_ins (x := 0) hk (by decide) eu (y := (0 : Int32) ||| u) rfl
  have e : (0 : Int32) ||| u = u := b_ext (fun i _ => by rw [b_or, b_0, Bool.false_or])
  rw [e] at h
  rw [h]
  congr 1
  funext i
  exact b_0 i
theorem LI_s {th cts : Nat → Int32} {w E : Nat} {m m2 k z u p q v : Int32} (h : LI th w E k.toNatClampNeg m) (hD : CD th cts w) (hk : Iv 0 11 k) (hkw : k.toNatClampNeg < w) (ez : z = k + 1) (eu : u = 1 <<< (k &&& 31)) (hu : Iv 1 4095 u) (ep : p = 12 * u) (eq : q = p + k) (ev : v = cts q.toNatClampNeg) (em : m2 = m + v) : LI th w E z.toNatClampNeg m2 := by
  obtain ⟨x, ha, hA⟩ := hD
  have hu0 : Iv 0 4095 u := iv_w hu (by decide)
  have hi_ := ix12 hu0 (iv_w (c := 0) (d := 12) hk (by decide)) ep eq
  have e2 : (u.toNatClampNeg : Int) = u.toInt := (v_nI hu0 (Int.le_refl 0)).2
  have e3 : (x.toNatClampNeg : Int) = x.toInt := (v_nI ha.1 (Int.le_refl 0)).2
  have hbt := bt_one_ins hk eu
  have hbel : bel w u := fun i hi => by
    rw [hbt, ins_ne (by omega)]
  have hle := bel_whole ha hbel hu0
  have hc := hA u.toNatClampNeg (by unfold Iv at hu; omega) (by omega) k.toNatClampNeg hkw
  unfold CE at hc
  rw [← hi_] at hc
  unfold LI at *
  rw [em, h, ev, hc, cl_s ez (iv_w hk (by decide)), ← Int32.ofNat_add]
  show _ = Int32.ofNat (E + (sumN _ _ + ss th w (fun _ => false) k.toNatClampNeg))
  have e4 : ce th w u.toNatClampNeg k.toNatClampNeg = ss th w (fun _ => false) k.toNatClampNeg := by
    unfold ce ss
    rw [cl_nI hu0, hbt]
    exact pick_c ⟨fun a => ⟨rfl, a.2⟩, fun a => ⟨ins_at _ _, a.2⟩⟩ (fun _ => rfl)
  rw [e4, Nat.add_assoc]
theorem LI_e0 {th : Nat → Int32} {m k W : Int32} (h : LI th W.toNatClampNeg 0 k.toNatClampNeg m) (q : W.toInt ≤ k.toInt) (q2 : k.toInt ≤ W.toInt) (hw : Iv 0 12 W) (h0 : ¬ W = 0) : m = Int32.ofNat (VV (okR (Tt th) W.toNatClampNeg) W.toNatClampNeg (fun _ => false)) := by
  have e : k = W := Int32.toInt_inj.mp (by omega)
  rw [e] at h
  have hp : 0 < W.toNatClampNeg := by
    have h1 := ne_i h0
    have e0 : Int32.toInt 0 = 0 := by decide +kernel
    show 0 < W.toInt.toNat
    unfold Iv at hw
    omega
  rw [VV_step hp rfl]
  unfold LI at h
  rw [h, Nat.zero_add]
  rfl
theorem LI_e1 {th : Nat → Int32} {m k W : Int32} (h : LI th W.toNatClampNeg 1 k.toNatClampNeg m) (h0 : W = 0) (q2 : k.toInt ≤ W.toInt) : m = Int32.ofNat (VV (okR (Tt th) W.toNatClampNeg) W.toNatClampNeg (fun _ => false)) := by
  have e0 : Int32.toInt 0 = 0 := by decide +kernel
  have hk : k.toNatClampNeg = 0 := by
    rw [h0] at q2
    show k.toInt.toNat = 0
    omega
  unfold LI at h
  rw [hk] at h
  rw [h]
  rw [h0, tz0]
  rw [VV_full (fun c hc => absurd hc (Nat.not_lt_zero _))]
  rfl
/-- the things -/
def TA (g th : Nat → Int32) (n : Nat) : Prop := ∀ c, c < n → ∀ r, bt (th c) r = true ↔ TT g r c
def TI (g th : Nat → Int32) (c n : Nat) : Prop := ∀ r, bt (th c) r = true ↔ (r < n ∧ TT g r c)
theorem TA_0 {g th : Nat → Int32} : TA g th (Int32.toNatClampNeg 0) := by
  rw [tz0]
  exact fun c h => absurd h (Nat.not_lt_zero _)
theorem TA_upd {g th t2 : Nat → Int32} {n : Nat} {x : Int32} (h : TA g th n) (e : t2 = upd th n x) : TA g t2 n := by
  intro c hc r
  rw [up_at e, if_neg (by omega)]
  exact h c hc r
theorem TI_0 {g th t2 : Nat → Int32} {c : Nat} (e : t2 = upd th c 0) : TI g t2 c (Int32.toNatClampNeg 0) := by
  rw [tz0]
  intro r
  rw [up_at e, if_pos rfl, b_0]
  exact ⟨fun h => absurd h (by decide), fun h => absurd h.1 (Nat.not_lt_zero _)⟩
theorem TI_n {g th t2 : Nat → Int32} {c : Nat} {i x y z : Int32} (h : TI g th c i.toNatClampNeg) (hi : Iv 0 4095 i) (ez : z = i + 1) (ex : x = th c) (ey : y = x ||| 0) (e : t2 = upd th c y) (hn : ¬ TT g i.toNatClampNeg c) : TI g t2 c z.toNatClampNeg := by
  rw [cl_s ez hi]
  intro r
  rw [up_at e, if_pos rfl, ey, b_or, b_0, Bool.or_false, ex, h r]
  constructor
  · exact fun q => ⟨by omega, q.2⟩
  · intro q
    by_cases w : r = i.toNatClampNeg
    · rw [w] at q
      exact absurd q.2 hn
    · exact ⟨by omega, q.2⟩
theorem TI_y {g th t2 : Nat → Int32} {c : Nat} {i x y z u : Int32} (h : TI g th c i.toNatClampNeg) (hi : Iv 0 11 i) (ez : z = i + 1) (ex : x = th c) (eu : u = 1 <<< (i &&& 31)) (ey : y = x ||| u) (e : t2 = upd th c y) (hn : TT g i.toNatClampNeg c) : TI g t2 c z.toNatClampNeg := by
  rw [cl_s ez (iv_w hi (by decide))]
  intro r
  rw [up_at e, if_pos rfl, bt_ins hi (by decide) eu ey]
  by_cases w : r = i.toNatClampNeg
  · rw [w, ins_at]
    exact ⟨fun _ => ⟨Nat.lt_succ_self _, hn⟩, fun _ => rfl⟩
  · rw [ins_ne w, ex, h r]
    exact ⟨fun q => ⟨by omega, q.2⟩, fun q => ⟨by omega, q.2⟩⟩
theorem TA_s {g th : Nat → Int32} {c z i : Int32} (h : TA g th c.toNatClampNeg) (h2 : TI g th c.toNatClampNeg i.toNatClampNeg) (q : Int32.toInt 12 ≤ i.toInt) (hc : Iv 0 4095 c) (ez : z = c + 1) : TA g th z.toNatClampNeg := by
  have e : Int32.toInt 12 = 12 := by decide +kernel
  have hi : 12 ≤ i.toNatClampNeg := by show 12 ≤ i.toInt.toNat; omega
  rw [cl_s ez hc]
  intro k hk r
  by_cases w : k = c.toNatClampNeg
  · rw [w, h2 r]
    exact ⟨fun q => q.2, fun q => ⟨Nat.lt_of_lt_of_le q.1 hi, q⟩⟩
  · exact h k (by omega) r
theorem TA_e {g th : Nat → Int32} {c w : Int32} (h : TA g th c.toNatClampNeg) (q : w.toInt ≤ c.toInt) (hw : Iv 0 12 w) : TA g th w.toNatClampNeg := fun k hk => h k (Nat.lt_of_lt_of_le hk (cl_le q hw))
theorem tt_y {g : Nat → Int32} {i c x y : Int32} (hi : Iv 0 11 i) (ex : x = g i.toNatClampNeg) (h0 : Int32.toInt 0 ≤ x.toInt) (ey : y = g i.toNatClampNeg) (hb : bt y c.toNatClampNeg = true) : TT g i.toNatClampNeg c.toNatClampNeg := by
  have e : Int32.toInt 0 = 0 := by decide +kernel
  refine ⟨?_, by rw [← ex]; omega, by rw [← ey]; exact hb⟩
  show i.toInt.toNat < 12
  unfold Iv at hi
  omega
theorem tt_n {g : Nat → Int32} {i c x : Int32} (ex : x = g i.toNatClampNeg) (h0 : x.toInt < Int32.toInt 0) : ¬ TT g i.toNatClampNeg c.toNatClampNeg := by
  have e : Int32.toInt 0 = 0 := by decide +kernel
  rintro ⟨_, h, _⟩
  rw [← ex] at h
  omega
theorem tt_b {g : Nat → Int32} {i c y : Int32} (ey : y = g i.toNatClampNeg) (hb : bt y c.toNatClampNeg = false) : ¬ TT g i.toNatClampNeg c.toNatClampNeg := by
  rintro ⟨_, _, h⟩
  rw [← ey, hb] at h
  exact absurd h (by decide)
theorem cnt_r {g th : Nat → Int32} {w : Nat} (h : TA g th w) : VV (okR (Tt th) w) w (fun _ => false) = cnt w g := by
  refine VV_c (fun S c hc _ => ?_) _
  have e : ∀ r k, k < w → (Tt th r k ↔ TT g r k) := fun r k hk => h k hk r
  constructor
  · intro q r ⟨k, a, b, d⟩ ⟨k2, a2, b2, d2⟩
    exact (e r c hc).mp (q r ⟨k, a, (e r k a).mpr b, d⟩ ⟨k2, a2, (e r k2 a2).mpr b2, d2⟩)
  · intro q r ⟨k, a, b, d⟩ ⟨k2, a2, b2, d2⟩
    exact (e r c hc).mpr (q r ⟨k, a, (e r k a).mp b, d⟩ ⟨k2, a2, (e r k2 a2).mp b2, d2⟩)
theorem cnt_TB {w w2 : Int32} {f g : Nat → Int32} (hT : TB w f w2 g) : cnt w.toNatClampNeg f = cnt w2.toNatClampNeg g := by
  unfold cnt
  rw [TT_eq hT, hT.1]
/-- the class's count -/
theorem bt_z : bt (nI 0) = fun _ => false := by
  funext i
  exact b_0 i
theorem FS_0 {ok : (Nat → Bool) → Nat → Prop} {w : Nat} {nt n2 : Nat → Int32} {x x1 t : Int32} (ha : alls w x) (ex : x1 = x + 1) (hf : ∀ j : Nat, Int32.toNatClampNeg 0 ≤ j → j < x1.toNatClampNeg → nt j = 0) (e : n2 = upd nt (Int32.toNatClampNeg 0) 1) : FS ok w (x.toNatClampNeg + 1) n2 (Int32.toNatClampNeg 0) = Vn ok w 0 := by
  rw [tz0] at *
  refine FS_start ?_ (fun k h1 h2 => ?_) (Nat.succ_pos _)
  · rw [up_at e, if_pos rfl]
  · rw [up_at e, if_neg (by omega)]
    refine hf k (Nat.zero_le k) ?_
    rw [cl_s ex ha.1]
    exact h2
theorem FJ_0 {ok : (Nat → Bool) → Nat → Prop} {w : Nat} {nt : Nat → Int32} {s x n0 nx : Int32} (h : FS ok w (x.toNatClampNeg + 1) nt s.toNatClampNeg = Vn ok w 0) (q : s.toInt < x.toInt) (e : n0 = nt s.toNatClampNeg) : FI ok w (x.toNatClampNeg + 1) nt s.toNatClampNeg n0 nx (Int32.toNatClampNeg 0) := by
  rw [tz0]
  refine FI_0 h ?_ e
  show s.toInt.toNat < x.toInt.toNat + 1
  omega
theorem FJ_f {ok : (Nat → Bool) → Nat → Prop} {w N s : Nat} {nt : Nat → Int32} {n0 nx c z : Int32} (h : FI ok w N nt s n0 nx c.toNatClampNeg) (hc : Iv 0 4095 c) (ez : z = c + 1) (q : bt nx c.toNatClampNeg = false) : FI ok w N nt s n0 nx z.toNatClampNeg := by
  rw [cl_s ez hc]
  exact FI_f h q
theorem FJ_t {ok : (Nat → Bool) → Nat → Prop} {w : Nat} {nt n2 : Nat → Int32} {s x n0 nx c z u t y v a : Int32} (h : FI ok w (x.toNatClampNeg + 1) nt s.toNatClampNeg n0 nx c.toNatClampNeg) (ha : alls w x) (hs : Iv 0 4095 s) (hsx : s.toInt < x.toInt) (hc : Iv 0 11 c) (hcw : c.toNatClampNeg < w) (ez : z = c + 1) (q : bt nx c.toNatClampNeg = true) (hq : bt s c.toNatClampNeg = false) (eu : u = 1 <<< (c &&& 31)) (et : t = s ||| u) (ht : Iv 0 4095 t) (ey : y = nt t.toNatClampNeg) (ev : v = nt s.toNatClampNeg) (ea : a = y + v) (e : n2 = upd nt t.toNatClampNeg a) : FI ok w (x.toNatClampNeg + 1) n2 s.toNatClampNeg n0 nx z.toNatClampNeg := by
  rw [cl_s ez (iv_w hc (by decide))]
  have hg := set_gt hs ht hc (by decide) eu et hq
  have hbel : bel w t := bel_set (bel_le ha hs (Int.le_of_lt hsx)) hc (by decide) hcw eu et
  have hle := bel_whole ha hbel ht
  refine FI_t h q (t := t.toNatClampNeg) ?_ ?_ ?_ ?_
  · rw [e, ea, ey, ev, h.1]
  · show s.toInt.toNat < t.toInt.toNat
    unfold Iv at hs
    omega
  · show t.toInt.toNat < x.toInt.toNat + 1
    omega
  · rw [cl_nI ht, cl_nI hs]
    exact bt_ins hc (by decide) eu et
theorem FJ_e {sr nt : Nat → Int32} {n : Nat} {s x n0 nx c z W : Int32} (h : FI (okS sr n) W.toNatClampNeg (x.toNatClampNeg + 1) nt s.toNatClampNeg n0 nx c.toNatClampNeg) (q : W.toInt ≤ c.toInt) (q2 : c.toInt ≤ W.toInt) (hm : MC sr n W.toNatClampNeg s nx) (ha : alls W.toNatClampNeg x) (hs : Iv 0 4095 s) (hsx : s.toInt < x.toInt) (ez : z = s + 1) : FS (okS sr n) W.toNatClampNeg (x.toNatClampNeg + 1) nt z.toNatClampNeg = Vn (okS sr n) W.toNatClampNeg 0 := by
  have e : c = W := Int32.toInt_inj.mp (by omega)
  rw [e] at h
  obtain ⟨d, hd, hd2⟩ := whole_lack ha hs hsx
  rw [cl_s ez hs]
  refine FI_e h (d := d) (fun k hk => ?_) hd (by rw [cl_nI hs]; exact hd2)
  rw [cl_nI hs, hm k]
  exact ⟨fun a => a.2, fun a => ⟨hk, a⟩⟩
theorem FJ_z {ok : (Nat → Bool) → Nat → Prop} {w N c : Nat} {nt : Nat → Int32} {s n0 nx z : Int32} (h : FI ok w N nt s.toNatClampNeg n0 nx c) (e : n0 = 0) (hs : Iv 0 4095 s) (ez : z = s + 1) : FS ok w N nt z.toNatClampNeg = Vn ok w 0 := by
  rw [cl_s ez hs]
  exact FI_z h e
theorem FS_ans {ok : (Nat → Bool) → Nat → Prop} {w : Nat} {nt : Nat → Int32} {s x v : Int32} (h : FS ok w (x.toNatClampNeg + 1) nt s.toNatClampNeg = Vn ok w 0) (q : x.toInt ≤ s.toInt) (q2 : s.toInt ≤ x.toInt) (ha : alls w x) (ev : v = nt x.toNatClampNeg) : v = Int32.ofNat (VV ok w (fun _ => false)) := by
  have e : s = x := Int32.toInt_inj.mp (by omega)
  rw [e, FS_last] at h
  have hf : Vn ok w x.toNatClampNeg = 1 := by
    unfold Vn
    rw [cl_nI ha.1, VV_full (fun c hc => by rw [ha.2.2 c, decide_eq_true hc])]
    rfl
  rw [hf, Int32.mul_one] at h
  rw [ev, h]
  unfold Vn
  rw [bt_z]
/-- bringing the rows -/
theorem SR_0 {f sr : Nat → Int32} : SR f sr (Int32.toNatClampNeg 0) (Int32.toNatClampNeg 0) := by
  rw [tz0]
  exact ⟨fun i h => absurd h (Nat.not_lt_zero _), fun i h => absurd h (Nat.not_lt_zero _)⟩
theorem SR_n {f sr : Nat → Int32} {n : Nat} {i z x : Int32} (h : SR f sr i.toNatClampNeg n) (hi : Iv 0 4095 i) (ez : z = i + 1) (ex : x = f i.toNatClampNeg) (hx : Iv (-1) (-1) x) : SR f sr z.toNatClampNeg n := by
  rw [cl_s ez hi]
  refine ⟨fun k hk => ?_, fun r hr h0 => ?_⟩
  · obtain ⟨r, a, b⟩ := h.1 k hk
    exact ⟨r, by omega, b⟩
  · by_cases q : r = i.toNatClampNeg
    · rw [q, ← ex] at h0
      unfold Iv at hx
      omega
    · exact h.2 r (by omega) h0
theorem SR_y {f sr s2 : Nat → Int32} {i z x n n2 : Int32} {d : Int} (h : SR f sr i.toNatClampNeg n.toNatClampNeg) (hi : Iv 0 4095 i) (ez : z = i + 1) (ex : x = f i.toNatClampNeg) (hx : Iv 0 d x) (hn : Iv 0 4095 n) (en : n2 = n + 1) (es : s2 = upd sr n.toNatClampNeg x) : SR f s2 z.toNatClampNeg n2.toNatClampNeg := by
  rw [cl_s ez hi, cl_s en hn]
  refine ⟨fun k hk => ?_, fun r hr h0 => ?_⟩
  · rw [up_at es]
    by_cases q : k = n.toNatClampNeg
    · rw [if_pos q]
      exact ⟨_, Nat.lt_succ_self _, by rw [← ex]; exact hx.1, ex⟩
    · rw [if_neg q]
      obtain ⟨r, a, b⟩ := h.1 k (by omega)
      exact ⟨r, by omega, b⟩
  · by_cases q : r = i.toNatClampNeg
    · exact ⟨_, Nat.lt_succ_self _, by rw [up_at es, if_pos rfl, q, ex]⟩
    · obtain ⟨k, a, b⟩ := h.2 r (by omega) h0
      refine ⟨k, by omega, ?_⟩
      rw [up_at es, if_neg (by omega)]
      exact b
theorem SR_e {f sr : Nat → Int32} {n : Nat} {i : Int32} (h : SR f sr i.toNatClampNeg n) (hi : Iv 12 12 i) : SR f sr 12 n := by
  have e : i.toNatClampNeg = 12 := by
    show i.toInt.toNat = 12
    unfold Iv at hi
    omega
  rw [e] at h
  exact h
theorem in_1 {set v x1 x2 : Int32} (e1 : x1 = set >>> (v &&& 31)) (e2 : x2 = x1 &&& 1) (h : ¬ x2 = 0) : Iv 0 12 v → (1 : Int32) = if bt set v.toNatClampNeg = true then 1 else 0 := by
  intro hv
  have k := has_bt hv e1 e2
  by_cases q : bt set v.toNatClampNeg = true
  · rw [if_pos q]
  · rw [if_neg q] at k
    exact absurd k h
theorem in_0 {set v x1 x2 : Int32} (e1 : x1 = set >>> (v &&& 31)) (e2 : x2 = x1 &&& 1) (h : x2 = 0) : Iv 0 12 v → (0 : Int32) = if bt set v.toNatClampNeg = true then 1 else 0 := by
  intro hv
  have k := has_bt hv e1 e2
  by_cases q : bt set v.toNatClampNeg = true
  · rw [if_pos q, h] at k
    exact absurd k (by decide)
  · rw [if_neg q]
theorem MC_e {sr : Nat → Int32} {w : Nat} {s r i n : Int32} (h : MC sr i.toNatClampNeg w s r) (q : n.toInt ≤ i.toInt) (q2 : i.toInt ≤ n.toInt) : MC sr n.toNatClampNeg w s r := by
  have e : i = n := Int32.toInt_inj.mp (by omega)
  rw [← e]
  exact h
theorem fl_0 {f : Nat → Int32} {a v : Int32} : ∀ j : Nat, a.toNatClampNeg ≤ j → j < a.toNatClampNeg → f j = v := fun j h1 h2 => absurd h2 (by omega)
theorem fl_s {f g : Nat → Int32} {a v i z : Int32} (h : ∀ j : Nat, a.toNatClampNeg ≤ j → j < i.toNatClampNeg → f j = v) (hi : Iv 0 4095 i) (ez : z = i + 1) (e : g = upd f i.toNatClampNeg v) : ∀ j : Nat, a.toNatClampNeg ≤ j → j < z.toNatClampNeg → g j = v := by
  rw [cl_s ez hi]
  intro j h1 h2
  rw [up_at e]
  by_cases q : j = i.toNatClampNeg
  · rw [if_pos q]
  · rw [if_neg q]
    exact h j h1 (by omega)
theorem fl_e {f : Nat → Int32} {a b v i : Int32} {d : Int} (h : ∀ j : Nat, a.toNatClampNeg ≤ j → j < i.toNatClampNeg → f j = v) (q : b.toInt ≤ i.toInt) (hb : Iv 0 d b) : ∀ j : Nat, a.toNatClampNeg ≤ j → j < b.toNatClampNeg → f j = v := fun j h1 h2 => h j h1 (Nat.lt_of_lt_of_le h2 (cl_le q hb))
theorem SR_0e {f sr : Nat → Int32} {n : Int32} (e : n = 0) : SR f sr (Int32.toNatClampNeg 0) n.toNatClampNeg := by
  rw [e]
  exact SR_0
theorem z_le {n : Int32} (e : n = 0) : n.toInt ≤ Int32.toInt 0 := by rw [e]; exact Int.le_refl _
theorem up_le {n i z : Int32} (h : n.toInt ≤ i.toInt) (hi : Iv 0 4095 i) (ez : z = i + 1) : n.toInt ≤ z.toInt := by
  have e := tia (k := 1) (c := 1) ez hi (iv_k (by decide +kernel)) (by decide)
  omega
theorem up_le2 {n n2 i z : Int32} (h : n.toInt ≤ i.toInt) (hi : Iv 0 4095 i) (ez : z = i + 1) (hn : Iv 0 12 n) (en : n2 = n + 1) : n2.toInt ≤ z.toInt := by
  have e := tia (k := 1) (c := 1) ez hi (iv_k (by decide +kernel)) (by decide)
  have e2 := tia (k := 1) (c := 1) en hn (iv_k (by decide +kernel)) (by decide)
  omega
theorem lt_12 {n i : Int32} (h : n.toInt ≤ i.toInt) (hi : Iv 0 11 i) : n.toInt < 12 := by
  unfold Iv at hi
  omega
theorem cw_f {f sr : Nat → Int32} {n : Nat} {W w x : Int32} (h : x = Int32.ofNat (VV (okS sr n) W.toNatClampNeg (fun _ => false))) (ew : W = w) (hB : RB w.toNatClampNeg f) (hR : SR f sr 12 n) : x = Int32.ofNat (cnt w.toNatClampNeg f) := by
  rw [h, ew, cnt_eq hB hR]
theorem LI_z {th : Nat → Int32} {W : Int32} (h0 : W = 0) : (1 : Int32) = Int32.ofNat (VV (okR (Tt th) W.toNatClampNeg) W.toNatClampNeg (fun _ => false)) := by
  rw [h0, tz0, VV_full (fun c hc => absurd hc (Nat.not_lt_zero _))]
  rfl
theorem sg_f {g th : Nat → Int32} {t w r : Int32} (h : r = Int32.ofNat (VV (okR (Tt th) t.toNatClampNeg) t.toNatClampNeg (fun _ => false))) (et : t = w) (hA : TA g th t.toNatClampNeg) : r = Int32.ofNat (cnt w.toNatClampNeg g) := by
  rw [h, cnt_r hA, et]
/-- what stands between the calls -/
def CCp (mf v ways w : Int32) (f : Nat → Int32) : Prop := mf = v → ways = Int32.ofNat (cnt w.toNatClampNeg f)
def TS (w : Int32) (f : Nat → Int32) (w2 : Int32) (g : Nat → Int32) (v mf ways : Int32) (n : Int) : Prop := TB w f w2 g ∧ RB w.toNatClampNeg f ∧ CCp mf v ways w f ∧ mf.toInt ≤ v.toInt ∧ 0 ≤ v.toInt ∧ v.toInt ≤ n
def vP (v w : Int32) (f : Nat → Int32) (v2 w2 : Int32) (f2 : Nat → Int32) : Prop := (v2 = v ∧ w2 = w ∧ f2 = f) ∨ v2 = v + 1
theorem TS_up {w w2 v mf ways : Int32} {f g : Nat → Int32} {n : Int} (h : TS w f w2 g v mf ways n) : TS w f w2 g v mf ways (n + 4) := ⟨h.1, h.2.1, h.2.2.1, h.2.2.2.1, h.2.2.2.2.1, by have := h.2.2.2.2.2; omega⟩
theorem TS_v {w w2 v mf ways x x2 v2 : Int32} {f g f2 g2 : Nat → Int32} {n : Int} (h : TS w f w2 g v mf ways n) (hn : n ≤ 2048) (hT : TB x f2 x2 g2) (hB : RB x.toNatClampNeg f2) (hv : vP v w f v2 x f2) : TS x f2 x2 g2 v2 mf ways (n + 4) := by
  obtain ⟨h1, h2, h3, h4, h5, h6⟩ := h
  rcases hv with ⟨e1, e2, e3⟩ | e
  · refine ⟨hT, hB, ?_, by rw [e1]; exact h4, by rw [e1]; exact h5, by rw [e1]; omega⟩
    unfold CCp at *
    rw [e1, e2, e3]
    exact h3
  · have h7 : v2.toInt = v.toInt + 1 := tia (k := 1) (c := 1) e (a := 0) (b := 4000) ⟨h5, by omega⟩ (iv_k (by decide +kernel)) (by decide)
    refine ⟨hT, hB, ?_, by omega, by omega, by omega⟩
    intro q
    rw [q] at h4
    omega
theorem TS_m {w w2 v mf ways m2 y2 : Int32} {f g : Nat → Int32} {n : Int} (h : TS w f w2 g v mf ways n) (hm : m2 = v) (hy : y2 = Int32.ofNat (cnt w.toNatClampNeg f)) : TS w f w2 g v m2 y2 (n + 4) := by
  obtain ⟨h1, h2, h3, h4, h5, h6⟩ := h
  exact ⟨h1, h2, fun _ => hy, by rw [hm]; exact Int.le_refl _, h5, by omega⟩
theorem TS_0 {w w2 v mf ways : Int32} {f g : Nat → Int32} (hT : TB w f w2 g) (hf : ∀ i : Nat, i < 12 → f i = -1) (hv : v = 0) (hm : mf = -1) : TS w f w2 g v mf ways (Int32.toInt 0) := by
  have e0 : Int32.toInt 0 = 0 := by decide +kernel
  have e1 : (-1 : Int32).toInt = -1 := by decide +kernel
  refine ⟨hT, fun r hr h0 => ?_, fun q => ?_, ?_, ?_, ?_⟩
  · rw [hf r hr, e1] at h0
    omega
  · rw [hm, hv] at q
    exact absurd q (by decide)
  · rw [hm, hv, e0, e1]
    omega
  · rw [hv, e0]
    exact Int.le_refl _
  · rw [hv]
    exact Int.le_refl _
theorem RB_col {c w v : Int32} {f f2 : Nat → Int32} (h : RB w.toNatClampNeg f) (hp : colP (-1) c w f v f2) : RB v.toNatClampNeg f2 := by
  rcases hp with ⟨a, b, d⟩ | ⟨a, b, d⟩
  · intro r hr h0
    rw [d r hr] at h0
    exact absurd h0 (by decide +kernel)
  · rw [b, d]
    exact h
theorem RB_row {r b w x : Int32} {f f2 : Nat → Int32} (hw : Iv 0 8 w) (h : RB w.toNatClampNeg f) (hp : rowP r b w f f2 x) : RB w.toNatClampNeg f2 := by
  rcases hp with ⟨a, c, d⟩ | ⟨a, a', c, d⟩ | ⟨a, a', c, d⟩
  · rw [d]; exact h
  · rw [d]; exact h
  · intro k hk h0 j hj
    rw [up_at d] at h0 hj
    by_cases q : k = r.toNatClampNeg
    · rw [if_pos q] at h0 hj
      have ha := all_r (iv_w (c := 0) (d := 12) hw (by decide)) (x1 := (1 : Int32) <<< (w &&& 31)) rfl (x2 := (1 : Int32) <<< (w &&& 31) - 1) rfl
      have hs : Iv 1 256 ((1 : Int32) <<< (w &&& 31)) := iv_shl1 hw (by decide)
      have h2 := ti_subc hs (iv_k (x := 1) (a := 1) (by decide +kernel)) (by decide)
      have e1 : (1 : Int32).toInt = 1 := by decide +kernel
      have hb : Iv 0 4095 b := ⟨a.1, by have := a.2; unfold Iv at hs; omega⟩
      have hbel := bel_le ha hb (by rw [h2, e1]; have := a.2; omega)
      rcases Nat.lt_or_ge j w.toNatClampNeg with z | z
      · exact z
      · rw [hbel j z] at hj
        exact absurd hj (by decide)
    · rw [if_neg q] at h0 hj
      exact h k hk h0 j hj
theorem RB_tea {r x : Int32} {w : Nat} {f f2 : Nat → Int32} (h : RB w f) (hp : teaP (-1) r f f2 x) : RB w f2 := by
  rcases hp with ⟨a, b, d⟩ | ⟨a, b, d⟩
  · rw [d]; exact h
  · intro k hk h0 j hj
    rw [up_at d] at h0 hj
    by_cases q : k = r.toNatClampNeg
    · rw [if_pos q] at h0
      exact absurd h0 (by decide +kernel)
    · rw [if_neg q] at h0 hj
      exact h k hk h0 j hj
theorem RB_cpy {r t n : Int32} {w : Nat} {f f2 : Nat → Int32} (h : RB w f) (hp : cpyP r t n f f2) : RB w f2 := by
  rcases hp with ⟨a, b⟩ | ⟨a, b⟩
  · intro k hk h0 j hj
    rw [b k hk] at h0 hj
    have k1 := run_cl a.1
    by_cases q : t.toNatClampNeg ≤ k ∧ k < t.toNatClampNeg + n.toNatClampNeg
    · rw [pk_cpy_in q.1 q.2] at h0 hj
      exact h _ (by omega) h0 j hj
    · rw [pk_cpy_out (by omega)] at h0 hj
      exact h k hk h0 j hj
  · rw [b]; exact h
/-- the first way to sit -/
def CN (ok : (Nat → Bool) → Nat → Prop) (w : Nat) (S : Nat → Bool) (k : Nat) : Prop := S k = false ∧ ok S k ∧ 0 < VV ok w (ins S k)
def NX (ok : (Nat → Bool) → Nat → Prop) (w : Nat) (S : Nat → Bool) (k : Nat) : Prop := (k < w ∧ CN ok w S k) ∧ ∀ j, j < k → ¬ CN ok w S j
def GQ (ok : (Nat → Bool) → Nat → Prop) (w : Nat) (pl : Nat → Int32) : Nat → (Nat → Bool) → Nat → Prop
  | 0, _, _ => True
  | n + 1, S, p => 0 ≤ (pl p).toInt ∧ NX ok w S (pl p).toNatClampNeg ∧ GQ ok w pl n (ins S (pl p).toNatClampNeg) (p + 1)
theorem NX_1 {ok : (Nat → Bool) → Nat → Prop} {w : Nat} {S : Nat → Bool} {a b : Nat} (h1 : NX ok w S a) (h2 : NX ok w S b) : a = b := by
  rcases Nat.lt_trichotomy a b with h | h | h
  · exact absurd h1.1.2 (h2.2 a h)
  · exact h
  · exact absurd h2.1.2 (h1.2 b h)
theorem GQ_1 {ok : (Nat → Bool) → Nat → Prop} {w : Nat} {pl p2 : Nat → Int32} : ∀ {n : Nat} {S : Nat → Bool} {p : Nat}, GQ ok w pl n S p → GQ ok w p2 n S p → ∀ j, p ≤ j → j < p + n → pl j = p2 j
  | 0, _, _, _, _, j, h1, h2 => absurd h1 (by omega)
  | n + 1, S, p, ⟨a, b, c⟩, ⟨d, e, f⟩, j, h1, h2 => by
    have q := NX_1 b e
    have e0 : pl p = p2 p := by
      refine Int32.toInt_inj.mp ?_
      have q2 : (pl p).toInt.toNat = (p2 p).toInt.toNat := q
      omega
    by_cases z : j = p
    · rw [z]
      exact e0
    · rw [← q] at f
      exact GQ_1 c f j (by omega) (by omega)
theorem CN_c {ok ok2 : (Nat → Bool) → Nat → Prop} {w : Nat} (h : ∀ S c, c < w → S c = false → (ok S c ↔ ok2 S c)) {S : Nat → Bool} {k : Nat} (hk : k < w) : CN ok w S k ↔ CN ok2 w S k := by
  unfold CN
  rw [VV_c h]
  exact ⟨fun ⟨a, b, c⟩ => ⟨a, (h S k hk a).mp b, c⟩, fun ⟨a, b, c⟩ => ⟨a, (h S k hk a).mpr b, c⟩⟩
theorem NX_c {ok ok2 : (Nat → Bool) → Nat → Prop} {w : Nat} (h : ∀ S c, c < w → S c = false → (ok S c ↔ ok2 S c)) {S : Nat → Bool} {k : Nat} (q : NX ok w S k) : NX ok2 w S k := ⟨⟨q.1.1, (CN_c h q.1.1).mp q.1.2⟩, fun j hj z => q.2 j hj ((CN_c h (Nat.lt_trans hj q.1.1)).mpr z)⟩
theorem GQ_c {ok ok2 : (Nat → Bool) → Nat → Prop} {w : Nat} {pl : Nat → Int32} (h : ∀ S c, c < w → S c = false → (ok S c ↔ ok2 S c)) : ∀ {n : Nat} {S : Nat → Bool} {p : Nat}, GQ ok w pl n S p → GQ ok2 w pl n S p
  | 0, _, _, _ => trivial
  | n + 1, S, p, ⟨a, b, c⟩ => ⟨a, NX_c h b, GQ_c h c⟩
theorem VV_0 {ok : (Nat → Bool) → Nat → Prop} {w : Nat} {S : Nat → Bool} {d : Nat} (hd : d < w) (h : S d = false) (q : ∀ k, k < w → ¬ CN ok w S k) : VV ok w S = 0 := by
  rw [VV_step hd h]
  have := sumN_le (F := fun c => pick (S c = false ∧ ok S c) (VV ok w (ins S c))) (b := 0) (n := w) (fun c hc => by
    by_cases z : S c = false ∧ ok S c
    · show pick _ _ ≤ 0
      rw [pick_t z]
      exact Nat.le_of_not_lt (fun y => q c hc ⟨z.1, z.2, y⟩)
    · show pick _ _ ≤ 0
      rw [pick_f z]
      exact Nat.le_refl 0)
  omega
theorem sumN_ge {F : Nat → Nat} {k : Nat} : ∀ {n : Nat}, k < n → F k ≤ sumN F n
  | 0, h => absurd h (Nat.not_lt_zero _)
  | n + 1, h => by
    unfold sumN
    by_cases q : k = n
    · rw [q]
      omega
    · have := sumN_ge (F := F) (k := k) (n := n) (by omega)
      omega
theorem VV_pos {ok : (Nat → Bool) → Nat → Prop} {w : Nat} {S : Nat → Bool} {k : Nat} (hk : k < w) (h : CN ok w S k) : 0 < VV ok w S := by
  rw [VV_step hk h.1]
  have := sumN_ge (F := fun c => pick (S c = false ∧ ok S c) (VV ok w (ins S c))) hk
  have e : pick (S k = false ∧ ok S k) (VV ok w (ins S k)) = VV ok w (ins S k) := pick_t ⟨h.1, h.2.1⟩
  have this : pick (S k = false ∧ ok S k) (VV ok w (ins S k)) ≤ _ := this
  rw [e] at this
  exact Nat.lt_of_lt_of_le h.2.2 this
theorem ct_lack {S : Nat → Bool} {w : Nat} (h : fb_ct S w < w) : ∃ d, d < w ∧ S d = false := by
  rcases Classical.em (∃ d, d < w ∧ S d = false) with q | q
  · exact q
  · exfalso
    have : fb_ct S w = w := fb_ct_all.mpr (fun k hk => by
      cases z : S k
      · exact absurd ⟨k, hk, z⟩ q
      · rfl)
    omega
/-- the class's search -/
def MS (ok : (Nat → Bool) → Nat → Prop) (w : Nat) (nt : Nat → Int32) : Prop := ∀ s : Int32, Iv 0 4095 s → bel w s → nt s.toNatClampNeg = 1 → VV ok w (bt s) = 0
def SP (w p : Nat) (s : Int32) : Prop := fb_ct (bt s) w = p ∧ bel w s
def LPp (n : Nat) (a b : Nat → Int32) : Prop := ∀ j, j < n → a j = b j
def SY (ok : (Nat → Bool) → Nat → Prop) (w p : Nat) (s r : Int32) (pl : Nat → Int32) : Prop := (¬ r = 0 → 0 < VV ok w (bt s) ∧ GQ ok w pl (w - p) (bt s) p) ∧ (r = 0 → VV ok w (bt s) = 0)
def IC (ok : (Nat → Bool) → Nat → Prop) (w : Nat) (s nx : Int32) (c : Nat) : Prop := ∀ j, j < c → bt nx j = true → VV ok w (ins (bt s) j) = 0
theorem SY_full {ok : (Nat → Bool) → Nat → Prop} {w p : Nat} {s : Int32} {pl : Nat → Int32} (h : SP w p s) (q : w ≤ p) : SY ok w p s 1 pl := by
  have hf : ∀ c, c < w → bt s c = true := fb_ct_all.mp (Nat.le_antisymm (fb_ct_le _ _) (by rw [h.1]; exact q))
  refine ⟨fun _ => ⟨by rw [VV_full hf]; exact Nat.one_pos, ?_⟩, fun z => absurd z (by decide)⟩
  rw [Nat.sub_eq_zero_of_le q]
  trivial
theorem SY_memo {ok : (Nat → Bool) → Nat → Prop} {w p : Nat} {s x : Int32} {pl nt : Nat → Int32} (h : SP w p s) (hm : MS ok w nt) (hs : Iv 0 4095 s) (ex : x = nt s.toNatClampNeg) (e : x = 1) : SY ok w p s 0 pl := ⟨fun z => absurd rfl z, fun _ => hm s hs h.2 (by rw [← ex, e])⟩
theorem IC_0 {ok : (Nat → Bool) → Nat → Prop} {w : Nat} {s nx : Int32} : IC ok w s nx (Int32.toNatClampNeg 0) := by
  rw [tz0]
  exact fun j h => absurd h (Nat.not_lt_zero _)
theorem IC_f {ok : (Nat → Bool) → Nat → Prop} {w : Nat} {s nx c z : Int32} (h : IC ok w s nx c.toNatClampNeg) (hc : Iv 0 4095 c) (ez : z = c + 1) (q : bt nx c.toNatClampNeg = false) : IC ok w s nx z.toNatClampNeg := by
  rw [cl_s ez hc]
  intro j hj hb
  by_cases y : j = c.toNatClampNeg
  · rw [y, q] at hb
    exact absurd hb (by decide)
  · exact h j (by omega) hb
theorem IC_t {ok : (Nat → Bool) → Nat → Prop} {w : Nat} {s nx c z u t r : Int32} {p : Nat} {pl : Nat → Int32} (h : IC ok w s nx c.toNatClampNeg) (hc : Iv 0 11 c) (ez : z = c + 1) (eu : u = 1 <<< (c &&& 31)) (et : t = s ||| u) (hy : SY ok w p t r pl) (hr : r = 0) : IC ok w s nx z.toNatClampNeg := by
  rw [cl_s ez (iv_w hc (by decide))]
  intro j hj hb
  by_cases y : j = c.toNatClampNeg
  · rw [y, ← bt_ins hc (by decide) eu et]
    exact hy.2 hr
  · exact h j (by omega) hb
theorem SP_s {sr : Nat → Int32} {n w p : Nat} {s nx c u t : Int32} (h : SP w p s) (hm : MC sr n w s nx) (hc : Iv 0 11 c) (q : bt nx c.toNatClampNeg = true) (eu : u = 1 <<< (c &&& 31)) (et : t = s ||| u) : SP w (p + 1) t := by
  obtain ⟨h1, h2, h3⟩ := (hm _).mp q
  refine ⟨?_, bel_set h.2 hc (by decide) h1 eu et⟩
  rw [bt_ins hc (by decide) eu et, ct_ins h1 h2, h.1]
theorem SY_t {sr : Nat → Int32} {n w p : Nat} {s nx c u t r : Int32} {pl p1 p2 : Nat → Int32} (h : SP w p s) (hm : MC sr n w s nx) (hI : IC (okS sr n) w s nx c.toNatClampNeg) (hc : Iv 0 11 c) (q : bt nx c.toNatClampNeg = true) (eu : u = 1 <<< (c &&& 31)) (et : t = s ||| u) (e1 : p1 = upd pl p c) (hL : LPp (p + 1) p2 p1) (hy : SY (okS sr n) w (p + 1) t r p2) (hr : ¬ r = 0) (hp : p < w) : SY (okS sr n) w p s 1 p2 := by
  obtain ⟨h1, h2, h3⟩ := (hm _).mp q
  obtain ⟨y1, y2⟩ := hy.1 hr
  rw [bt_ins hc (by decide) eu et] at y1 y2
  have ec : p2 p = c := by rw [hL p (Nat.lt_succ_self p), up_at e1, if_pos rfl]
  refine ⟨fun _ => ⟨VV_pos h1 ⟨h2, h3, y1⟩, ?_⟩, fun z => absurd z (by decide)⟩
  have e : w - p = (w - (p + 1)) + 1 := by omega
  rw [e]
  refine ⟨by rw [ec]; exact hc.1, ?_, ?_⟩
  · rw [ec]
    refine ⟨⟨h1, h2, h3, y1⟩, fun j hj z => ?_⟩
    have := hI j hj ((hm j).mpr ⟨by omega, z.1, z.2.1⟩)
    have z3 := z.2.2
    omega
  · rw [ec]
    exact y2
theorem SY_z {sr : Nat → Int32} {n p : Nat} {s nx c W : Int32} (h : SP W.toNatClampNeg p s) (hm : MC sr n W.toNatClampNeg s nx) (hI : IC (okS sr n) W.toNatClampNeg s nx c.toNatClampNeg) (q : W.toInt ≤ c.toInt) (hw : Iv 0 12 W) (hp : p < W.toNatClampNeg) : VV (okS sr n) W.toNatClampNeg (bt s) = 0 := by
  obtain ⟨d, hd, hd2⟩ := ct_lack (S := bt s) (w := W.toNatClampNeg) (by rw [h.1]; exact hp)
  refine VV_0 hd hd2 (fun k hk z => ?_)
  have := hI k (Nat.lt_of_lt_of_le hk (cl_le q hw)) ((hm k).mpr ⟨hk, z.1, z.2.1⟩)
  have z3 := z.2.2
  omega
theorem SY_n {ok : (Nat → Bool) → Nat → Prop} {w p : Nat} {s : Int32} {pl : Nat → Int32} (h : VV ok w (bt s) = 0) : SY ok w p s 0 pl := ⟨fun z => absurd rfl z, fun _ => h⟩
theorem MS_u {ok : (Nat → Bool) → Nat → Prop} {w : Nat} {nt n2 : Nat → Int32} {s x : Int32} (hm : MS ok w nt) (h : VV ok w (bt s) = 0) (hs : Iv 0 4095 s) (e : n2 = upd nt s.toNatClampNeg x) : MS ok w n2 := by
  intro t ht hb h1
  rw [up_at e] at h1
  by_cases q : t.toNatClampNeg = s.toNatClampNeg
  · have e2 : t = s := by rw [← cl_nI ht, q, cl_nI hs]
    rw [e2]
    exact h
  · rw [if_neg q] at h1
    exact hm t ht hb h1
theorem LPp_r {n : Nat} {a : Nat → Int32} : LPp n a a := fun _ _ => rfl
theorem LPp_u {n : Nat} {a b c : Nat → Int32} {x : Int32} (h : LPp n a b) (e : c = upd a n x) : LPp n c b := fun j hj => by rw [up_at e, if_neg (by omega)]; exact h j hj
theorem LPp_t {n : Nat} {a b c : Nat → Int32} (h : LPp (n + 1) a b) (h2 : LPp n b c) : LPp n a c := fun j hj => (h j (by omega)).trans (h2 j hj)
theorem MS_0 {ok : (Nat → Bool) → Nat → Prop} {nt : Nat → Int32} {w x1 : Int32} (hw : Iv 0 12 w) (e : x1 = (1 : Int32) <<< (w &&& 31)) (hf : ∀ j : Nat, Int32.toNatClampNeg 0 ≤ j → j < x1.toNatClampNeg → nt j = 0) : MS ok w.toNatClampNeg nt := by
  intro s hs hb h1
  have ha := all_r hw e (x2 := x1 - 1) rfl
  have hle := bel_whole ha hb hs
  have hx : Iv 1 4096 x1 := iv_e e (iv_shl1 hw (by decide))
  have h2 := ti_subc hx (iv_k (x := 1) (a := 1) (by decide +kernel)) (by decide)
  have e1 : (1 : Int32).toInt = 1 := by decide +kernel
  rw [hf s.toNatClampNeg (by rw [tz0]; exact Nat.zero_le _) (by show s.toInt.toNat < x1.toInt.toNat; unfold Iv at hs; omega)] at h1
  exact absurd h1 (by decide)
theorem SP_0 {w : Nat} : SP w 0 0 := ⟨fb_ct_zero.mpr (fun k _ => b_0 k), bel_0 w⟩
/-- what stands between the calls -/
def FW (w : Nat) (f : Nat → Int32) (sd : Int32) (pl : Nat → Int32) : Prop := (¬ sd = 0 → 0 < cnt w f ∧ GQ (okR (TT f) w) w pl w (fun _ => false) 0) ∧ (sd = 0 → cnt w f = 0)
theorem bt0 : bt (0 : Int32) = fun _ => false := by
  funext i
  exact b_0 i
theorem FW_i {f sr pl : Nat → Int32} {n : Nat} {W w sd : Int32} (h : SY (okS sr n) W.toNatClampNeg 0 0 sd pl) (ew : W = w) (hB : RB w.toNatClampNeg f) (hR : SR f sr 12 n) : FW w.toNatClampNeg f sd pl := by
  rw [ew] at h
  have hc : ∀ S c, c < w.toNatClampNeg → S c = false → (okS sr n S c ↔ okR (TT f) w.toNatClampNeg S c) := fun S c _ h => ok_eq hB hR S c h
  have e := cnt_eq hB hR
  obtain ⟨h1, h2⟩ := h
  rw [bt0, e] at h1 h2
  refine ⟨fun z => ⟨(h1 z).1, ?_⟩, h2⟩
  have := (h1 z).2
  rw [Nat.sub_zero] at this
  exact GQ_c hc this
def STP (w : Int32) (f : Nat → Int32) (i r : Int32) : Prop := ((0 < cnt w.toNatClampNeg f ∧ 0 ≤ i.toInt ∧ i.toInt < w.toInt) ∧ ∃ pl : Nat → Int32, GQ (okR (TT f) w.toNatClampNeg) w.toNatClampNeg pl w.toNatClampNeg (fun _ => false) 0 ∧ r = pl i.toNatClampNeg) ∨ (¬ (0 < cnt w.toNatClampNeg f ∧ 0 ≤ i.toInt ∧ i.toInt < w.toInt) ∧ r = -9)
theorem STP_eq {w w2 i i2 r r2 : Int32} {f g : Nat → Int32} (hT : TB w f w2 g) (ei : i2 = i) (h1 : STP w f i r) (h2 : STP w2 g i2 r2) : r = r2 := by
  subst ei
  unfold STP at h2
  rw [← cnt_TB hT, ← TT_eq hT, ← hT.1] at h2
  rcases h1 with ⟨a, pl, b, c⟩ | ⟨a, b⟩
  · rcases h2 with ⟨a2, p2, b2, c2⟩ | ⟨a2, b2⟩
    · rw [c, c2]
      refine GQ_1 b b2 _ (Nat.zero_le _) ?_
      rw [Nat.zero_add]
      show i2.toInt.toNat < w.toInt.toNat
      omega
    · exact absurd a a2
  · rcases h2 with ⟨a2, _⟩ | ⟨a2, b2⟩
    · exact absurd a2 a
    · rw [b, b2]
/-- the reference's walk -/
def GP (ok : (Nat → Bool) → Nat → Prop) (w : Nat) (pl : Nat → Int32) : Nat → (Nat → Bool) → Prop
  | 0, S => S = fun _ => false
  | n + 1, S => ∃ S', GP ok w pl n S' ∧ 0 ≤ (pl n).toInt ∧ NX ok w S' (pl n).toNatClampNeg ∧ S = ins S' (pl n).toNatClampNeg
theorem GP_Q {ok : (Nat → Bool) → Nat → Prop} {w : Nat} {pl : Nat → Int32} : ∀ {n m : Nat} {S : Nat → Bool}, GP ok w pl n S → GQ ok w pl m S n → GQ ok w pl (n + m) (fun _ => false) 0
  | 0, m, S, h, q => by
    have h : S = fun _ => false := h
    rw [Nat.zero_add, ← h]
    exact q
  | n + 1, m, S, ⟨S', a, b, c, d⟩, q => by
    have : GQ ok w pl (n + (m + 1)) (fun _ => false) 0 := GP_Q a ⟨b, c, by rw [← d]; exact q⟩
    rw [show n + 1 + m = n + (m + 1) by omega]
    exact this
theorem GP_pos {ok : (Nat → Bool) → Nat → Prop} {w : Nat} {pl : Nat → Int32} : ∀ {n : Nat} {S : Nat → Bool}, GP ok w pl n S → 0 < n → 0 < VV ok w (fun _ => false)
  | 0, _, _, h => absurd h (Nat.lt_irrefl 0)
  | n + 1, S, ⟨S', a, b, c, d⟩, _ => by
    by_cases q : n = 0
    · subst q
      have a : S' = fun _ => false := a
      rw [← a]
      exact VV_pos c.1.1 c.1.2
    · exact GP_pos a (by omega)
theorem GP_S {ok : (Nat → Bool) → Nat → Prop} {w : Nat} {pl : Nat → Int32} : ∀ {n : Nat} {S : Nat → Bool}, GP ok w pl n S → 0 < VV ok w (fun _ => false) → 0 < VV ok w S
  | 0, S, h, q => by
    have h : S = fun _ => false := h
    rw [h]
    exact q
  | n + 1, S, ⟨S', a, b, c, d⟩, _ => by
    rw [d]
    exact c.1.2.2.2
theorem GP_up {ok : (Nat → Bool) → Nat → Prop} {w : Nat} {pl p2 : Nat → Int32} : ∀ {n : Nat} {S : Nat → Bool}, GP ok w pl n S → (∀ j, j < n → p2 j = pl j) → GP ok w p2 n S
  | 0, _, h, _ => h
  | n + 1, S, ⟨S', a, b, c, d⟩, e => by
    have e0 := e n (Nat.lt_succ_self n)
    refine ⟨S', GP_up a (fun j hj => e j (by omega)), ?_, ?_, ?_⟩
    · rw [e0]; exact b
    · rw [e0]; exact c
    · rw [e0]; exact d
theorem ce_big {th : Nat → Int32} {w s l : Nat} (hw : w ≤ 8) : ce th w s l ≤ 429981696 := by
  unfold ce
  by_cases q : bt (nI s) l = true ∧ WL (Tt th) w (bt (nI s)) l
  · rw [pick_t q]
    refine Nat.le_trans (VV_le (by omega) _) (Nat.le_trans (Nat.pow_le_pow_right (by decide) hw) (by decide))
  · rw [pick_f q]
    exact Nat.zero_le _
theorem ofn_t {n : Nat} (h : n ≤ 429981696) : (Int32.ofNat n).toInt = (n : Int) := nI_toInt (by omega)
def KE (th can : Nat → Int32) (w s l : Nat) : Prop := ¬ can (12 * s + l) = 0 ↔ 0 < ce th w s l
def KA (th can : Nat → Int32) (w : Nat) (lo : Int) (hi : Nat) : Prop := ∀ s : Nat, lo < (s : Int) → s ≤ hi → ∀ l, l < w → KE th can w s l
def KL (th can : Nat → Int32) (w s n : Nat) : Prop := ∀ l, l < n → l < w → KE th can w s l
theorem KA_0 {th can : Nat → Int32} {w : Nat} {x : Int32} {b : Int} (h : Iv 0 b x) : KA th can w x.toInt x.toNatClampNeg := by
  intro s h1 h2
  have e : (x.toNatClampNeg : Int) = x.toInt := by
    show ((x.toInt.toNat : Nat) : Int) = x.toInt
    unfold Iv at h
    omega
  omega
theorem KA_s {th can : Nat → Int32} {w : Int32} {s z l : Int32} {b : Int} {hi : Nat} (h : KA th can w.toNatClampNeg s.toInt hi) (hL : KL th can w.toNatClampNeg s.toNatClampNeg l.toNatClampNeg) (q : w.toInt ≤ l.toInt) (hs : Iv 0 b s) (hw : Iv 0 12 w) (ez : z.toInt = s.toInt - 1) : KA th can w.toNatClampNeg z.toInt hi := by
  intro n h1 h2 k hk
  by_cases e : (n : Int) = s.toInt
  · have e2 : n = s.toNatClampNeg := by
      show n = s.toInt.toNat
      omega
    rw [e2]
    exact hL k (Nat.lt_of_lt_of_le hk (cl_le q hw)) hk
  · exact h n (by omega) h2 k hk
theorem KA_upd {th can c2 : Nat → Int32} {w hi j : Nat} {s : Int32} {b : Int} {l : Nat} {x : Int32} (h : KA th can w s.toInt hi) (hs : Iv 0 b s) (hw : w ≤ 12) (hl : l < 12) (ej : j = 12 * s.toNatClampNeg + l) (e : c2 = upd can j x) : KA th c2 w s.toInt hi := by
  intro n h1 h2 k hk
  unfold KE
  rw [up_at e, if_neg ?_]
  · exact h n h1 h2 k hk
  · intro q
    have e2 : (s.toNatClampNeg : Int) = s.toInt := by
      show ((s.toInt.toNat : Nat) : Int) = s.toInt
      unfold Iv at hs
      omega
    omega
theorem KL_0 {th can : Nat → Int32} {w s : Nat} : KL th can w s (Int32.toNatClampNeg 0) := by
  rw [tz0]
  exact fun l h => absurd h (Nat.not_lt_zero _)
theorem KL_s {th cts can c2 : Nat → Int32} {w : Int32} {s j : Nat} {l z y x : Int32} (h : KL th can w.toNatClampNeg s l.toNatClampNeg) (hl : Iv 0 4095 l) (ez : z = l + 1) (hC : CE th cts w.toNatClampNeg s l.toNatClampNeg) (hw : Iv 0 8 w) (ej : j = 12 * s + l.toNatClampNeg) (ey : y = cts j) (e : c2 = upd can j x) (hx : (x = 0 ∧ y.toInt ≤ Int32.toInt 0) ∨ (x = 1 ∧ Int32.toInt 0 < y.toInt)) : KL th c2 w.toNatClampNeg s z.toNatClampNeg := by
  rw [cl_s ez hl]
  intro k h1 h3
  unfold KE
  rw [up_at e]
  by_cases q : k = l.toNatClampNeg
  · rw [q, if_pos ej.symm]
    have e0 : Int32.toInt 0 = 0 := by decide +kernel
    unfold CE at hC
    rw [← ej, ← ey] at hC
    have hb := ofn_t (ce_big (th := th) (s := s) (l := l.toNatClampNeg) (cl_b hw (show (8 : Int) ≤ ((8 : Nat) : Int) by decide)))
    rw [← hC] at hb
    rcases hx with ⟨a, b⟩ | ⟨a, b⟩
    · rw [a]
      exact ⟨fun z => absurd rfl z, fun z => by omega⟩
    · rw [a]
      exact ⟨fun _ => by omega, fun _ => by decide⟩
  · rw [if_neg (by omega)]
    exact h k (by omega) h3
def KD (th can : Nat → Int32) (w : Nat) : Prop := ∃ x : Int32, alls w x ∧ KA th can w 0 x.toNatClampNeg
theorem KD_i {th can : Nat → Int32} {w : Nat} {x s : Int32} (ha : alls w x) (h : KA th can w s.toInt x.toNatClampNeg) (q : s.toInt ≤ Int32.toInt 0) : KD th can w := by
  have e : Int32.toInt 0 = 0 := by decide +kernel
  exact ⟨x, ha, fun n h1 => h n (by omega)⟩
theorem KD_at {th can : Nat → Int32} {w : Nat} {s k u t p q : Int32} (h : KD th can w) (hb : bel w s) (hs : Iv 0 4095 s) (hk : Iv 0 11 k) (hkw : k.toNatClampNeg < w) (hf : bt s k.toNatClampNeg = false) (eu : u = 1 <<< (k &&& 31)) (et : t = s ||| u) (ht : Iv 0 4095 t) (ep : p = 12 * t) (eq : q = p + k) : ¬ can q.toNatClampNeg = 0 ↔ CN (okR (Tt th) w) w (bt s) k.toNatClampNeg := by
  obtain ⟨x, ha, hA⟩ := h
  have hg := set_gt hs ht hk (by decide) eu et hf
  have hbel : bel w t := bel_set hb hk (by decide) hkw eu et
  have hle := bel_whole ha hbel ht
  have e2 : (t.toNatClampNeg : Int) = t.toInt := (v_nI ht (Int.le_refl 0)).2
  have e3 : (x.toNatClampNeg : Int) = x.toInt := (v_nI ha.1 (Int.le_refl 0)).2
  have hi_ := ix12 ht (iv_w (c := 0) (d := 12) hk (by decide)) ep eq
  have hc := hA t.toNatClampNeg (by unfold Iv at hs; omega) (by omega) k.toNatClampNeg hkw
  unfold KE at hc
  rw [← hi_] at hc
  rw [hc]
  unfold ce CN
  rw [cl_nI ht, bt_ins hk (by decide) eu et]
  by_cases z : WL (Tt th) w (ins (bt s) k.toNatClampNeg) k.toNatClampNeg
  · rw [pick_t ⟨ins_at _ _, z⟩]
    exact ⟨fun y => ⟨hf, z, y⟩, fun y => y.2.2⟩
  · rw [pick_f (fun y => z y.2)]
    exact ⟨fun y => absurd y (Nat.lt_irrefl 0), fun y => absurd y.2.1 z⟩
theorem NC_0 {ok : (Nat → Bool) → Nat → Prop} {w : Nat} {S : Nat → Bool} : ∀ j, j < Int32.toNatClampNeg 0 → ¬ CN ok w S j := by
  rw [tz0]
  exact fun j h => absurd h (Nat.not_lt_zero _)
theorem NC_s {ok : (Nat → Bool) → Nat → Prop} {w : Nat} {S : Nat → Bool} {k z : Int32} (h : ∀ j, j < k.toNatClampNeg → ¬ CN ok w S j) (hk : Iv 0 4095 k) (ez : z = k + 1) (hn : ¬ CN ok w S k.toNatClampNeg) : ∀ j, j < z.toNatClampNeg → ¬ CN ok w S j := by
  rw [cl_s ez hk]
  intro j hj
  by_cases q : j = k.toNatClampNeg
  · rw [q]
    exact hn
  · exact h j (by omega)
theorem NC_h {ok : (Nat → Bool) → Nat → Prop} {w k : Nat} {S : Nat → Bool} (h : S k = true) : ¬ CN ok w S k := fun q => by
  have := q.1
  rw [h] at this
  exact absurd this (by decide)
theorem NC_w {ok : (Nat → Bool) → Nat → Prop} {w k : Int32} {S : Nat → Bool} (h : ∀ j, j < k.toNatClampNeg → ¬ CN ok w.toNatClampNeg S j) (q : w.toInt ≤ k.toInt) (hw : Iv 0 12 w) : ∀ j, j < w.toNatClampNeg → ¬ CN ok w.toNatClampNeg S j := fun j hj => h j (Nat.lt_of_lt_of_le hj (cl_le q hw))
theorem NC_z {ok : (Nat → Bool) → Nat → Prop} {w : Int32} {S : Nat → Bool} (h : w.toInt ≤ Int32.toInt 0) : ∀ j, j < w.toNatClampNeg → ¬ CN ok w.toNatClampNeg S j := by
  intro j hj
  have e : Int32.toInt 0 = 0 := by decide +kernel
  have hj : j < w.toInt.toNat := hj
  omega
theorem GP_0 {ok : (Nat → Bool) → Nat → Prop} {w : Nat} {pl : Nat → Int32} : GP ok w pl (Int32.toNatClampNeg 0) (bt 0) := by
  rw [tz0]
  exact bt0
theorem GP_s {ok : (Nat → Bool) → Nat → Prop} {w : Nat} {pl p2 : Nat → Int32} {s k u t n n2 : Int32} (h : GP ok w pl n.toNatClampNeg (bt s)) (hn : Iv 0 11 n) (en : n2 = n + 1) (e : p2 = upd pl n.toNatClampNeg k) (hk : Iv 0 11 k) (eu : u = 1 <<< (k &&& 31)) (et : t = s ||| u) (hkw : k.toNatClampNeg < w) (hc : CN ok w (bt s) k.toNatClampNeg) (hno : ∀ j, j < k.toNatClampNeg → ¬ CN ok w (bt s) j) : GP ok w p2 n2.toNatClampNeg (bt t) := by
  rw [cl_s en (iv_w hn (by decide))]
  have ek : p2 n.toNatClampNeg = k := by rw [up_at e, if_pos rfl]
  refine ⟨bt s, GP_up h (fun j hj => by rw [up_at e, if_neg (by omega)]), ?_, ?_, ?_⟩
  · rw [ek]; exact hk.1
  · rw [ek]; exact ⟨⟨hkw, hc⟩, hno⟩
  · rw [ek]; exact bt_ins hk (by decide) eu et
def WK (th pl : Nat → Int32) (w n : Nat) : Prop := ∃ S, GP (okR (Tt th) w) w pl n S ∧ (∀ j, j < w → ¬ CN (okR (Tt th) w) w S j) ∧ fb_ct S w = n
theorem ct_bel {w : Nat} {s : Int32} (hw : w ≤ 12) (hb : bel w s) : fb_ct (bt s) w = ct s 12 := by
  unfold ct
  have h := fb_ct_split (bt s) w (12 - w)
  have z : fb_ct (fun k => bt s (w + k)) (12 - w) = 0 := fb_ct_zero.mpr (fun k _ => hb _ (by omega))
  rw [z, show w + (12 - w) = 12 by omega] at h
  exact h.symm
theorem WK_i {th pl : Nat → Int32} {w : Nat} {s n : Int32} (h : GP (okR (Tt th) w) w pl n.toNatClampNeg (bt s)) (hn : ∀ j, j < w → ¬ CN (okR (Tt th) w) w (bt s) j) (hw : w ≤ 12) (hb : bel w s) (hc : n.toInt = (ct s 12 : Int)) : WK th pl w n.toNatClampNeg := by
  refine ⟨bt s, h, hn, ?_⟩
  rw [ct_bel hw hb]
  show ct s 12 = n.toInt.toNat
  omega
theorem WK_all {g th pl : Nat → Int32} {w n : Nat} (hA : TA g th w) (h : WK th pl w n) : (0 < cnt w g ↔ n = w) ∧ (n = w → GQ (okR (TT g) w) w pl w (fun _ => false) 0) := by
  obtain ⟨S, h1, h2, h3⟩ := h
  have e := cnt_r hA
  have hc : ∀ S c, c < w → S c = false → (okR (Tt th) w S c ↔ okR (TT g) w S c) := by
    intro S c hc _
    have e : ∀ r k, k < w → (Tt th r k ↔ TT g r k) := fun r k hk => hA k hk r
    constructor
    · intro q r ⟨k, a, b, d⟩ ⟨k2, a2, b2, d2⟩
      exact (e r c hc).mp (q r ⟨k, a, (e r k a).mpr b, d⟩ ⟨k2, a2, (e r k2 a2).mpr b2, d2⟩)
    · intro q r ⟨k, a, b, d⟩ ⟨k2, a2, b2, d2⟩
      exact (e r c hc).mpr (q r ⟨k, a, (e r k a).mp b, d⟩ ⟨k2, a2, (e r k2 a2).mp b2, d2⟩)
  rw [← e]
  refine ⟨⟨fun q => ?_, fun q => ?_⟩, fun q => ?_⟩
  · have hp := GP_S h1 q
    rcases Nat.lt_or_ge (fb_ct S w) w with z | z
    · obtain ⟨d, hd, hd2⟩ := ct_lack z
      rw [VV_0 hd hd2 h2] at hp
      exact absurd hp (Nat.lt_irrefl 0)
    · have := fb_ct_le S w
      omega
  · by_cases z : n = 0
    · have hw : w = 0 := by omega
      rw [hw]
      rw [VV_full (fun c hc => absurd hc (Nat.not_lt_zero _))]
      exact Nat.one_pos
    · exact GP_pos h1 (by omega)
  · rw [q] at h1
    exact GQ_c hc (GP_Q (m := 0) h1 trivial)
theorem STP_y {g th pl : Nat → Int32} {t n w i r : Int32} (hA : TA g th t.toNatClampNeg) (h : WK th pl t.toNatClampNeg n.toNatClampNeg) (et : t = w) (en : n = w) (hi : 0 ≤ i.toInt ∧ i.toInt < w.toInt) (er : r = pl i.toNatClampNeg) : STP w g i r := by
  rw [et] at hA h
  have k := WK_all hA h
  have e : n.toNatClampNeg = w.toNatClampNeg := by rw [en]
  exact Or.inl ⟨⟨k.1.mpr e, hi⟩, pl, k.2 e, er⟩
theorem STP_n {g : Nat → Int32} {w i : Int32} (hi : ¬ (0 ≤ i.toInt ∧ i.toInt < w.toInt)) : STP w g i (-9) := Or.inr ⟨fun q => hi q.2, rfl⟩
theorem STP_l {g th pl : Nat → Int32} {t n w i : Int32} (hA : TA g th t.toNatClampNeg) (h : WK th pl t.toNatClampNeg n.toNatClampNeg) (et : t = w) (hn : Iv 0 12 n) (hw : Iv 0 12 w) (en : ¬ n = w) : STP w g i (-9) := by
  rw [et] at hA h
  have k := WK_all hA h
  refine Or.inr ⟨fun q => ?_, rfl⟩
  have e := k.1.mp q.1
  refine en (Int32.toInt_inj.mp ?_)
  have e : n.toInt.toNat = w.toInt.toNat := e
  unfold Iv at hn hw
  omega
theorem STP_c {f pl : Nat → Int32} {w sd i r : Int32} (h : FW w.toNatClampNeg f sd pl) (hs : ¬ sd = 0) (hi : 0 ≤ i.toInt ∧ i.toInt < w.toInt) (er : r = pl i.toNatClampNeg) : STP w f i r := Or.inl ⟨⟨(h.1 hs).1, hi⟩, pl, (h.1 hs).2, er⟩
theorem STP_d {f pl : Nat → Int32} {w sd i : Int32} (h : FW w.toNatClampNeg f sd pl) (hs : sd = 0) : STP w f i (-9) := Or.inr ⟨fun q => by rw [h.2 hs] at q; exact absurd q.1 (Nat.lt_irrefl 0), rfl⟩
def CCq (mf v w : Int32) (f : Nat → Int32) (sd : Int32) (pl : Nat → Int32) (sw : Int32) : Prop := mf = v → FW w.toNatClampNeg f sd pl ∧ sw = w
def TQ (w : Int32) (f : Nat → Int32) (w2 : Int32) (g : Nat → Int32) (v mf sd : Int32) (pl : Nat → Int32) (sw : Int32) (n : Int) : Prop := TB w f w2 g ∧ RB w.toNatClampNeg f ∧ CCq mf v w f sd pl sw ∧ mf.toInt ≤ v.toInt ∧ 0 ≤ v.toInt ∧ v.toInt ≤ n
theorem TQ_up {w w2 v mf sd sw : Int32} {f g pl : Nat → Int32} {n : Int} (h : TQ w f w2 g v mf sd pl sw n) : TQ w f w2 g v mf sd pl sw (n + 4) := ⟨h.1, h.2.1, h.2.2.1, h.2.2.2.1, h.2.2.2.2.1, by have := h.2.2.2.2.2; omega⟩
theorem TQ_v {w w2 v mf sd sw x x2 v2 : Int32} {f g f2 g2 pl : Nat → Int32} {n : Int} (h : TQ w f w2 g v mf sd pl sw n) (hn : n ≤ 2048) (hT : TB x f2 x2 g2) (hB : RB x.toNatClampNeg f2) (hv : vP v w f v2 x f2) : TQ x f2 x2 g2 v2 mf sd pl sw (n + 4) := by
  obtain ⟨h1, h2, h3, h4, h5, h6⟩ := h
  rcases hv with ⟨e1, e2, e3⟩ | e
  · refine ⟨hT, hB, ?_, by rw [e1]; exact h4, by rw [e1]; exact h5, by rw [e1]; omega⟩
    unfold CCq at *
    rw [e1, e2, e3]
    exact h3
  · have h7 : v2.toInt = v.toInt + 1 := tia (k := 1) (c := 1) e (a := 0) (b := 4000) ⟨h5, by omega⟩ (iv_k (by decide +kernel)) (by decide)
    refine ⟨hT, hB, ?_, by omega, by omega, by omega⟩
    intro q
    rw [q] at h4
    omega
theorem TQ_m {w w2 v mf sd sw m2 s2 sw2 : Int32} {f g pl p2 : Nat → Int32} {n : Int} (h : TQ w f w2 g v mf sd pl sw n) (hm : m2 = v) (hy : FW w.toNatClampNeg f s2 p2) (hs : sw2 = w) : TQ w f w2 g v m2 s2 p2 sw2 (n + 4) := by
  obtain ⟨h1, h2, h3, h4, h5, h6⟩ := h
  exact ⟨h1, h2, fun _ => ⟨hy, hs⟩, by rw [hm]; exact Int.le_refl _, h5, by omega⟩
theorem TQ_0 {w w2 v mf sd sw : Int32} {f g pl : Nat → Int32} (hT : TB w f w2 g) (hf : ∀ i : Nat, i < 12 → f i = -1) (hv : v = 0) (hm : mf = -1) : TQ w f w2 g v mf sd pl sw (Int32.toInt 0) := by
  have e0 : Int32.toInt 0 = 0 := by decide +kernel
  have e1 : (-1 : Int32).toInt = -1 := by decide +kernel
  refine ⟨hT, fun r hr h0 => ?_, fun q => ?_, ?_, ?_, ?_⟩
  · rw [hf r hr, e1] at h0
    omega
  · rw [hm, hv] at q
    exact absurd q (by decide)
  · rw [hm, hv, e0, e1]
    omega
  · rw [hv, e0]
    exact Int.le_refl _
  · rw [hv]
    exact Int.le_refl _
theorem STP_ci {f pl : Nat → Int32} {w sw sd i r : Int32} {b : Int} (h : FW w.toNatClampNeg f sd pl) (hs : ¬ sd = 0) (ew : sw = w) (hi : Iv 0 b i) (q : i.toInt < sw.toInt) (er : r = pl i.toNatClampNeg) : STP w f i r := STP_c h hs ⟨hi.1, by rw [← ew]; exact q⟩ er
theorem STP_lo {f : Nat → Int32} {w i : Int32} (q : i.toInt < Int32.toInt 0) : STP w f i (-9) := STP_n (fun z => by have e : Int32.toInt 0 = 0 := (by decide +kernel); omega)
theorem STP_hi {f : Nat → Int32} {w sw i : Int32} (ew : sw = w) (q : sw.toInt ≤ i.toInt) : STP w f i (-9) := STP_n (fun z => by rw [ew] at q; omega)
theorem STP_ro {g : Nat → Int32} {w n i x : Int32} (en : n = w) (ex : x = n - 1) (hn : Iv 0 12 n) (h : ¬ (Int32.toInt 0 ≤ i.toInt ∧ i.toInt ≤ x.toInt)) : STP w g i (-9) := by
  have e0 : Int32.toInt 0 = 0 := by decide +kernel
  have e1 : Int32.toInt 1 = 1 := by decide +kernel
  have h2 := (congrArg Int32.toInt ex).trans (ti_subc hn (iv_k (a := 1) (by decide +kernel)) (by decide))
  refine STP_n (fun z => h ?_)
  rw [en] at h2
  exact ⟨by omega, by omega⟩
theorem STP_ry {g th pl : Nat → Int32} {t n w i x r : Int32} (hA : TA g th t.toNatClampNeg) (hK : WK th pl t.toNatClampNeg n.toNatClampNeg) (et : t = w) (en : n = w) (ex : x = n - 1) (hn : Iv 0 12 n) (h : Int32.toInt 0 ≤ i.toInt ∧ i.toInt ≤ x.toInt) (er : r = pl i.toNatClampNeg) : STP w g i r := by
  have e0 : Int32.toInt 0 = 0 := by decide +kernel
  have e1 : Int32.toInt 1 = 1 := by decide +kernel
  have h2 := (congrArg Int32.toInt ex).trans (ti_subc hn (iv_k (a := 1) (by decide +kernel)) (by decide))
  refine STP_y hA hK et en ?_ er
  rw [← en]
  exact ⟨by omega, by omega⟩
