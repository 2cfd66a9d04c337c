def bitS (x : Int32) : Nat → Int32
  | 0 => 0
  | k + 1 => bitS x k + ((x >>> (nI k &&& 31)) &&& 1)
theorem bitS_0 {x : Int32} : (0 : Int32) = bitS x (Int32.toNatClampNeg 0) := by rw [tz0]; rfl
theorem bitS_s {x m m2 k k2 x1 x2 : Int32} (h : m = bitS x k.toNatClampNeg) (hk : Iv 0 4095 k) (ek : k2 = k + 1) (e1 : x1 = x >>> (k &&& 31)) (e2 : x2 = x1 &&& 1) (e3 : m2 = m + x2) : m2 = bitS x k2.toNatClampNeg := by
  rw [cl_s ek hk]
  show m2 = bitS x k.toNatClampNeg + ((x >>> (nI k.toNatClampNeg &&& 31)) &&& 1)
  rw [← h, ← (v_nI hk (by decide)).1, ← e1, ← e2, e3]
theorem bitS_e {x m k : Int32} (h : m = bitS x k.toNatClampNeg) (hk : Iv 13 13 k) : m = bitS x 13 := by
  have e : k = 13 := d_eq hk (iv_k (by decide +kernel))
  rw [e] at h
  exact h
def ixx (set a : Int32) : Nat := (12 * set + a).toNatClampNeg
theorem ixx_e {set a y y0 : Int32} (e0 : y0 = 12 * set) (e1 : y = y0 + a) : ixx set a = y.toNatClampNeg := by unfold ixx; rw [e1, e0]
def cosS (T : Nat → Int32) (set o : Int32) : Nat → Int32
  | 0 => 0
  | a + 1 => cosS T set o a + (if bt o a = true then bitS (o &&& (T (ixx set (nI a)) ^^^ (-1))) 13 - 1 else 0)
theorem cosS_0 {T : Nat → Int32} {set o : Int32} : (0 : Int32) = cosS T set o (Int32.toNatClampNeg 0) := by rw [tz0]; rfl
theorem cosS_t {T : Nat → Int32} {set o m a a2 y0 y q u w r t z : Int32} (h : m = cosS T set o a.toNatClampNeg) (ha : Iv 0 4095 a) (ea : a2 = a + 1) (hb : bt o a.toNatClampNeg = true) (e0 : y0 = 12 * set) (e1 : y = y0 + a) (e2 : q = T y.toNatClampNeg) (e3 : u = q ^^^ (-1)) (e4 : w = o &&& u) (e5 : r = bitS w 13) (e6 : t = r - 1) (e7 : z = m + t) : z = cosS T set o a2.toNatClampNeg := by
  rw [cl_s ea ha]
  show z = cosS T set o a.toNatClampNeg + (if bt o a.toNatClampNeg = true then bitS (o &&& (T (ixx set (nI a.toNatClampNeg)) ^^^ (-1))) 13 - 1 else 0)
  rw [if_pos hb, ← (v_nI ha (by decide)).1, ixx_e e0 e1, ← e2, ← e3, ← e4, ← e5, ← e6, ← h, e7]
theorem cosS_f {T : Nat → Int32} {set o m a a2 z : Int32} (h : m = cosS T set o a.toNatClampNeg) (ha : Iv 0 4095 a) (ea : a2 = a + 1) (hb : bt o a.toNatClampNeg = false) (e7 : z = m + 0) : z = cosS T set o a2.toNatClampNeg := by
  rw [cl_s ea ha]
  show z = cosS T set o a.toNatClampNeg + (if bt o a.toNatClampNeg = true then bitS (o &&& (T (ixx set (nI a.toNatClampNeg)) ^^^ (-1))) 13 - 1 else 0)
  rw [if_neg (by rw [hb]; decide), ← h, e7]
def costF (T : Nat → Int32) (n : Nat) (what set v : Int32) : Int32 := if what = 1 then bitS (T (ixx set v)) 13 else cosS T set (T (ixx set v)) n / 2
theorem cost_1 {T : Nat → Int32} {n : Nat} {what set v y0 y o r : Int32} (h : what = 1) (e0 : y0 = 12 * set) (e1 : y = y0 + v) (e2 : o = T y.toNatClampNeg) (e3 : r = bitS o 13) : r = costF T n what set v := by
  unfold costF
  rw [if_pos h, ixx_e e0 e1, ← e2, e3]
theorem cost_0 {T : Nat → Int32} {n what set v y0 y o m a r : Int32} (h : ¬ what = 1) (e0 : y0 = 12 * set) (e1 : y = y0 + v) (e2 : o = T y.toNatClampNeg) (hm : m = cosS T set o a.toNatClampNeg) (q1 : n.toInt ≤ a.toInt) (q2 : a.toInt ≤ n.toInt) (er : r = m / 2) : r = costF T n.toNatClampNeg what set v := by
  unfold costF
  have e : a = n := Int32.toInt_inj.mp (Int.le_antisymm q2 q1)
  rw [if_neg h, ixx_e e0 e1, ← e2, ← e, ← hm, er]
theorem iv_div2 {a b e f : Int} {x : Int32} (hx : Iv a b x) (k : ((decide (-1000000 ≤ a) && decide (b ≤ 1000000)) && ((decide (2 * e ≤ a) && decide (e ≤ 0)) && (decide (b ≤ 2 * f + 1) && decide (0 ≤ f)))) = true) : Iv e f (x / 2) := by
  obtain ⟨k1, k3⟩ := k2 k
  obtain ⟨k1, k1'⟩ := k2 k1
  obtain ⟨k3, k5⟩ := k2 k3
  obtain ⟨k3, k4⟩ := k2 k3
  obtain ⟨k5, k6⟩ := k2 k5
  have k1 := of_decide_eq_true k1
  have k1' := of_decide_eq_true k1'
  have k3 := of_decide_eq_true k3
  have k4 := of_decide_eq_true k4
  have k5 := of_decide_eq_true k5
  have k6 := of_decide_eq_true k6
  have e2 : (2 : Int32).toInt = 2 := by decide +kernel
  unfold Iv at *
  have hd : (x / 2).toInt = x.toInt.tdiv 2 := by
    rw [Int32.toInt_div, e2]
    have h9 : -1000000 ≤ x.toInt.tdiv 2 ∧ x.toInt.tdiv 2 ≤ 1000000 := by
      rcases Int.le_total 0 x.toInt with q | q
      · rw [Int.tdiv_eq_ediv_of_nonneg q]
        omega
      · obtain ⟨y, hy⟩ : ∃ y, x.toInt = -y := ⟨-x.toInt, by omega⟩
        rw [hy, Int.neg_tdiv, Int.tdiv_eq_ediv_of_nonneg (by omega)]
        omega
    exact fb_bmod (by omega) (by omega)
  rw [hd]
  rcases Int.le_total 0 x.toInt with q | q
  · rw [Int.tdiv_eq_ediv_of_nonneg q]
    omega
  · obtain ⟨y, hy⟩ : ∃ y, x.toInt = -y := ⟨-x.toInt, by omega⟩
    rw [hy, Int.neg_tdiv, Int.tdiv_eq_ediv_of_nonneg (by omega)]
    omega
def nx (set v : Int32) : Nat := (set ||| ((1 : Int32) <<< (v &&& 31))).toNatClampNeg
def withF (T Lf : Nat → Int32) (n : Nat) (what set v : Int32) : Int32 := if what = 0 then costF T n what set v + Lf (nx set v) else if Lf (nx set v) < costF T n what set v then costF T n what set v else Lf (nx set v)
theorem nx_e {set v y z : Int32} (ez : z = 1 <<< (v &&& 31)) (ey : y = set ||| z) : nx set v = y.toNatClampNeg := by unfold nx; rw [ey, ez]
theorem with_0 {T Lf : Nat → Int32} {n : Nat} {what set v now later y z r : Int32} (h : what = 0) (en : now = costF T n what set v) (ez : z = 1 <<< (v &&& 31)) (ey : y = set ||| z) (el : later = Lf y.toNatClampNeg) (er : r = now + later) : r = withF T Lf n what set v := by
  unfold withF
  rw [if_pos h, nx_e ez ey, ← en, ← el, er]
theorem with_l {T Lf : Nat → Int32} {n : Nat} {what set v now later y z : Int32} (h : ¬ what = 0) (en : now = costF T n what set v) (ez : z = 1 <<< (v &&& 31)) (ey : y = set ||| z) (el : later = Lf y.toNatClampNeg) (q : now.toInt ≤ later.toInt) : later = withF T Lf n what set v := by
  unfold withF
  rw [if_neg h, nx_e ez ey, ← en, ← el, if_neg (by rw [Int32.lt_iff_toInt_lt]; omega)]
theorem with_n {T Lf : Nat → Int32} {n : Nat} {what set v now later y z : Int32} (h : ¬ what = 0) (en : now = costF T n what set v) (ez : z = 1 <<< (v &&& 31)) (ey : y = set ||| z) (el : later = Lf y.toNatClampNeg) (q : later.toInt < now.toInt) : now = withF T Lf n what set v := by
  unfold withF
  rw [if_neg h, nx_e ez ey, ← en, ← el, if_pos (by rw [Int32.lt_iff_toInt_lt]; exact q)]
theorem with_c {T Lf L2 : Nat → Int32} {n : Nat} {what set v : Int32} (h : L2 (nx set v) = Lf (nx set v)) : withF T L2 n what set v = withF T Lf n what set v := by
  unfold withF
  rw [h]
theorem with_1le {T Lf : Nat → Int32} {n : Nat} {set v y z : Int32} {w : Int} (h : (withF T Lf n 1 set v).toInt ≤ w) (ez : z = 1 <<< (v &&& 31)) (ey : y = set ||| z) : (Lf y.toNatClampNeg).toInt ≤ w := by
  unfold withF at h
  rw [if_neg (by decide), nx_e ez ey] at h
  split at h
  · rename_i q
    rw [Int32.lt_iff_toInt_lt] at q
    omega
  · exact h
/-- the set with one more: its number, its bits -/
theorem nx_set {n : Nat} {s v : Int32} (hs : Iv 0 4095 s) (hb : bel n s) (hn : n ≤ 12) (hv : Iv 0 11 v) (hvn : v.toNatClampNeg < n) (hf : bt s v.toNatClampNeg = false) : ∃ t : Int32, t = s ||| ((1 : Int32) <<< (v &&& 31)) ∧ Iv 0 4095 t ∧ bel n t ∧ s.toInt < t.toInt ∧ ct t n = ct s n + 1 ∧ nx s v = t.toNatClampNeg := by
  have h1 : Iv 1 2048 ((1 : Int32) <<< (v &&& 31)) := iv_shl1 hv (by decide)
  have h2 : Iv 0 4095 (s ||| ((1 : Int32) <<< (v &&& 31))) := iv_w (iv_or 12 hs h1 (by decide)) (by decide)
  exact ⟨_, rfl, h2, bel_set hb hv (by decide) hvn rfl rfl, set_gt hs h2 hv (by decide) rfl rfl hf, ct_set hv (by decide) hvn (by omega) rfl rfl hf, rfl⟩
def zc (n : Nat) (s : Int32) : Int := (n : Int) - (ct s n : Int)
def LB (Lf : Nat → Int32) (n : Nat) (s : Int32) : Prop := -(6 * zc n s) ≤ (Lf s.toNatClampNeg).toInt ∧ (Lf s.toNatClampNeg).toInt ≤ 72 * zc n s
def LW (T Lf : Nat → Int32) (n : Nat) (what s : Int32) (k : Nat) : Prop := ∃ v, v < k ∧ bt s v = false ∧ Lf s.toNatClampNeg = withF T Lf n what s (nI v)
def DPx (T Lf : Nat → Int32) (n : Nat) (what : Int32) (lo : Int) : Prop := ∀ s, Iv 0 4095 s → bel n s → lo < s.toInt → LB Lf n s ∧ (alls n s ∨ LW T Lf n what s n)
theorem cl_ne {s t : Int32} {b d : Int} (hs : Iv 0 b s) (ht : Iv 0 d t) (q : s.toInt < t.toInt) : t.toNatClampNeg ≠ s.toNatClampNeg := by
  show t.toInt.toNat ≠ s.toInt.toNat
  unfold Iv at *
  omega
theorem vI {v n : Nat} (hv : v < n) (hn : n ≤ 12) : Iv 0 11 (nI v) ∧ (nI v).toNatClampNeg = v := ⟨by unfold Iv; rw [nI_toInt (by omega)]; omega, nI_clamp (by omega)⟩
/-- one place below is written: nothing above it changes -/
theorem DP_upd {T Lf L2 : Nat → Int32} {n : Nat} {what set x : Int32} {lo : Int} (h : DPx T Lf n what lo) (hn : n ≤ 12) (hset : Iv 0 4095 set) (q : set.toInt ≤ lo) (e : L2 = upd Lf set.toNatClampNeg x) : DPx T L2 n what lo := by
  intro s hs hb hl
  have hat : ∀ t : Int32, Iv 0 4095 t → lo < t.toInt → L2 t.toNatClampNeg = Lf t.toNatClampNeg := fun t ht hl2 => by
    rw [e]
    unfold upd
    rw [if_neg (cl_ne hset ht (by omega))]
  obtain ⟨h1, h2⟩ := h s hs hb hl
  refine ⟨?_, ?_⟩
  · unfold LB
    rw [hat s hs hl]
    exact h1
  · rcases h2 with h2 | ⟨v, hv, hf, ew⟩
    · exact Or.inl h2
    · refine Or.inr ⟨v, hv, hf, ?_⟩
      obtain ⟨i1, i2⟩ := vI hv hn
      obtain ⟨t, -, t1, t2, t3, -, t5⟩ := nx_set hs hb hn i1 (by rw [i2]; exact hv) (by rw [i2]; exact hf)
      rw [hat s hs hl, ew]
      exact (with_c (by rw [t5]; exact hat t t1 (by omega))).symm
theorem DP_0 {T Lf L2 : Nat → Int32} {n : Nat} {what A B st : Int32} (hA : alls n A) (hB : alls n B) (e : L2 = upd Lf A.toNatClampNeg 0) (es : st.toInt = B.toInt - 1) : DPx T L2 n what st.toInt := by
  intro s hs hb hl
  have e1 := alls_v hA
  have e2 := alls_v hB
  have h1 := bel_ge hA hs hb
  have es2 : s = A := Int32.toInt_inj.mp (by omega)
  subst es2
  refine ⟨?_, Or.inl hA⟩
  have hc : ct s n = n := ct_full (fun i hi => by rw [hA.2.2 i, decide_eq_true hi])
  have e0 : (0 : Int32).toInt = 0 := by decide +kernel
  unfold LB zc
  rw [e]
  unfold upd
  rw [if_pos rfl, hc, e0]
  omega
/-- what the walk over v has of one set -/
def LM (T Lf : Nat → Int32) (n : Nat) (what set : Int32) (k : Nat) : Prop := (Lf set.toNatClampNeg = 1000 ∧ ∀ u, u < k → bt set u = true) ∨ (LW T Lf n what set k ∧ LB Lf n set)
theorem LM_0 {T Lf L2 : Nat → Int32} {n : Nat} {what set : Int32} (e : L2 = upd Lf set.toNatClampNeg 1000) : LM T L2 n what set (Int32.toNatClampNeg 0) := by
  refine Or.inl ⟨?_, fun u h => by rw [tz0] at h; exact absurd h (Nat.not_lt_zero _)⟩
  rw [e]
  unfold upd
  rw [if_pos rfl]
theorem LM_t {T Lf : Nat → Int32} {n : Nat} {what set v z : Int32} (h : LM T Lf n what set v.toNatClampNeg) (hv : Iv 0 4095 v) (ez : z = v + 1) (hb : bt set v.toNatClampNeg = true) : LM T Lf n what set z.toNatClampNeg := by
  rw [cl_s ez hv]
  rcases h with ⟨h1, h2⟩ | ⟨⟨u, h1, h2⟩, h3⟩
  · refine Or.inl ⟨h1, fun u hu => ?_⟩
    rcases Nat.lt_or_ge u v.toNatClampNeg with g | g
    · exact h2 u g
    · rw [show u = v.toNatClampNeg by omega]
      exact hb
  · exact Or.inr ⟨⟨u, by omega, h2⟩, h3⟩
/-- how large what one v gives may be -/
theorem with_b {T Lf : Nat → Int32} {n : Nat} {what set v r c : Int32} (hD : DPx T Lf n what set.toInt) (hn : n ≤ 12) (hset : Iv 0 4095 set) (hb : bel n set) (hv : Iv 0 11 v) (hvn : v.toNatClampNeg < n) (hf : bt set v.toNatClampNeg = false) (hr : r = withF T Lf n what set v) (hc : Iv (-6) 72 (costF T n what set v)) : -(6 * zc n set) ≤ r.toInt ∧ r.toInt ≤ 72 * zc n set ∧ zc n set ≤ 12 := by
  obtain ⟨t, -, t1, t2, t3, t4, t5⟩ := nx_set hset hb hn hv hvn hf
  have hL := (hD t t1 t2 t3).1
  have hz : 0 ≤ zc n t := by
    unfold zc
    have := fb_ct_le (bt t) n
    unfold ct
    omega
  have hz2 : zc n t = zc n set - 1 := by
    unfold zc
    omega
  have hz3 : zc n set ≤ 12 := by
    unfold zc
    omega
  unfold LB at hL
  unfold Iv at hc
  rw [hr]
  unfold withF
  rw [t5]
  by_cases h0 : what = 0
  · rw [if_pos h0, fb_addI (by omega) (by omega)]
    omega
  · rw [if_neg h0]
    split
    · omega
    · omega
theorem LM_f {T Lf L2 : Nat → Int32} {n : Nat} {what set v z r x y : Int32} (h : LM T Lf n what set v.toNatClampNeg) (hD : DPx T Lf n what set.toInt) (hn : n ≤ 12) (hset : Iv 0 4095 set) (hb : bel n set) (hv : Iv 0 11 v) (hvn : v.toNatClampNeg < n) (hf : bt set v.toNatClampNeg = false) (hr : r = withF T Lf n what set v) (hc : Iv (-6) 72 (costF T n what set v)) (ez : z = v + 1) (ex : x = Lf set.toNatClampNeg) (ey : (y = r ∧ r.toInt < x.toInt) ∨ (y = x ∧ x.toInt ≤ r.toInt)) (e : L2 = upd Lf set.toNatClampNeg y) : LM T L2 n what set z.toNatClampNeg := by
  obtain ⟨b1, b2, b3⟩ := with_b (c := 0) hD hn hset hb hv hvn hf hr hc
  have hat : ∀ u : Nat, u < n → bt set u = false → withF T L2 n what set (nI u) = withF T Lf n what set (nI u) := fun u hu hfu => by
    obtain ⟨i1, i2⟩ := vI hu hn
    obtain ⟨t, -, t1, t2, t3, -, t5⟩ := nx_set hset hb hn i1 (by rw [i2]; exact hu) (by rw [i2]; exact hfu)
    refine with_c ?_
    rw [t5, e]
    unfold upd
    rw [if_neg (cl_ne hset t1 t3)]
  have hy : L2 set.toNatClampNeg = y := by
    rw [e]
    unfold upd
    rw [if_pos rfl]
  have hvI : nI v.toNatClampNeg = v := (v_nI hv (by decide)).1.symm
  have e1000 : (1000 : Int32).toInt = 1000 := by decide +kernel
  rw [cl_s ez (iv_w hv (by decide))]
  rcases ey with ⟨ey, q⟩ | ⟨ey, q⟩
  · refine Or.inr ⟨⟨v.toNatClampNeg, by omega, hf, ?_⟩, ?_⟩
    · rw [hy, ey, hat _ hvn hf, hvI, hr]
    · unfold LB
      rw [hy, ey]
      exact ⟨b1, b2⟩
  · rcases h with ⟨h1, h2⟩ | ⟨⟨u, h1, h2, h3⟩, h4⟩
    · exfalso
      rw [h1] at ex
      rw [ex, e1000] at q
      omega
    · refine Or.inr ⟨⟨u, by omega, h2, ?_⟩, ?_⟩
      · rw [hy, ey, ex, h3, hat u (by omega) h2]
      · unfold LB
        rw [hy, ey, ex]
        exact h4
theorem DP_s {T Lf : Nat → Int32} {n set v z B : Int32} {what : Int32} (hD : DPx T Lf n.toNatClampNeg what set.toInt) (hM : LM T Lf n.toNatClampNeg what set v.toNatClampNeg) (hB : alls n.toNatClampNeg B) (hset : Iv 0 4095 set) (hlt : set.toInt < B.toInt) (q1 : n.toInt ≤ v.toInt) (q2 : v.toInt ≤ n.toInt) (ez : z.toInt = set.toInt - 1) : DPx T Lf n.toNatClampNeg what z.toInt := by
  have ev : v = n := Int32.toInt_inj.mp (Int.le_antisymm q2 q1)
  subst ev
  intro s hs hb hl
  rcases Int.lt_or_le set.toInt s.toInt with g | g
  · exact hD s hs hb g
  · have es : s = set := Int32.toInt_inj.mp (by omega)
    subst es
    rcases hM with ⟨h1, h2⟩ | ⟨h1, h2⟩
    · exfalso
      have : s = B := b_ext (fun i _ => by
        rw [hB.2.2 i]
        rcases Nat.lt_or_ge i v.toNatClampNeg with r | r
        · rw [h2 i r, decide_eq_true r]
        · rw [hb i r, decide_eq_false (by omega)])
      rw [this] at hlt
      omega
    · exact ⟨h2, Or.inr h1⟩
/-- one is yet to be found -/
def GW (T Lf : Nat → Int32) (n : Nat) (what set whole : Int32) (k : Nat) : Prop := ∃ w, k ≤ w ∧ w < n ∧ bt set w = false ∧ (what = 0 → withF T Lf n 0 set (nI w) = Lf set.toNatClampNeg) ∧ (¬ what = 0 → (withF T Lf n 1 set (nI w)).toInt ≤ whole.toInt)
theorem GW_0 {T Lf : Nat → Int32} {n : Nat} {what set whole A : Int32} {lo : Int} (hD : DPx T Lf n what lo) (h0 : lo < 0) (hset : Iv 0 4095 set) (hb : bel n set) (hA : alls n A) (hne : ¬ set = A) (hw : Iv 0 1 what) (hle : ¬ what = 0 → (Lf set.toNatClampNeg).toInt ≤ whole.toInt) : GW T Lf n what set whole (Int32.toNatClampNeg 0) := by
  obtain ⟨-, h⟩ := hD set hset hb (by unfold Iv at hset; omega)
  rcases h with h | ⟨v, h1, h2, h3⟩
  · exfalso
    exact hne (b_ext (fun i _ => by rw [h.2.2 i, hA.2.2 i]))
  · refine ⟨v, by rw [tz0]; exact Nat.zero_le _, h1, h2, fun e => by rw [h3, e], fun e => ?_⟩
    rcases iv01 hw with q | q
    · exact absurd q e
    · have := hle e
      rw [h3, q] at this
      exact this
theorem GW_lt {T Lf : Nat → Int32} {n : Nat} {what set whole : Int32} {k : Nat} (h : GW T Lf n what set whole k) : k < n := by
  obtain ⟨w, h1, h2, -⟩ := h
  omega
theorem GW_n {T Lf : Nat → Int32} {n : Nat} {what set whole v z : Int32} (h : GW T Lf n what set whole v.toNatClampNeg) (hv : Iv 0 4095 v) (ez : z = v + 1) (hne : ∀ w, w < n → bt set w = false → (what = 0 → withF T Lf n 0 set (nI w) = Lf set.toNatClampNeg) → (¬ what = 0 → (withF T Lf n 1 set (nI w)).toInt ≤ whole.toInt) → w ≠ v.toNatClampNeg) : GW T Lf n what set whole z.toNatClampNeg := by
  obtain ⟨w, h1, h2, h3, h4, h5⟩ := h
  have := hne w h2 h3 h4 h5
  exact ⟨w, by rw [cl_s ez hv]; omega, h2, h3, h4, h5⟩
theorem GW_h {T Lf : Nat → Int32} {n : Nat} {what set whole v z : Int32} (h : GW T Lf n what set whole v.toNatClampNeg) (hv : Iv 0 4095 v) (ez : z = v + 1) (hb : bt set v.toNatClampNeg = true) : GW T Lf n what set whole z.toNatClampNeg := GW_n h hv ez (fun w _ h3 _ _ e => by
  rw [e, hb] at h3
  cases h3)
theorem GW_a {T Lf : Nat → Int32} {n : Nat} {what set whole v z r x : Int32} (h : GW T Lf n what set whole v.toNatClampNeg) (hv : Iv 0 4095 v) (ez : z = v + 1) (hw : what = 0) (er : r = withF T Lf n 0 set v) (ex : x = Lf set.toNatClampNeg) (hne : ¬ r = x) : GW T Lf n what set whole z.toNatClampNeg := GW_n h hv ez (fun w _ _ h4 _ e => by
  have := h4 hw
  rw [e, ← (v_nI hv (by decide)).1, ← er, ← ex] at this
  exact hne this)
theorem GW_b {T Lf : Nat → Int32} {n : Nat} {what set whole v z r : Int32} (h : GW T Lf n what set whole v.toNatClampNeg) (hv : Iv 0 4095 v) (ez : z = v + 1) (hw : ¬ what = 0) (er : r = withF T Lf n 1 set v) (q : whole.toInt < r.toInt) : GW T Lf n what set whole z.toNatClampNeg := GW_n h hv ez (fun w _ _ _ h5 e => by
  have := h5 hw
  rw [e, ← (v_nI hv (by decide)).1, ← er] at this
  omega)
theorem GW_iv {T Lf : Nat → Int32} {n : Nat} {what set whole z : Int32} {a b : Int} (h : GW T Lf n what set whole z.toNatClampNeg) (hn : n ≤ 12) (hz : Iv a b z) (h0 : 0 ≤ a) : Iv 0 11 z := by
  have h1 := GW_lt h
  have e : z.toNatClampNeg = z.toInt.toNat := rfl
  unfold Iv at *
  omega
