theorem tz0 : Int32.toNatClampNeg 0 = 0 := by decide +kernel
theorem cl_s {v z : Int32} (ez : z = v + 1) (hv : Iv 0 4095 v) : z.toNatClampNeg = v.toNatClampNeg + 1 := by
  have h1 := tia (k := 1) (c := 1) ez hv (iv_k (by decide +kernel)) (by decide)
  show z.toInt.toNat = v.toInt.toNat + 1
  unfold Iv at hv
  omega
theorem cl_le {n v : Int32} {b : Int} (q : n.toInt ≤ v.toInt) (hn : Iv 0 b n) : n.toNatClampNeg ≤ v.toNatClampNeg := by
  show n.toInt.toNat ≤ v.toInt.toNat
  unfold Iv at hn
  omega
theorem cl_in {n v : Int32} {b : Int} (q : v.toInt < n.toInt) (hv : Iv 0 b v) : v.toNatClampNeg < n.toNatClampNeg := by
  show v.toInt.toNat < n.toInt.toNat
  unfold Iv at hv
  omega
theorem cl_b {v : Int32} {b : Int} {N : Nat} (hv : Iv 0 b v) (h : b ≤ (N : Int)) : v.toNatClampNeg ≤ N := by
  show v.toInt.toNat ≤ N
  unfold Iv at hv
  omega
/-- all of the first n -/
def alls (n : Nat) (x : Int32) : Prop := Iv 0 4095 x ∧ n ≤ 12 ∧ ∀ i, bt x i = decide (i < n)
theorem all_r {n x1 x2 : Int32} (hn : Iv 0 12 n) (e1 : x1 = 1 <<< (n &&& 31)) (e2 : x2 = x1 - 1) : alls n.toNatClampNeg x2 := by
  obtain ⟨e, e3⟩ := v_nI hn (by decide)
  have hn2 := hn
  unfold Iv at hn2
  generalize hq : n.toNatClampNeg = q at *
  have h12 : q ≤ 12 := by omega
  have tt : ∀ k, k ≤ 12 → ((1 : Int32) <<< (nI k &&& 31)) - 1 = nI (2 ^ k - 1) := by decide +kernel
  have ex : x2 = nI (2 ^ q - 1) := by rw [e2, e1, e]; exact tt q h12
  have hp : 2 ^ q ≤ 2 ^ 12 := Nat.pow_le_pow_right (by decide) h12
  have hp0 := Nat.two_pow_pos q
  refine ⟨?_, h12, fun i => ?_⟩
  · rw [ex]
    unfold Iv
    rw [nI_toInt (by omega)]
    omega
  · rcases Nat.lt_or_ge i 32 with h | h
    · rw [ex, bt_nI h, Nat.testBit_two_pow_sub_one]
    · rw [b_big h, decide_eq_false (by omega)]
/-- no bits from n on -/
def bel (n : Nat) (x : Int32) : Prop := ∀ i, n ≤ i → bt x i = false
theorem alls_bel {n : Nat} {x : Int32} (h : alls n x) : bel n x := fun i hi => by rw [h.2.2 i, decide_eq_false (by omega)]
theorem alls_v {n : Nat} {x : Int32} (h : alls n x) : x.toInt = 2 ^ n - 1 := by
  have hp : 2 ^ n ≤ 2 ^ 12 := Nat.pow_le_pow_right (by decide) h.2.1
  have hp0 := Nat.two_pow_pos n
  have : x = nI (2 ^ n - 1) := b_ext (fun i hi => by rw [h.2.2 i, bt_nI hi, Nat.testBit_two_pow_sub_one])
  rw [this, nI_toInt (by omega)]
  have e : ((2 ^ n : Nat) : Int) = (2 : Int) ^ n := by rw [Int.natCast_pow]; rfl
  omega
theorem bel_le {n : Nat} {x y : Int32} {b : Int} (h : alls n y) (hx : Iv 0 b x) (q : x.toInt ≤ y.toInt) : bel n x := by
  intro i hi
  obtain ⟨j, hj, -, -, e, e2⟩ := iv_nI hx (by decide)
  have hv := alls_v h
  have e3 : ((2 ^ n : Nat) : Int) = (2 : Int) ^ n := by rw [Int.natCast_pow]; rfl
  have hl : j < 2 ^ n := by omega
  rcases Nat.lt_or_ge i 32 with g | g
  · rw [e, bt_nI g]
    exact Nat.testBit_lt_two_pow (Nat.lt_of_lt_of_le hl (Nat.pow_le_pow_right (by decide) hi))
  · exact b_big g
theorem bel_ge {n : Nat} {x y : Int32} (h : alls n y) (hx : Iv 0 4095 x) (hb : bel n x) : x.toInt ≤ y.toInt := by
  rcases Int.lt_or_le y.toInt x.toInt with q | q
  · exfalso
    obtain ⟨j, hj, -, -, e, e2⟩ := iv_nI hx (by decide)
    have hv := alls_v h
    have e3 : ((2 ^ n : Nat) : Int) = (2 : Int) ^ n := by rw [Int.natCast_pow]; rfl
    have hl : 2 ^ n ≤ j := by omega
    obtain ⟨i, hi, hb2⟩ := Nat.exists_ge_and_testBit_of_ge_two_pow hl
    have h9 := hb i hi
    rcases Nat.lt_or_ge i 32 with g | g
    · rw [e, bt_nI g, hb2] at h9
      cases h9
    · rw [Nat.testBit_lt_two_pow (Nat.lt_of_lt_of_le (show j < 2 ^ 32 by omega) (Nat.pow_le_pow_right (by decide) g))] at hb2
      cases hb2
  · exact q
theorem bel_clr {n : Nat} {x k y z w : Int32} {b : Int} (h : bel n x) (hk : Iv 0 b k) (hb : b ≤ 12) (ez : z = 1 <<< (k &&& 31)) (ew : w = z ^^^ (-1)) (ey : y = x &&& w) : bel n y := fun i hi => by
  rcases Nat.lt_or_ge i 32 with g | g
  · rw [clr_bt hk hb ez ew ey g, h i hi]
    rfl
  · exact b_big g
theorem bel_set {n : Nat} {x k y z : Int32} {b : Int} (h : bel n x) (hk : Iv 0 b k) (hb : b ≤ 12) (hn : k.toNatClampNeg < n) (ez : z = 1 <<< (k &&& 31)) (ey : y = x ||| z) : bel n y := fun i hi => by
  rcases Nat.lt_or_ge i 32 with g | g
  · rw [set_bt hk hb ez ey g, h i hi, decide_eq_false (by omega)]
    rfl
  · exact b_big g
theorem bel_0 (n : Nat) : bel n 0 := fun i _ => b_0 i
/-- the reference's words on cliques -/
def cq (near : Nat → Int32) (n : Nat) (set : Int32) : Prop := ∀ v, v < n → bt set v = true → set &&& (near v ^^^ (-1 : Int32)) = (1 : Int32) <<< (nI v &&& 31)
def md (near : Nat → Int32) (n : Nat) (set : Int32) : Prop := ∀ v, v < n → bt set v = true ∨ ¬ set &&& (near v ^^^ (-1 : Int32)) = 0
def gI (near : Nat → Int32) (n : Nat) (set : Int32) : Prop := ¬ set = 0 ∧ cq near n set ∧ md near n set
theorem cq_0 {near : Nat → Int32} {set : Int32} : cq near (Int32.toNatClampNeg 0) set := by
  rw [tz0]
  exact fun v h => absurd h (Nat.not_lt_zero _)
theorem md_0 {near : Nat → Int32} {set : Int32} : md near (Int32.toNatClampNeg 0) set := by
  rw [tz0]
  exact fun v h => absurd h (Nat.not_lt_zero _)
theorem cq_f {near : Nat → Int32} {set v z : Int32} (h : cq near v.toNatClampNeg set) (hv : Iv 0 4095 v) (ez : z = v + 1) (hb : bt set v.toNatClampNeg = false) : cq near z.toNatClampNeg set := by
  rw [cl_s ez hv]
  intro u hu hb2
  rcases Nat.lt_or_ge u v.toNatClampNeg with g | g
  · exact h u g hb2
  · have e : u = v.toNatClampNeg := by omega
    rw [e, hb] at hb2
    cases hb2
theorem cq_t {near : Nat → Int32} {set v z x y u w : Int32} (h : cq near v.toNatClampNeg set) (hv : Iv 0 4095 v) (ez : z = v + 1) (ew : w = near v.toNatClampNeg) (eu : u = w ^^^ (-1)) (ex : x = set &&& u) (ey : y = 1 <<< (v &&& 31)) (e : x = y) : cq near z.toNatClampNeg set := by
  rw [cl_s ez hv]
  intro q hq hb2
  rcases Nat.lt_or_ge q v.toNatClampNeg with g | g
  · exact h q g hb2
  · have e2 : q = v.toNatClampNeg := by omega
    subst e2
    rw [← ew, ← eu, ← ex, e, ey, ← (v_nI hv (by decide)).1]
theorem cq_le {near : Nat → Int32} {set : Int32} {n m : Nat} (h : cq near m set) (hn : n ≤ m) : cq near n set := fun v hv => h v (by omega)
theorem md_le {near : Nat → Int32} {set : Int32} {n m : Nat} (h : md near m set) (hn : n ≤ m) : md near n set := fun v hv => h v (by omega)
theorem md_t {near : Nat → Int32} {set v z : Int32} (h : md near v.toNatClampNeg set) (hv : Iv 0 4095 v) (ez : z = v + 1) (hb : bt set v.toNatClampNeg = true) : md near z.toNatClampNeg set := by
  rw [cl_s ez hv]
  intro u hu
  rcases Nat.lt_or_ge u v.toNatClampNeg with g | g
  · exact h u g
  · have e : u = v.toNatClampNeg := by omega
    exact Or.inl (by rw [e]; exact hb)
theorem md_n {near : Nat → Int32} {set v z x u w : Int32} (h : md near v.toNatClampNeg set) (hv : Iv 0 4095 v) (ez : z = v + 1) (ew : w = near v.toNatClampNeg) (eu : u = w ^^^ (-1)) (ex : x = set &&& u) (e : ¬ x = 0) : md near z.toNatClampNeg set := by
  rw [cl_s ez hv]
  intro q hq
  rcases Nat.lt_or_ge q v.toNatClampNeg with g | g
  · exact h q g
  · have e2 : q = v.toNatClampNeg := by omega
    exact Or.inr (by rw [e2, ← ew, ← eu, ← ex]; exact e)
def ad (near : Nat → Int32) : Nat → Nat → Bool := fun v u => bt (near v) u
theorem bt_nn {x : Int32} {i : Nat} (h : bt x i = true) : i < 32 := by
  rcases Nat.lt_or_ge i 32 with g | g
  · exact g
  · rw [b_big g] at h
    cases h
theorem cq_ad {near : Nat → Int32} {set : Int32} {n v u : Nat} (h : cq near n set) (hv : v < n) (h12 : n ≤ 12) (hb : bt set v = true) (hu : bt set u = true) (hne : u ≠ v) : ad near v u = true := by
  have h1 := congrArg (fun x => bt x u) (h v hv hb)
  have hu32 := bt_nn hu
  have hvI : Iv 0 12 (nI v) := by
    unfold Iv
    rw [nI_toInt (by omega)]
    omega
  simp only [b_and, b_xor, b_m1 u hu32, hu] at h1
  rw [bt_one hvI (by decide) hu32, nI_clamp (by omega), decide_eq_false hne] at h1
  unfold ad
  cases hq : bt (near v) u
  · rw [hq] at h1
    cases h1
  · rfl
theorem gI_Gt {near : Nat → Int32} {set : Int32} {n : Nat} (h : gI near n set) (h12 : n ≤ 12) (hs : Iv 0 4095 set) (hb : bel n set) : Gt (ad near) n (bt set) := by
  obtain ⟨h0, hc, hm⟩ := h
  have hlt : ∀ v, bt set v = true → v < n := fun v hv => by
    rcases Nat.lt_or_ge v n with g | g
    · exact g
    · rw [hb v g] at hv
      cases hv
  refine ⟨?_, hlt, fun v hv u hu hne => cq_ad hc (hlt v hv) h12 hv hu hne, fun v hv hf => ?_⟩
  · obtain ⟨i, -, hi⟩ := bt_some hs h0
    exact ⟨i, hi⟩
  · rcases hm v hv with q | q
    · rw [q] at hf
      cases hf
    · refine Classical.byContradiction fun hx => q (b_ext (fun i hi => ?_))
      rw [b_0, b_and, b_xor, b_m1 i hi]
      cases h1 : bt set i
      · rfl
      · cases h2 : bt (near v) i
        · exact absurd ⟨i, h1, h2⟩ hx
        · rfl
/-- what setCliques has laid so far -/
def CL (near : Nat → Int32) (n : Nat) (c : Nat → Int32) (k : Nat) (top : Int) : Prop := (∀ i, i < k → gI near n (c i) ∧ Iv 0 4095 (c i) ∧ bel n (c i) ∧ (c i).toInt < top) ∧ ∀ i j, i < j → j < k → (c i).toInt < (c j).toInt
theorem CL_0 {near c : Nat → Int32} {n : Nat} {top : Int} : CL near n c (Int32.toNatClampNeg 0) top := by
  rw [tz0]
  exact ⟨fun i h => absurd h (Nat.not_lt_zero _), fun i j _ h => absurd h (Nat.not_lt_zero _)⟩
theorem CL_up {near c : Nat → Int32} {n k : Nat} {a b : Int} (h : CL near n c k a) (hab : a ≤ b) : CL near n c k b := ⟨fun i hi => ⟨(h.1 i hi).1, (h.1 i hi).2.1, (h.1 i hi).2.2.1, Int.lt_of_lt_of_le (h.1 i hi).2.2.2 hab⟩, h.2⟩
theorem CL_s {near c c2 : Nat → Int32} {n : Nat} {set k k2 : Int32} {b top : Int} (h : CL near n c k.toNatClampNeg set.toInt) (hk : Iv 0 4095 k) (ek : k2 = k + 1) (ec : c2 = upd c k.toNatClampNeg set) (hg : gI near n set) (hs : Iv 0 4095 set) (hb : bel n set) (ht : set.toInt < top) : CL near n c2 k2.toNatClampNeg top := by
  rw [cl_s ek hk]
  have hold : ∀ i, i < k.toNatClampNeg → c2 i = c i := fun i hi => by rw [ec]; unfold upd; rw [if_neg (by omega)]
  have hnew : c2 k.toNatClampNeg = set := by rw [ec]; unfold upd; rw [if_pos rfl]
  refine ⟨fun i hi => ?_, fun i j hij hj => ?_⟩
  · rcases Nat.lt_or_ge i k.toNatClampNeg with g | g
    · rw [hold i g]
      exact (CL_up h (Int.le_of_lt ht)).1 i g
    · have e : i = k.toNatClampNeg := by omega
      rw [e, hnew]
      exact ⟨hg, hs, hb, ht⟩
  · rcases Nat.lt_or_ge j k.toNatClampNeg with g | g
    · rw [hold i (by omega), hold j g]
      exact h.2 i j hij g
    · have e : j = k.toNatClampNeg := by omega
      rw [hold i (by omega), e, hnew]
      exact (h.1 i (by omega)).2.2.2
theorem CL_cnt {near c : Nat → Int32} {n k : Nat} {top : Int} {L : List (Nat → Bool)} (h : CL near n c k top) (h12 : n ≤ 12) (hL : ∀ C, Gt (ad near) n C → C ∈ L) : k ≤ L.length := cnt_le (fun i hi => hL _ (gI_Gt (h.1 i hi).1 h12 (h.1 i hi).2.1 (h.1 i hi).2.2.1)) (fun i j hij hj e => by
  have := h.2 i j hij hj
  rw [e] at this
  exact absurd this (Int.lt_irrefl _))
theorem CL_81 {near c : Nat → Int32} {n : Nat} {k : Int32} {a b top : Int} (h : CL near n c k.toNatClampNeg top) (h12 : n ≤ 12) (hk : Iv a b k) (h0 : 0 ≤ a) : Iv 0 81 k := by
  obtain ⟨L, hL, hc⟩ := moon_gt (ad near) h12
  have := CL_cnt h h12 hc
  obtain ⟨-, e⟩ := v_nI hk h0
  unfold Iv at *
  omega
/-- a graph whose great ones are no more than its nodes -/
def SN (near : Nat → Int32) (n : Nat) : Prop := ∃ L : List (Nat → Bool), L.length ≤ n ∧ ∀ C, Gt (ad near) n C → C ∈ L
theorem CL_12 {near c : Nat → Int32} {n : Nat} {k : Int32} {a b top : Int} (h : CL near n c k.toNatClampNeg top) (hs : SN near n) (h12 : n ≤ 12) (hk : Iv a b k) (h0 : 0 ≤ a) : Iv 0 12 k := by
  obtain ⟨L, hL, hc⟩ := hs
  have := CL_cnt h h12 hc
  obtain ⟨-, e⟩ := v_nI hk h0
  unfold Iv at *
  omega
theorem sd_a {near : Nat → Int32} {n : Nat} {x : Int32} (h : alls n x) : Sd (ad near) n (bt x) := sd_0 (fun v hv => by rw [h.2.2 v, decide_eq_true hv])
theorem sd_c {near : Nat → Int32} {n : Nat} {x k y z w u q : Int32} {b : Int} (h : Sd (ad near) n (bt x)) (h12 : n ≤ 12) (hk : Iv 0 b k) (hb : b ≤ 12) (hn : k.toNatClampNeg < n) (hbt : bt x k.toNatClampNeg = true) (eq : q = near k.toNatClampNeg) (eu : u = q &&& x) (hc : cq near n u) (ez : z = 1 <<< (k &&& 31)) (ew : w = z ^^^ (-1)) (ey : y = x &&& w) : Sd (ad near) n (bt y) := by
  refine sd_s h hn hbt (fun a c ha h1 h2 h3 h4 hne => ?_) (fun i hi => clr_bt hk hb ez ew ey (by omega))
  have e1 : ∀ i, bt u i = (bt (near k.toNatClampNeg) i && bt x i) := fun i => by rw [eu, b_and, eq]
  unfold ad at h1 h3
  exact cq_ad hc ha h12 (by rw [e1, h1, h2]; rfl) (by rw [e1, h3, h4]; rfl) (fun e => hne e.symm)
theorem sd_z {near : Nat → Int32} {n : Nat} {x : Int32} (h : Sd (ad near) n (bt x)) (e : x = 0) : SN near n := sd_end h (fun v _ => by rw [e]; exact b_0 v)
theorem CL_top {near c : Nat → Int32} {n k : Nat} {a : Int} (h : CL near n c k a) : CL near n c k 4096 := ⟨fun i hi => ⟨(h.1 i hi).1, (h.1 i hi).2.1, (h.1 i hi).2.2.1, by have := (h.1 i hi).2.1; unfold Iv at this; omega⟩, h.2⟩
def TO (tied : Int32) (t o cm : Nat) : Prop := ∀ i, i < (if t = 0 then o else cm) → bt tied i = true
theorem TO_0 {tied : Int32} {t cm : Nat} (h : 0 < t → ∀ i, i < cm → bt tied i = true) : TO tied t (Int32.toNatClampNeg 0) cm := by
  intro i hi
  by_cases q : t = 0
  · rw [if_pos q, tz0] at hi
    exact absurd hi (Nat.not_lt_zero _)
  · rw [if_neg q] at hi
    exact h (Nat.pos_of_ne_zero q) i hi
theorem TO_1 {tied : Int32} {t o o2 cm : Nat} (h : TO tied t o cm) (h1 : bt tied t = false) (h0 : bt tied 0 = true) : TO tied t o2 cm := by
  have q : t ≠ 0 := fun e => by rw [e, h0] at h1; cases h1
  intro i hi
  rw [if_neg q] at hi
  exact h i (by rw [if_neg q]; exact hi)
theorem TO_2 {tied o z : Int32} {t cm : Nat} (h : TO tied t o.toNatClampNeg cm) (ho : Iv 0 4095 o) (ez : z = o + 1) (h1 : bt tied o.toNatClampNeg = true) : TO tied t z.toNatClampNeg cm := by
  rw [cl_s ez ho]
  intro i hi
  by_cases q : t = 0
  · rw [if_pos q] at hi
    rcases Nat.lt_or_ge i o.toNatClampNeg with g | g
    · exact h i (by rw [if_pos q]; exact g)
    · rw [show i = o.toNatClampNeg by omega]
      exact h1
  · rw [if_neg q] at hi
    exact h i (by rw [if_neg q]; exact hi)
theorem TO_all {tied : Int32} {t o cm : Nat} (h : TO tied t o cm) (hc : cm ≤ o) : ∀ i, i < cm → bt tied i = true := fun i hi => h i (by split <;> omega)
theorem ct_one (n : Nat) : ct 1 n ≤ Int32.toNatClampNeg 1 := by
  have e : Int32.toNatClampNeg 1 = 1 := by decide +kernel
  rw [e]
  have h2 : ct 1 n = fb_ct (fun k => decide (k = 0)) n := fb_ct_cong (fun k _ => by
    rcases Nat.lt_or_ge k 32 with g | g
    · exact bt_1 k g
    · rw [b_big g, decide_eq_false (by omega)])
  rw [h2]
  induction n with
  | zero => exact Nat.zero_le _
  | succ n ih =>
    rw [fb_ct_succ]
    by_cases q : n = 0
    · subst q
      decide
    · rw [if_neg (by simpa using q)]
      exact ih (by
        exact fb_ct_cong (fun k _ => by
          rcases Nat.lt_or_ge k 32 with g | g
          · exact bt_1 k g
          · rw [b_big g, decide_eq_false (by omega)]))
theorem ct_or1 {x k y z : Int32} {b : Int} {n : Nat} (hk : Iv 0 b k) (hb : b ≤ 12) (hn2 : n ≤ 32) (ez : z = 1 <<< (k &&& 31)) (ey : y = x ||| z) : ct y n ≤ ct x n + 1 := by
  have e : ct y n = fb_ct (fun q => bt x q || decide (q = k.toNatClampNeg)) n := fb_ct_cong (fun q hq => set_bt hk hb ez ey (by omega))
  rw [e]
  unfold ct
  generalize k.toNatClampNeg = kk
  clear e ez ey hb hk
  induction n with
  | zero => exact Nat.zero_le _
  | succ n ih =>
    rw [fb_ct_succ, fb_ct_succ]
    by_cases q : n = kk
    · have e2 : fb_ct (fun q => bt x q || decide (q = kk)) n = fb_ct (bt x) n := fb_ct_cong (fun i hi => by
        have : ¬ i = kk := by omega
        simp [this])
      rw [e2]
      split <;> split <;> omega
    · have e3 : (bt x n || decide (n = kk)) = bt x n := by simp [q]
      rw [e3]
      have := ih (by omega)
      omega
theorem bt_or0 {x y z : Int32} {i : Nat} (h : bt x i = true) (ey : y = x ||| z) : bt y i = true := by rw [ey, b_or, h]; rfl
theorem ct_full {x : Int32} {n : Nat} (h : ∀ i, i < n → bt x i = true) : ct x n = n := fb_ct_all.mpr h
theorem st_ok {bo most t rd cm tied : Int32} {b : Int} (F : bo.toInt < 0 → most.toInt = -9 ∧ (0 < t.toNatClampNeg → ∀ i, i < cm.toNatClampNeg → bt tied i = true)) (hct : ct tied cm.toNatClampNeg ≤ rd.toNatClampNeg) (q1 : rd.toInt < cm.toInt) (q2 : cm.toInt ≤ t.toInt) (hr : Iv 0 b rd) (h : Iv (-9) 11 bo) : Iv 0 11 bo := by
  refine ⟨?_, h.2⟩
  rcases Int.lt_or_le bo.toInt 0 with q | q
  · exfalso
    obtain ⟨-, F2⟩ := F q
    unfold Iv at hr
    have h1 : rd.toNatClampNeg < cm.toNatClampNeg := by
      show rd.toInt.toNat < cm.toInt.toNat
      omega
    have h2 : 0 < t.toNatClampNeg := by
      show 0 < t.toInt.toNat
      omega
    have := ct_full (F2 h2)
    omega
  · exact q
theorem eq_iv {x k : Int32} {a b : Int} (e : x.toInt = k.toInt) (h : Iv a b k) : Iv a b x := by
  unfold Iv at *
  rw [e]
  exact h
theorem th_up {set x : Int32} (h : ∀ i, i < x.toNatClampNeg → bt set i = false) (hs : Iv 1 4095 set) (hx : Iv 0 12 x) : Iv 0 11 x := by
  refine ⟨hx.1, ?_⟩
  rcases Int.lt_or_le 11 x.toInt with q | q
  · exfalso
    have hz : set = 0 := bt_zero (iv_w hs (by decide)) (fun i hi => h i (by show i < x.toInt.toNat; omega))
    rw [hz] at hs
    have := hs.1
    revert this
    decide
  · exact q
theorem th_in {set x : Int32} (h : bt set x.toNatClampNeg = true) (hs : Iv 1 4095 set) (hx : Iv 0 12 x) : Iv 0 11 x := by
  refine ⟨hx.1, ?_⟩
  rcases Int.lt_or_le 11 x.toInt with q | q
  · exfalso
    rw [bt_hi (iv_w hs (by decide)) (by show 12 ≤ x.toInt.toNat; omega)] at h
    cases h
  · exact q
theorem lo_0 {set : Int32} : ∀ i, i < Int32.toNatClampNeg 0 → bt set i = false := fun i h => by
  rw [tz0] at h
  exact absurd h (Nat.not_lt_zero _)
theorem lo_s {set x z : Int32} (h : ∀ i, i < x.toNatClampNeg → bt set i = false) (hx : Iv 0 4095 x) (ez : z = x + 1) (hb : bt set x.toNatClampNeg = false) : ∀ i, i < z.toNatClampNeg → bt set i = false := fun i hi => by
  rw [cl_s ez hx] at hi
  rcases Nat.lt_or_ge i x.toNatClampNeg with g | g
  · exact h i g
  · rw [show i = x.toNatClampNeg by omega]
    exact hb
theorem ct_11 {x set k : Int32} {b : Int} (e : x.toInt = (ct set 12 : Int)) (hk : Iv 0 11 k) (h : bt set k.toNatClampNeg = false) (hx : Iv 0 b x) : Iv 0 11 x := by
  have h1 := ct_lt (n := 12) (show k.toNatClampNeg < 12 from by show k.toInt.toNat < 12; unfold Iv at hk; omega) h
  unfold Iv at *
  omega
theorem ct_set1 {x set k y z : Int32} (hk : Iv 0 11 k) (ez : z = 1 <<< (k &&& 31)) (ey : y = set ||| z) (h : bt set k.toNatClampNeg = false) : ct y 12 = ct set 12 + 1 := ct_set hk (by decide) (by show k.toInt.toNat < 12; unfold Iv at hk; omega) (by decide) ez ey h
theorem ct_clr1 {set k y z w : Int32} (hk : Iv 0 11 k) (ez : z = 1 <<< (k &&& 31)) (ew : w = z ^^^ (-1)) (ey : y = set &&& w) (h : bt set k.toNatClampNeg = true) : ct y 12 + 1 = ct set 12 := ct_clr hk (by decide) (by show k.toInt.toNat < 12; unfold Iv at hk; omega) (by decide) ez ew ey h
theorem ct_one1 {set k : Int32} (hk : Iv 0 11 k) (h : bt set k.toNatClampNeg = true) : 1 ≤ ct set 12 := ct_pos (show k.toNatClampNeg < 12 from by show k.toInt.toNat < 12; unfold Iv at hk; omega) h
theorem ct_le12 (x : Int32) : ct x 12 ≤ 12 := fb_ct_le _ _
theorem ru_ok {best still v n : Int32} {b : Int} (F : best.toInt < 0 → ∀ i, i < v.toNatClampNeg → bt still i = false) (hb : bel n.toNatClampNeg still) (h0 : ¬ still = 0) (hs : Iv 0 4095 still) (q : n.toInt ≤ v.toInt) (hn : Iv 0 b n) (h : Iv (-9) 11 best) : Iv 0 11 best := by
  refine ⟨?_, h.2⟩
  rcases Int.lt_or_le best.toInt 0 with g | g
  · exfalso
    refine h0 (bt_zero hs (fun i hi => ?_))
    rcases Nat.lt_or_ge i n.toNatClampNeg with r | r
    · exact F g i (Nat.lt_of_lt_of_le r (cl_le q hn))
    · exact hb i r
  · exact g
def DR (n d : Int32) (f : Nat → Int32) : Prop := (∀ i, i < d.toNatClampNeg → 0 ≤ (f i).toInt ∧ (f i).toInt < n.toInt) ∧ ∀ i j, i < j → j < d.toNatClampNeg → f i ≠ f j
theorem DR_0 {n : Int32} {f : Nat → Int32} : DR n 0 f := by
  unfold DR
  rw [tz0]
  exact ⟨fun i h => absurd h (Nat.not_lt_zero _), fun i j _ h => absurd h (Nat.not_lt_zero _)⟩
theorem DR_s {n d d2 a : Int32} {f g : Nat → Int32} (h : DR n d f) (hd : Iv 0 4095 d) (e2 : d2 = d + 1) (eg : g = upd f d.toNatClampNeg a) (ha : 0 ≤ a.toInt ∧ a.toInt < n.toInt) (hx : ∀ i, i < d.toNatClampNeg → ¬ f i = a) : DR n d2 g := by
  have hold : ∀ i, i < d.toNatClampNeg → g i = f i := fun i hi => by rw [eg]; unfold upd; rw [if_neg (by omega)]
  have hnew : g d.toNatClampNeg = a := by rw [eg]; unfold upd; rw [if_pos rfl]
  unfold DR
  rw [cl_s e2 hd]
  refine ⟨fun i hi => ?_, fun i j hij hj => ?_⟩
  · rcases Nat.lt_or_ge i d.toNatClampNeg with q | q
    · rw [hold i q]
      exact h.1 i q
    · rw [show i = d.toNatClampNeg by omega, hnew]
      exact ha
  · rcases Nat.lt_or_ge j d.toNatClampNeg with q | q
    · rw [hold i (by omega), hold j q]
      exact h.2 i j hij q
    · rw [hold i (by omega), show j = d.toNatClampNeg by omega, hnew]
      exact hx i (by omega)
theorem DR_11 {n d a : Int32} {f : Nat → Int32} (h : DR n d f) (hn : Iv 0 12 n) (hd : Iv 0 12 d) (ha : 0 ≤ a.toInt ∧ a.toInt < n.toInt) (hx : ∀ i, i < d.toNatClampNeg → ¬ f i = a) : Iv 0 11 d := by
  refine ⟨hd.1, ?_⟩
  have hk := fb_holes 12 (d.toNatClampNeg + 1) (fun i => if i < d.toNatClampNeg then (f i).toInt.toNat else a.toInt.toNat) (fun i hi => by
    unfold Iv at hn
    by_cases q : i < d.toNatClampNeg
    · simp only [if_pos q]
      have := h.1 i q
      omega
    · simp only [if_neg q]
      omega) (fun i j hij hj e => by
    have hi : i < d.toNatClampNeg := by omega
    simp only [if_pos hi] at e
    by_cases q : j < d.toNatClampNeg
    · simp only [if_pos q] at e
      have h1 := h.1 i hi
      have h2 := h.1 j q
      exact h.2 i j hij q (Int32.toInt_inj.mp (by omega))
    · simp only [if_neg q] at e
      have h1 := h.1 i hi
      exact hx i hi (Int32.toInt_inj.mp (by omega)))
  have e : d.toNatClampNeg = d.toInt.toNat := rfl
  unfold Iv at hd
  omega
theorem nf_0 {f : Nat → Int32} {a : Int32} : ∀ i, i < Int32.toNatClampNeg 0 → ¬ f i = a := fun i h => by
  rw [tz0] at h
  exact absurd h (Nat.not_lt_zero _)
theorem nf_s {f : Nat → Int32} {a x z w : Int32} (h : ∀ i, i < x.toNatClampNeg → ¬ f i = a) (hx : Iv 0 4095 x) (ez : z = x + 1) (ew : w = f x.toNatClampNeg) (hb : ¬ w = a) : ∀ i, i < z.toNatClampNeg → ¬ f i = a := fun i hi => by
  rw [cl_s ez hx] at hi
  rcases Nat.lt_or_ge i x.toNatClampNeg with g | g
  · exact h i g
  · rw [show i = x.toNatClampNeg by omega, ← ew]
    exact hb
theorem nf_le {f : Nat → Int32} {a d k : Int32} {b : Int} (h : ∀ i, i < k.toNatClampNeg → ¬ f i = a) (q : d.toInt ≤ k.toInt) (hd : Iv 0 b d) : ∀ i, i < d.toNatClampNeg → ¬ f i = a := fun i hi => h i (Nat.lt_of_lt_of_le hi (cl_le q hd))
theorem cpl {r n z : Int32} {l1 l2 y : Int64} (e1 : l1 = r.toInt64) (e2 : l2 = n.toInt64) (ey : y = l1 + l2) (ez : z = lg_cmp y 12) (h : z.toInt ≤ Int32.toInt 0) : r.toInt + n.toInt ≤ 12 := by
  have hr := i_rng r
  have hn := i_rng n
  rcases Int.lt_or_le 12 (r.toInt + n.toInt) with q | q
  · exfalso
    have e12 : (12 : Int64).toInt = 12 := by decide +kernel
    have hs : y.toInt = r.toInt + n.toInt := by
      rw [ey, e1, e2]
      exact sum_ti (Int32.toInt_toInt64 n) (by omega) (by omega)
    have hg : 0 < lg_cmp y 12 := lg_gt (by rw [e12, hs]; exact q)
    rw [← ez, Int32.lt_iff_toInt_lt] at hg
    omega
  · exact q
theorem cp_r {r n : Int32} {a b c d : Int} (h : r.toInt + n.toInt ≤ 12) (hr : Iv a b r) (hn : Iv c d n) (k : (decide (0 ≤ a) && decide (0 ≤ c)) = true) : Iv 0 12 r ∧ Iv 0 12 n := by
  obtain ⟨k1, k2'⟩ := k2 k
  have k1 := of_decide_eq_true k1
  have k2' := of_decide_eq_true k2'
  unfold Iv at *
  omega
theorem cp_x {r n k x : Int32} (h : r.toInt + n.toInt ≤ 12) (hr : Iv 0 12 r) (hk : Iv 0 12 k) (ex : x = r + k) (q : k.toInt < n.toInt) : Iv 0 11 x := by
  have e := (congrArg Int32.toInt ex).trans (ti_addc hr hk (by decide))
  unfold Iv at *
  omega
def CW (f : Nat → Int32) (v k : Nat) : Prop := ∀ c, c < k → ∃ u, u < v ∧ (f u).toNatClampNeg = c
theorem CW_0 {f : Nat → Int32} {v : Nat} : CW f v (Int32.toNatClampNeg 0) := by
  rw [tz0]
  exact fun c h => absurd h (Nat.not_lt_zero _)
theorem CW_s {f : Nat → Int32} {v : Nat} {c z : Int32} (h : CW f v c.toNatClampNeg) (hc : Iv 0 4095 c) (ez : z = c + 1) (w : ∃ u, u < v ∧ f u = c) : CW f v z.toNatClampNeg := by
  rw [cl_s ez hc]
  intro q hq
  rcases Nat.lt_or_ge q c.toNatClampNeg with g | g
  · exact h q g
  · obtain ⟨u, hu, e⟩ := w
    exact ⟨u, hu, by rw [e]; omega⟩
theorem CW_no {f : Nat → Int32} {v m : Nat} (h : CW f v m) : m ≤ v := by
  have hx : ∀ c, ∃ u, c < m → u < v ∧ (f u).toNatClampNeg = c := fun c => by
    by_cases hc : c < m
    · obtain ⟨u, h1⟩ := h c hc
      exact ⟨u, fun _ => h1⟩
    · exact ⟨0, fun q => absurd q hc⟩
  refine fb_holes v m (fun c => Classical.choose (hx c)) (fun c hc => (Classical.choose_spec (hx c) hc).1) (fun i j hij hj e => ?_)
  have h1 := (Classical.choose_spec (hx i) (by omega)).2
  have h2 := (Classical.choose_spec (hx j) hj).2
  rw [e, h2] at h1
  omega
theorem co_no {f : Nat → Int32} {v : Nat} {c m n : Int32} {b : Int} (h : CW f v c.toNatClampNeg) (q : m.toInt ≤ c.toInt) (hm : Iv 0 b m) (hn : n.toInt ≤ m.toInt) (hv : (v : Int) + 1 ≤ n.toInt) : False := by
  have h1 := CW_no h
  have h2 := cl_le q hm
  have e : m.toNatClampNeg = m.toInt.toNat := rfl
  unfold Iv at hm
  omega
theorem co_w0 {f : Nat → Int32} {c : Int32} : (1 : Int32) = 0 → ∃ u, u < Int32.toNatClampNeg 0 ∧ f u = c := fun h => absurd h (by decide)
theorem co_w1 {f : Nat → Int32} {c u z : Int32} (h : ∃ q, q < u.toNatClampNeg ∧ f q = c) (hu : Iv 0 4095 u) (ez : z = u + 1) : ∃ q, q < z.toNatClampNeg ∧ f q = c := by
  obtain ⟨q, h1, h2⟩ := h
  exact ⟨q, by rw [cl_s ez hu]; omega, h2⟩
theorem co_w2 {f : Nat → Int32} {c u z x : Int32} (ex : x = f u.toNatClampNeg) (e : x = c) (hu : Iv 0 4095 u) (ez : z = u + 1) : ∃ q, q < z.toNatClampNeg ∧ f q = c := ⟨u.toNatClampNeg, by rw [cl_s ez hu]; omega, by rw [← ex, e]⟩
theorem co_w3 {f g : Nat → Int32} {c u : Int32} {v : Nat} (h : ∃ q, q < u.toNatClampNeg ∧ f q = c) (hu : u.toNatClampNeg ≤ v) (hk : ∀ q, q < v → f q = g q) : ∃ q, q < v ∧ g q = c := by
  obtain ⟨q, h1, h2⟩ := h
  exact ⟨q, by omega, by rw [← hk q (by omega)]; exact h2⟩
theorem co_k {f g h : Nat → Int32} {k v : Nat} {x : Int32} (e : h = upd f k x) (hk : v ≤ k) (h1 : ∀ q, q < v → f q = g q) : ∀ q, q < v → h q = g q := fun q hq => by
  rw [e]
  unfold upd
  rw [if_neg (by omega)]
  exact h1 q hq
theorem co_t {f g h : Nat → Int32} {v w : Nat} (h1 : ∀ q, q < w → h q = f q) (hw : v ≤ w) (h2 : ∀ q, q < v → f q = g q) : ∀ q, q < v → h q = g q := fun q hq => (h1 q (by omega)).trans (h2 q hq)
theorem co_11 {n m r : Int32} (P : n.toInt ≤ m.toInt → ¬ r = 0) (h : r = 0) (hn : Iv 0 12 n) (hm : Iv 0 12 m) : Iv 0 11 m := by
  refine ⟨hm.1, ?_⟩
  rcases Int.lt_or_le 11 m.toInt with q | q
  · exact absurd h (P (by unfold Iv at hn; omega))
  · exact q
