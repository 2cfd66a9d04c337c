/-- a great clique, by what is joined -/
def Gt (adj : Nat → Nat → Bool) (n : Nat) (C : Nat → Bool) : Prop := (∃ v, C v = true) ∧ (∀ v, C v = true → v < n) ∧ (∀ v, C v = true → ∀ u, C u = true → u ≠ v → adj v u = true) ∧ (∀ v, v < n → C v = false → ∃ u, C u = true ∧ adj v u = false)
def Mx (S : Nat → Nat → Bool) (P : List Nat) (C : Nat → Bool) : Prop := (∀ v, C v = true → v ∈ P) ∧ (∀ v, C v = true → ∀ u, C u = true → u ≠ v → S v u = true) ∧ (∀ v, v ∈ P → C v = false → ∃ u, C u = true ∧ S v u = false)
def mm (m : Nat) : Nat := [1, 1, 2, 3, 4, 6, 9, 12, 18, 27, 36, 54, 81].getD m 0
theorem mm_k : ∀ m, m < 13 → ∀ k, k < 13 → 1 ≤ k → k ≤ m → k * mm (m - k) ≤ mm m := by decide +kernel
theorem mm_1 : ∀ m, m < 13 → 1 ≤ mm m := by decide +kernel
theorem l_min (f : Nat → Nat) : ∀ P : List Nat, P ≠ [] → ∃ v, v ∈ P ∧ ∀ u, u ∈ P → f v ≤ f u
  | [], h => absurd rfl h
  | [a], _ => ⟨a, List.mem_singleton.mpr rfl, fun u hu => by rw [List.mem_singleton.mp hu]; exact Nat.le_refl _⟩
  | a :: b :: t, _ => by
    obtain ⟨v, hv, hm⟩ := l_min f (b :: t) (by simp)
    by_cases h : f a ≤ f v
    · refine ⟨a, List.mem_cons_self, fun u hu => ?_⟩
      rcases List.mem_cons.mp hu with e | e
      · rw [e]; exact Nat.le_refl _
      · exact Nat.le_trans h (hm u e)
    · refine ⟨v, List.mem_cons_of_mem _ hv, fun u hu => ?_⟩
      rcases List.mem_cons.mp hu with e | e
      · rw [e]; omega
      · exact hm u e
theorem fl_len {α β : Type} (F : α → List β) (b : Nat) : ∀ Q : List α, (∀ w, w ∈ Q → (F w).length ≤ b) → (Q.flatMap F).length ≤ Q.length * b
  | [], _ => by simp
  | a :: t, h => by
    have h1 := fl_len F b t (fun w hw => h w (List.mem_cons_of_mem _ hw))
    have h2 := h a List.mem_cons_self
    rw [List.flatMap_cons, List.length_append, List.length_cons, Nat.succ_mul]
    omega
theorem flt_sum (p : Nat → Bool) : ∀ P : List Nat, (P.filter p).length + (P.filter (fun u => !p u)).length = P.length
  | [] => rfl
  | a :: t => by
    have h := flt_sum p t
    cases ha : p a
    · simp [ha]
      omega
    · simp [ha]
      omega
theorem moon (S : Nat → Nat → Bool) (hsym : ∀ a b, S a b = S b a) : ∀ m, m < 13 → ∀ P : List Nat, P.length ≤ m → ∃ L : List (Nat → Bool), L.length ≤ mm m ∧ ∀ C, Mx S P C → C ∈ L := by
  intro m
  induction m using Nat.strongRecOn with
  | ind m ih =>
    intro hm P hP
    by_cases hne : P = []
    · refine ⟨[fun _ => false], ?_, fun C hC => ?_⟩
      · have := mm_1 m hm
        simpa using this
      · have : C = fun _ => false := funext fun v => by
          cases hv : C v
          · rfl
          · have := hC.1 v hv
            rw [hne] at this
            cases this
        rw [this]
        exact List.mem_singleton.mpr rfl
    · obtain ⟨v, hv, hmin⟩ := l_min (fun w => (P.filter (fun u => decide (u = w) || !S w u)).length) P hne
      have hself : ∀ w, w ∈ P → 1 ≤ (P.filter (fun u => decide (u = w) || !S w u)).length := fun w hw => by
        have : w ∈ P.filter (fun u => decide (u = w) || !S w u) := List.mem_filter.mpr ⟨hw, by simp⟩
        exact List.length_pos_of_mem this
      have hk1 := hself v hv
      have hkP : (P.filter (fun u => decide (u = v) || !S v u)).length ≤ P.length := List.length_filter_le _ _
      generalize hk : (P.filter (fun u => decide (u = v) || !S v u)).length = k at *
      have hsub : ∀ w, ∃ L : List (Nat → Bool), w ∈ P → L.length ≤ mm (m - k) ∧ ∀ C, Mx S (P.filter (fun u => !(decide (u = w) || !S w u))) C → C ∈ L := fun w => by
        by_cases hw : w ∈ P
        · have h1 : k ≤ (P.filter (fun u => decide (u = w) || !S w u)).length := hmin w hw
          have h2 := flt_sum (fun u => decide (u = w) || !S w u) P
          obtain ⟨L, hL⟩ := ih (m - k) (by omega) (by omega) (P.filter (fun u => !(decide (u = w) || !S w u))) (by omega)
          exact ⟨L, fun _ => hL⟩
        · exact ⟨[], fun h => absurd h hw⟩
      refine ⟨(P.filter (fun u => decide (u = v) || !S v u)).flatMap (fun w => (Classical.choose (hsub w)).map (fun C => fun x => decide (x = w) || C x)), ?_, fun C hC => ?_⟩
      · refine Nat.le_trans (fl_len _ (mm (m - k)) _ (fun w hw => ?_)) ?_
        · rw [List.length_map]
          exact (Classical.choose_spec (hsub w) (List.mem_filter.mp hw).1).1
        · rw [hk]
          exact mm_k m hm k (by omega) hk1 (by omega)
      · obtain ⟨w, hwC, hwN⟩ : ∃ w, C w = true ∧ (decide (w = v) || !S v w) = true := by
          cases hCv : C v
          · obtain ⟨u, hu, hs⟩ := hC.2.2 v hv hCv
            exact ⟨u, hu, by simp [hs]⟩
          · exact ⟨v, hCv, by simp⟩
        have hwP := hC.1 w hwC
        refine List.mem_flatMap.mpr ⟨w, List.mem_filter.mpr ⟨hwP, hwN⟩, List.mem_map.mpr ⟨fun x => C x && !decide (x = w), (Classical.choose_spec (hsub w) hwP).2 _ ⟨?_, ?_, ?_⟩, ?_⟩⟩
        · intro x hx
          simp only [Bool.and_eq_true, Bool.not_eq_true', decide_eq_false_iff_not] at hx
          refine List.mem_filter.mpr ⟨hC.1 x hx.1, ?_⟩
          have := hC.2.1 w hwC x hx.1 hx.2
          simp [hx.2, this]
        · intro x hx y hy hxy
          simp only [Bool.and_eq_true] at hx hy
          exact hC.2.1 x hx.1 y hy.1 hxy
        · intro x hx hCx
          obtain ⟨hxP, hx2⟩ := List.mem_filter.mp hx
          simp only [Bool.not_eq_true', Bool.or_eq_false_iff, decide_eq_false_iff_not, Bool.not_eq_false'] at hx2
          have hCx2 : C x = false := by
            cases h9 : C x
            · rfl
            · simp [h9, hx2.1] at hCx
          obtain ⟨u, hu, hs⟩ := hC.2.2 x hxP hCx2
          refine ⟨u, ?_, hs⟩
          have : u ≠ w := fun e => by
            rw [e, hsym, hx2.2] at hs
            cases hs
          simp [hu, this]
        · funext x
          by_cases e : x = w
          · simp [e, hwC]
          · simp [e]
theorem moon_gt (adj : Nat → Nat → Bool) {n : Nat} (hn : n ≤ 12) : ∃ L : List (Nat → Bool), L.length ≤ 81 ∧ ∀ C, Gt adj n C → C ∈ L := by
  obtain ⟨L, hL, h⟩ := moon (fun a b => adj a b && adj b a) (fun a b => Bool.and_comm _ _) 12 (by decide) (List.range n) (by simpa using hn)
  refine ⟨L, hL, fun C hC => h C ⟨fun v hv => List.mem_range.mpr (hC.2.1 v hv), fun v hv u hu hne => ?_, fun v hv hc => ?_⟩⟩
  · have h1 := hC.2.2.1 v hv u hu hne
    have h2 := hC.2.2.1 u hu v hv (fun e => hne e.symm)
    simp [h1, h2]
  · obtain ⟨u, hu, hs⟩ := hC.2.2.2 v (List.mem_range.mp hv) hc
    exact ⟨u, hu, by simp [hs]⟩
/-- all great ones but those within what is left are known, and not too many -/
def Sd (adj : Nat → Nat → Bool) (n : Nat) (lf : Nat → Bool) : Prop := ∃ L : List (Nat → Bool), L.length + fb_ct lf n ≤ n ∧ ∀ C, Gt adj n C → (∃ v, C v = true ∧ lf v = false) → C ∈ L
theorem sd_0 {adj : Nat → Nat → Bool} {n : Nat} {lf : Nat → Bool} (h : ∀ v, v < n → lf v = true) : Sd adj n lf := ⟨[], by have := fb_ct_all.mpr h; simp; omega, fun C hC ⟨v, h1, h2⟩ => by
  rw [h v (hC.2.1 v h1)] at h2
  cases h2⟩
theorem sd_s {adj : Nat → Nat → Bool} {n v : Nat} {lf lf2 : Nat → Bool} (h : Sd adj n lf) (hv : v < n) (hlv : lf v = true) (hK : ∀ a b, a < n → adj v a = true → lf a = true → adj v b = true → lf b = true → a ≠ b → adj a b = true) (e : ∀ u, u < n → lf2 u = (lf u && !decide (u = v))) : Sd adj n lf2 := by
  obtain ⟨L, hL, hc⟩ := h
  refine ⟨(fun u => decide (u = v) || (adj v u && (lf u && adj u v) && decide (u < n))) :: L, ?_, fun C hC hx => ?_⟩
  · have h1 := fb_ct_upd lf false hv
    rw [hlv] at h1
    have h2 : fb_ct lf2 n = fb_ct (fun k => if k = v then false else lf k) n := fb_ct_cong (fun k hk => by
      rw [e k hk]
      by_cases q : k = v
      · simp [q]
      · simp [q])
    have h1' : fb_ct (fun k => if k = v then false else lf k) n + 1 = fb_ct lf n + 0 := h1
    rw [List.length_cons, h2]
    omega
  · by_cases hq : ∃ u, C u = true ∧ lf u = false
    · exact List.mem_cons_of_mem _ (hc C hC hq)
    · have hall : ∀ u, C u = true → lf u = true := fun u hu => by
        cases hl : lf u
        · exact absurd ⟨u, hu, hl⟩ hq
        · rfl
      obtain ⟨u, hu, hlu⟩ := hx
      have huv : u = v := by
        rw [e u (hC.2.1 u hu), hall u hu] at hlu
        simpa using hlu
      subst huv
      have : C = (fun x => decide (x = u) || (adj u x && (lf x && adj x u) && decide (x < n))) := funext fun x => by
        by_cases hx : x = u
        · simp [hx, hu]
        · cases hCx : C x
          · symm
            rcases Nat.lt_or_ge x n with hxn | hxn
            · cases h1 : (adj u x && (lf x && adj x u))
              · simp [hx, h1]
              · exfalso
                simp only [Bool.and_eq_true] at h1
                obtain ⟨a1, a2, a3⟩ := h1
                obtain ⟨y, hy, hs⟩ := hC.2.2.2 x hxn hCx
                by_cases hyu : y = u
                · rw [hyu, a3] at hs
                  cases hs
                · have b1 := hC.2.2.1 u hu y hy hyu
                  have b2 : x ≠ y := fun e => by
                    rw [e, hy] at hCx
                    cases hCx
                  rw [hK x y hxn a1 a2 b1 (hall y hy) b2] at hs
                  cases hs
            · simp [hx, Nat.not_lt.mpr hxn]
          · have b1 := hC.2.2.1 u hu x hCx hx
            have b2 := hC.2.2.1 x hCx u hu (fun e => hx e.symm)
            simp [b1, b2, hall x hCx, hC.2.1 x hCx]
      rw [this]
      exact List.mem_cons_self
theorem sd_end {adj : Nat → Nat → Bool} {n : Nat} {lf : Nat → Bool} (h : Sd adj n lf) (hz : ∀ v, v < n → lf v = false) : ∃ L : List (Nat → Bool), L.length ≤ n ∧ ∀ C, Gt adj n C → C ∈ L := by
  obtain ⟨L, hL, hc⟩ := h
  refine ⟨L, by omega, fun C hC => hc C hC ?_⟩
  obtain ⟨v, hv⟩ := hC.1
  exact ⟨v, hv, hz v (hC.2.1 v hv)⟩
/-- different ones out of a list are no more than it has -/
theorem cnt_le {L : List (Nat → Bool)} {k : Nat} {c : Nat → Int32} (hm : ∀ i, i < k → bt (c i) ∈ L) (hd : ∀ i j, i < j → j < k → c i ≠ c j) : k ≤ L.length := by
  have hx : ∀ i, ∃ p, i < k → ∃ h : p < L.length, L[p] = bt (c i) := fun i => by
    by_cases hi : i < k
    · obtain ⟨p, hp, e⟩ := List.getElem_of_mem (hm i hi)
      exact ⟨p, fun _ => ⟨hp, e⟩⟩
    · exact ⟨0, fun h => absurd h hi⟩
  refine fb_holes L.length k (fun i => Classical.choose (hx i)) (fun i hi => (Classical.choose_spec (hx i) hi).1) (fun i j hij hj e => hd i j hij hj (b_ext (fun q _ => ?_)))
  obtain ⟨h1, e1⟩ := Classical.choose_spec (hx i) (by omega)
  obtain ⟨h2, e2⟩ := Classical.choose_spec (hx j) hj
  have : bt (c i) = bt (c j) := by
    rw [← e1, ← e2]
    congr 1
  exact congrFun this q
