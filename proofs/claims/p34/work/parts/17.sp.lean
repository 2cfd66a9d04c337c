def sp_pick {α : Type} : List Bool → List α → List α
  | true :: m, x :: xs => x :: sp_pick m xs
  | false :: m, _ :: xs => sp_pick m xs
  | _, _ => []
def sp_pos : List Bool → Nat → List Nat
  | true :: m, k => k :: sp_pos m (k + 1)
  | false :: m, k => sp_pos m (k + 1)
  | [], _ => []
def sp_mix {α : Type} : List Bool → List α → List α → List α
  | true :: m, r :: rs, cs => r :: sp_mix m rs cs
  | false :: m, rs, c :: cs => c :: sp_mix m rs cs
  | _, _, _ => []
def sp_mixI : List Bool → Nat → List Nat → List Nat
  | true :: m, k, qs => k :: sp_mixI m (k + 1) qs
  | false :: m, k, q :: qs => q :: sp_mixI m k qs
  | _, _, _ => []
theorem sp_pos_ge : ∀ (m : List Bool) (k : Nat), sp_pos m (k + 1) = (sp_pos m k).map (· + 1)
  | [], k => rfl
  | true :: m, k => by simp only [sp_pos, List.map_cons, sp_pos_ge m (k + 1)]
  | false :: m, k => by simp only [sp_pos, sp_pos_ge m (k + 1)]
theorem sp_R0 {α : Type} : ∀ (m : List Bool) (ws : List α), m.length = ws.length → (sp_pos m 0).map (fun i => ws[i]?) = (sp_pick m ws).map some
  | [], [], _ => rfl
  | true :: m, x :: xs, h => by
    have h1 := sp_R0 m xs (Nat.succ.inj h)
    simp only [sp_pos, sp_pick, List.map_cons, sp_pos_ge m 0, List.map_map, Function.comp_def, List.getElem?_cons_succ, h1, List.getElem?_cons_zero]
  | false :: m, x :: xs, h => by
    have h1 := sp_R0 m xs (Nat.succ.inj h)
    simp only [sp_pos, sp_pick, sp_pos_ge m 0, List.map_map, Function.comp_def, List.getElem?_cons_succ, h1]
  | [], _ :: _, h => by simp at h
  | _ :: _, [], h => by simp at h
theorem sp_R {α : Type} {ws wr : List α} {is : List Nat} (m : List Bool) (hl : m.length = ws.length) (h1 : sp_pick m ws = wr) (h2 : sp_pos m 0 = is) : is.map (fun i => ws[i]?) = wr.map some := by
  subst h1; subst h2; exact sp_R0 m ws hl
theorem sp_N0 {α : Type} (all : List α) : ∀ (m : List Bool) (k : Nat) (rs cs : List α) (qs : List Nat), (∀ j, j < rs.length → all[k + j]? = rs[j]?) → qs.map (fun i => all[i]?) = cs.map some → m.count true = rs.length → m.count false = cs.length → (sp_mixI m k qs).map (fun i => all[i]?) = (sp_mix m rs cs).map some
  | [], k, rs, cs, qs, _, _, _, _ => by cases rs <;> cases cs <;> rfl
  | true :: m, k, r :: rs, cs, qs, ha, hq, h1, h2 => by
    have e := ha 0 (Nat.succ_pos _)
    have h3 := sp_N0 all m (k + 1) rs cs qs (fun j hj => by have := ha (j + 1) (Nat.succ_lt_succ hj); rw [Nat.add_right_comm, Nat.add_assoc]; simpa using this) hq (by simpa using h1) (by simpa using h2)
    simp only [sp_mixI, sp_mix, List.map_cons, h3]
    congr 1
  | true :: m, k, [], cs, qs, ha, hq, h1, h2 => by simp at h1
  | false :: m, k, rs, c :: cs, q :: qs, ha, hq, h1, h2 => by
    simp only [List.map_cons, List.cons.injEq] at hq
    have h3 := sp_N0 all m k rs cs qs ha hq.2 (by simpa using h1) (by simpa using h2)
    cases rs with
    | nil => simp only [sp_mixI, sp_mix, List.map_cons, h3, hq.1]
    | cons r rs => simp only [sp_mixI, sp_mix, List.map_cons, h3, hq.1]
  | false :: m, k, rs, [], qs, ha, hq, h1, h2 => by simp at h2
  | false :: m, k, rs, c :: cs, [], ha, hq, h1, h2 => by simp at hq
theorem sp_N {α : Type} {wr w1 wn : List α} {is : List Nat} (m : List Bool) (js qs : List Nat) (cs : List α) (n : Nat) (hl : wr.length = n) (hj : js.map (fun i => w1[i]?) = cs.map some) (hq : js.map (fun i => n + i) = qs) (hm : m.count true = n) (hm2 : m.count false = cs.length) (h1 : sp_mix m wr cs = wn) (h2 : sp_mixI m 0 qs = is) : is.map (fun i => (wr ++ w1)[i]?) = wn.map some := by
  subst h1; subst h2; subst hq; subst hl
  refine sp_N0 _ m 0 wr cs _ (fun j hj => ?_) ?_ hm hm2
  · rw [Nat.zero_add, List.getElem?_append_left hj]
  · rw [← hj, List.map_map]
    refine List.map_congr_left (fun i _ => ?_)
    show (wr ++ w1)[wr.length + i]? = w1[i]?
    rw [List.getElem?_append_right (Nat.le_add_right _ _), Nat.add_sub_cancel_left]
