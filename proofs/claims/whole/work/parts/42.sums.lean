/-! SUMS as lists of trees with numbers, the greatest first -/
abbrev zT : Type := List Nat × Nat
def zd : zT := ([], 0)
def De (r : List zT) : Prop := r.Pairwise (fun a b => ky b.1 < ky a.1)
def addT (P : Nat) (t : List Nat) (v : Nat) : List zT → List zT
  | [] => [(t, v % P)]
  | p :: r => if p.1 = t then (t, (p.2 + v) % P) :: r else if ky t < ky p.1 then p :: addT P t v r else (t, v % P) :: p :: r
def cl (r : List zT) : List zT := r.filter (fun p => p.2 != 0)
theorem addT_pre {P : Nat} {t : List Nat} {v : Nat} : ∀ (k : Nat) (r : List zT), k ≤ r.length → (∀ i, i < k → ky t < ky (r.getD i zd).1) → addT P t v r = r.take k ++ addT P t v (r.drop k)
  | 0, r, _, _ => rfl
  | k + 1, [], h, _ => by simp at h
  | k + 1, p :: r, h, hi => by
    have h0 := hi 0 (by omega)
    have h0 : ky t < ky p.1 := h0
    have hn : ¬ p.1 = t := fun z => by rw [z] at h0; exact absurd h0 (Nat.lt_irrefl _)
    rw [addT, if_neg hn, if_pos h0, addT_pre k r (by simpa using h) (fun i hk => hi (i + 1) (by omega))]
    rfl
theorem getD_drop0 {r : List zT} {k : Nat} (h : k < r.length) : r.drop k = r.getD k zd :: r.drop (k + 1) := by
  rw [List.drop_eq_getElem_cons h, List.getD_eq_getElem?_getD, List.getElem?_eq_getElem h]; rfl
/-- the tree stands there already -/
theorem addT_eq {P : Nat} {t : List Nat} {v k : Nat} {r : List zT} (hk : k < r.length) (hi : ∀ i, i < k → ky t < ky (r.getD i zd).1) (ht : (r.getD k zd).1 = t) : addT P t v r = r.take k ++ (t, ((r.getD k zd).2 + v) % P) :: r.drop (k + 1) := by
  rw [addT_pre k r (by omega) hi, getD_drop0 hk, addT, if_pos ht]
/-- the tree is new -/
theorem addT_new {P : Nat} {t : List Nat} {v k : Nat} {r : List zT} (hk : k ≤ r.length) (hi : ∀ i, i < k → ky t < ky (r.getD i zd).1) (hg : k < r.length → ¬ ky t < ky (r.getD k zd).1 ∧ (r.getD k zd).1 ≠ t) : addT P t v r = r.take k ++ (t, v % P) :: r.drop k := by
  rw [addT_pre k r hk hi]
  by_cases h : k < r.length
  · obtain ⟨g1, g2⟩ := hg h
    rw [getD_drop0 h, addT, if_neg g2, if_neg g1]
  · rw [List.drop_eq_nil_of_le (by omega)]; rfl
theorem getD_ins {r : List zT} {x : zT} {k i : Nat} (hk : k ≤ r.length) : (r.take k ++ x :: r.drop k).getD i zd = if i < k then r.getD i zd else if i = k then x else r.getD (i - 1) zd := by
  rw [List.getD_eq_getElem?_getD, List.getD_eq_getElem?_getD, List.getD_eq_getElem?_getD]
  have hl : (r.take k).length = k := by rw [List.length_take]; omega
  by_cases h : i < k
  · rw [if_pos h, List.getElem?_append_left (by omega), List.getElem?_take_of_lt h]
  · rw [if_neg h, List.getElem?_append_right (by omega), hl]
    by_cases h2 : i = k
    · rw [if_pos h2, h2, Nat.sub_self]; rfl
    · rw [if_neg h2, show i - k = (i - k - 1) + 1 by omega, List.getElem?_cons_succ, List.getElem?_drop, show k + (i - k - 1) = i - 1 by omega]
theorem len_ins {r : List zT} {x : zT} {k : Nat} (hk : k ≤ r.length) : (r.take k ++ x :: r.drop k).length = r.length + 1 := by
  rw [List.length_append, List.length_cons, List.length_take, List.length_drop]; omega
theorem getD_set {r : List zT} {x : zT} {k i : Nat} (hk : k < r.length) : (r.take k ++ x :: r.drop (k + 1)).getD i zd = if i = k then x else r.getD i zd := by
  rw [List.getD_eq_getElem?_getD, List.getD_eq_getElem?_getD]
  have hl : (r.take k).length = k := by rw [List.length_take]; omega
  by_cases h : i < k
  · rw [if_neg (by omega), List.getElem?_append_left (by omega), List.getElem?_take_of_lt h]
  · rw [List.getElem?_append_right (by omega), hl]
    by_cases h2 : i = k
    · rw [if_pos h2, h2, Nat.sub_self]; rfl
    · rw [if_neg h2, show i - k = (i - k - 1) + 1 by omega, List.getElem?_cons_succ, List.getElem?_drop, show k + 1 + (i - k - 1) = i by omega]
theorem len_set {r : List zT} {x : zT} {k : Nat} (hk : k < r.length) : (r.take k ++ x :: r.drop (k + 1)).length = r.length := by
  rw [List.length_append, List.length_cons, List.length_take, List.length_drop]; omega
theorem getD_del {r : List zT} {k i : Nat} (hk : k < r.length) : (r.take k ++ r.drop (k + 1)).getD i zd = if i < k then r.getD i zd else r.getD (i + 1) zd := by
  rw [List.getD_eq_getElem?_getD, List.getD_eq_getElem?_getD, List.getD_eq_getElem?_getD]
  have hl : (r.take k).length = k := by rw [List.length_take]; omega
  by_cases h : i < k
  · rw [if_pos h, List.getElem?_append_left (by omega), List.getElem?_take_of_lt h]
  · rw [if_neg h, List.getElem?_append_right (by omega), hl, List.getElem?_drop, show k + 1 + (i - k) = i + 1 by omega]
theorem len_del {r : List zT} {k : Nat} (hk : k < r.length) : (r.take k ++ r.drop (k + 1)).length = r.length - 1 := by
  rw [List.length_append, List.length_take, List.length_drop]; omega
theorem mem_getD {r : List zT} {k : Nat} (h : k < r.length) : r.getD k zd ∈ r := by
  rw [List.getD_eq_getElem?_getD, List.getElem?_eq_getElem h]; exact List.getElem_mem h
theorem mem_addT {P : Nat} {t : List Nat} {v : Nat} {q : zT} : ∀ {r : List zT}, q ∈ addT P t v r → q ∈ r ∨ (q.1 = t ∧ ∃ w, q.2 = w % P)
  | [], h => by rw [addT] at h; rw [List.mem_singleton.mp h]; exact Or.inr ⟨rfl, _, rfl⟩
  | p :: r, h => by
    rw [addT] at h
    split at h
    · rcases List.mem_cons.mp h with rfl | h
      · exact Or.inr ⟨rfl, _, rfl⟩
      · exact Or.inl (List.mem_cons_of_mem _ h)
    · split at h
      · rcases List.mem_cons.mp h with rfl | h
        · exact Or.inl List.mem_cons_self
        · rcases mem_addT h with h | h
          · exact Or.inl (List.mem_cons_of_mem _ h)
          · exact Or.inr h
      · rcases List.mem_cons.mp h with rfl | h
        · exact Or.inr ⟨rfl, _, rfl⟩
        · exact Or.inl h
theorem len_addT {P : Nat} {t : List Nat} {v : Nat} : ∀ (r : List zT), (addT P t v r).length ≤ r.length + 1
  | [] => Nat.le_refl _
  | p :: r => by
    rw [addT]
    split
    · simp
    · split
      · have := len_addT (P := P) (t := t) (v := v) r; simp only [List.length_cons]; omega
      · simp
/-- sums of trees of a world, with numbers by a prime; those of Ce without 0 -/
def Re (A : Nat) (e : Nat → Nat) (P n : Nat) (r : List zT) : Prop := De r ∧ ∀ p, p ∈ r → Tr A e n p.1 ∧ p.2 < P
def Ce (A : Nat) (e : Nat → Nat) (P n : Nat) (r : List zT) : Prop := Re A e P n r ∧ ∀ p, p ∈ r → p.2 ≠ 0
theorem De.addT {A : Nat} {e : Nat → Nat} (hE : Eok A e) {P n : Nat} (hn : n ≤ 7) {t : List Nat} {v : Nat} (ht : Tr A e n t) : ∀ {r : List zT}, De r → (∀ p, p ∈ r → Tr A e n p.1) → De (_root_.Jvm.Pilot.CLeafWorldsLaw_law_r8483_d58aac.addT P t v r)
  | [], _, _ => List.pairwise_singleton _ _
  | p :: r, hd, hT => by
    obtain ⟨h1, h2⟩ := List.pairwise_cons.mp hd
    unfold _root_.Jvm.Pilot.CLeafWorldsLaw_law_r8483_d58aac.addT
    split
    · rename_i h
      exact List.pairwise_cons.mpr ⟨fun q hq => by rw [← h]; exact h1 q hq, h2⟩
    · rename_i h
      split
      · rename_i g
        refine List.pairwise_cons.mpr ⟨fun q hq => ?_, De.addT hE hn ht h2 (fun q hq => hT q (List.mem_cons_of_mem _ hq))⟩
        rcases mem_addT hq with z | z
        · exact h1 q z
        · rw [z.1]; exact g
      · rename_i g
        have hlt : ky p.1 < ky t := by
          have : ky p.1 ≠ ky t := fun z => h (ky_inj hE (hT p List.mem_cons_self) ht hn z)
          omega
        refine List.pairwise_cons.mpr ⟨fun q hq => ?_, hd⟩
        rcases List.mem_cons.mp hq with rfl | hq
        · exact hlt
        · exact Nat.lt_trans (h1 q hq) hlt
theorem Re.add {A : Nat} {e : Nat → Nat} (hE : Eok A e) {P n : Nat} (hP : 0 < P) (hn : n ≤ 7) {t : List Nat} {v : Nat} (ht : Tr A e n t) {r : List zT} (h : Re A e P n r) : Re A e P n (addT P t v r) :=
  ⟨De.addT hE hn ht h.1 (fun p hp => (h.2 p hp).1), fun p hp => by
    rcases mem_addT hp with z | ⟨z1, w, z2⟩
    · exact h.2 p z
    · rw [z1, z2]; exact ⟨ht, Nat.mod_lt _ hP⟩⟩
theorem Re.cl {A : Nat} {e : Nat → Nat} {P n : Nat} {r : List zT} (h : Re A e P n r) : Ce A e P n (_root_.Jvm.Pilot.CLeafWorldsLaw_law_r8483_d58aac.cl r) :=
  ⟨⟨List.Pairwise.sublist List.filter_sublist h.1, fun p hp => h.2 p (List.mem_filter.mp hp).1⟩, fun p hp => by simpa using (List.mem_filter.mp hp).2⟩
theorem cl_id {r : List zT} (h : ∀ p, p ∈ r → p.2 ≠ 0) : cl r = r := List.filter_eq_self.mpr fun p hp => by simpa using h p hp
theorem cl_cons {p : zT} {r : List zT} : cl (p :: r) = if p.2 = 0 then cl r else p :: cl r := by
  unfold cl
  rw [List.filter_cons]
  by_cases h : p.2 = 0
  · simp [h]
  · simp [h]
/-- terms of 0 may be thrown out early -/
theorem cl_addT {P : Nat} {t : List Nat} {v : Nat} : ∀ {r : List zT}, De r → (∀ p, p ∈ r → p.2 < P) → cl (addT P t v r) = cl (addT P t v (cl r))
  | [], _, _ => rfl
  | p :: r, hd, hP => by
    obtain ⟨h1, h2⟩ := List.pairwise_cons.mp hd
    have ih := cl_addT (P := P) (t := t) (v := v) h2 (fun q hq => hP q (List.mem_cons_of_mem _ hq))
    have hc : ∀ q, q ∈ cl r → ky q.1 < ky p.1 := fun q hq => h1 q (List.mem_filter.mp hq).1
    have hcc : cl (cl r) = cl r := by unfold cl; rw [List.filter_filter]; simp
    have hnew : ∀ s : List zT, (∀ q, q ∈ s → ky q.1 < ky t) → addT P t v s = (t, v % P) :: s := fun s hs => by
      cases s with
      | nil => rfl
      | cons q s =>
        have := hs q List.mem_cons_self
        rw [addT, if_neg (fun z => by rw [z] at this; exact Nat.lt_irrefl _ this), if_neg (by omega)]
    rw [cl_cons (p := p)]
    by_cases h0 : p.2 = 0
    · rw [if_pos h0]
      by_cases ht : p.1 = t
      · rw [addT, if_pos ht, hnew (cl r) (fun q hq => by rw [← ht]; exact hc q hq), h0, Nat.zero_add, cl_cons, cl_cons, hcc]
      · rw [addT, if_neg ht]
        by_cases hg : ky t < ky p.1
        · rw [if_pos hg, cl_cons, if_pos h0, ih]
        · rw [if_neg hg, cl_cons, cl_cons, if_pos h0]
          have : ∀ q, q ∈ cl r → ky q.1 < ky t := fun q hq => Nat.lt_of_lt_of_le (hc q hq) (by omega)
          rw [hnew (cl r) this, cl_cons, hcc]
    · rw [if_neg h0]
      by_cases ht : p.1 = t
      · rw [addT, if_pos ht, addT, if_pos ht, cl_cons, cl_cons, hcc]
      · rw [addT, if_neg ht, addT, if_neg ht]
        by_cases hg : ky t < ky p.1
        · rw [if_pos hg, if_pos hg, cl_cons, cl_cons, if_neg h0, if_neg h0, ih]
        · rw [if_neg hg, if_neg hg]
          simp only [cl_cons, if_neg h0, hcc]
theorem pth_bd (e : Nat → Nat) (B : Nat) : ∀ (t : List Nat) (st : List (Nat × Nat)) (h : Nat), (∀ k, k ∈ t → k ≤ 3) → (h + 1) * 4 ^ acs t ≤ B → (∀ p, p ∈ st → (p.1 + 1) * 4 ^ acs t ≤ B) → ∀ x, x ∈ pth e st h t → x < B
  | [], _, _, _, _, _, x, hx => absurd hx List.not_mem_nil
  | k :: r, st, h, h3, hh, hst, x, hx => by
    have hk := h3 k List.mem_cons_self
    have h3' := fun q hq => h3 q (List.mem_cons_of_mem _ hq)
    rw [pth] at hx
    split at hx
    · rename_i h0
      rw [acs, if_pos h0, Nat.zero_add] at hh hst
      rcases List.mem_cons.mp hx with rfl | hx
      · have : 1 ≤ 4 ^ acs r := Nat.pow_pos (by omega)
        have : (x + 1) * 1 ≤ (x + 1) * 4 ^ acs r := Nat.mul_le_mul_left _ this
        omega
      · have key : ∀ (st : List (Nat × Nat)) (h : Nat), (h + 1) * 4 ^ acs r ≤ B → (∀ p, p ∈ st → (p.1 + 1) * 4 ^ acs r ≤ B) → ((pop st h).2 + 1) * 4 ^ acs r ≤ B ∧ ∀ p, p ∈ (pop st h).1 → (p.1 + 1) * 4 ^ acs r ≤ B := by
          intro st
          induction st with
          | nil => exact fun h a b => ⟨a, b⟩
          | cons q st ih =>
            obtain ⟨g, l⟩ := q
            intro h a b
            rw [pop]
            split
            · refine ⟨a, fun p hp => ?_⟩
              rcases List.mem_cons.mp hp with rfl | hp
              · exact b (g, l) List.mem_cons_self
              · exact b p (List.mem_cons_of_mem _ hp)
            · exact ih g (b (g, l) List.mem_cons_self) (fun p hp => b p (List.mem_cons_of_mem _ hp))
        exact pth_bd e B r _ _ h3' (key st h hh hst).1 (key st h hh hst).2 x hx
    · rename_i h0
      rw [acs, if_neg h0, Nat.pow_add, Nat.pow_one, ← Nat.mul_assoc] at hh
      have hh2 : ∀ p, p ∈ st → (p.1 + 1) * 4 ^ acs r ≤ B := fun p hp => by
        have := hst p hp
        rw [acs, if_neg h0, Nat.pow_add, Nat.pow_one, ← Nat.mul_assoc] at this
        have : (p.1 + 1) * 4 ^ acs r ≤ (p.1 + 1) * 4 * 4 ^ acs r := Nat.mul_le_mul_right _ (by omega)
        omega
      refine pth_bd e B r _ _ h3' (Nat.le_trans (Nat.mul_le_mul_right _ (show 4 * h + k + 1 ≤ (h + 1) * 4 by omega)) hh) (fun p hp => ?_) x hx
      rcases List.mem_cons.mp hp with rfl | hp
      · exact Nat.le_trans (Nat.mul_le_mul_right _ (show h + 1 ≤ (h + 1) * 4 by omega)) hh
      · exact hh2 p hp
theorem pth_lt13 {A : Nat} {e : Nat → Nat} (hE : Eok A e) {n : Nat} {t : List Nat} (ht : Tr A e n t) (hn : n ≤ 7) (j : Nat) : (pth e [] 1 t).getD j 0 < 8192 := by
  by_cases h : j < (pth e [] 1 t).length
  · refine pth_bd e 8192 t [] 1 (ht.tok hE) ?_ (fun p hp => absurd hp List.not_mem_nil) _ (getD_mem h)
    have hc := ht.1.cnt hE.two
    have := pow46 (n := acs t) (by have := ht.2; omega)
    omega
  · rw [List.getD_eq_getElem?_getD, List.getElem?_eq_none (by omega)]; decide
