/-! all trees of so many leaves: how many there are, and as they rise -/
def fo (T : Nat → List (List Nat)) : Nat → Nat → List (List Nat)
  | 0, m => if m = 0 then [[]] else []
  | o + 1, m => (List.range m).flatMap (fun j => (T (j + 1)).flatMap (fun t => (fo T o (m - (j + 1))).map (fun f => t ++ f)))
def trs (A : Nat) (e : Nat → Nat) : Nat → Nat → List (List Nat)
  | 0, _ => []
  | f + 1, n => (if n = 1 then [[0]] else []) ++ (List.range A).flatMap (fun a => (fo (trs A e f) (e a) n).map (fun r => (a + 1) :: r))
theorem mem_fo {T : Nat → List (List Nat)} (hT : ∀ k t, t ∈ T k → lvs t = k) : ∀ {o m : Nat} {x : List Nat}, x ∈ fo T o m ↔ ∃ us : List (List Nat), us.length = o ∧ (∀ u, u ∈ us → 1 ≤ lvs u ∧ u ∈ T (lvs u)) ∧ lvs x = m ∧ x = us.flatten
  | 0, m, x => by
    rw [fo]
    constructor
    · intro h
      split at h
      · rename_i h0
        have : x = [] := by simpa using h
        exact ⟨[], rfl, fun u hu => absurd hu List.not_mem_nil, by rw [this, h0]; rfl, this⟩
      · exact absurd h List.not_mem_nil
    · rintro ⟨us, h1, h2, h3, h4⟩
      have : us = [] := List.length_eq_zero_iff.mp h1
      rw [this] at h4
      have h5 : x = [] := h4
      rw [h5] at h3 ⊢
      rw [if_pos (by rw [← h3]; rfl)]
      simp
  | o + 1, m, x => by
    rw [fo]
    constructor
    · intro h
      obtain ⟨j, hj, h⟩ := List.mem_flatMap.mp h
      obtain ⟨t, ht, h⟩ := List.mem_flatMap.mp h
      obtain ⟨f, hf, rfl⟩ := List.mem_map.mp h
      obtain ⟨us, h1, h2, h3, h4⟩ := (mem_fo hT).mp hf
      have hj := List.mem_range.mp hj
      have hl := hT _ _ ht
      refine ⟨t :: us, by rw [List.length_cons, h1], fun u hu => ?_, by rw [lvs_app, hl, h3]; omega, by rw [h4]; rfl⟩
      rcases List.mem_cons.mp hu with rfl | hu
      · rw [hl]; exact ⟨by omega, ht⟩
      · exact h2 u hu
    · rintro ⟨us, h1, h2, h3, h4⟩
      cases us with
      | nil => simp at h1
      | cons t us =>
        rw [List.flatten_cons] at h4
        have a1 := h2 t List.mem_cons_self
        have a2 : lvs x = lvs t + lvs us.flatten := by rw [h4, lvs_app]
        refine List.mem_flatMap.mpr ⟨lvs t - 1, List.mem_range.mpr (by omega), List.mem_flatMap.mpr ⟨t, by rw [show lvs t - 1 + 1 = lvs t by omega]; exact a1.2, List.mem_map.mpr ⟨us.flatten, (mem_fo hT).mpr ⟨us, by simpa using h1, fun u hu => h2 u (List.mem_cons_of_mem _ hu), by omega, rfl⟩, h4.symm⟩⟩⟩
theorem trs_tr {A : Nat} {e : Nat → Nat} : ∀ (f n : Nat) (t : List Nat), t ∈ trs A e f n → Tr A e n t
  | 0, n, t, h => absurd h List.not_mem_nil
  | f + 1, n, t, h => by
    rw [trs] at h
    rcases List.mem_append.mp h with h | h
    · split at h
      · rename_i h1
        have : t = [0] := by simpa using h
        rw [this, h1]
        exact ⟨⟨by omega, by rw [if_pos rfl]; rfl⟩, rfl⟩
      · exact absurd h List.not_mem_nil
    · obtain ⟨a, ha, h⟩ := List.mem_flatMap.mp h
      obtain ⟨r, hr, rfl⟩ := List.mem_map.mp h
      have ha := List.mem_range.mp ha
      obtain ⟨us, h1, h2, h3, h4⟩ := (mem_fo (fun k t ht => (trs_tr f k t ht).2)).mp hr
      have := Fs.flat (us := us) (fun u hu => (trs_tr f _ u (h2 u hu).2).1)
      refine ⟨⟨by omega, ?_⟩, by rw [lvs, if_neg (by omega), Nat.zero_add, h3]⟩
      rw [if_neg (by omega)]
      refine ⟨by omega, ?_⟩
      rw [h4]
      simpa [h1] using this
theorem lvs_flat_ge {A : Nat} {e : Nat → Nat} (hE : Eok A e) : ∀ {us : List (List Nat)}, (∀ u, u ∈ us → Fs A e u 1) → us.length ≤ lvs us.flatten ∧ ∀ u, u ∈ us → 1 ≤ lvs u ∧ lvs u + us.length ≤ lvs us.flatten + 1
  | [], _ => ⟨Nat.zero_le _, fun u hu => absurd hu List.not_mem_nil⟩
  | v :: us, h => by
    obtain ⟨a, b⟩ := lvs_flat_ge hE (us := us) (fun u hu => h u (List.mem_cons_of_mem _ hu))
    have c := Fs.cnt hE.two (h v List.mem_cons_self)
    rw [List.flatten_cons, lvs_app, List.length_cons]
    refine ⟨by omega, fun u hu => ?_⟩
    rcases List.mem_cons.mp hu with rfl | hu
    · omega
    · have := b u hu; omega
theorem tr_trs {A : Nat} {e : Nat → Nat} (hE : Eok A e) : ∀ (f n : Nat) (t : List Nat), n ≤ f → Tr A e n t → t ∈ trs A e f n
  | 0, n, t, hn, h => by have := (h.len hE).2; omega
  | f + 1, n, t, hn, h => by
    rw [trs]
    cases t with
    | nil => exact absurd h.1 (by simp [Fs])
    | cons k r =>
      have h2 := h.1.2
      have hl := h.2
      by_cases h0 : k = 0
      · rw [if_pos h0] at h2
        have hr : r = [] := by
          cases r with
          | nil => rfl
          | cons x r => have := h2.1; omega
        rw [lvs, if_pos h0, hr] at hl
        simp only [lvs] at hl
        refine List.mem_append_left _ ?_
        rw [if_pos (by omega), h0, hr]; simp
      · rw [if_neg h0] at h2
        rw [lvs, if_neg h0, Nat.zero_add] at hl
        refine List.mem_append_right _ (List.mem_flatMap.mpr ⟨k - 1, List.mem_range.mpr (by omega), List.mem_map.mpr ⟨r, ?_, by rw [show k - 1 + 1 = k by omega]⟩⟩)
        obtain ⟨us, e1, e2, e3⟩ := Fs.split h2.2
        simp only [Nat.sub_self, Nat.zero_add] at e1
        have h3 := lvs_flat_ge hE e2
        have h4 := (hE.2 (k - 1) (by omega)).1
        rw [← e3] at h3
        refine (mem_fo (fun k t ht => (trs_tr f k t ht).2)).mpr ⟨us, e1, fun u hu => ?_, hl, e3⟩
        have h5 := h3.2 u hu
        exact ⟨h5.1, tr_trs hE f _ u (by omega) ⟨e2 u hu, rfl⟩⟩
theorem fo_nodup {A : Nat} {e : Nat → Nat} {T : Nat → List (List Nat)} (hT : ∀ k t, t ∈ T k → Tr A e k t) (hN : ∀ k, (T k).Nodup) : ∀ (o m : Nat), (fo T o m).Nodup
  | 0, m => by
    rw [fo]
    split <;> simp
  | o + 1, m => by
    rw [fo]
    refine List.pairwise_flatMap.mpr ⟨fun j _ => List.pairwise_flatMap.mpr ⟨fun t ht => List.pairwise_map.mpr ?_, ?_⟩, ?_⟩
    · exact (fo_nodup hT hN o _).imp fun hab z => hab (List.append_cancel_left z)
    · refine List.Pairwise.imp_of_mem (fun {a b} ha hb hab x hx y hy z => ?_) (hN (j + 1))
      obtain ⟨p, _, rfl⟩ := List.mem_map.mp hx
      obtain ⟨q, _, rfl⟩ := List.mem_map.mp hy
      exact hab (Fs.pre (hT _ a ha).1 (hT _ b hb).1 z).1
    · refine List.Pairwise.imp (fun {a b} hab x hx y hy z => ?_) List.nodup_range
      obtain ⟨t, ht, hx⟩ := List.mem_flatMap.mp hx
      obtain ⟨u, hu, hy⟩ := List.mem_flatMap.mp hy
      obtain ⟨p, _, rfl⟩ := List.mem_map.mp hx
      obtain ⟨q, _, rfl⟩ := List.mem_map.mp hy
      have h1 := (Fs.pre (hT _ t ht).1 (hT _ u hu).1 z).1
      have h2 := (hT _ t ht).2
      have h3 := (hT _ u hu).2
      rw [h1] at h2
      omega
theorem trs_nodup {A : Nat} {e : Nat → Nat} : ∀ (f n : Nat), (trs A e f n).Nodup
  | 0, n => List.nodup_nil
  | f + 1, n => by
    rw [trs]
    refine List.nodup_append.mpr ⟨by split <;> simp, List.pairwise_flatMap.mpr ⟨fun a _ => List.pairwise_map.mpr ?_, ?_⟩, ?_⟩
    · exact (fo_nodup (fun k t ht => trs_tr f k t ht) (fun k => trs_nodup f k) _ _).imp fun hab z => hab (List.cons.inj z).2
    · refine List.Pairwise.imp (fun {a b} hab x hx y hy z => ?_) List.nodup_range
      obtain ⟨p, _, rfl⟩ := List.mem_map.mp hx
      obtain ⟨q, _, rfl⟩ := List.mem_map.mp hy
      have := (List.cons.inj z).1
      omega
    · intro x hx y hy z
      split at hx
      · have : x = [0] := by simpa using hx
        obtain ⟨a, _, hy⟩ := List.mem_flatMap.mp hy
        obtain ⟨q, _, rfl⟩ := List.mem_map.mp hy
        rw [this] at z
        have := (List.cons.inj z).1
        omega
      · exact absurd hx List.not_mem_nil
theorem sum_rng (g : Nat → Nat) : ∀ (m : Nat), ((List.range m).map g).sum = sm g m
  | 0 => rfl
  | m + 1 => by
    rw [List.range_succ, List.map_append, List.sum_append, sum_rng g m, sm]
    simp
theorem sum_const {α : Type} {k : Nat} : ∀ (l : List α), (l.map (fun _ => k)).sum = l.length * k
  | [] => by simp
  | a :: l => by rw [List.map_cons, List.sum_cons, sum_const l, List.length_cons, Nat.add_mul]; omega
theorem fo_len {T : Nat → List (List Nat)} (o m : Nat) : (fo T (o + 1) m).length = sm (fun j => (T (j + 1)).length * (fo T o (m - (j + 1))).length) m := by
  rw [fo, List.length_flatMap, sum_rng]
  refine sm_cong fun j _ => ?_
  rw [List.length_flatMap]
  simp only [List.length_map]
  rw [sum_const]
theorem fo_zero {T : Nat → List (List Nat)} (o : Nat) : (fo T (o + 1) 0).length = 0 := by rw [fo_len]; rfl
theorem sm_zero : ∀ (f : Nat → Nat) (m : Nat), (∀ i, i < m → f i = 0) → sm f m = 0
  | _, 0, _ => rfl
  | f, m + 1, h => by rw [sm, sm_zero f m (fun i hi => h i (by omega)), h m (by omega)]
theorem fo_foL {T : Nat → List (List Nat)} (h0 : (T 0).length = 0) : ∀ (o m : Nat), (fo T (o + 1) m).length = foL (fun k => (T k).length) (o + 1) m
  | 0, m => by
    rw [fo_len]
    show _ = (T m).length
    cases m with
    | zero => rw [h0]; rfl
    | succ m =>
      rw [sm, sm_zero _ _ (fun i hi => by rw [fo, if_neg (by omega)]; rfl), fo, if_pos (by omega)]
      simp
  | o + 1, m => by
    rw [fo_len]
    show _ = sm (fun j => (T (j + 1)).length * foL (fun k => (T k).length) (o + 1) (m - (j + 1))) (m - 1)
    cases m with
    | zero => rfl
    | succ m =>
      rw [sm, Nat.add_sub_cancel, show m + 1 - (m + 1) = 0 by omega, fo_zero, Nat.mul_zero, Nat.add_zero]
      exact sm_cong fun j _ => by rw [fo_foL h0]
theorem trs_len {W : zWd} (hE : Eok (wA W) (we W)) : ∀ (f n : Nat), n ≤ f → (trs (wA W) (we W) f n).length = tc W n
  | 0, n, h => by
    have : n = 0 := by omega
    rw [this]; rfl
  | f + 1, n, h => by
    have h00 : (trs (wA W) (we W) f 0).length = 0 := trs_len hE f 0 (by omega)
    rw [trs, List.length_append, List.length_flatMap, sum_rng]
    cases n with
    | zero =>
      rw [if_neg (by omega)]
      show 0 + sm _ (wA W) = 0
      rw [Nat.zero_add]
      refine sm_zero _ _ fun a ha => ?_
      obtain ⟨o, ho⟩ : ∃ o, we W a = o + 1 := ⟨we W a - 1, by have := hE.two a ha; omega⟩
      rw [List.length_map, ho, fo_zero]
    | succ n =>
      rw [tc_succ hE]
      congr 1
      · by_cases h1 : n = 0
        · rw [if_pos (by omega), if_pos h1]; rfl
        · rw [if_neg (by omega), if_neg h1]; rfl
      · refine sm_cong fun a ha => ?_
        obtain ⟨o, ho⟩ : ∃ o, we W a = o + 2 := ⟨we W a - 2, by have := hE.two a ha; omega⟩
        rw [List.length_map, ho, fo_foL h00]
        exact foL_cong2 (by omega) (fun k hk => trs_len hE f k (by omega))
/-- the trees as they rise -/
def tl (W : zWd) (n : Nat) : List (List Nat) := (trs (wA W) (we W) n n).mergeSort (fun a b => decide (ky a ≤ ky b))
theorem tl_mem {W : zWd} (hE : Eok (wA W) (we W)) {n : Nat} {t : List Nat} : t ∈ tl W n ↔ Tr (wA W) (we W) n t :=
  ⟨fun h => trs_tr n n t ((List.mergeSort_perm _ _).mem_iff.mp h), fun h => (List.mergeSort_perm _ _).mem_iff.mpr (tr_trs hE n n t (Nat.le_refl _) h)⟩
theorem tl_len {W : zWd} (hE : Eok (wA W) (we W)) {n : Nat} : (tl W n).length = tc W n := (List.mergeSort_perm _ _).length_eq.trans (trs_len hE n n (Nat.le_refl _))
theorem tl_nodup {W : zWd} {n : Nat} : (tl W n).Nodup := (List.mergeSort_perm _ _).nodup_iff.mpr (trs_nodup n n)
theorem tl_sorted {W : zWd} (hE : Eok (wA W) (we W)) {n : Nat} (hn : n ≤ 7) : (tl W n).Pairwise (fun a b => ky a < ky b) := by
  have h1 : (tl W n).Pairwise (fun a b => decide (ky a ≤ ky b) = true) := List.pairwise_mergeSort (fun a b c h g => by simp at h g ⊢; omega) (fun a b => by simp; omega) _
  have h2 : (tl W n).Pairwise (fun a b => a ≠ b) := tl_nodup
  refine List.Pairwise.imp_of_mem (fun {a b} ha hb h => ?_) (h1.and h2)
  have h3 : ky a ≤ ky b := by simpa using h.1
  rcases Nat.lt_or_eq_of_le h3 with q | q
  · exact q
  · exact absurd (ky_inj hE ((tl_mem hE).mp ha) ((tl_mem hE).mp hb) hn q) h.2
/-- a row that rises and has just these trees -/
theorem sorted_uniq : ∀ {l r : List (List Nat)}, l.Pairwise (fun a b => ky a < ky b) → r.Pairwise (fun a b => ky a < ky b) → (∀ t, t ∈ l ↔ t ∈ r) → l = r
  | [], [], _, _, _ => rfl
  | [], b :: r, _, _, h => absurd ((h b).mpr List.mem_cons_self) List.not_mem_nil
  | a :: l, [], _, _, h => absurd ((h a).mp List.mem_cons_self) List.not_mem_nil
  | a :: l, b :: r, hl, hr, h => by
    have l1 := List.pairwise_cons.mp hl
    have r1 := List.pairwise_cons.mp hr
    have e : a = b := by
      rcases List.mem_cons.mp ((h a).mp List.mem_cons_self) with q | q
      · exact q
      · rcases List.mem_cons.mp ((h b).mpr List.mem_cons_self) with p | p
        · exact p.symm
        · have := l1.1 b p; have := r1.1 a q; omega
    subst e
    rw [sorted_uniq l1.2 r1.2 fun t => ?_]
    constructor
    · intro q
      rcases List.mem_cons.mp ((h t).mp (List.mem_cons_of_mem _ q)) with p | p
      · have := l1.1 t q; rw [p] at this; omega
      · exact p
    · intro q
      rcases List.mem_cons.mp ((h t).mpr (List.mem_cons_of_mem _ q)) with p | p
      · have := r1.1 t q; rw [p] at this; omega
      · exact p
