/-! a number parted into others, and a place for each: in the order in which the reference goes through them -/
def cmp : Nat → Nat → List (List Nat)
  | 0, n => if n = 0 then [[]] else []
  | e + 1, n => (List.range n).flatMap (fun j => (cmp e (n - (j + 1))).map (fun r => (j + 1) :: r))
theorem mem_cmp : ∀ {e n : Nat} {ss : List Nat}, ss ∈ cmp e n ↔ ss.length = e ∧ ss.sum = n ∧ ∀ s, s ∈ ss → 1 ≤ s
  | 0, n, ss => by
    rw [cmp]
    constructor
    · intro h
      split at h
      · rename_i h0
        have : ss = [] := by simpa using h
        rw [this, h0]
        exact ⟨rfl, rfl, fun s hs => absurd hs List.not_mem_nil⟩
      · exact absurd h List.not_mem_nil
    · rintro ⟨h1, h2, _⟩
      have : ss = [] := List.length_eq_zero_iff.mp h1
      rw [this] at h2 ⊢
      rw [if_pos (by rw [← h2]; rfl)]
      simp
  | e + 1, n, ss => by
    rw [cmp]
    constructor
    · intro h
      obtain ⟨j, hj, h⟩ := List.mem_flatMap.mp h
      obtain ⟨r, hr, rfl⟩ := List.mem_map.mp h
      obtain ⟨h1, h2, h3⟩ := mem_cmp.mp hr
      have hj := List.mem_range.mp hj
      refine ⟨by rw [List.length_cons, h1], by rw [List.sum_cons, h2]; omega, fun s hs => ?_⟩
      rcases List.mem_cons.mp hs with rfl | hs
      · omega
      · exact h3 s hs
    · rintro ⟨h1, h2, h3⟩
      cases ss with
      | nil => simp at h1
      | cons s r =>
        have a := h3 s List.mem_cons_self
        rw [List.sum_cons] at h2
        exact List.mem_flatMap.mpr ⟨s - 1, List.mem_range.mpr (by omega), List.mem_map.mpr ⟨r, mem_cmp.mpr ⟨by simpa using h1, by omega, fun x hx => h3 x (List.mem_cons_of_mem _ hx)⟩, by rw [show s - 1 + 1 = s by omega]⟩⟩
/-- the next parting, as it is found -/
def fmS (ss : List Nat) (k : Nat) : List Nat := ss.take k ++ [ss.getD k 0 + 1] ++ List.replicate (ss.length - 2 - k) 1 ++ [(ss.drop (k + 1)).sum - 1 - (ss.length - 2 - k)]
def stp (ss : List Nat) (k : Nat) : Bool := (ss.drop (k + 1)).sum != ss.length - 1 - k
def adjB (e n : Nat) : Bool := (List.range (cmp e n).length).all fun i => ((List.range (e - 1)).all fun k => !(stp ((cmp e n).getD i []) k && (List.range (e - 1)).all fun k' => !decide (k < k') || !stp ((cmp e n).getD i []) k') || (decide (i + 1 < (cmp e n).length) && (cmp e n).getD (i + 1) [] == fmS ((cmp e n).getD i []) k)) && (((List.range (e - 1)).any fun k => stp ((cmp e n).getD i []) k) || decide (i + 1 = (cmp e n).length))
def cmp0B (e n : Nat) : Bool := !(decide (1 ≤ e) && decide (e ≤ n)) || ((cmp e n).getD 0 [] == List.replicate (e - 1) 1 ++ [n - e + 1] && decide (0 < (cmp e n).length))
def dupB : List (List Nat) → Bool
  | [] => true
  | a :: r => !r.contains a && dupB r
theorem adj_ok : ((List.range 8).all fun e => (List.range 8).all fun n => adjB e n && cmp0B e n && dupB (cmp e n) && (decide (e ≤ n) || (cmp e n).isEmpty)) = true := by decide +kernel
theorem adj_use {e n : Nat} (he : e ≤ 7) (hn : n ≤ 7) : adjB e n = true ∧ cmp0B e n = true ∧ dupB (cmp e n) = true ∧ (e ≤ n ∨ cmp e n = []) := by
  have h1 := List.all_eq_true.mp adj_ok e (List.mem_range.mpr (by omega))
  have h2 := List.all_eq_true.mp h1 n (List.mem_range.mpr (by omega))
  simp only [Bool.and_eq_true, Bool.or_eq_true, decide_eq_true_eq, List.isEmpty_iff] at h2
  exact ⟨h2.1.1.1, h2.1.1.2, h2.1.2, h2.2⟩
theorem dup_nodup : ∀ {l : List (List Nat)}, dupB l = true → l.Nodup
  | [], _ => List.nodup_nil
  | a :: r, h => by
    simp only [dupB, Bool.and_eq_true] at h
    exact List.nodup_cons.mpr ⟨by simpa using h.1, dup_nodup h.2⟩
theorem cmp_next {e n i k : Nat} (he : e ≤ 7) (hn : n ≤ 7) (hi : i < (cmp e n).length) (hk : k < e - 1) (h1 : (((cmp e n).getD i []).drop (k + 1)).sum ≠ e - 1 - k) (h2 : ∀ k', k < k' → k' < e - 1 → (((cmp e n).getD i []).drop (k' + 1)).sum = e - 1 - k') : i + 1 < (cmp e n).length ∧ (cmp e n).getD (i + 1) [] = fmS ((cmp e n).getD i []) k := by
  have hl : ((cmp e n).getD i []).length = e := (mem_cmp.mp (mem_gd hi)).1
  have ha := (adj_use he hn).1
  have hb := List.all_eq_true.mp ha i (List.mem_range.mpr hi)
  simp only [Bool.and_eq_true] at hb
  have hc := List.all_eq_true.mp hb.1 k (List.mem_range.mpr hk)
  have e1 : stp ((cmp e n).getD i []) k = true := by unfold stp; rw [hl]; simpa using h1
  have e2 : ((List.range (e - 1)).all fun k' => !decide (k < k') || !stp ((cmp e n).getD i []) k') = true := List.all_eq_true.mpr fun k' hk' => by
    have := List.mem_range.mp hk'
    by_cases q : k < k'
    · have := h2 k' q this
      unfold stp
      rw [hl, this]
      simp
    · simp [q]
  rw [e1, e2] at hc
  simpa using hc
theorem cmp_last {e n i : Nat} (he : e ≤ 7) (hn : n ≤ 7) (hi : i < (cmp e n).length) (h : ∀ k, k < e - 1 → (((cmp e n).getD i []).drop (k + 1)).sum = e - 1 - k) : i + 1 = (cmp e n).length := by
  have hl : ((cmp e n).getD i []).length = e := (mem_cmp.mp (mem_gd hi)).1
  have ha := (adj_use he hn).1
  have hb := List.all_eq_true.mp ha i (List.mem_range.mpr hi)
  simp only [Bool.and_eq_true, Bool.or_eq_true] at hb
  rcases hb.2 with q | q
  · obtain ⟨k, hk, z⟩ := List.any_eq_true.mp q
    have hk := List.mem_range.mp hk
    unfold stp at z
    rw [hl, h k hk] at z
    simp at z
  · exact of_decide_eq_true q
theorem cmp_first {e n : Nat} (he : e ≤ 7) (hn : n ≤ 7) (h1 : 1 ≤ e) (hen : e ≤ n) : 0 < (cmp e n).length ∧ (cmp e n).getD 0 [] = List.replicate (e - 1) 1 ++ [n - e + 1] := by
  have := (adj_use he hn).2.1
  unfold cmp0B at this
  have h2 : decide (1 ≤ e) = true := decide_eq_true h1
  have h3 : decide (e ≤ n) = true := decide_eq_true hen
  rw [h2, h3] at this
  simp only [Bool.and_eq_true, Bool.true_and, Bool.not_true, Bool.false_or, decide_eq_true_eq, beq_iff_eq] at this
  exact ⟨this.2, this.1⟩
theorem cmp_none {e n : Nat} (he : e ≤ 7) (hn : n ≤ 7) (hen : ¬ e ≤ n) : cmp e n = [] := (adj_use he hn).2.2.2.resolve_left hen
/-- places below bounds, the last one soonest -/
def odo : List Nat → List (List Nat)
  | [] => [[]]
  | b :: bs => (List.range b).flatMap (fun k => (odo bs).map (fun r => k :: r))
def rg (lo hi : Nat) : List Nat := (List.range (hi - lo)).map (fun j => lo + j)
/-- what comes behind -/
def pst : List Nat → List Nat → List (List Nat)
  | b :: bs, k :: ks => (pst bs ks).map (fun r => k :: r) ++ (rg (k + 1) b).flatMap (fun j => (odo bs).map (fun r => j :: r))
  | _, _ => []
theorem mem_odo : ∀ {bs ks : List Nat}, ks ∈ odo bs ↔ ks.length = bs.length ∧ ∀ i, i < bs.length → ks.getD i 0 < bs.getD i 0
  | [], ks => by
    rw [odo]
    constructor
    · intro h
      have : ks = [] := by simpa using h
      rw [this]; exact ⟨rfl, fun i hi => absurd hi (by simp)⟩
    · rintro ⟨h, _⟩
      rw [List.length_eq_zero_iff.mp h]; simp
  | b :: bs, ks => by
    rw [odo]
    constructor
    · intro h
      obtain ⟨k, hk, h⟩ := List.mem_flatMap.mp h
      obtain ⟨r, hr, rfl⟩ := List.mem_map.mp h
      obtain ⟨h1, h2⟩ := mem_odo.mp hr
      refine ⟨by rw [List.length_cons, List.length_cons, h1], fun i hi => ?_⟩
      cases i with
      | zero => exact List.mem_range.mp hk
      | succ i => exact h2 i (by simpa using hi)
    · rintro ⟨h1, h2⟩
      cases ks with
      | nil => simp at h1
      | cons k ks => exact List.mem_flatMap.mpr ⟨k, List.mem_range.mpr (h2 0 (by simp)), List.mem_map.mpr ⟨ks, mem_odo.mpr ⟨by simpa using h1, fun i hi => h2 (i + 1) (by simpa using hi)⟩, rfl⟩⟩
theorem odo_nodup : ∀ (bs : List Nat), (odo bs).Nodup
  | [] => by simp [odo]
  | b :: bs => by
    rw [odo]
    refine List.pairwise_flatMap.mpr ⟨fun k _ => List.pairwise_map.mpr ((odo_nodup bs).imp fun h z => h (List.cons.inj z).2), List.Pairwise.imp (fun {a c} h x hx y hy z => ?_) List.nodup_range⟩
    obtain ⟨p, _, rfl⟩ := List.mem_map.mp hx
    obtain ⟨q, _, rfl⟩ := List.mem_map.mp hy
    exact h (List.cons.inj z).1
theorem odo_nil : ∀ {bs : List Nat}, (∃ b, b ∈ bs ∧ b = 0) → odo bs = []
  | [], ⟨b, h, _⟩ => absurd h List.not_mem_nil
  | b :: bs, ⟨c, h, h0⟩ => by
    rw [odo]
    rcases List.mem_cons.mp h with q | q
    · rw [← q, h0]; rfl
    · rw [odo_nil ⟨c, q, h0⟩]
      simp
theorem rg_cons {lo hi : Nat} (h : lo < hi) : rg lo hi = lo :: rg (lo + 1) hi := by
  unfold rg
  obtain ⟨d, hd⟩ : ∃ d, hi - lo = d + 1 := ⟨hi - lo - 1, by omega⟩
  rw [hd, show hi - (lo + 1) = d by omega, List.range_succ_eq_map, List.map_cons, List.map_map]
  refine congrArg (lo :: ·) (List.map_congr_left fun j _ => ?_)
  show lo + (j + 1) = lo + 1 + j
  omega
theorem rg_nil {lo hi : Nat} (h : hi ≤ lo) : rg lo hi = [] := by
  unfold rg
  rw [show hi - lo = 0 by omega]; rfl
theorem range_rg (b : Nat) : List.range b = rg 0 b := by
  unfold rg
  simp
theorem odo_hd : ∀ {bs : List Nat}, (∀ b, b ∈ bs → b ≠ 0) → odo bs = List.replicate bs.length 0 :: pst bs (List.replicate bs.length 0)
  | [], _ => rfl
  | b :: bs, h => by
    have hb := h b List.mem_cons_self
    have ih := odo_hd (bs := bs) (fun c hc => h c (List.mem_cons_of_mem _ hc))
    rw [List.length_cons, List.replicate_succ, pst, odo, range_rg, rg_cons (by omega), List.flatMap_cons, ih]
    rfl
theorem pst_none : ∀ {bs ks : List Nat}, ks.length = bs.length → (∀ i, i < bs.length → ks.getD i 0 + 1 = bs.getD i 0) → pst bs ks = []
  | [], ks, _, _ => by cases ks <;> rfl
  | b :: bs, [], h, _ => by simp at h
  | b :: bs, k :: ks, h, g => by
    have g0 : k + 1 = b := g 0 (by simp)
    rw [pst, pst_none (by simpa using h) (fun i hi => g (i + 1) (by simpa using hi)), rg_nil (by omega)]
    rfl
theorem pst_some : ∀ {bs ks : List Nat} {k : Nat}, (∀ b, b ∈ bs → b ≠ 0) → ks.length = bs.length → k < bs.length → ks.getD k 0 + 1 < bs.getD k 0 → (∀ i, k < i → i < bs.length → ks.getD i 0 + 1 = bs.getD i 0) → pst bs ks = (ks.take k ++ (ks.getD k 0 + 1) :: List.replicate (bs.length - 1 - k) 0) :: pst bs (ks.take k ++ (ks.getD k 0 + 1) :: List.replicate (bs.length - 1 - k) 0)
  | [], ks, k, _, _, hk, _, _ => absurd hk (by simp)
  | b :: bs, [], k, _, h, _, _, _ => by simp at h
  | b :: bs, c :: ks, 0, hb, h, hk, h1, h2 => by
    have h1 : c + 1 < b := h1
    have hb' : ∀ x, x ∈ bs → x ≠ 0 := fun x hx => hb x (List.mem_cons_of_mem _ hx)
    show pst (b :: bs) (c :: ks) = ((c + 1) :: List.replicate (bs.length + 1 - 1 - 0) 0) :: pst (b :: bs) ((c + 1) :: List.replicate (bs.length + 1 - 1 - 0) 0)
    rw [show bs.length + 1 - 1 - 0 = bs.length by omega, pst, pst, pst_none (by simpa using h) (fun i hi => h2 (i + 1) (by omega) (by simpa using hi)), rg_cons h1, List.flatMap_cons, odo_hd hb']
    rfl
  | b :: bs, c :: ks, k + 1, hb, h, hk, h1, h2 => by
    have ih := pst_some (bs := bs) (ks := ks) (k := k) (fun x hx => hb x (List.mem_cons_of_mem _ hx)) (by simpa using h) (by simpa using hk) h1 (fun i a b => h2 (i + 1) (by omega) (by simpa using b))
    show pst (b :: bs) (c :: ks) = (c :: (ks.take k ++ (ks.getD k 0 + 1) :: List.replicate (bs.length + 1 - 1 - (k + 1)) 0)) :: pst (b :: bs) (c :: (ks.take k ++ (ks.getD k 0 + 1) :: List.replicate (bs.length + 1 - 1 - (k + 1)) 0))
    rw [show bs.length + 1 - 1 - (k + 1) = bs.length - 1 - k by omega, pst, ih, pst]
    rfl
/-- all partings with places -/
def allF (bnd : Nat → Nat) (L : List (List Nat)) : List (List Nat × List Nat) := L.flatMap (fun ss => (odo (ss.map bnd)).map (fun ks => (ss, ks)))
def RM (bnd : Nat → Nat) (e n i : Nat) (ks : List Nat) : List (List Nat × List Nat) := (pst (((cmp e n).getD i []).map bnd) ks).map (fun r => ((cmp e n).getD i [], r)) ++ allF bnd ((cmp e n).drop (i + 1))
theorem mem_allF {bnd : Nat → Nat} {L : List (List Nat)} {p : List Nat × List Nat} : p ∈ allF bnd L ↔ p.1 ∈ L ∧ p.2 ∈ odo (p.1.map bnd) := by
  unfold allF
  rw [List.mem_flatMap]
  constructor
  · rintro ⟨ss, h1, h2⟩
    obtain ⟨ks, h3, rfl⟩ := List.mem_map.mp h2
    exact ⟨h1, h3⟩
  · rintro ⟨h1, h2⟩
    exact ⟨p.1, h1, List.mem_map.mpr ⟨p.2, h2, rfl⟩⟩
theorem allF_nodup {bnd : Nat → Nat} {L : List (List Nat)} (h : L.Nodup) : (allF bnd L).Nodup := by
  unfold allF
  refine List.pairwise_flatMap.mpr ⟨fun ss _ => List.pairwise_map.mpr ((odo_nodup _).imp fun h z => h (Prod.mk.inj z).2), List.Pairwise.imp (fun {a c} h x hx y hy z => ?_) h⟩
  obtain ⟨p, _, rfl⟩ := List.mem_map.mp hx
  obtain ⟨q, _, rfl⟩ := List.mem_map.mp hy
  exact h (Prod.mk.inj z).1
theorem cmp_nodup {e n : Nat} (he : e ≤ 7) (hn : n ≤ 7) : (cmp e n).Nodup := dup_nodup (adj_use he hn).2.2.1
theorem drop_cons {L : List (List Nat)} {i : Nat} (h : i < L.length) : L.drop i = L.getD i [] :: L.drop (i + 1) := by
  rw [List.drop_eq_getElem_cons h, List.getD_eq_getElem?_getD, List.getElem?_eq_getElem h]; rfl
/-- sizes of which one has no trees are passed over -/
theorem allF_skip {bnd : Nat → Nat} {L : List (List Nat)} {i : Nat} (h : i < L.length) (hb : ∃ s, s ∈ L.getD i [] ∧ bnd s = 0) : allF bnd (L.drop i) = allF bnd (L.drop (i + 1)) := by
  rw [drop_cons h]
  unfold allF
  rw [List.flatMap_cons]
  obtain ⟨s, h1, h2⟩ := hb
  rw [odo_nil ⟨bnd s, List.mem_map.mpr ⟨s, h1, rfl⟩, h2⟩]
  rfl
theorem allF_go {bnd : Nat → Nat} {e n i : Nat} (h : i < (cmp e n).length) (hb : ∀ s, s ∈ (cmp e n).getD i [] → bnd s ≠ 0) : allF bnd ((cmp e n).drop i) = ((cmp e n).getD i [], List.replicate e 0) :: RM bnd e n i (List.replicate e 0) := by
  have hl : ((cmp e n).getD i []).length = e := (mem_cmp.mp (mem_gd h)).1
  rw [drop_cons h]
  unfold allF RM
  rw [List.flatMap_cons, odo_hd (fun b hb' => by
    obtain ⟨s, h1, rfl⟩ := List.mem_map.mp hb'
    exact hb s h1), List.length_map, hl]
  rfl
