/-! a tree by its root and its entries: each once -/
abbrev bdW (W : zWd) (s : Nat) : Nat := (tl W s).length
def pt (W : zWd) (p : List Nat × List Nat) : List (List Nat) := List.zipWith (fun s k => (tl W s).getD k []) p.1 p.2
def tro (W : zWd) (a : Nat) (p : List Nat × List Nat) : List Nat := (a + 1) :: (pt W p).flatten
theorem pt_spec {W : zWd} (hE : Eok (wA W) (we W)) : ∀ (ss ks : List Nat), ks.length = ss.length → (∀ i, i < ss.length → ks.getD i 0 < bdW W (ss.getD i 0)) → (pt W (ss, ks)).length = ss.length ∧ (∀ u, u ∈ pt W (ss, ks) → Fs (wA W) (we W) u 1) ∧ lvs (pt W (ss, ks)).flatten = ss.sum ∧ (pt W (ss, ks)).map lvs = ss
  | [], [], _, _ => ⟨rfl, fun u hu => absurd hu List.not_mem_nil, rfl, rfl⟩
  | [], _ :: _, h, _ => by simp at h
  | _ :: _, [], h, _ => by simp at h
  | s :: ss, k :: ks, h, hk => by
    obtain ⟨i1, i2, i3, i4⟩ := pt_spec hE ss ks (by simpa using h) (fun i hi => hk (i + 1) (by simpa using hi))
    have h0 : k < (tl W s).length := hk 0 (by simp)
    have ht := tl_tr hE h0
    have e0 : pt W (s :: ss, k :: ks) = (tl W s).getD k [] :: pt W (ss, ks) := rfl
    rw [e0]
    refine ⟨by rw [List.length_cons, i1, List.length_cons], fun u hu => ?_, ?_, ?_⟩
    · rcases List.mem_cons.mp hu with rfl | hu
      · exact ht.1
      · exact i2 u hu
    · rw [List.flatten_cons, lvs_app, i3, ht.2, List.sum_cons]
    · rw [List.map_cons, i4, ht.2]
theorem pt_get {W : zWd} : ∀ (ss ks : List Nat) (i : Nat), ks.length = ss.length → i < ss.length → (pt W (ss, ks)).getD i [] = (tl W (ss.getD i 0)).getD (ks.getD i 0) []
  | [], _, i, _, h => absurd h (by simp)
  | _ :: _, [], _, h, _ => by simp at h
  | s :: ss, k :: ks, 0, _, _ => rfl
  | s :: ss, k :: ks, i + 1, h, hi => pt_get ss ks i (by simpa using h) (by simpa using hi)
theorem pt_inj {W : zWd} (hE : Eok (wA W) (we W)) : ∀ (ss ks ss' ks' : List Nat), ks.length = ss.length → ks'.length = ss'.length → (∀ i, i < ss.length → ks.getD i 0 < bdW W (ss.getD i 0)) → (∀ i, i < ss'.length → ks'.getD i 0 < bdW W (ss'.getD i 0)) → pt W (ss, ks) = pt W (ss', ks') → ss = ss' ∧ ks = ks'
  | [], [], [], [], _, _, _, _, _ => ⟨rfl, rfl⟩
  | [], _ :: _, _, _, h, _, _, _, _ => by simp at h
  | _ :: _, [], _, _, h, _, _, _, _ => by simp at h
  | _, _, [], _ :: _, _, h, _, _, _ => by simp at h
  | _, _, _ :: _, [], _, h, _, _, _ => by simp at h
  | [], [], s :: ss, k :: ks, _, _, _, _, h => by cases h
  | s :: ss, k :: ks, [], [], _, _, _, _, h => by cases h
  | s :: ss, k :: ks, s' :: ss', k' :: ks', h1, h2, h3, h4, h => by
    have e0 : (tl W s).getD k [] :: pt W (ss, ks) = (tl W s').getD k' [] :: pt W (ss', ks') := h
    obtain ⟨e1, e2⟩ := List.cons.inj e0
    obtain ⟨r1, r2⟩ := pt_inj hE ss ks ss' ks' (by simpa using h1) (by simpa using h2) (fun i hi => h3 (i + 1) (by simpa using hi)) (fun i hi => h4 (i + 1) (by simpa using hi)) e2
    have a0 : k < (tl W s).length := h3 0 (by simp)
    have b0 : k' < (tl W s').length := h4 0 (by simp)
    have es : s = s' := by
      have x := (tl_tr hE a0).2
      rw [e1, (tl_tr hE b0).2] at x
      exact x.symm
    subst es
    rw [r1, r2, getD_inj tl_nodup a0 b0 e1]
    exact ⟨rfl, rfl⟩
theorem pt_ex {W : zWd} (hE : Eok (wA W) (we W)) : ∀ (us : List (List Nat)), (∀ u, u ∈ us → Fs (wA W) (we W) u 1) → ∃ ks : List Nat, ks.length = (us.map lvs).length ∧ (∀ i, i < (us.map lvs).length → ks.getD i 0 < bdW W ((us.map lvs).getD i 0)) ∧ pt W (us.map lvs, ks) = us
  | [], _ => ⟨[], rfl, fun i hi => absurd hi (by simp), rfl⟩
  | u :: us, h => by
    obtain ⟨ks, k1, k2, k3⟩ := pt_ex hE us (fun v hv => h v (List.mem_cons_of_mem _ hv))
    have hu : u ∈ tl W (lvs u) := (tl_mem hE).mpr ⟨h u List.mem_cons_self, rfl⟩
    obtain ⟨k, hk, e⟩ := List.mem_iff_getElem.mp hu
    have e2 : (tl W (lvs u)).getD k [] = u := by rw [List.getD_eq_getElem?_getD, List.getElem?_eq_getElem hk]; exact e
    refine ⟨k :: ks, by simp [k1], fun i hi => ?_, ?_⟩
    · cases i with
      | zero => exact hk
      | succ i => exact k2 i (by simpa using hi)
    · show (tl W (lvs u)).getD k [] :: pt W (us.map lvs, ks) = u :: us
      rw [e2, k3]
theorem allF_get {W : zWd} {e n : Nat} {p : List Nat × List Nat} (h : p ∈ allF (bdW W) (cmp e n)) : p.1.length = e ∧ p.2.length = p.1.length ∧ p.1.sum = n ∧ (∀ s, s ∈ p.1 → 1 ≤ s) ∧ ∀ i, i < p.1.length → p.2.getD i 0 < bdW W (p.1.getD i 0) := by
  obtain ⟨h1, h2⟩ := mem_allF.mp h
  obtain ⟨c1, c2, c3⟩ := mem_cmp.mp h1
  obtain ⟨o1, o2⟩ := mem_odo.mp h2
  rw [List.length_map] at o1 o2
  exact ⟨c1, o1, c2, c3, fun i hi => by have := o2 i hi; rwa [getD_mapB hi] at this⟩
theorem tro_tr {W : zWd} (hE : Eok (wA W) (we W)) {a n : Nat} (ha : a < wA W) {p : List Nat × List Nat} (h : p ∈ allF (bdW W) (cmp (we W a) n)) : Tr (wA W) (we W) n (tro W a p) := by
  obtain ⟨h1, h2, h3, h4, h5⟩ := allF_get h
  obtain ⟨i1, i2, i3, _⟩ := pt_spec hE p.1 p.2 h2 h5
  have hf := Fs.flat i2
  rw [i1, h1] at hf
  refine ⟨⟨by omega, ?_⟩, ?_⟩
  · rw [if_neg (by omega)]
    exact ⟨by omega, by rw [show 1 - 1 + we W (a + 1 - 1) = we W a by simp]; exact hf⟩
  · unfold tro
    rw [lvs, if_neg (by omega), Nat.zero_add, ← h3]
    exact i3
theorem tro_inj {W : zWd} (hE : Eok (wA W) (we W)) {a n : Nat} {p p' : List Nat × List Nat} (h : p ∈ allF (bdW W) (cmp (we W a) n)) (h' : p' ∈ allF (bdW W) (cmp (we W a) n)) (e : tro W a p = tro W a p') : p = p' := by
  obtain ⟨h1, h2, h3, h4, h5⟩ := allF_get h
  obtain ⟨g1, g2, g3, g4, g5⟩ := allF_get h'
  obtain ⟨i1, i2, _, _⟩ := pt_spec hE p.1 p.2 h2 h5
  obtain ⟨j1, j2, _, _⟩ := pt_spec hE p'.1 p'.2 g2 g5
  have e1 := (List.cons.inj e).2
  have e2 := flat_inj (by rw [i1, j1, h1, g1]) i2 j2 e1
  obtain ⟨x, y⟩ := pt_inj hE p.1 p.2 p'.1 p'.2 h2 g2 h5 g5 e2
  exact Prod.ext x y
theorem pt_all {W : zWd} (hE : Eok (wA W) (we W)) {us : List (List Nat)} (hu : ∀ u, u ∈ us → Fs (wA W) (we W) u 1) {e n : Nat} (he : us.length = e) (hn : lvs us.flatten = n) : ∃ p, p ∈ allF (bdW W) (cmp e n) ∧ pt W p = us := by
  obtain ⟨ks, k1, k2, k3⟩ := pt_ex hE us hu
  have hs := (pt_spec hE (us.map lvs) ks k1 k2).2.2.1
  rw [k3] at hs
  refine ⟨(us.map lvs, ks), mem_allF.mpr ⟨mem_cmp.mpr ⟨by rw [List.length_map, he], by rw [← hs, hn], fun s hs => ?_⟩, mem_odo.mpr ⟨by rw [List.length_map]; exact k1, fun i hi => ?_⟩⟩, k3⟩
  · obtain ⟨u, hu2, rfl⟩ := List.mem_map.mp hs
    exact ((lvs_flat_ge hE hu).2 u hu2).1
  · rw [List.length_map] at hi
    rw [getD_mapB hi]
    exact k2 i hi
theorem tro_ex {W : zWd} (hE : Eok (wA W) (we W)) {n : Nat} (hn : 2 ≤ n) {t : List Nat} (ht : Tr (wA W) (we W) n t) : ∃ a p, a < wA W ∧ p ∈ allF (bdW W) (cmp (we W a) n) ∧ t = tro W a p := by
  cases t with
  | nil => exact absurd ht.1 (by simp [Fs])
  | cons k r =>
    have h2 := ht.1.2
    by_cases h0 : k = 0
    · rw [if_pos h0] at h2
      cases r with
      | nil => have := ht.2; rw [h0] at this; simp [lvs] at this; omega
      | cons x r => exact absurd h2.1 (by omega)
    · rw [if_neg h0] at h2
      obtain ⟨us, u1, u2, u3⟩ := h2.2.split
      have hl : lvs us.flatten = n := by rw [← u3, ← ht.2, lvs, if_neg h0]; omega
      obtain ⟨p, p1, p2⟩ := pt_all hE u2 (e := we W (k - 1)) (by rw [u1]; omega) hl
      exact ⟨k - 1, p, by omega, p1, by unfold tro; rw [p2, ← u3, show k - 1 + 1 = k by omega]⟩
/-- a list of trees in the making: what is not there yet is still to come -/
def LkR (W : zWd) (n a : Nat) (rem : List (List Nat × List Nat)) (T : List (List Nat)) : Prop := Srt T ∧ (∀ u, u ∈ T → Tr (wA W) (we W) n u) ∧ (∀ u, Tr (wA W) (we W) n u → u ∈ T ∨ (∃ p, p ∈ rem ∧ u = tro W a p) ∨ a + 1 < u.headD 0) ∧ (∀ p, p ∈ rem → tro W a p ∉ T ∧ p ∈ allF (bdW W) (cmp (we W a) n)) ∧ rem.Nodup ∧ ∀ u, u ∈ T → u.headD 0 ≤ a + 1
theorem srt_nodup {T : List (List Nat)} (h : Srt T) : T.Nodup := h.imp fun h e => by rw [e] at h; exact Nat.lt_irrefl _ h
theorem LkR.len {W : zWd} (hE : Eok (wA W) (we W)) {n a : Nat} {rem : List (List Nat × List Nat)} {T : List (List Nat)} (h : LkR W n a rem T) (ha : a < wA W) {p : List Nat × List Nat} (hp : p ∈ rem) : T.length < (tl W n).length := by
  have hx := h.2.2.2.1 p hp
  have := nodup_le (tro W a p :: T) (tl W n) (List.nodup_cons.mpr ⟨hx.1, srt_nodup h.1⟩) (fun u hu => by
    rcases List.mem_cons.mp hu with rfl | hu
    · exact (tl_mem hE).mpr (tro_tr hE ha hx.2)
    · exact (tl_mem hE).mpr (h.2.1 u hu))
  rw [List.length_cons] at this
  exact this
theorem LkR.one {W : zWd} (hE : Eok (wA W) (we W)) {n a : Nat} {rem : List (List Nat × List Nat)} {T T1 : List (List Nat)} {p : List Nat × List Nat} (ha : a < wA W) (h : LkR W n a (p :: rem) T) (h1 : Srt T1) (h2 : ∀ u, u ∈ T1 ↔ u = tro W a p ∨ u ∈ T) : LkR W n a rem T1 := by
  obtain ⟨g1, g2, g3, g4, g5, g6⟩ := h
  obtain ⟨n1, n2⟩ := List.nodup_cons.mp g5
  have hp := g4 p List.mem_cons_self
  refine ⟨h1, fun u hu => ?_, fun u hu => ?_, fun r hr => ⟨fun z => ?_, (g4 r (List.mem_cons_of_mem _ hr)).2⟩, n2, fun u hu => ?_⟩
  · rcases (h2 u).mp hu with rfl | z
    · exact tro_tr hE ha hp.2
    · exact g2 u z
  · rcases g3 u hu with z | ⟨r, hr, z⟩ | z
    · exact Or.inl ((h2 u).mpr (Or.inr z))
    · rcases List.mem_cons.mp hr with rfl | hr
      · exact Or.inl ((h2 u).mpr (Or.inl z))
      · exact Or.inr (Or.inl ⟨r, hr, z⟩)
    · exact Or.inr (Or.inr z)
  · rcases (h2 _).mp z with e | z
    · exact n1 (by rw [← tro_inj hE (g4 r (List.mem_cons_of_mem _ hr)).2 hp.2 e]; exact hr)
    · exact (g4 r (List.mem_cons_of_mem _ hr)).1 z
  · rcases (h2 u).mp hu with rfl | z
    · exact Nat.le_refl _
    · exact g6 u z
theorem LkR.next {W : zWd} (hE : Eok (wA W) (we W)) {n a : Nat} {T : List (List Nat)} (hn : n ≤ 7) (hn2 : 2 ≤ n) (ha : a + 1 < wA W) (h : LkR W n a [] T) : LkR W n (a + 1) (allF (bdW W) (cmp (we W (a + 1)) n)) T := by
  obtain ⟨g1, g2, g3, g4, g5, g6⟩ := h
  have he := hE.2 (a + 1) ha
  refine ⟨g1, g2, fun u hu => ?_, fun r hr => ⟨fun z => ?_, hr⟩, allF_nodup (cmp_nodup (by omega) hn), fun u hu => by have := g6 u hu; omega⟩
  · rcases g3 u hu with z | ⟨r, hr, z⟩ | z
    · exact Or.inl z
    · exact absurd hr List.not_mem_nil
    · obtain ⟨b, p, hb, hp, rfl⟩ := tro_ex hE hn2 hu
      have z : a + 1 < b + 1 := z
      by_cases e : b = a + 1
      · subst e; exact Or.inr (Or.inl ⟨p, hp, rfl⟩)
      · right; right
        show a + 1 + 1 < b + 1
        omega
  · have := g6 _ z
    have this : a + 1 + 1 ≤ a + 1 := this
    omega
theorem LkR.first {W : zWd} (hE : Eok (wA W) (we W)) {n : Nat} (hn : n ≤ 7) (hn2 : 2 ≤ n) (ha : 0 < wA W) : LkR W n 0 (allF (bdW W) (cmp (we W 0) n)) [] := by
  have he := hE.2 0 ha
  refine ⟨List.Pairwise.nil, fun u hu => absurd hu List.not_mem_nil, fun u hu => ?_, fun r hr => ⟨List.not_mem_nil, hr⟩, allF_nodup (cmp_nodup (by omega) hn), fun u hu => absurd hu List.not_mem_nil⟩
  obtain ⟨b, p, hb, hp, rfl⟩ := tro_ex hE hn2 hu
  by_cases e : b = 0
  · subst e; exact Or.inr (Or.inl ⟨p, hp, rfl⟩)
  · right; right
    show 0 + 1 < b + 1
    omega
theorem LkR.end {W : zWd} (hE : Eok (wA W) (we W)) {n a : Nat} {T : List (List Nat)} (hn : n ≤ 7) (hn2 : 2 ≤ n) (ha : a + 1 = wA W) (h : LkR W n a [] T) : T = tl W n := by
  obtain ⟨g1, g2, g3, g4, g5, g6⟩ := h
  refine sorted_uniq g1 (tl_sorted hE hn) fun u => ⟨fun z => (tl_mem hE).mpr (g2 u z), fun z => ?_⟩
  have hu := (tl_mem hE).mp z
  rcases g3 u hu with z | ⟨r, hr, z⟩ | z
  · exact z
  · exact absurd hr List.not_mem_nil
  · obtain ⟨b, p, hb, hp, rfl⟩ := tro_ex hE hn2 hu
    have z : a + 1 < b + 1 := z
    omega
theorem tl_none {W : zWd} (hE : Eok (wA W) (we W)) {n : Nat} (hn2 : 2 ≤ n) (ha : wA W = 0) : tl W n = [] := by
  apply List.eq_nil_iff_forall_not_mem.mpr
  intro u hu
  obtain ⟨b, p, hb, _⟩ := tro_ex hE hn2 ((tl_mem hE).mp hu)
  omega
theorem tl_one {W : zWd} (hE : Eok (wA W) (we W)) : tl W 1 = [[0]] := by
  refine sorted_uniq (tl_sorted hE (by omega)) (List.pairwise_singleton _ _) fun u => ?_
  rw [tl_mem hE, List.mem_singleton]
  constructor
  · intro h
    have hl := (h.len hE).1
    match u, h, hl with
    | [], h, _ => exact absurd h.1 (by simp [Fs])
    | [k], h, _ =>
      by_cases h0 : k = 0
      · rw [h0]
      · have := h.2
        simp [lvs, h0] at this
    | _ :: _ :: _, _, hl => simp at hl
  · rintro rfl
    exact ⟨⟨by omega, by rw [if_pos rfl]; rfl⟩, rfl⟩
