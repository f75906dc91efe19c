/-! what is 0 by the laws of a world -/
def lz (c : List zT) : zL := c.map (fun p => (p.1, (p.2 : Int)))
/-- a law with trees in its leaves, put in a leaf of a tree -/
def Gn (W : zWd) (n : Nat) (g : zL) : Prop := ∃ (x y : List Nat) (L : Nat) (us : List (List Nat)), L < wL W ∧ us.length = (lw W L).1 ∧ (∀ u, u ∈ us → Fs (wA W) (we W) u 1) ∧ Fs (wA W) (we W) (x ++ 0 :: y) 1 ∧ lvs x + lvs us.flatten + lvs y = n ∧ g = mp (fun t => x ++ fl t us ++ y) (lz (lw W L).2)
def Id (W : zWd) (n : Nat) (v : zL) : Prop := Sp (wP W) (Gn W n) v
theorem lz_mem {c : List zT} {p : List Nat × Int} (h : p ∈ lz c) : ∃ q, q ∈ c ∧ p.1 = q.1 := by
  obtain ⟨q, hq, rfl⟩ := List.mem_map.mp h
  exact ⟨q, hq, rfl⟩
theorem mp_eq {f g : List Nat → List Nat} {u : zL} (h : ∀ p, p ∈ u → f p.1 = g p.1) : mp f u = mp g u := List.map_congr_left fun p hp => by rw [h p hp]
theorem mp_id {u : zL} : mp (fun t => t) u = u := by unfold mp; simp
theorem mp_mem {f : List Nat → List Nat} {u : zL} {p : List Nat × Int} (h : p ∈ mp f u) : ∃ q, q ∈ u ∧ p.1 = f q.1 := by
  obtain ⟨q, hq, rfl⟩ := List.mem_map.mp h
  exact ⟨q, hq, rfl⟩
theorem lw_tr {W : zWd} (hW : Wok W) {L : Nat} (hL : L < wL W) {p : List Nat × Int} (h : p ∈ lz (lw W L).2) : Tr (wA W) (we W) (lw W L).1 p.1 := by
  obtain ⟨q, hq, e⟩ := lz_mem h
  rw [e]
  exact ((hW.2.2.2.2.2 L hL).2.2.1.2 q hq).1
/-- all its trees are trees of the world with n leaves -/
theorem Gn.tr {W : zWd} (hW : Wok W) {n : Nat} {g : zL} (h : Gn W n g) : ∀ p, p ∈ g → Tr (wA W) (we W) n p.1 := by
  obtain ⟨x, y, L, us, hL, hl, hu, hx, hn, rfl⟩ := h
  intro p hp
  obtain ⟨q, hq, e⟩ := mp_mem hp
  have ht := lw_tr hW hL hq
  rw [e]
  refine ⟨Fs.put (ht.1.fl (by rw [ht.2, hl]) hu) hx, ?_⟩
  rw [lvs_app, lvs_app, lvs_fl (by rw [ht.2, hl]), hn]
theorem Id.ctx {W : zWd} {m n : Nat} {v : zL} (h : Id W m v) {x y : List Nat} (hx : Fs (wA W) (we W) (x ++ 0 :: y) 1) (hn : lvs x + m + lvs y = n) : Id W n (mp (fun t => x ++ t ++ y) v) := by
  refine Sp.mp h fun g hg => Sp.gen ?_
  obtain ⟨x1, y1, L, us, hL, hl, hu, hx1, hm, rfl⟩ := hg
  refine ⟨x ++ x1, y1 ++ y, L, us, hL, hl, hu, ?_, ?_, ?_⟩
  · have := Fs.put hx1 hx
    simpa [List.append_assoc] using this
  · rw [lvs_app, lvs_app]; omega
  · rw [mp_mp]
    refine mp_eq fun p _ => ?_
    simp [List.append_assoc]
theorem Id.gr {W : zWd} (hW : Wok W) {m n i : Nat} {v : zL} (h : Id W m v) {u : List Nat} (hu : Fs (wA W) (we W) u 1) (hi : i < m) (hn : n + 1 = m + lvs u) : Id W n (mp (fun t => _root_.Jvm.Pilot.CLeafWorldsLaw_law_r8483_d58aac.gr t i u) v) := by
  refine Sp.mp h fun g hg => Sp.gen ?_
  obtain ⟨x, y, L, us, hL, hl, hus, hx, hm, rfl⟩ := hg
  have hlen : ∀ p, p ∈ lz (lw W L).2 → lvs p.1 = us.length := fun p hp => by rw [(lw_tr hW hL hp).2, hl]
  by_cases h1 : i < lvs x
  · have g1 := Tr.gr ⟨hx, rfl⟩ ⟨hu, rfl⟩ (i := i) (by rw [lvs_app]; omega)
    rw [gr_left h1] at g1
    have g2 := lvs_gr (u := u) h1
    refine ⟨_, y, L, us, hL, hl, hus, g1.1, by omega, ?_⟩
    rw [mp_mp]
    refine mp_eq fun p _ => ?_
    rw [List.append_assoc, gr_left h1, List.append_assoc]
  · by_cases h2 : i < lvs x + lvs us.flatten
    · refine ⟨x, y, L, grs us (i - lvs x) u, hL, by rw [grs_len, hl], grs_fs hu hus, hx, ?_, ?_⟩
      · rw [grs_flat (by omega)]
        have := lvs_gr (t := us.flatten) (u := u) (i := i - lvs x) (by omega)
        omega
      · rw [mp_mp]
        refine mp_eq fun p hp => ?_
        rw [List.append_assoc, gr_right (by omega), gr_left (by rw [lvs_fl (hlen p hp)]; omega), gr_fl (hlen p hp) (by omega), List.append_assoc]
    · have g0 : lvs y = lvs (0 :: y) - 1 := by simp [lvs]
      have g1 := Tr.gr ⟨hx, rfl⟩ ⟨hu, rfl⟩ (i := i - lvs us.flatten + 1) (by rw [lvs_app]; simp only [lvs, if_pos]; omega)
      rw [gr_right (by omega), show i - lvs us.flatten + 1 - lvs x = i - lvs us.flatten - lvs x + 1 by omega, gr_s] at g1
      have g2 := lvs_gr (t := y) (u := u) (i := i - lvs us.flatten - lvs x) (by omega)
      refine ⟨x, _, L, us, hL, hl, hus, g1.1, by omega, ?_⟩
      rw [mp_mp]
      refine mp_eq fun p hp => ?_
      show _root_.Jvm.Pilot.CLeafWorldsLaw_law_r8483_d58aac.gr (x ++ fl p.1 us ++ y) i u = _
      rw [gr_right (by rw [lvs_app, lvs_fl (hlen p hp)]; omega), lvs_app, lvs_fl (hlen p hp), show i - (lvs x + lvs us.flatten) = i - lvs us.flatten - lvs x by omega]
theorem Id.law {W : zWd} (hW : Wok W) {L : Nat} (hL : L < wL W) : Id W (lw W L).1 (lz (lw W L).2) := by
  have : Gn W (lw W L).1 (mp (fun t => [] ++ fl t (List.replicate (lw W L).1 [0]) ++ []) (lz (lw W L).2)) := by
    refine ⟨[], [], L, List.replicate (lw W L).1 [0], hL, by simp, fun u hu => ?_, ⟨by omega, by rw [if_pos rfl]; rfl⟩, ?_, rfl⟩
    · rw [List.eq_of_mem_replicate hu]; exact ⟨by omega, by rw [if_pos rfl]; rfl⟩
    · rw [show (List.replicate (lw W L).1 [0]).flatten = List.replicate (lw W L).1 0 by simp, lvs_rep]; simp [lvs]
  rw [mp_eq (g := fun t => t) (fun p hp => by simp [fl_id (lw_tr hW hL hp).2])] at this
  rw [mp_id] at this
  exact Sp.gen this
/-- under the root: what is 0 in an entry -/
def UR (W : zWd) (n : Nat) (g : zL) : Prop := ∃ (a : Nat) (us1 us2 : List (List Nat)) (m : Nat) (w : zL), a < wA W ∧ us1.length + 1 + us2.length = we W a ∧ (∀ u, u ∈ us1 → Fs (wA W) (we W) u 1) ∧ (∀ u, u ∈ us2 → Fs (wA W) (we W) u 1) ∧ Id W m w ∧ (∀ p, p ∈ w → Tr (wA W) (we W) m p.1) ∧ lvs us1.flatten + m + lvs us2.flatten = n ∧ g = mp (fun t => (a + 1) :: us1.flatten ++ t ++ us2.flatten) w
/-- a law with trees in its leaves -/
def Fi (W : zWd) (n : Nat) (g : zL) : Prop := ∃ (L : Nat) (us : List (List Nat)), L < wL W ∧ us.length = (lw W L).1 ∧ (∀ u, u ∈ us → Fs (wA W) (we W) u 1) ∧ lvs us.flatten = n ∧ g = mp (fun t => fl t us) (lz (lw W L).2)
theorem root_ctx {A : Nat} {e : Nat → Nat} {a : Nat} {us1 us2 : List (List Nat)} (ha : a < A) (hl : us1.length + 1 + us2.length = e a) (h1 : ∀ u, u ∈ us1 → Fs A e u 1) (h2 : ∀ u, u ∈ us2 → Fs A e u 1) : Fs A e ((a + 1) :: us1.flatten ++ 0 :: us2.flatten) 1 := by
  refine ⟨by omega, ?_⟩
  rw [if_neg (by omega)]
  refine ⟨by omega, ?_⟩
  have := (Fs.flat h1).app (t := us1.flatten) (u := 0 :: us2.flatten) (k := 1 + us2.length) ⟨by omega, by rw [if_pos rfl, Nat.add_sub_cancel_left]; exact Fs.flat h2⟩
  simp only [Nat.sub_self, Nat.zero_add, Nat.add_sub_cancel]
  rw [← hl, show us1.length + 1 + us2.length = us1.length + (1 + us2.length) by omega]
  exact this
theorem UR.id {W : zWd} {n : Nat} {g : zL} (h : UR W n g) : Id W n g := by
  obtain ⟨a, us1, us2, m, w, ha, hl, h1, h2, hw, _, hn, rfl⟩ := h
  exact hw.ctx (root_ctx ha hl h1 h2) (by simp only [lvs, if_neg (show ¬ a + 1 = 0 by omega)]; omega)
/-- a law put somewhere: it is whole, or it is under the root -/
theorem Gn.cases {W : zWd} (hW : Wok W) {n : Nat} {g : zL} (h : Gn W n g) : Fi W n g ∨ UR W n g := by
  obtain ⟨x, y, L, us, hL, hl, hu, hx, hn, rfl⟩ := h
  rcases ctx_root hx with ⟨rfl, rfl⟩ | ⟨a, us1, us2, x2, y2, ha, hl2, h1, h2, hx2, rfl, rfl⟩
  · left
    refine ⟨L, us, hL, hl, hu, by simpa [lvs] using hn, mp_eq fun p _ => by simp⟩
  · right
    have hg : Gn W (lvs x2 + lvs us.flatten + lvs y2) (mp (fun t => x2 ++ fl t us ++ y2) (lz (lw W L).2)) := ⟨x2, y2, L, us, hL, hl, hu, hx2, rfl, rfl⟩
    refine ⟨a, us1, us2, lvs x2 + lvs us.flatten + lvs y2, mp (fun t => x2 ++ fl t us ++ y2) (lz (lw W L).2), ha, hl2, h1, h2, Sp.gen hg, hg.tr hW, ?_, ?_⟩
    · simp only [lvs, lvs_app, if_neg (show ¬ a + 1 = 0 by omega)] at hn
      omega
    · rw [mp_mp]
      refine mp_eq fun p _ => by simp [List.append_assoc]
/-- a law whole: the law itself, or one of fewer leaves with an act put in a leaf -/
theorem Fi.cases {W : zWd} (hW : Wok W) {n : Nat} {g : zL} (h : Fi W n g) : (∃ L, L < wL W ∧ (lw W L).1 = n ∧ g = lz (lw W L).2) ∨ ∃ a m i g', a < wA W ∧ m + we W a = n + 1 ∧ i < m ∧ 2 ≤ m ∧ Fi W m g' ∧ g = mp (fun t => gr t i (acT a (we W a))) g' := by
  obtain ⟨L, us, hL, hl, hu, hn, rfl⟩ := h
  have hlen : ∀ p, p ∈ lz (lw W L).2 → lvs p.1 = us.length := fun p hp => by rw [(lw_tr hW hL hp).2, hl]
  have h2L := (hW.2.2.2.2.2 L hL).1
  by_cases hall : ∀ u, u ∈ us → lvs u = 1
  · left
    have h0 : ∀ u, u ∈ us → u = [0] := fun u hm => by
      have f := hu u hm
      have c := Fs.cnt (hW.2.1.two) f
      have l1 := hall u hm
      have l2 := len_la u
      match u, f, l1, l2, c with
      | [], f, _, _, _ => exact absurd f (by simp [Fs])
      | [k], f, l1, _, _ =>
        by_cases h0 : k = 0
        · rw [h0]
        · simp [lvs, h0] at l1
      | k :: l :: r, f, l1, l2, c => rw [List.length_cons, List.length_cons] at l2; omega
    have e : us = List.replicate (lw W L).1 [0] := List.eq_replicate_iff.mpr ⟨hl, h0⟩
    refine ⟨L, hL, ?_, ?_⟩
    · rw [← hn, e, show (List.replicate (lw W L).1 [0]).flatten = List.replicate (lw W L).1 0 by simp, lvs_rep]
    · rw [e, mp_eq (g := fun t => t) (fun p hp => fl_id (lw_tr hW hL hp).2), mp_id]
  · right
    have ⟨u, hm, h1⟩ : ∃ u, u ∈ us ∧ lvs u ≠ 1 := by
      apply Classical.byContradiction
      intro z
      exact hall fun u hm => Classical.byContradiction fun y => z ⟨u, hm, y⟩
    have c := Fs.cnt (hW.2.1.two) (hu u hm)
    obtain ⟨a, m, i, u', ha, hme, ht', hi, e⟩ := tr_last hW.2.1 (t := u) (n := lvs u) ⟨hu u hm, rfl⟩ (by omega)
    obtain ⟨us1, us2, rfl⟩ := List.append_of_mem hm
    have e2 : (we W a) ≥ 2 := hW.2.1.two a ha
    have lc : lvs (us1 ++ u :: us2).flatten = lvs us1.flatten + lvs u + lvs us2.flatten := by
      rw [List.flatten_append, List.flatten_cons, lvs_app, lvs_app]; omega
    have lc' : lvs (us1 ++ u' :: us2).flatten = lvs us1.flatten + m + lvs us2.flatten := by
      rw [List.flatten_append, List.flatten_cons, lvs_app, lvs_app, ht'.2]; omega
    have hg : ∀ (us1 : List (List Nat)), grs (us1 ++ u' :: us2) (lvs us1.flatten + i) (acT a (we W a)) = us1 ++ u :: us2 := by
      intro us1
      induction us1 with
      | nil => 
        show grs (u' :: us2) (lvs [] + i) _ = _
        rw [grs, show lvs [] + i = i by simp [lvs], if_pos (by rw [ht'.2]; exact hi), ← e]; rfl
      | cons v us1 ih =>
        rw [List.cons_append, grs, List.flatten_cons, lvs_app, if_neg (by omega), show lvs v + lvs us1.flatten + i - lvs v = lvs us1.flatten + i by omega, ih]; rfl
    have hu' : ∀ v, v ∈ us1 ++ u' :: us2 → Fs (wA W) (we W) v 1 := fun v hv => by
      rcases List.mem_append.mp hv with q | q
      · exact hu v (List.mem_append_left _ q)
      · rcases List.mem_cons.mp q with rfl | q
        · exact ht'.1
        · exact hu v (List.mem_append_right _ (List.mem_cons_of_mem _ q))
    have hge : (us1 ++ u' :: us2).length ≤ lvs (us1 ++ u' :: us2).flatten := by
      have := Fs.cnt hW.2.1.two (Fs.flat hu'); omega
    have hlq : (us1 ++ u' :: us2).length = (lw W L).1 := by
      rw [← hl]; simp
    refine ⟨a, lvs us1.flatten + m + lvs us2.flatten, lvs us1.flatten + i, mp (fun t => fl t (us1 ++ u' :: us2)) (lz (lw W L).2), ha, by omega, by omega, by omega, ⟨L, us1 ++ u' :: us2, hL, hlq, hu', lc', rfl⟩, ?_⟩
    rw [mp_mp]
    refine mp_eq fun p hp => ?_
    rw [gr_fl (by rw [hlen p hp]; simp) (by omega), hg]
theorem Fi.id {W : zWd} {n : Nat} {g : zL} (h : Fi W n g) : Id W n g := by
  obtain ⟨L, us, hL, hl, hu, hn, rfl⟩ := h
  exact Sp.gen ⟨[], [], L, us, hL, hl, hu, ⟨by omega, by rw [if_pos rfl]; rfl⟩, by simp [lvs, hn], mp_eq fun p _ => by simp⟩
/-- an act put in a leaf of what is under the root -/
theorem UR.gr {W : zWd} (hW : Wok W) {m n i : Nat} {g : zL} (h : UR W m g) {u : List Nat} (hu : Fs (wA W) (we W) u 1) (hi : i < m) (hn : n + 1 = m + lvs u) : UR W n (mp (fun t => _root_.Jvm.Pilot.CLeafWorldsLaw_law_r8483_d58aac.gr t i u) g) := by
  obtain ⟨a, us1, us2, k, w, ha, hl, h1, h2, hw, ht, hm, rfl⟩ := h
  have hk : ∀ p, p ∈ w → lvs p.1 = k := fun p hp => (ht p hp).2
  have c0 : ∀ t, _root_.Jvm.Pilot.CLeafWorldsLaw_law_r8483_d58aac.gr ((a + 1) :: us1.flatten ++ t ++ us2.flatten) i u = (a + 1) :: _root_.Jvm.Pilot.CLeafWorldsLaw_law_r8483_d58aac.gr (us1.flatten ++ (t ++ us2.flatten)) i u := fun t => by
    rw [List.cons_append, List.cons_append, gr_k (by omega), List.append_assoc]
  by_cases c1 : i < lvs us1.flatten
  · have l1 := lvs_gr (u := u) c1
    rw [← grs_flat c1] at l1
    refine ⟨a, grs us1 i u, us2, k, w, ha, by rw [grs_len]; exact hl, grs_fs hu h1, h2, hw, ht, by omega, ?_⟩
    rw [mp_mp]
    refine mp_eq fun p _ => ?_
    rw [c0, gr_left c1, ← grs_flat c1, List.cons_append, List.cons_append, List.append_assoc]
  · by_cases c2 : i < lvs us1.flatten + k
    · refine ⟨a, us1, us2, k + lvs u - 1, mp (fun t => _root_.Jvm.Pilot.CLeafWorldsLaw_law_r8483_d58aac.gr t (i - lvs us1.flatten) u) w, ha, hl, h1, h2, hw.gr hW hu (by omega) (by omega), fun p hp => ?_, by omega, ?_⟩
      · obtain ⟨q, hq, e⟩ := mp_mem hp
        rw [e]
        exact (ht q hq).gr ⟨hu, rfl⟩ (by omega)
      · rw [mp_mp, mp_mp]
        refine mp_eq fun p hp => ?_
        rw [c0, gr_right (by omega), gr_left (by rw [hk p hp]; omega), List.cons_append, List.cons_append, List.append_assoc]
    · have c3 : i - lvs us1.flatten - k < lvs us2.flatten := by omega
      have l1 := lvs_gr (u := u) c3
      rw [← grs_flat c3] at l1
      refine ⟨a, us1, grs us2 (i - lvs us1.flatten - k) u, k, w, ha, by rw [grs_len]; exact hl, h1, grs_fs hu h2, hw, ht, by omega, ?_⟩
      rw [mp_mp]
      refine mp_eq fun p hp => ?_
      rw [c0, gr_right (by omega), gr_right (by rw [hk p hp]; omega), hk p hp, ← grs_flat c3, List.cons_append, List.cons_append, List.append_assoc]
