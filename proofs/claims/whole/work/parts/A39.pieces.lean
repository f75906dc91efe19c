/-! pieces that stand in trees -/
def skp (e : Nat → Nat) : List Nat → Nat → List Nat
  | u, 0 => u
  | [], _ + 1 => []
  | x :: u, m + 1 => skp e u (if x = 0 then m else m + e (x - 1))
theorem skp_zero {e : Nat → Nat} {u : List Nat} : skp e u 0 = u := by cases u <;> rfl
theorem skp_app {A : Nat} {e : Nat → Nat} : ∀ {t u : List Nat} {m : Nat}, Fs A e t m → skp e (t ++ u) m = u
  | [], u, m, h => by
    have : m = 0 := h
    rw [this]; exact skp_zero
  | x :: t, u, m, h => by
    obtain ⟨m', rfl⟩ : ∃ m', m = m' + 1 := ⟨m - 1, by have := h.1; omega⟩
    have h2 := h.2
    rw [List.cons_append, skp]
    by_cases h0 : x = 0
    · rw [if_pos h0] at h2 ⊢
      exact skp_app h2
    · rw [if_neg h0] at h2 ⊢
      exact skp_app h2.2
def stn (e : Nat → Nat) : List Nat → List Nat → Bool
  | [], _ => true
  | k :: p, u => if k = 0 then stn e p (skp e u 1) else decide (u.headD 0 = k) && stn e p u.tail
def hasP (e : Nat → Nat) (p t : List Nat) : Bool := (List.range t.length).any fun s => stn e p (t.drop s)
theorem Fs.one {A : Nat} {e : Nat → Nat} {u : List Nat} {m : Nat} (h : Fs A e u m) (hm : 1 ≤ m) : ∃ t u', u = t ++ u' ∧ Fs A e t 1 ∧ Fs A e u' (m - 1) ∧ skp e u 1 = u' := by
  obtain ⟨us, h1, h2, h3⟩ := h.split
  cases us with
  | nil => simp at h1; omega
  | cons t us =>
    have ht := h2 t List.mem_cons_self
    refine ⟨t, us.flatten, h3, ht, ?_, by rw [h3, List.flatten_cons]; exact skp_app ht⟩
    have := Fs.flat (us := us) (fun u hu => h2 u (List.mem_cons_of_mem _ hu))
    rw [show m - 1 = us.length by rw [← h1]; simp]
    exact this
/-- a piece that stands: trees in its leaves -/
theorem stn_fl {A : Nat} {e : Nat → Nat} : ∀ {p u : List Nat} {m m' : Nat}, Fs A e p m → Fs A e u m' → m ≤ m' → stn e p u = true → ∃ us rest, us.length = lvs p ∧ (∀ v, v ∈ us → Fs A e v 1) ∧ u = fl p us ++ rest ∧ Fs A e rest (m' - m)
  | [], u, m, m', h, g, hm, _ => ⟨[], u, rfl, fun v hv => absurd hv List.not_mem_nil, rfl, by have : m = 0 := h; rw [this]; exact g⟩
  | k :: p, u, m, m', h, g, hm, hs => by
    have h1 := h.1
    have h2 := h.2
    rw [stn] at hs
    by_cases h0 : k = 0
    · rw [if_pos h0] at h2 hs
      obtain ⟨t, u', e1, e2, e3, e4⟩ := g.one (by omega)
      rw [e4] at hs
      obtain ⟨us, rest, a, b, c, d⟩ := stn_fl h2 e3 (by omega) hs
      refine ⟨t :: us, rest, by rw [lvs, if_pos h0, List.length_cons, a]; omega, fun v hv => ?_, ?_, by rw [show m' - m = m' - 1 - (m - 1) by omega]; exact d⟩
      · rcases List.mem_cons.mp hv with rfl | hv
        · exact e2
        · exact b v hv
      · rw [fl, if_pos h0, e1, c, List.append_assoc]
        rfl
    · rw [if_neg h0] at h2 hs
      cases u with
      | nil =>
        have hs : (decide (0 = k) && stn e p []) = true := hs
        rw [Bool.and_eq_true, decide_eq_true_eq] at hs
        exact absurd hs.1.symm h0
      | cons x u =>
        have hs2 : (decide (x = k) && stn e p u) = true := hs
        rw [Bool.and_eq_true, decide_eq_true_eq] at hs2
        obtain ⟨rfl, hs3⟩ := hs2
        have g2 := g.2
        rw [if_neg h0] at g2
        obtain ⟨us, rest, a, b, c, d⟩ := stn_fl h2.2 g2.2 (by omega) hs3
        refine ⟨us, rest, by rw [lvs, if_neg h0, a]; omega, b, ?_, by rw [show m' - m = m' - 1 + e (x - 1) - (m - 1 + e (x - 1)) by omega]; exact d⟩
        rw [fl, if_neg h0, c]; rfl
/-- where a piece stands, the tree is it with trees in its leaves, put in a tree -/
theorem hasP_ctx {A : Nat} {e : Nat → Nat} {p t : List Nat} {n : Nat} (hp : Fs A e p 1) (ht : Tr A e n t) (h : hasP e p t = true) : ∃ x us y, us.length = lvs p ∧ (∀ v, v ∈ us → Fs A e v 1) ∧ t = x ++ fl p us ++ y ∧ Fs A e (x ++ 0 :: y) 1 ∧ lvs x + lvs us.flatten + lvs y = n := by
  obtain ⟨s, hs, h⟩ := List.any_eq_true.mp h
  have hs := List.mem_range.mp hs
  have e0 : t = t.take s ++ t.drop s := (List.take_append_drop s t).symm
  have h1 := ht.1
  rw [e0] at h1
  obtain ⟨k, c1, c2⟩ := h1.cut
  have hk : 1 ≤ k := by
    rcases Nat.lt_or_ge 0 k with q | q
    · exact q
    · have h0 : k = 0 := by omega
      subst h0
      cases hd : t.drop s with
      | nil =>
        have := congrArg List.length hd
        rw [List.length_drop] at this
        simp at this; omega
      | cons x u => rw [hd] at c2; exact absurd c2.1 (by omega)
  obtain ⟨us, y, a, b, c, d⟩ := stn_fl hp c2 hk h
  refine ⟨t.take s, us, y, a, b, by rw [List.append_assoc, ← c]; exact e0, c1 _ ⟨hk, by rw [if_pos rfl]; exact d⟩, ?_⟩
  have hl : lvs (fl p us) = lvs us.flatten := lvs_fl a.symm
  have := ht.2
  rw [e0, c, lvs_app, lvs_app, hl] at this
  omega
theorem hasP_lvs {A : Nat} {e : Nat → Nat} (hE : Eok A e) {p t : List Nat} {n : Nat} (hp : Fs A e p 1) (ht : Tr A e n t) (h : hasP e p t = true) : lvs p ≤ n := by
  obtain ⟨x, us, y, a, b, c, d, f⟩ := hasP_ctx hp ht h
  have := (lvs_flat_ge hE b).1
  omega
/-! the greatest tree of a law stays the greatest -/
theorem fl_run : ∀ {r u w : List Nat} {us : List (List Nat)}, (∀ k, k ∈ r → 1 ≤ k) → fl (r ++ 0 :: w) (u :: us) = r ++ u ++ fl w us
  | [], u, w, us, _ => by rw [List.nil_append, fl, if_pos rfl]; rfl
  | k :: r, u, w, us, h => by
    have hk := h k List.mem_cons_self
    rw [List.cons_append, fl, if_neg (by omega), fl_run (fun q hq => h q (List.mem_cons_of_mem _ hq))]
    rfl
def flr : List (List Nat) → List (List (List Nat)) → List (List Nat)
  | r :: rs, (f :: fs) :: gs => ((r ++ f) :: fs) ++ flr rs gs
  | _, _ => []
theorem flr_tk : ∀ (rs : List (List Nat)) (gs : List (List (List Nat))), Ru rs → rs.length = gs.length → (∀ g, g ∈ gs → g ≠ []) → tk (flr rs gs) = fl (tk rs) (gs.map tk)
  | [], gs, _, hl, _ => by
    have : gs = [] := List.length_eq_zero_iff.mp hl.symm
    rw [this]; rfl
  | r :: rs, [], _, hl, _ => by simp at hl
  | r :: rs, [] :: gs, _, _, hg => absurd rfl (hg [] List.mem_cons_self)
  | r :: rs, (f :: fs) :: gs, hr, hl, hg => by
    have ih := flr_tk rs gs hr.tl (by simpa using hl) (fun g hg' => hg g (List.mem_cons_of_mem _ hg'))
    rw [flr, tk_app, tk_cons, ih, tk_cons, List.map_cons, fl_run (fun k hk => (hr.hd k hk).1), tk_cons]
    simp [List.append_assoc]
theorem flr_ru : ∀ (rs : List (List Nat)) (gs : List (List (List Nat))), Ru rs → (∀ g, g ∈ gs → Ru g) → Ru (flr rs gs)
  | [], gs, _, _ => fun r hr => absurd hr List.not_mem_nil
  | r :: rs, [], _, _ => fun r hr => absurd hr List.not_mem_nil
  | r :: rs, [] :: gs, _, _ => fun r hr => absurd hr List.not_mem_nil
  | r :: rs, (f :: fs) :: gs, hr, hg => by
    have hf := hg _ List.mem_cons_self
    rw [flr]
    refine Ru.app (Ru.cons (fun k hk => ?_) hf.tl) (flr_ru rs gs hr.tl (fun g hg' => hg g (List.mem_cons_of_mem _ hg')))
    rcases List.mem_append.mp hk with h | h
    · exact hr.hd k h
    · exact hf.hd k h
theorem ltL_pre : ∀ {w p q : List Nat}, ltL (w ++ p) (w ++ q) = ltL p q
  | [], p, q => rfl
  | a :: w, p, q => by
    rw [List.cons_append, List.cons_append, ltL, ltL_pre]
    simp
theorem cd_app_lt {r r' f : List Nat} (h : cd r < cd r') : cd (r ++ f) < cd (r' ++ f) := by
  have e1 : cd (r ++ f) = cdF (cd r) f := cdF_app
  have e2 : cd (r' ++ f) = cdF (cd r') f := cdF_app
  rw [e1, e2, cdF_eq, cdF_eq]
  have : cd r * 4 ^ f.length < cd r' * 4 ^ f.length := Nat.mul_lt_mul_of_pos_right h (Nat.pow_pos (by omega))
  omega
theorem flr_lt : ∀ (rs rs' : List (List Nat)) (gs : List (List (List Nat))), Ru rs → Ru rs' → rs.length = rs'.length → rs.length = gs.length → (∀ g, g ∈ gs → g ≠ []) → ltL (rs.map cd) (rs'.map cd) = true → ltL ((flr rs gs).map cd) ((flr rs' gs).map cd) = true
  | [], rs', gs, _, _, _, _, _, h => by simp [ltL] at h
  | r :: rs, [], gs, _, _, hl, _, _, _ => by simp at hl
  | r :: rs, r' :: rs', [], _, _, _, hg, _, _ => by simp at hg
  | r :: rs, r' :: rs', [] :: gs, _, _, _, _, hg, _ => absurd rfl (hg [] List.mem_cons_self)
  | r :: rs, r' :: rs', (f :: fs) :: gs, hr, hr', hl, hgl, hg, h => by
    rw [List.map_cons, List.map_cons, ltL, Bool.or_eq_true, Bool.and_eq_true, decide_eq_true_eq, decide_eq_true_eq] at h
    rw [flr, flr, List.cons_append, List.cons_append, List.map_cons, List.map_cons, ltL, Bool.or_eq_true, Bool.and_eq_true, decide_eq_true_eq, decide_eq_true_eq]
    rcases h with h | ⟨h, h'⟩
    · exact Or.inl (cd_app_lt h)
    · right
      have er : r = r' := cdF_inj (Nat.le_refl 1) (fun k hk => (hr.hd k hk).2) (fun k hk => (hr'.hd k hk).2) h
      rw [er]
      refine ⟨rfl, ?_⟩
      rw [List.map_append, List.map_append, ltL_pre]
      exact flr_lt rs rs' gs hr.tl hr'.tl (by simpa using hl) (by simpa using hgl) (fun g hg' => hg g (List.mem_cons_of_mem _ hg')) h'
theorem rns_map {A : Nat} {e : Nat → Nat} (hE : Eok A e) : ∀ {us : List (List Nat)}, (∀ u, u ∈ us → Fs A e u 1) → (∀ u, u ∈ us → lvs u ≤ 7) → (us.map rns).map tk = us ∧ (∀ g, g ∈ us.map rns → Ru g ∧ g ≠ [])
  | [], _, _ => ⟨rfl, fun g hg => absurd hg List.not_mem_nil⟩
  | u :: us, h, h7 => by
    obtain ⟨a, b⟩ := rns_map hE (us := us) (fun v hv => h v (List.mem_cons_of_mem _ hv)) (fun v hv => h7 v (List.mem_cons_of_mem _ hv))
    have ht : Tr A e (lvs u) u := ⟨h u List.mem_cons_self, rfl⟩
    obtain ⟨r1, r2, r3, _⟩ := ht.rn hE (h7 u List.mem_cons_self)
    have h1 := (ht.len hE).2
    refine ⟨by rw [List.map_cons, List.map_cons, a, ← r1], fun g hg => ?_⟩
    rw [List.map_cons] at hg
    rcases List.mem_cons.mp hg with rfl | hg
    · exact ⟨r2, fun z => by rw [z] at r3; simp at r3; omega⟩
    · exact b g hg
theorem fl_mono {A : Nat} {e : Nat → Nat} (hE : Eok A e) {m n : Nat} (hn : n ≤ 7) {s u : List Nat} (hs : Tr A e m s) (hu : Tr A e m u) {us : List (List Nat)} (hl : us.length = m) (h1 : ∀ v, v ∈ us → Fs A e v 1) (hn2 : lvs us.flatten = n) (h : ky s < ky u) : ky (fl s us) < ky (fl u us) := by
  have hge := lvs_flat_ge hE h1
  have hm7 : m ≤ 7 := by omega
  obtain ⟨s1, s2, s3, _⟩ := hs.rn hE hm7
  obtain ⟨u1, u2, u3, _⟩ := hu.rn hE hm7
  obtain ⟨g1, g2⟩ := rns_map hE h1 (fun v hv => by have := (hge.2 v hv).2; have := List.length_pos_of_mem hv; omega)
  have t1 : Tr A e n (fl s us) := ⟨hs.1.fl (by rw [hs.2, hl]) h1, by rw [lvs_fl (by rw [hs.2, hl]), hn2]⟩
  have t2 : Tr A e n (fl u us) := ⟨hu.1.fl (by rw [hu.2, hl]) h1, by rw [lvs_fl (by rw [hu.2, hl]), hn2]⟩
  have k0 := ky_run hE hs hu hm7 s2 u2 s1 u1
  rw [decide_eq_true h] at k0
  have gl : (us.map rns).length = m := by rw [List.length_map, hl]
  have e1 : fl s us = tk (flr (rns s) (us.map rns)) := by
    rw [flr_tk _ _ s2 (by rw [s3, gl]) (fun g hg => (g2 g hg).2), g1, ← s1]
  have e2 : fl u us = tk (flr (rns u) (us.map rns)) := by
    rw [flr_tk _ _ u2 (by rw [u3, gl]) (fun g hg => (g2 g hg).2), g1, ← u1]
  have k1 := ky_run hE t1 t2 hn (flr_ru _ _ s2 (fun g hg => (g2 g hg).1)) (flr_ru _ _ u2 (fun g hg => (g2 g hg).1)) e1 e2
  rw [flr_lt _ _ _ s2 u2 (by rw [s3, u3]) (by rw [s3, gl]) (fun g hg => (g2 g hg).2) k0.symm] at k1
  exact of_decide_eq_true k1
/-- the greatest tree of what is 0 by the laws is not normal -/
theorem top_piv {W : zWd} {mk : Nat → Nat → Nat} {rl : Nat → Nat → Nat → Nat} {n : Nat} (hC : LvC W mk rl n) {g : zL} (hg : Id W n g) {t : Nat} (ht : t < (tl W n).length) (h1 : ¬ (wP W : Int) ∣ co g ((tl W n).getD t [])) (h2 : ∀ s, t < s → s < (tl W n).length → (wP W : Int) ∣ co g ((tl W n).getD s [])) : mk n t ≠ 0 := fun h0 => h1 (by
  have := rep tl_nodup LvC.ech hC.red (Sp.le hg hC.2.1) t ht
  refine dvd_of this (smz_dvd fun s hs => ?_)
  by_cases q : mkb (mk n) s = true
  · rw [if_pos q]
    rcases Nat.lt_trichotomy s t with z | z | z
    · exact Int.dvd_mul_of_dvd_right ((LvC.ech s hs q).2 t z ht)
    · rw [z] at q; exact absurd h0 (mkb_t.mp q)
    · exact Int.dvd_mul_of_dvd_left (h2 s z hs)
  · rw [if_neg q]; exact Int.dvd_zero _)
/-- a tree that is the greatest of something that is 0 by the laws -/
def PvT (W : zWd) (n t : Nat) : Prop := ∃ g, Id W n g ∧ (¬ (wP W : Int) ∣ co g ((tl W n).getD t [])) ∧ ∀ s, t < s → s < (tl W n).length → (wP W : Int) ∣ co g ((tl W n).getD s [])
/-- a tree in which a law's greatest tree stands is not normal -/
theorem piece_gen {W : zWd} (hW : Wok W) {n : Nat} (hn7 : n ≤ 7) {L t : Nat} (hL : L < wL W) (h0 : 0 < (lw W L).2.length) (ht : t < (tl W n).length) (h : hasP (we W) ((lw W L).2.getD 0 zd).1 ((tl W n).getD t []) = true) : PvT W n t := by
  have hE := hW.2.1
  have htr := tl_tr hE ht
  obtain ⟨hlt, hlp⟩ := law_get hW hL h0
  obtain ⟨x, us, y, a, b, c, d, f⟩ := hasP_ctx hlt.1 htr h
  have hLw := hW.2.2.2.2.2 L hL
  have hul : us.length = (lw W L).1 := by rw [a]; exact hlt.2
  have hgn : Gn W n (mp (fun s => x ++ fl s us ++ y) (lz (lw W L).2)) := ⟨x, y, L, us, hL, hul, b, d, f, rfl⟩
  have hfx : ∀ s, Tr (wA W) (we W) (lw W L).1 s → Tr (wA W) (we W) n (x ++ fl s us ++ y) := fun s hs => ⟨Fs.put (hs.1.fl (by rw [hs.2, hul]) b) d, by rw [lvs_app, lvs_app, lvs_fl (by rw [hs.2, hul])]; omega⟩
  have hmono : ∀ s u, Tr (wA W) (we W) (lw W L).1 s → Tr (wA W) (we W) (lw W L).1 u → ky s < ky u → ky (x ++ fl s us ++ y) < ky (x ++ fl u us ++ y) := fun s u hs hu hk => by
    have h1 := fl_mono hE (n := lvs us.flatten) (by omega) hs hu hul b rfl hk
    have t1 : Tr (wA W) (we W) (lvs us.flatten) (fl s us) := ⟨hs.1.fl (by rw [hs.2, hul]) b, lvs_fl (by rw [hs.2, hul])⟩
    have t2 : Tr (wA W) (we W) (lvs us.flatten) (fl u us) := ⟨hu.1.fl (by rw [hu.2, hul]) b, lvs_fl (by rw [hu.2, hul])⟩
    exact ky_ctx hE (by omega) hn7 t1 t2 (hfx s hs) (hfx u hu) h1
  have hde := hLw.2.2.1.1
  have hall : ∀ i, i < (lw W L).2.length → i ≠ 0 → ky ((lw W L).2.getD i zd).1 < ky ((lw W L).2.getD 0 zd).1 := fun i hi h1 => by
    have := List.pairwise_iff_getElem.mp hde 0 i h0 hi (by omega)
    rw [List.getD_eq_getElem?_getD, List.getElem?_eq_getElem hi, List.getD_eq_getElem?_getD, List.getElem?_eq_getElem h0]
    exact this
  have hsplit : (lw W L).2 = (lw W L).2.getD 0 zd :: (lw W L).2.drop 1 := by
    have := getD_drop0 h0
    rw [List.drop_zero] at this
    exact this
  have htail : ∀ q, q ∈ mp (fun s => x ++ fl s us ++ y) (lz ((lw W L).2.drop 1)) → ky q.1 < ky ((tl W n).getD t []) := fun q hq => by
    obtain ⟨r, hr, e⟩ := mp_mem hq
    obtain ⟨p, hp, rfl⟩ := List.mem_map.mp hr
    obtain ⟨i, hi, hpi⟩ := List.mem_iff_getElem.mp hp
    rw [List.length_drop] at hi
    rw [List.getElem_drop] at hpi
    have hp2 : (lw W L).2.getD (1 + i) zd = p := by rw [List.getD_eq_getElem?_getD, List.getElem?_eq_getElem (by omega)]; exact hpi
    have := hmono _ _ (law_get hW hL (show 1 + i < (lw W L).2.length by omega)).1 hlt (hall (1 + i) (by omega) (by omega))
    rw [hp2, ← c] at this
    rw [e]; exact this
  have hco : ∀ s, s < (tl W n).length → t ≤ s → co (mp (fun s => x ++ fl s us ++ y) (lz (lw W L).2)) ((tl W n).getD s []) = if s = t then (((lw W L).2.getD 0 zd).2 : Int) else 0 := fun s hs hts => by
    rw [hsplit]
    show co ((x ++ fl ((lw W L).2.getD 0 zd).1 us ++ y, (((lw W L).2.getD 0 zd).2 : Int)) :: mp (fun s => x ++ fl s us ++ y) (lz ((lw W L).2.drop 1))) ((tl W n).getD s []) = _
    rw [co_cons, co_out (fun q hq z => by
      have h1 := htail q hq
      have h2 := sort_le (tl_sorted hE hn7) hts hs
      rw [z] at h1; omega), Int.add_zero]
    show _ * (if x ++ fl ((lw W L).2.getD 0 zd).1 us ++ y = _ then (1 : Int) else 0) = _
    rw [← c]
    by_cases e : s = t
    · rw [if_pos (by rw [e]), if_pos e, Int.mul_one]
      have : ((lw W L).2.getD 0 zd :: (lw W L).2.drop 1).getD 0 zd = (lw W L).2.getD 0 zd := rfl
      rw [this]
    · rw [if_neg (fun z => e (getD_inj tl_nodup ht hs z).symm), if_neg e, Int.mul_zero]
  refine ⟨_, Sp.gen hgn, ?_, fun s h1 h2 => ?_⟩
  · rw [hco t ht (Nat.le_refl _), if_pos rfl]
    intro z
    have := nat_mod (P := wP W) (a := ((lw W L).2.getD 0 zd).2) (b := 0) hlp (by have := hW.1.1; omega) (by simpa using z)
    exact hLw.2.2.2 _ (_root_.Jvm.Pilot.CLeafWorldsLaw_law_r8483_d58aac.mem_getD h0) this
  · rw [hco s h2 (by omega), if_neg (by omega)]; exact Int.dvd_zero _
theorem piece_piv {W : zWd} (hW : Wok W) {mk : Nat → Nat → Nat} {rl : Nat → Nat → Nat → Nat} {n : Nat} (hn7 : n ≤ 7) (hC : LvC W mk rl n) {L t : Nat} (hL : L < wL W) (h0 : 0 < (lw W L).2.length) (ht : t < (tl W n).length) (h : hasP (we W) ((lw W L).2.getD 0 zd).1 ((tl W n).getD t []) = true) : mk n t ≠ 0 := by
  obtain ⟨g, g1, g2, g3⟩ := piece_gen hW hn7 hL h0 ht h
  exact top_piv hC g1 ht g2 g3
/-- bare trees -/
def isB (W : zWd) (t : List Nat) : Bool := (List.range (wL W)).all fun L => decide ((lw W L).2.length = 0) || !hasP (we W) ((lw W L).2.getD 0 zd).1 t
def nB (W : zWd) (n : Nat) (k : Nat) : Nat := sm (fun t => if isB W ((tl W n).getD t []) = true then 1 else 0) k
theorem bare_normal {W : zWd} (hW : Wok W) {mk : Nat → Nat → Nat} {rl : Nat → Nat → Nat → Nat} {n : Nat} (hn7 : n ≤ 7) (hC : LvC W mk rl n) {t : Nat} (ht : t < (tl W n).length) (h0 : mk n t = 0) : isB W ((tl W n).getD t []) = true := by
  unfold isB
  rw [List.all_eq_true]
  intro L hL
  have hL := List.mem_range.mp hL
  by_cases q : (lw W L).2.length = 0
  · simp [q]
  · have : hasP (we W) ((lw W L).2.getD 0 zd).1 ((tl W n).getD t []) = false := by
      cases z : hasP (we W) ((lw W L).2.getD 0 zd).1 ((tl W n).getD t []) with
      | false => rfl
      | true => exact absurd h0 (piece_piv hW hn7 hC hL (by omega) ht z)
    rw [this]; simp
