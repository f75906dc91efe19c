/-! what the reference enters into a level: acts over rows, laws with trees -/
abbrev FqR (q : Nat) (W : zWd) (s : Nat) : Nat := 2200 * q + sm (tc W) s
abbrev RFq (q : Nat) (W : zWd) (s : Nat) : Nat := 200000 * q + sm (fun k => tc W k * tc W k) s
theorem cntp_full {pv : Nat → Bool} : ∀ m, cntp pv m = m → ∀ t, t < m → pv t = true
  | 0, _, t, ht => absurd ht (by omega)
  | m + 1, h, t, ht => by
    have h' : cntp pv m + (if pv m = true then 1 else 0) = m + 1 := h
    have hle := cntp_le (pv := pv) m
    by_cases hp : pv m = true
    · rw [if_pos hp] at h'
      by_cases e : t = m
      · rw [e]; exact hp
      · exact cntp_full m (by omega) t (by omega)
    · rw [if_neg hp] at h'; omega
/-- a full level has everything -/
theorem full_sp {P : Nat} {T : List (List Nat)} (hT : T.Nodup) {pv : Nat → Bool} {bs : Nat → Nat → Nat} (hok : RwOk T.length P pv bs) (hf : cntp pv T.length = T.length) : ∀ {g : zL}, (∀ p, p ∈ g → p.1 ∈ T) → Sp P (Rw T pv (RR bs)) g
  | [], _ => Sp.nil
  | p :: r, hg => by
    obtain ⟨k, hk, e⟩ := mem_idx (hg p List.mem_cons_self)
    have hpv := cntp_full _ hf
    have h1 : Sp P (Rw T pv (RR bs)) (V T (RR bs k)) := Sp.gen ⟨k, hk, hpv k hk, rfl⟩
    have h2 : Sp P (Rw T pv (RR bs)) [p] := (h1.sc p.2).li (by
      rw [V_sc]
      refine (li_V hT (u := [p]) (fun q hq => ?_) (fun j hj => ?_)).sy
      · rw [List.mem_singleton.mp hq]; exact hg p List.mem_cons_self
      · rw [co_cons, co_nil, Int.add_zero]
        obtain ⟨_, o1, _, o2⟩ := hok k hk (hpv k hk)
        unfold RR
        by_cases ej : j = k
        · subst ej
          rw [o1, if_pos e.symm]; exact dvd_rf
        · rw [o2 j hj ej (hpv j hj), if_neg (fun z => ej (getD_inj hT hj hk (z.symm.trans e.symm)))]; exact dvd_rf)
    exact h2.app (full_sp hT hok hf (g := r) fun q hq => hg q (List.mem_cons_of_mem _ hq))
theorem acc_setN {P : Nat} {T : List (List Nat)} (hT : T.Nodup) {v : Nat → Nat} {u : zL} (h : AccV P T v u) {i : Nat} (hi : i < T.length) (hv : v i = 0) {x : Nat} : AccV P T (fun j => if j = i then x else v j) (u ++ [(T.getD i [], (x : Int))]) := fun j hj => by
  show (P : Int) ∣ ((if j = i then x else v j : Nat) : Int) - _
  rw [co_app, co_cons, co_nil, Int.add_zero]
  by_cases e : j = i
  · subst e
    rw [if_pos rfl, if_pos rfl, Int.mul_one]
    have := h j hj
    rw [hv] at this
    obtain ⟨c, hc⟩ := this
    exact ⟨c, by omega⟩
  · rw [if_neg e, if_neg (fun z => e (getD_inj hT hi hj z).symm), Int.mul_zero, Int.add_zero]
    exact h j hj
theorem acc_addN {P : Nat} {T : List (List Nat)} (hT : T.Nodup) {v : Nat → Nat} {u : zL} (h : AccV P T v u) {i : Nat} (hi : i < T.length) {x : Nat} : AccV P T (fun j => if j = i then (v i + x) % P else v j) (u ++ [(T.getD i [], (x : Int))]) := fun j hj => by
  show (P : Int) ∣ ((if j = i then (v i + x) % P else v j : Nat) : Int) - _
  rw [co_app, co_cons, co_nil, Int.add_zero]
  by_cases e : j = i
  · subst e
    rw [if_pos rfl, if_pos rfl, Int.mul_one, Int.natCast_emod, Int.natCast_add]
    refine dvd_tr (emod_dvd _ _) ?_
    rw [show (v j : Int) + (x : Int) - (co u (T.getD j []) + x) = (v j : Int) - co u (T.getD j []) by omega]
    exact h j hj
  · rw [if_neg e, if_neg (fun z => e (getD_inj hT hi hj z).symm), Int.mul_zero, Int.add_zero]
    exact h j hj
theorem pt_parts {W : zWd} (hE : Eok (wA W) (we W)) {e n j : Nat} {p : List Nat × List Nat} (hp : p ∈ allF (bdW W) (cmp e n)) (hj : j < e) : ((pt W p).take j).length + 1 + ((pt W p).drop (j + 1)).length = e ∧ (∀ u, u ∈ (pt W p).take j → Fs (wA W) (we W) u 1) ∧ (∀ u, u ∈ (pt W p).drop (j + 1) → Fs (wA W) (we W) u 1) ∧ lvs ((pt W p).take j).flatten + p.1.getD j 0 + lvs ((pt W p).drop (j + 1)).flatten = n ∧ p.2.getD j 0 < (tl W (p.1.getD j 0)).length ∧ 1 ≤ p.1.getD j 0 ∧ (pt W p).getD j [] = (tl W (p.1.getD j 0)).getD (p.2.getD j 0) [] ∧ (pt W p).length = e := by
  obtain ⟨h1, h2, h3, h4, h5⟩ := allF_get hp
  obtain ⟨i1, i2, i3, i4⟩ := pt_spec hE p.1 p.2 h2 h5
  have hl : (pt W p).length = e := i1.trans h1
  have hg : (pt W p).getD j [] = (tl W (p.1.getD j 0)).getD (p.2.getD j 0) [] := pt_get p.1 p.2 j h2 (by omega)
  have hk : p.2.getD j 0 < (tl W (p.1.getD j 0)).length := h5 j (by omega)
  have ht := tl_tr hE hk
  have hs : pt W p = (pt W p).take j ++ (pt W p).getD j [] :: (pt W p).drop (j + 1) := by rw [← drop_cons (by omega), List.take_append_drop]
  refine ⟨by rw [List.length_take, List.length_drop, hl]; omega, fun u hu => i2 u (List.mem_of_mem_take hu), fun u hu => i2 u (List.mem_of_mem_drop hu), ?_, hk, h4 _ (getD_mem (by omega)), hg, hl⟩
  have i3' : lvs (pt W p).flatten = n := i3.trans h3
  rw [hs, List.flatten_append, List.flatten_cons, lvs_app, lvs_app, hg, ht.2] at i3'
  omega
def rwA (W : zWd) (bs : Nat → Nat → Nat → Nat) (a j : Nat) (p : List Nat × List Nat) : zL := mp (cx a ((pt W p).take j) ((pt W p).drop (j + 1))) (V (tl W (p.1.getD j 0)) (RR (bs (p.1.getD j 0)) (p.2.getD j 0)))
theorem cx_tr2 {W : zWd} {a m n : Nat} {us1 us2 : List (List Nat)} (ha : a < wA W) (hl : us1.length + 1 + us2.length = we W a) (h1 : ∀ u, u ∈ us1 → Fs (wA W) (we W) u 1) (h2 : ∀ u, u ∈ us2 → Fs (wA W) (we W) u 1) (hn : lvs us1.flatten + m + lvs us2.flatten = n) {s : List Nat} (hs : Tr (wA W) (we W) m s) : Tr (wA W) (we W) n (cx a us1 us2 s) := by
  refine ⟨?_, ?_⟩
  · have := Fs.put hs.1 (x := (a + 1) :: us1.flatten) (z := us2.flatten) (root_ctx ha hl h1 h2)
    exact this
  · unfold cx
    rw [lvs_app, lvs_app, hs.2, lvs, if_neg (by omega)]
    omega
theorem rwA_in {W : zWd} (hE : Eok (wA W) (we W)) {bs : Nat → Nat → Nat → Nat} {a j n : Nat} {p : List Nat × List Nat} (ha : a < wA W) (hj : j < we W a) (hp : p ∈ allF (bdW W) (cmp (we W a) n)) : ∀ z, z ∈ rwA W bs a j p → z.1 ∈ tl W n := fun z hz => by
  obtain ⟨g1, g2, g3, g4, g5, g6, g7, g8⟩ := pt_parts hE hp hj
  obtain ⟨r, hr, e⟩ := mp_mem hz
  rw [e]
  exact (tl_mem hE).mpr (cx_tr2 ha g1 g2 g3 g4 ((tl_mem hE).mp (V_mem r hr)))
theorem rwA_id {W : zWd} (hE : Eok (wA W) (we W)) {bs : Nat → Nat → Nat → Nat} {a j n : Nat} {p : List Nat × List Nat} (ha : a < wA W) (hj : j < we W a) (hp : p ∈ allF (bdW W) (cmp (we W a) n)) (hi : Id W (p.1.getD j 0) (V (tl W (p.1.getD j 0)) (RR (bs (p.1.getD j 0)) (p.2.getD j 0)))) : Id W n (rwA W bs a j p) := by
  obtain ⟨g1, g2, g3, g4, g5, g6, g7, g8⟩ := pt_parts hE hp hj
  exact UR.id ⟨a, _, _, _, _, ha, g1, g2, g3, hi, fun z hz => (tl_mem hE).mp (V_mem z hz), g4, rfl⟩
theorem hact_of {W : zWd} (hE : Eok (wA W) (we W)) {n : Nat} {pv : Nat → Nat → Bool} {bs : Nat → Nat → Nat → Nat} {G : zL → Prop} (h : ∀ a j p, a < wA W → j < we W a → p ∈ allF (bdW W) (cmp (we W a) n) → pv (p.1.getD j 0) (p.2.getD j 0) = true → Sp (wP W) G (rwA W bs a j p)) : ∀ a us1 us2 m k, a < wA W → us1.length + 1 + us2.length = we W a → (∀ u, u ∈ us1 → Fs (wA W) (we W) u 1) → (∀ u, u ∈ us2 → Fs (wA W) (we W) u 1) → lvs us1.flatten + m + lvs us2.flatten = n → k < (tl W m).length → pv m k = true → Sp (wP W) G (mp (cx a us1 us2) (V (tl W m) (RR (bs m) k))) := by
  intro a us1 us2 m k ha hl h1 h2 hn hk hpv
  have ht := tl_tr hE hk
  obtain ⟨p, hp, e⟩ := pt_all hE (us := us1 ++ (tl W m).getD k [] :: us2) (fun u hu => by
    rcases List.mem_append.mp hu with q | q
    · exact h1 u q
    · rcases List.mem_cons.mp q with rfl | q
      · exact ht.1
      · exact h2 u q) (e := we W a) (n := n) (by rw [List.length_append, List.length_cons]; omega) (by rw [List.flatten_append, List.flatten_cons, lvs_app, lvs_app, ht.2]; omega)
  have hj : us1.length < we W a := by omega
  obtain ⟨g1, g2, g3, g4, g5, g6, g7, g8⟩ := pt_parts hE hp hj
  have e1 : (pt W p).take us1.length = us1 := by rw [e, List.take_left]
  have e2 : (pt W p).drop (us1.length + 1) = us2 := by
    rw [e, show us1 ++ (tl W m).getD k [] :: us2 = (us1 ++ [(tl W m).getD k []]) ++ us2 by simp, List.drop_left' (by simp)]
  have e3 : (pt W p).getD us1.length [] = (tl W m).getD k [] := by
    rw [e, List.getD_eq_getElem?_getD, List.getElem?_append_right (Nat.le_refl _), Nat.sub_self]; rfl
  rw [e3] at g7
  have hm : p.1.getD us1.length 0 = m := by
    have := (tl_tr hE g5).2
    rw [← g7, ht.2] at this
    exact this.symm
  have hk2 : p.2.getD us1.length 0 = k := by
    rw [hm] at g5 g7
    exact (getD_inj tl_nodup hk g5 g7).symm
  have := h a us1.length p ha hj hp (by rw [hm, hk2]; exact hpv)
  unfold rwA at this
  rw [e1, e2, hm, hk2] at this
  exact this
def rwL (W : zWd) (L : Nat) (p : List Nat × List Nat) : zL := mp (fun t => fl t (pt W p)) (lz (lw W L).2)
theorem rwL_fi {W : zWd} (hE : Eok (wA W) (we W)) {L n : Nat} (hL : L < wL W) {p : List Nat × List Nat} (hp : p ∈ allF (bdW W) (cmp (lw W L).1 n)) : Fi W n (rwL W L p) := by
  obtain ⟨h1, h2, h3, h4, h5⟩ := allF_get hp
  obtain ⟨i1, i2, i3, i4⟩ := pt_spec hE p.1 p.2 h2 h5
  exact ⟨L, pt W p, hL, i1.trans h1, i2, i3.trans h3, rfl⟩
theorem hlaw_of {W : zWd} (hE : Eok (wA W) (we W)) {n : Nat} {G : zL → Prop} (h : ∀ L p, L < wL W → p ∈ allF (bdW W) (cmp (lw W L).1 n) → Sp (wP W) G (rwL W L p)) : ∀ g, Fi W n g → Sp (wP W) G g := by
  rintro g ⟨L, us, hL, h1, h2, h3, rfl⟩
  obtain ⟨p, hp, e⟩ := pt_all hE h2 h1 h3
  have := h L p hL hp
  unfold rwL at this
  rw [e] at this
  exact this
theorem fl_tr {W : zWd} {us : List (List Nat)} (hu : ∀ u, u ∈ us → Fs (wA W) (we W) u 1) {m n : Nat} {t : List Nat} (ht : Tr (wA W) (we W) m t) (hm : us.length = m) (hn : lvs us.flatten = n) : Tr (wA W) (we W) n (fl t us) := ⟨ht.1.fl (by rw [ht.2, hm]) hu, by
  rw [lvs_fl (by rw [ht.2, hm]), hn]⟩
