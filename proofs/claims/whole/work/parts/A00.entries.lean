/-! rules by entries -/
theorem split_uniq {α : Type} {p : α → Prop} : ∀ {l1 r1 l2 r2 : List α} {x y : α}, l1 ++ x :: l2 = r1 ++ y :: r2 → (∀ z, z ∈ l1 → p z) → ¬ p x → (∀ z, z ∈ r1 → p z) → ¬ p y → l1 = r1 ∧ x = y ∧ l2 = r2
  | [], [], l2, r2, x, y, h, _, _, _, _ => ⟨rfl, (List.cons.inj h).1, (List.cons.inj h).2⟩
  | [], b :: r1, l2, r2, x, y, h, _, hx, hr, _ => absurd (hr b List.mem_cons_self) (by rw [← (List.cons.inj h).1]; exact hx)
  | a :: l1, [], l2, r2, x, y, h, hl, _, _, hy => absurd (hl a List.mem_cons_self) (by rw [(List.cons.inj h).1]; exact hy)
  | a :: l1, b :: r1, l2, r2, x, y, h, hl, hx, hr, hy => by
    have h1 := (List.cons.inj h).1
    obtain ⟨e1, e2, e3⟩ := split_uniq (List.cons.inj h).2 (fun z hz => hl z (List.mem_cons_of_mem _ hz)) hx (fun z hz => hr z (List.mem_cons_of_mem _ hz)) hy
    exact ⟨by rw [h1, e1], e2, e3⟩
def tE2 (b f0 rf m x y k : Nat) : Bool := tEn b f0 rf m x y k || tSp b x y k
/-- trees ahead of t: the first entry that is not normal made so is had -/
def EnI (W : zWd) (mk : Nat → Nat → Nat) (rl : Nat → Nat → Nat → Nat) (n : Nat) (mkn : Nat → Nat) (rln : Nat → Nat → Nat) (t : Nat) : Prop := ∀ a us1 us2 m k, a < wA W → us1.length + 1 + us2.length = we W a → (∀ u, u ∈ us1 → Fs (wA W) (we W) u 1) → (∀ u, u ∈ us2 → Fs (wA W) (we W) u 1) → lvs us1.flatten + m + lvs us2.flatten = n → k < (tl W m).length → mk m k ≠ 0 → (∀ u, u ∈ us1 → Nm W mk u) → ∀ s, s < t → (tl W n).getD s [] = cx a us1 us2 ((tl W m).getD k []) → Sp (wP W) (Rw (tl W n) (mkb mkn) (RC rln)) (mp (cx a us1 us2) (V (tl W m) (RC (rl m) k)))
theorem nm_not {W : zWd} (hE : Eok (wA W) (we W)) {mk : Nat → Nat → Nat} {m k : Nat} (hk : k < (tl W m).length) (h : mk m k ≠ 0) : ¬ Nm W mk ((tl W m).getD k []) := fun z => by
  have ht := (tl_tr hE hk).2
  have := z k (by rw [ht]; exact hk) (by rw [ht])
  rw [ht] at this
  exact h this
theorem idx_uniq {W : zWd} (hE : Eok (wA W) (we W)) {m k m' k' : Nat} (hk : k < (tl W m).length) (hk' : k' < (tl W m').length) (h : (tl W m).getD k [] = (tl W m').getD k' []) : m = m' ∧ k = k' := by
  have e : m = m' := by rw [← (tl_tr hE hk).2, h, (tl_tr hE hk').2]
  subst e
  exact ⟨rfl, getD_inj tl_nodup hk hk' h⟩
theorem cx_flat {a : Nat} {us1 us2 : List (List Nat)} {u : List Nat} : cx a us1 us2 u = (a + 1) :: (us1 ++ u :: us2).flatten := by unfold cx; simp
/-- a tree's first entry that is not normal is one alone -/
theorem cx_uniq {W : zWd} (hE : Eok (wA W) (we W)) {mk : Nat → Nat → Nat} {a a' m m' k k' : Nat} {us1 us2 vs1 vs2 : List (List Nat)} (ha : a < wA W) (hl : us1.length + 1 + us2.length = we W a) (hl' : vs1.length + 1 + vs2.length = we W a') (h1 : ∀ u, u ∈ us1 → Fs (wA W) (we W) u 1) (h2 : ∀ u, u ∈ us2 → Fs (wA W) (we W) u 1) (g1 : ∀ u, u ∈ vs1 → Fs (wA W) (we W) u 1) (g2 : ∀ u, u ∈ vs2 → Fs (wA W) (we W) u 1) (hk : k < (tl W m).length) (hk' : k' < (tl W m').length) (hm : mk m k ≠ 0) (hm' : mk m' k' ≠ 0) (hN : ∀ u, u ∈ us1 → Nm W mk u) (hN' : ∀ u, u ∈ vs1 → Nm W mk u) (h : cx a us1 us2 ((tl W m).getD k []) = cx a' vs1 vs2 ((tl W m').getD k' [])) : a = a' ∧ us1 = vs1 ∧ us2 = vs2 ∧ m = m' ∧ k = k' := by
  rw [cx_flat, cx_flat] at h
  have ea : a = a' := by have := (List.cons.inj h).1; omega
  subst ea
  have ef := flat_inj (A := wA W) (e := we W) (by simp; omega) (fun u hu => by
    rcases List.mem_append.mp hu with q | q
    · exact h1 u q
    · rcases List.mem_cons.mp q with rfl | q
      · exact (tl_tr hE hk).1
      · exact h2 u q) (fun u hu => by
    rcases List.mem_append.mp hu with q | q
    · exact g1 u q
    · rcases List.mem_cons.mp q with rfl | q
      · exact (tl_tr hE hk').1
      · exact g2 u q) (List.cons.inj h).2
  obtain ⟨e1, e2, e3⟩ := split_uniq ef hN (nm_not hE hk hm) hN' (nm_not hE hk' hm')
  obtain ⟨e4, e5⟩ := idx_uniq hE hk hk' e2
  exact ⟨rfl, e1, e3, e4, e5⟩
/-- a vector and a tree: the row -/
theorem row_vec {P : Nat} {T : List (List Nat)} (hT : T.Nodup) {rl : Nat → Nat → Nat} {t : Nat} (ht : t < T.length) {v : Nat → Nat} (hv : ∀ j, j < t → rl t j = v j) (hz : ∀ j, t ≤ j → j < T.length → v j = 0) : Li P (V T (RC rl t)) ((T.getD t [], 1) :: scl (-1) (Vn T v)) := by
  refine (li_V hT (fun p hp => ?_) fun k hk => ?_).sy
  · rcases List.mem_cons.mp hp with rfl | hp
    · exact mem_gd ht
    · unfold Vn at hp
      rw [V_sc] at hp
      exact V_mem p hp
  · rw [co_cons, co_sc]
    unfold Vn
    rw [co_V hT hk]
    unfold RC
    rcases Nat.lt_trichotomy k t with q | q | q
    · rw [if_neg (fun z => by have := getD_inj hT ht hk z; omega), if_neg (by omega), if_pos q, hv k q]
      rw [show (1 : Int) * 0 + -1 * (v k : Int) - -(v k : Int) = 0 by omega]; exact Int.dvd_zero _
    · subst q
      rw [if_pos rfl, if_pos rfl, hz k (Nat.le_refl _) hk]; simp
    · rw [if_neg (fun z => by have := getD_inj hT ht hk z; omega), if_neg (by omega), if_neg (by omega), hz k (by omega) hk]; simp
/-- a rule by an entry: pure part -/
theorem en_step {W : zWd} (hW : Wok W) {mk : Nat → Nat → Nat} {rl : Nat → Nat → Nat → Nat} {n t a m k : Nat} {us1 us2 : List (List Nat)} (htn : t < (tl W n).length) (ha : a < wA W) (hl : us1.length + 1 + us2.length = we W a) (h1 : ∀ u, u ∈ us1 → Fs (wA W) (we W) u 1) (h2 : ∀ u, u ∈ us2 → Fs (wA W) (we W) u 1) (hn : lvs us1.flatten + m + lvs us2.flatten = n) (hk : k < (tl W m).length) (hm : mk m k ≠ 0) (hN : ∀ u, u ∈ us1 → Nm W mk u) (hT : (tl W n).getD t [] = cx a us1 us2 ((tl W m).getD k []))
    {v v1 : Nat → Nat} (hA : AccV (wP W) (tl W n) v (mp (cx a us1 us2) (lowS (tl W m) (rl m k) k))) (hz : ∀ j, t ≤ j → j < (tl W n).length → v j = 0) {mkn : Nat → Nat} {rln : Nat → Nat → Nat} (hR : RedS (tl W n) (wP W) mkn rln v v1) (hmt : mkn t = 0) (hrow : Id W m (V (tl W m) (RC (rl m) k))) (hI : EnI W mk rl n mkn rln t) (hU : ∀ s, s < (tl W n).length → mkn s ≠ 0 → Sp (wP W) (UR W n) (V (tl W n) (RC rln s))) :
    EnI W mk rl n (fun s => if s = t then 1 else mkn s) (fun s j => if s = t then v1 j else rln s j) (t + 1) ∧ ∀ s, s < (tl W n).length → (if s = t then 1 else mkn s) ≠ 0 → Sp (wP W) (UR W n) (V (tl W n) (RC (fun s j => if s = t then v1 j else rln s j) s)) := by
  have hE := hW.2.1
  have hnd : (tl W n).Nodup := tl_nodup
  obtain ⟨hz1, hc⟩ := hR.2 t hz
  have hlow : ∀ p, p ∈ mp (cx a us1 us2) (lowS (tl W m) (rl m k) k) → p.1 ∈ tl W n := fun p hp => by
    obtain ⟨q, hq, e⟩ := mp_mem hp
    obtain ⟨j, hj, e2⟩ := lowS_mem (Nat.le_of_lt hk) hq
    rw [e, e2]
    exact (tl_mem hE).mpr (cx_tr ha hl h1 h2 hn (tl_tr hE (show j < _ by omega)))
  have hX : Li (wP W) (mp (cx a us1 us2) (V (tl W m) (RC (rl m) k))) (((tl W n).getD t [], 1) :: scl (-1) (Vn (tl W n) v)) := by
    refine ((row_low (P := wP W) tl_nodup hk).mp (cx a us1 us2)).tr ?_
    show Li (wP W) ((cx a us1 us2 ((tl W m).getD k []), 1) :: mp (cx a us1 us2) (scl (-1) (lowS (tl W m) (rl m k) k))) _
    rw [← hT, mp_sc]
    exact Li.app (u := [((tl W n).getD t [], 1)]) (w := [((tl W n).getD t [], 1)]) Li.rf ((acc_li hnd hA hlow).sc (-1))
  have hrt : ∀ j, (fun s j => if s = t then v1 j else rln s j) t j = v1 j := fun j => if_pos rfl
  have hY : Li (wP W) (V (tl W n) (RC (fun s j => if s = t then v1 j else rln s j) t)) (((tl W n).getD t [], 1) :: scl (-1) (Vn (tl W n) v1)) := row_vec hnd htn (fun j _ => hrt j) hz1
  have hXY : ∀ (G : zL → Prop), Cg (wP W) G (Vn (tl W n) v) (Vn (tl W n) v1) → Cg (wP W) G (mp (cx a us1 us2) (V (tl W m) (RC (rl m) k))) (V (tl W n) (RC (fun s j => if s = t then v1 j else rln s j) t)) := fun G g => ((Cg.of hX).tr (Cg.app (u := [((tl W n).getD t [], 1)]) (w := [((tl W n).getD t [], 1)]) Cg.rf (g.sc (-1)))).tr (Cg.of hY.sy)
  have hmono : ∀ u, Rw (tl W n) (mkb mkn) (RC rln) u → Rw (tl W n) (mkb (fun s => if s = t then 1 else mkn s)) (RC (fun s j => if s = t then v1 j else rln s j)) u := fun u hu => by
    obtain ⟨s, s1, s2, rfl⟩ := hu
    have s2 := mkb_t.mp s2
    have hst : s ≠ t := fun z => s2 (by rw [z]; exact hmt)
    exact ⟨s, s1, mkb_t.mpr (by show (if s = t then 1 else mkn s) ≠ 0; rw [if_neg hst]; exact s2), V_cong fun j _ => (RC_cong (fun k _ => if_neg hst) j).symm⟩
  have hnew : Sp (wP W) (Rw (tl W n) (mkb (fun s => if s = t then 1 else mkn s)) (RC (fun s j => if s = t then v1 j else rln s j))) (mp (cx a us1 us2) (V (tl W m) (RC (rl m) k))) :=
    (hXY _ (hc.mono fun u hu => hmono u hu.rw)).sp (Sp.gen ⟨t, htn, mkb_t.mpr (by show (if t = t then 1 else mkn t) ≠ 0; rw [if_pos rfl]; omega), rfl⟩)
  refine ⟨fun a' vs1 vs2 m' k' ha' hl' g1 g2 hn' hk' hm' hN' s hs hTs => ?_, fun s hs hms => ?_⟩
  · by_cases e : s = t
    · subst e
      obtain ⟨rfl, rfl, rfl, rfl, rfl⟩ := cx_uniq hE ha hl hl' h1 h2 g1 g2 hk hk' hm hm' hN hN' (hT.symm.trans hTs)
      exact hnew
    · exact (hI a' vs1 vs2 m' k' ha' hl' g1 g2 hn' hk' hm' hN' s (by omega) hTs).mono hmono
  · by_cases e : s = t
    · subst e
      have hur : UR W n (mp (cx a us1 us2) (V (tl W m) (RC (rl m) k))) := ⟨a, us1, us2, m, _, ha, hl, h1, h2, hrow, fun p hp => (tl_mem hE).mp (V_mem p hp), hn, rfl⟩
      refine (Cg.sy (hXY (UR W n) (hc.le fun u hu => ?_))).sp (Sp.gen hur)
      obtain ⟨s', _, s1, s2, rfl⟩ := hu
      exact hU s' s1 s2
    · rw [if_neg e] at hms
      rw [V_cong fun j _ => RC_cong (rl := rln) (fun k _ => if_neg e) j]
      exact hU s hs hms
theorem EnI.skip {W : zWd} (hW : Wok W) {mk : Nat → Nat → Nat} {rl : Nat → Nat → Nat → Nat} {n t : Nat} (htn : t < (tl W n).length) {mkn : Nat → Nat} {rln : Nat → Nat → Nat} (hI : EnI W mk rl n mkn rln t) (h : (tl W n).getD t [] = [0] ∨ ∃ (a : Nat) (us : List (List Nat)), (tl W n).getD t [] = (a + 1) :: us.flatten ∧ us.length = we W a ∧ (∀ u, u ∈ us → Fs (wA W) (we W) u 1) ∧ ∀ u, u ∈ us → Nm W mk u) : EnI W mk rl n mkn rln (t + 1) := by
  have hE := hW.2.1
  intro a' vs1 vs2 m' k' ha' hl' g1 g2 hn' hk' hm' hN' s hs hTs
  by_cases e : s = t
  · subst e
    exfalso
    rcases h with h | ⟨a, us, h, hl, hu, hN⟩
    · rw [hTs, cx_flat] at h
      have := (List.cons.inj h).1
      omega
    · rw [hTs, cx_flat] at h
      have ea : a' = a := by have := (List.cons.inj h).1; omega
      subst ea
      have ef := flat_inj (A := wA W) (e := we W) (by rw [hl]; simp; omega) (fun u hu => by
        rcases List.mem_append.mp hu with q | q
        · exact g1 u q
        · rcases List.mem_cons.mp q with rfl | q
          · exact (tl_tr hE hk').1
          · exact g2 u q) hu (List.cons.inj h).2
      exact nm_not hE hk' hm' (hN _ (by rw [← ef]; exact List.mem_append_right _ List.mem_cons_self))
  · exact hI a' vs1 vs2 m' k' ha' hl' g1 g2 hn' hk' hm' hN' s (by omega) hTs

