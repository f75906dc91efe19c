def up1 (mk : Nat → Nat → Nat) (n : Nat) (f : Nat → Nat) : Nat → Nat → Nat := fun k => if k = n then f else mk k
def up2 (rl : Nat → Nat → Nat → Nat) (n : Nat) (f : Nat → Nat → Nat) : Nat → Nat → Nat → Nat := fun k => if k = n then f else rl k
theorem up1_n {mk : Nat → Nat → Nat} {n : Nat} {f : Nat → Nat} : up1 mk n f n = f := if_pos rfl
theorem up2_n {rl : Nat → Nat → Nat → Nat} {n : Nat} {f : Nat → Nat → Nat} : up2 rl n f n = f := if_pos rfl
theorem up1_x {mk : Nat → Nat → Nat} {n k : Nat} {f : Nat → Nat} (h : k ≠ n) : up1 mk n f k = mk k := if_neg h
theorem up2_x {rl : Nat → Nat → Nat → Nat} {n k : Nat} {f : Nat → Nat → Nat} (h : k ≠ n) : up2 rl n f k = rl k := if_neg h
/-- the level at work -/
def Lvl (S : zS) (b : Nat) (W : zWd) (n : Nat) (mkn : Nat → Nat) (rln : Nat → Nat → Nat) : Prop := Lx S b n (tfr W n) (tl W n) ∧ Mx S b (tfr W n) (tl W n).length mkn ∧ Ux S b n (rfr W n) (tl W n).length (wP W) mkn rln
theorem BS.up {S : zS} {b n : Nat} {W : zWd} {mk : Nat → Nat → Nat} {rl : Nat → Nat → Nat → Nat} {mkn : Nat → Nat} {rln : Nat → Nat → Nat} (h : BS S b W (n - 1) mk rl) (hl : Lvl S b W n mkn rln) : BS S b W n (up1 mk n mkn) (up2 rl n rln) := fun k k1 k2 => by
  by_cases e : k = n
  · subst e; rw [up1_n, up2_n]; exact hl
  · rw [up1_x e, up2_x e]; exact h k k1 (by omega)
theorem Nm.up {W : zWd} {mk : Nat → Nat → Nat} {n : Nat} {f : Nat → Nat} {u : List Nat} (h : lvs u ≠ n) : Nm W (up1 mk n f) u ↔ Nm W mk u := by
  unfold Nm
  rw [up1_x h]
theorem Lx.ef {S S1 : zS} {b n : Nat} {W : zWd} {U : Nat → Nat → Nat → Bool} (h : Lx S b n (tfr W n) (tl W n)) (f : Fr U S S1) (t : ∀ k, U 103 b k = false ∧ U 104 b k = false) : Lx S1 b n (tfr W n) (tl W n) := h.fr f t
theorem tE2_sp {b f0 rf m : Nat} (x y k : Nat) (h : tSp b x y k = true) : tE2 b f0 rf m x y k = true := by simp [tE2, h]
theorem tE2_en {b f0 rf m : Nat} (x y k : Nat) (h : tEn b f0 rf m x y k = true) : tE2 b f0 rf m x y k = true := by simp [tE2, h]
theorem tE2_n {b f0 rf m x y k : Nat} (h : x ≠ 105 ∧ x ≠ 107 ∧ ¬ (700 ≤ x ∧ x ≤ 703)) : tE2 b f0 rf m x y k = false := by simp [tE2, tEn, tSp]; omega
theorem tE2_105 {b f0 rf m y k : Nat} (h : k < f0) : tE2 b f0 rf m 105 y k = false := by simp [tE2, tEn, tSp]; omega
theorem tE2_107 {b f0 rf m y k : Nat} (h : k < rf) : tE2 b f0 rf m 107 y k = false := by simp [tE2, tEn, tSp]; omega
/-- lower levels stay -/
theorem BS.low {S S1 : zS} {b n : Nat} {W : zWd} (hE : Eok (wA W) (we W)) {mk : Nat → Nat → Nat} {rl : Nat → Nat → Nat → Nat} (h : BS S b W (n - 1) mk rl) {m : Nat} (f : Fr (tE2 b (tfr W n) (rfr W n) m) S S1) : BS S1 b W (n - 1) mk rl := fun k k1 k2 => by
  obtain ⟨h1, h2, h3⟩ := h k k1 k2
  have s1 : tfr W k + tc W k ≤ tfr W n := sm_le (f := tc W) (show k < n by omega)
  have s2 : rfr W k + tri (tc W k) ≤ rfr W n := sm_le (f := fun i => tri (tc W i)) (show k < n by omega)
  have hl : (tl W k).length = tc W k := tl_len hE
  refine ⟨h1.fr f (fun j => ⟨tE2_n (by omega), tE2_n (by omega)⟩), fun i hi => ⟨(f.1 _ _ _ (tE2_105 (by omega))).trans (h2 i hi).1, (h2 i hi).2⟩, (f.1 _ _ _ (tE2_n (by omega))).trans h3.1, by rw [gN_22 f.2.2]; exact h3.2.1, by rw [gN_22 f.2.2]; exact h3.2.2.1, fun t ht hm j hj => ⟨(f.1 _ _ _ (tE2_107 ?_)).trans (h3.2.2.2 t ht hm j hj).1, (h3.2.2.2 t ht hm j hj).2⟩⟩
  have := tri_lt ht hj
  rw [hl] at this
  omega
/-- all that a level's work needs -/
def Wk (S : zS) (b : Nat) (W : zWd) (n : Nat) (mk : Nat → Nat → Nat) (rl : Nat → Nat → Nat → Nat) : Prop := Sd S ∧ BS S b W (n - 1) mk rl ∧ Wa S b W ∧ gI S 9 b 0 = nI (wP W)
theorem Wk.fr {S S1 : zS} {b n m : Nat} {W : zWd} (hE : Eok (wA W) (we W)) {mk : Nat → Nat → Nat} {rl : Nat → Nat → Nat → Nat} (h : Wk S b W n mk rl) (f : Fr (tE2 b (tfr W n) (rfr W n) m) S S1) : Wk S1 b W n mk rl := ⟨h.1.fr f, h.2.1.low hE f, h.2.2.1.fr f (fun k => ⟨tE2_n (by omega), tE2_n (by omega)⟩), (f.1 _ _ _ (tE2_n (by omega))).trans h.2.2.2⟩
theorem Lvl.fr {S S1 : zS} {b n : Nat} {W : zWd} {mkn : Nat → Nat} {rln : Nat → Nat → Nat} (h : Lvl S b W n mkn rln) (f : Fr (tSp b) S S1) : Lvl S1 b W n mkn rln := ⟨h.1.fr f (fun k => ⟨by simp [tSp], by simp [tSp]⟩), h.2.1.fr f (fun k => by simp [tSp]), h.2.2.fr f (fun k => ⟨by simp [tSp], by simp [tSp]⟩)⟩
/-- a rule stored and marked -/
theorem Lvl.set {S S1 : zS} {b n : Nat} {W : zWd} {mkn : Nat → Nat} {rln : Nat → Nat → Nat} (h : Lvl S b W n mkn rln) {t c : Nat} (hc : c ≤ 2) (hP : 0 < wP W) (htn : t < (tl W n).length) {v : Nat → Nat} (f : Fr (tRl b (rfr W n + tri t) t) S S1) (g : ∀ i, i < t → gI S1 107 b (rfr W n + tri t + i) = nI (v i)) (hv : ∀ i, i < t → v i < wP W) : Lvl (sI S1 105 b (tfr W n + t) (nI c)) b W n (fun s => if s = t then c else mkn s) (fun s j => if s = t then v j else rln s j) := by
  obtain ⟨h1, h2, h3⟩ := h
  have f2 : Fr (fun x y k => tRl b (rfr W n + tri t) t x y k || x == 105 && y == b) S (sI S1 105 b (tfr W n + t) (nI c)) := (f.mono (fun x y k z => by simp [z])).i (by simp)
  refine ⟨h1.fr f2 (fun k => ⟨by simp [tRl], by simp [tRl]⟩), fun s hs => ?_, (f2.1 _ _ _ (by simp [tRl])).trans h3.1, by rw [gN_22 f2.2.2]; exact h3.2.1, by rw [gN_22 f2.2.2]; exact h3.2.2.1, fun s hs hm j hj => ?_⟩
  · show _ = nI (if s = t then c else mkn s) ∧ (if s = t then c else mkn s) ≤ 2
    by_cases e : s = t
    · rw [if_pos e, gI_sI, if_pos ⟨rfl, rfl, by omega⟩]; exact ⟨rfl, hc⟩
    · rw [if_neg e, gI_sI, if_neg (by omega), f.1 _ _ _ (by simp [tRl])]; exact h2 s hs
  · have hm : (if s = t then c else mkn s) ≠ 0 := hm
    show _ = nI (if s = t then v j else rln s j) ∧ (if s = t then v j else rln s j) < wP W
    by_cases e : s = t
    · subst e
      rw [if_pos rfl, gI_sI, if_neg (by omega), g j hj]; exact ⟨rfl, hv j hj⟩
    · rw [if_neg e] at hm
      rw [if_neg e, gI_sI, if_neg (by omega), f.1 _ _ _ (by
        unfold tRl
        rcases Nat.lt_or_gt_of_ne e with q | q
        · have := tri_lt (m := t) q hj; simp; omega
        · have := tri_le (m := s) q; simp; omega)]
      exact h3.2.2.2 s hs hm j hj

set_option maxRecDepth 100000 in
theorem lp_rules {W : zWd} (hW : Wok W) {b n : Nat} (hb4 : b < 4) (hn7 : n ≤ 7) (hn1 : 1 ≤ n) {mk : Nat → Nat → Nat} {rl : Nat → Nat → Nat → Nat} (hid : ∀ m k, 1 ≤ m → m < n → k < (tl W m).length → mk m k ≠ 0 → Id W m (V (tl W m) (RC (rl m) k))) : ∀ (d t : Nat) (S : zS) (mkn : Nat → Nat) (rln : Nat → Nat → Nat), t + d = (tl W n).length → Wk S b W n mk rl → Lvl S b W n mkn rln → (∀ s, s < (tl W n).length → mkn s ≠ 0 → s < t ∧ mkn s = 1) → (∀ s, s < (tl W n).length → mkn s ≠ 0 → Sp (wP W) (UR W n) (V (tl W n) (RC rln s))) → EnI W mk rl n mkn rln t → Ok mX0_addRulesByEntries 2 [some (zr 0 b), some (zi (nI n)), some (zi (nI t))] [] S (fun r S1 => r = none ∧ Fr (tE2 b (tfr W n) (rfr W n) (tl W n).length) S S1 ∧ ∃ mkn rln, Lvl S1 b W n mkn rln ∧ (∀ s, s < (tl W n).length → mkn s ≠ 0 → mkn s = 1 ∧ Sp (wP W) (UR W n) (V (tl W n) (RC rln s))) ∧ EnI W mk rl n mkn rln (tl W n).length) := by
  have hE := hW.2.1
  have hP2 := hW.1.1
  have hP97 := hW.1.2.1
  intro d
  induction d with
  | zero =>
    intro t S mkn rln ht hk hl h1 hu hI
    obtain rfl : t = (tl W n).length := by omega
    obtain ⟨hs, hB, hw, hp⟩ := hk
    have h300 := hl.1.2.2.2.1
    refine r_iload_n (q := 3) dX0_addRulesByEntries_2 rfl rfl rfl ?_
    refine r_aload_n (q := 4) dX0_addRulesByEntries_3 rfl rfl rfl ?_
    refine r_iload_n (q := 5) dX0_addRulesByEntries_4 rfl rfl rfl ?_
    refine r_callV (Mc := mX0_treesOf) (q := 8) (As := [zi (nI n)]) (st := [zi (nI ((tl W n).length))]) ck0 dX0_addRulesByEntries_5 rfl rfl mkX0_treesOf wt788 wt789 wt790 rfl (Nat.le_of_ble_eq_true rfl) (Nat.le_of_ble_eq_true rfl) (by decide) (by decide) (by decide) (Or.inl rfl) (hs.e (show b < 4 by omega)) (ok_treesOf hs hb4 hn7 hl.1) (fun r5 S5 hp5 => ?_)
    obtain ⟨rfl, hq5⟩ := hp5
    rw [hq5]
    show Ok _ _ _ [zi (nI ((tl W n).length)), zi (nI ((tl W n).length))] _ _
    refine r_icmp_geN (q := 11) (t := 52) (by omega) (by omega) dX0_addRulesByEntries_8 (by decide) rfl (fun h8 => ?_) (fun h8 => absurd h8 (by omega))
    refine r_return dX0_addRulesByEntries_52 rfl ?_
    exact ⟨rfl, Fr.rf, mkn, rln, hl, fun s a b => ⟨(h1 s a b).2, hu s a b⟩, hI⟩
  | succ d ih =>
    intro t S mkn rln ht hk hl h1 hu hI
    have hk' := hk
    obtain ⟨hs, hB, hw, hp⟩ := hk
    have h300 := hl.1.2.2.2.1
    have h400 := hl.1.2.2.1
    have htn : t < (tl W n).length := by omega
    have htr := tl_tr hE htn
    have hBn := hB.up hl
    rcases tr_root htr with h0 | ⟨a, us, ha, hta, hul, hus⟩
    · skip
      refine r_iload_n (q := 3) dX0_addRulesByEntries_2 rfl rfl rfl ?_
      refine r_aload_n (q := 4) dX0_addRulesByEntries_3 rfl rfl rfl ?_
      refine r_iload_n (q := 5) dX0_addRulesByEntries_4 rfl rfl rfl ?_
      refine r_callV (Mc := mX0_treesOf) (q := 8) (As := [zi (nI n)]) (st := [zi (nI t)]) ck0 dX0_addRulesByEntries_5 rfl rfl mkX0_treesOf wt788 wt789 wt790 rfl (Nat.le_of_ble_eq_true rfl) (Nat.le_of_ble_eq_true rfl) (by decide) (by decide) (by decide) (Or.inl rfl) (hs.e (show b < 4 by omega)) (ok_treesOf hs hb4 hn7 hl.1) (fun r5 S5 hp5 => ?_)
      obtain ⟨rfl, hq5⟩ := hp5
      rw [hq5]
      show Ok _ _ _ [zi (nI ((tl W n).length)), zi (nI t)] _ _
      refine r_icmp_geN (q := 11) (t := 52) (by omega) (by omega) dX0_addRulesByEntries_8 (by decide) rfl (fun h8 => absurd h8 (by omega)) (fun h8 => ?_)
      refine r_aload_n (q := 12) dX0_addRulesByEntries_11 rfl rfl rfl ?_
      refine r_iload_n (q := 13) dX0_addRulesByEntries_12 rfl rfl rfl ?_
      refine r_iload_n (q := 14) dX0_addRulesByEntries_13 rfl rfl rfl ?_
      refine r_callV (Mc := mX0_spreadByEntry) (q := 17) (As := [zi (nI n), zi (nI t)]) (st := []) ck0 dX0_addRulesByEntries_14 rfl rfl mkX0_spreadByEntry wt832 wt834 wp35 rfl (Nat.le_of_ble_eq_true rfl) (Nat.le_of_ble_eq_true rfl) (by decide) (by decide) (by decide) (Or.inl rfl) (hs.e (show b < 4 by omega)) (ok_spread_0 hs hW hb4 hn7 hn1 htn hBn hw hp h0) (fun r14 S14 hp14 => ?_)
      obtain ⟨rfl, f1⟩ := hp14
      show Ok _ _ _ [zi (nI 0)] _ _
      refine r_if_eqN (q := 20) (t := 46) (by omega) dX0_addRulesByEntries_17 (by decide) rfl (fun h17 => ?_) (fun h17 => absurd h17 (by omega))
      refine r_iincN (q := 49) (L' := [some (zr 0 b), some (zi (nI n)), some (zi (nI (t + 1)))]) 1 rfl dX0_addRulesByEntries_46 rfl rfl (by decide) rfl ?_
      refine r_goto (q := 2) dX0_addRulesByEntries_49 (by decide) ?_
      refine Ok.mono (ih (t + 1) S14 mkn rln (by omega) (hk'.fr hE (m := (tl W n).length) (f1.mono tE2_sp)) (hl.fr f1) (fun s a b => ⟨by have := (h1 s a b).1; omega, (h1 s a b).2⟩) hu (hI.skip hW htn (Or.inl h0))) fun r S2 z => ⟨z.1, (f1.mono tE2_sp).tr z.2.1, z.2.2⟩
    · have hge := lvs_flat_ge hE hus
      have he2 := hE.two a ha
      have hlvn : lvs us.flatten = n := by
        have := htr.2
        rw [hta, lvs, if_neg (by omega)] at this; omega
      have hnu : ∀ u, u ∈ us → lvs u ≠ n := fun u hm => by have := (hge.2 u hm).2; omega
      refine r_iload_n (q := 3) dX0_addRulesByEntries_2 rfl rfl rfl ?_
      refine r_aload_n (q := 4) dX0_addRulesByEntries_3 rfl rfl rfl ?_
      refine r_iload_n (q := 5) dX0_addRulesByEntries_4 rfl rfl rfl ?_
      refine r_callV (Mc := mX0_treesOf) (q := 8) (As := [zi (nI n)]) (st := [zi (nI t)]) ck0 dX0_addRulesByEntries_5 rfl rfl mkX0_treesOf wt788 wt789 wt790 rfl (Nat.le_of_ble_eq_true rfl) (Nat.le_of_ble_eq_true rfl) (by decide) (by decide) (by decide) (Or.inl rfl) (hs.e (show b < 4 by omega)) (ok_treesOf hs hb4 hn7 hl.1) (fun r5 S5 hp5 => ?_)
      obtain ⟨rfl, hq5⟩ := hp5
      rw [hq5]
      show Ok _ _ _ [zi (nI ((tl W n).length)), zi (nI t)] _ _
      refine r_icmp_geN (q := 11) (t := 52) (by omega) (by omega) dX0_addRulesByEntries_8 (by decide) rfl (fun h8 => absurd h8 (by omega)) (fun h8 => ?_)
      refine r_aload_n (q := 12) dX0_addRulesByEntries_11 rfl rfl rfl ?_
      refine r_iload_n (q := 13) dX0_addRulesByEntries_12 rfl rfl rfl ?_
      refine r_iload_n (q := 14) dX0_addRulesByEntries_13 rfl rfl rfl ?_
      refine r_callV (Mc := mX0_spreadByEntry) (q := 17) (As := [zi (nI n), zi (nI t)]) (st := []) ck0 dX0_addRulesByEntries_14 rfl rfl mkX0_spreadByEntry wt832 wt834 wp35 rfl (Nat.le_of_ble_eq_true rfl) (Nat.le_of_ble_eq_true rfl) (by decide) (by decide) (by decide) (Or.inl rfl) (hs.e (show b < 4 by omega)) (ok_spread_n hs hW hb4 hn7 hn1 htn hBn hw hp ha hta hul hus) (fun r14 S14 hp14 => ?_)
      obtain ⟨f1, hz⟩ := hp14
      obtain ⟨v, rfl⟩ : ∃ v, r14 = some (zi v) := hz.elim (fun z => ⟨_, z.1⟩) (fun z => ⟨_, z.1⟩)
      show Ok _ _ _ [zi v] _ _
      refine r_if_eq (q := 20) (t := 46) dX0_addRulesByEntries_17 (by decide) rfl (fun h17 => ?_) (fun h17 => ?_)
      · skip
        rcases hz with ⟨z1, hN⟩ | ⟨z1, z2⟩
        rotate_left
        · cases z1; exact absurd h17 (by decide)
        have hN' : ∀ u, u ∈ us → Nm W mk u := fun u hm => (Nm.up (hnu u hm)).mp (hN u hm)
        refine r_iincN (q := 49) (L' := [some (zr 0 b), some (zi (nI n)), some (zi (nI (t + 1)))]) 1 rfl dX0_addRulesByEntries_46 rfl rfl (by decide) rfl ?_
        refine r_goto (q := 2) dX0_addRulesByEntries_49 (by decide) ?_
        refine Ok.mono (ih (t + 1) S14 mkn rln (by omega) (hk'.fr hE (m := (tl W n).length) (f1.mono tE2_sp)) (hl.fr f1) (fun s a b => ⟨by have := (h1 s a b).1; omega, (h1 s a b).2⟩) hu (hI.skip hW htn (Or.inr ⟨a, us, hta, hul, hus, hN'⟩))) fun r S2 z => ⟨z.1, (f1.mono tE2_sp).tr z.2.1, z.2.2⟩
      · skip
        rcases hz with ⟨z1, hN⟩ | ⟨z1, z2⟩
        · cases z1; exact absurd rfl h17
        obtain ⟨us1, us2, m, k, v0, e0, m1, m2, hk, hmk, hlv, hN, hV0, hA, hz0⟩ := z2
        have hmn : m ≠ n := by omega
        rw [up1_x hmn] at hmk
        rw [up2_x hmn] at hA
        have hlu : us1.length + 1 + us2.length = we W a := by rw [← hul, e0]; simp; omega
        have hu1 : ∀ u, u ∈ us1 → Fs (wA W) (we W) u 1 := fun u q => hus u (by rw [e0]; exact List.mem_append_left _ q)
        have hu2 : ∀ u, u ∈ us2 → Fs (wA W) (we W) u 1 := fun u q => hus u (by rw [e0]; exact List.mem_append_right _ (List.mem_cons_of_mem _ q))
        have hN' : ∀ u, u ∈ us1 → Nm W mk u := fun u q => (Nm.up (hnu u (by rw [e0]; exact List.mem_append_left _ q))).mp (hN u q)
        have hTt : (tl W n).getD t [] = cx a us1 us2 ((tl W m).getD k []) := by rw [hta, cx_flat, e0]
        have hmt : mkn t = 0 := Classical.byContradiction fun q => by have := (h1 t htn q).1; omega
        have hl1 := hl.fr f1
        refine r_aload_n (q := 21) dX0_addRulesByEntries_20 rfl rfl rfl ?_
        refine r_iload_n (q := 22) dX0_addRulesByEntries_21 rfl rfl rfl ?_
        refine r_callV (Mc := mX0_reduceVector) (q := 25) (As := [zi (nI n)]) (st := []) ck0 dX0_addRulesByEntries_22 rfl rfl mkX0_reduceVector wt865 wt867 wp39 rfl (Nat.le_of_ble_eq_true rfl) (Nat.le_of_ble_eq_true rfl) (by decide) (by decide) (by decide) (Or.inl rfl) ((hs.fr f1).e (show b < 4 by omega)) (ok_reduceVector (hs.fr f1) hb4 hn7 hl1.1 tl_nodup hP2 hP97 ((f1.1 _ _ _ (by simp [tSp])).trans hp) hV0 hl1.2.1 hl1.2.2) (fun r22 S22 hp22 => ?_)
        obtain ⟨rfl, f2, v1, hV1, hR⟩ := hp22
        have f2' := f2.mono (tSp_ve (b := b))
        have hl2 := hl1.fr f2'
        show Ok _ _ _ [] _ _
        refine r_aload_n (q := 26) dX0_addRulesByEntries_25 rfl rfl rfl ?_
        refine r_iload_n (q := 27) dX0_addRulesByEntries_26 rfl rfl rfl ?_
        refine r_iload_n (q := 28) dX0_addRulesByEntries_27 rfl rfl rfl ?_
        refine r_iconst (q := 29) (nI 1) dX0_addRulesByEntries_28 rfl (by decide) ?_
        refine r_callV (Mc := mX0_storeRule) (q := 32) (As := [zi (nI n), zi (nI t), zi (nI 1)]) (st := []) ck0 dX0_addRulesByEntries_29 rfl rfl mkX0_storeRule wt869 wt871 wp40 rfl (Nat.le_of_ble_eq_true rfl) (Nat.le_of_ble_eq_true rfl) (by decide) (by decide) (by decide) (Or.inl rfl) (((hs.fr f1).fr f2).e (show b < 4 by omega)) (ok_storeRule ((hs.fr f1).fr f2) hb4 hn7 hP2 hP97 h300 htn hl2.2.2.1 hl2.2.2.2.1 hl2.2.2.2.2.1 ((f2'.1 _ _ _ (by simp [tSp])).trans ((f1.1 _ _ _ (by simp [tSp])).trans hp)) hV1 (y := nI 1) (by decide) (bq := 1) (rs1 hP2)) (fun r29 S29 hp29 => ?_)
        obtain ⟨rfl, f3, g3⟩ := hp29
        have k0 : gI S29 103 b n = nI (tfr W n) := (f3.1 _ _ _ (by simp [tRl])).trans hl2.1.1
        show Ok _ _ _ [] _ _
        refine r_aload_n (q := 33) dX0_addRulesByEntries_32 rfl rfl rfl ?_
        refine r_getr (q := 36) (some (105, b)) ck0 dX0_addRulesByEntries_33 rfl (k := 5) (by decide) wt382 rfl ((((hs.fr f1).fr f2).fr f3).e (show b < 4 by omega)) ((((hs.fr f1).fr f2).fr f3).r (show b < 4 by omega) (by decide)) ?_
        refine r_aload_n (q := 37) dX0_addRulesByEntries_36 rfl rfl rfl ?_
        refine r_getr (q := 40) (some (103, b)) ck0 dX0_addRulesByEntries_37 rfl (k := 3) (by decide) wt380 rfl ((((hs.fr f1).fr f2).fr f3).e (show b < 4 by omega)) ((((hs.fr f1).fr f2).fr f3).r (show b < 4 by omega) (by decide)) ?_
        refine r_iload_n (q := 41) dX0_addRulesByEntries_40 rfl rfl rfl ?_
        refine r_ialdN (q := 42) 9 (by decide) rfl dX0_addRulesByEntries_41 rfl ((((hs.fr f1).fr f2).fr f3).e (show b < 4 by omega)) ((((hs.fr f1).fr f2).fr f3).n rfl (show b < 4 by omega)) (by omega) (by decide) ?_
        refine r_topi (y := nI (tfr W n)) k0 ?_
        refine r_iload_n (q := 43) dX0_addRulesByEntries_42 rfl rfl rfl ?_
        refine r_iaddN (q := 44) dX0_addRulesByEntries_43 rfl ?_
        refine r_iconst (q := 45) (nI 1) dX0_addRulesByEntries_44 rfl (by decide) ?_
        refine r_iastN (q := 46) 400 (by decide) rfl dX0_addRulesByEntries_45 rfl ((((hs.fr f1).fr f2).fr f3).e (show b < 4 by omega)) ((((hs.fr f1).fr f2).fr f3).n rfl (show b < 4 by omega)) (by omega) (by decide) ?_
        refine r_iincN (q := 49) (L' := [some (zr 0 b), some (zi (nI n)), some (zi (nI (t + 1)))]) 1 rfl dX0_addRulesByEntries_46 rfl rfl (by decide) rfl ?_
        refine r_goto (q := 2) dX0_addRulesByEntries_49 (by decide) ?_
        have hset := hl2.set (c := 1) (v := v1) (by omega) (by omega) htn f3 (fun i hi => by rw [g3 i hi, Nat.mul_one, Nat.mod_eq_of_lt (hV1 i (by omega)).2]) (fun i hi => (hV1 i (by omega)).2)
        have f4 : Fr (tE2 b (tfr W n) (rfr W n) (tl W n).length) S (sI S29 105 b (tfr W n + t) (nI 1)) := (((f1.mono tE2_sp).tr (f2'.mono tE2_sp)).tr (f3.mono (fun x y k z => tE2_en x y k (tEn_rl htn x y k z)))).i (by unfold tE2 tEn; simp; omega)
        obtain ⟨q1, q2⟩ := en_step hW htn ha hlu hu1 hu2 hlv hk hmk hN' hTt hA hz0 hR hmt (hid m k m1 m2 hk hmk) hI hu
        refine Ok.mono (ih (t + 1) _ _ _ (by omega) (hk'.fr hE f4) hset (fun s a b => ?_) q2 q1) fun r S2 z => ⟨z.1, f4.tr z.2.1, z.2.2⟩
        show s < t + 1 ∧ (if s = t then 1 else mkn s) = 1
        have b : (if s = t then 1 else mkn s) ≠ 0 := b
        by_cases e : s = t
        · rw [if_pos e]; exact ⟨by omega, rfl⟩
        · rw [if_neg e] at b ⊢
          have := h1 s a b
          exact ⟨by omega, this.2⟩

set_option maxRecDepth 100000 in
theorem ok_addRules {S : zS} {W : zWd} (hW : Wok W) {b n : Nat} (hb4 : b < 4) (hn7 : n ≤ 7) (hn1 : 1 ≤ n) {mk : Nat → Nat → Nat} {rl : Nat → Nat → Nat → Nat} (hid : ∀ m k, 1 ≤ m → m < n → k < (tl W m).length → mk m k ≠ 0 → Id W m (V (tl W m) (RC (rl m) k))) (hk : Wk S b W n mk rl) {rln : Nat → Nat → Nat} (hl : Lvl S b W n (fun _ => 0) rln) : Ok mX0_addRulesByEntries 0 (ent 3 [zr 0 b, zi (nI n)]) [] S (fun r S1 => r = none ∧ Fr (tE2 b (tfr W n) (rfr W n) (tl W n).length) S S1 ∧ ∃ mkn rln, Lvl S1 b W n mkn rln ∧ (∀ s, s < (tl W n).length → mkn s ≠ 0 → mkn s = 1 ∧ Sp (wP W) (UR W n) (V (tl W n) (RC rln s))) ∧ EnI W mk rl n mkn rln (tl W n).length) := by
  show Ok mX0_addRulesByEntries 0 [some (zr 0 b), some (zi (nI n)), none] [] S _
  refine r_iconst (q := 1) (nI 0) dX0_addRulesByEntries_0 rfl (by decide) ?_
  refine r_istore_n (q := 2) (L' := [some (zr 0 b), some (zi (nI n)), some (zi (nI 0))]) dX0_addRulesByEntries_1 rfl rfl (by decide) rfl ?_
  exact lp_rules hW hb4 hn7 hn1 hid _ 0 S (fun _ => 0) rln (Nat.zero_add _) hk hl (fun s _ a => absurd rfl a) (fun s _ a => absurd rfl a) (fun a us1 us2 m k _ _ _ _ _ _ _ _ s hs => absurd hs (by omega))

