/-! rules brought to normal trees -/
def nz (mk : Nat → Nat) (t : Nat) : Nat := sm (fun s => if mk s = 0 then 1 else 0) t
theorem nz_le {mk : Nat → Nat} : ∀ t, nz mk t ≤ t
  | 0 => Nat.le_refl _
  | t + 1 => by
    show nz mk t + (if mk t = 0 then 1 else 0) ≤ t + 1
    have := nz_le (mk := mk) t
    split <;> omega
/-- what rows under the root and by laws make -/
def UL (W : zWd) (n : Nat) (mkn : Nat → Nat) (rln : Nat → Nat → Nat) (t : Nat) (r : zL) : Prop := UR W n r ∨ ∃ s, s < t ∧ s < (tl W n).length ∧ mkn s = 2 ∧ r = V (tl W n) (RC rln s)
/-- rules settled ahead of t -/
def St (W : zWd) (n : Nat) (mkn : Nat → Nat) (r0 rln : Nat → Nat → Nat) (t : Nat) : Prop := (∀ s, s < t → s < (tl W n).length → mkn s ≠ 0 → ∀ j, j < s → mkn j ≠ 0 → rln s j = 0) ∧ (∀ u, Rw (tl W n) (mkb mkn) (RC r0) u → Sp (wP W) (Rw (tl W n) (mkb mkn) (RC rln)) u) ∧ RId W n mkn rln ∧ ∀ s, s < (tl W n).length → mkn s = 1 → Sp (wP W) (UL W n mkn rln (if s < t then t else 0)) (V (tl W n) (RC rln s))
theorem UL.mono {W : zWd} {n : Nat} {mkn : Nat → Nat} {r r' : Nat → Nat → Nat} {t t' : Nat} (ht : t ≤ t') (h : ∀ s, s < t → ∀ j, j < s → r' s j = r s j) {u : zL} (hu : UL W n mkn r t u) : UL W n mkn r' t' u := by
  rcases hu with q | ⟨s, h1, h2, h3, rfl⟩
  · exact Or.inl q
  · exact Or.inr ⟨s, by omega, h2, h3, V_cong fun j _ => (RC_cong (h s h1) j).symm⟩
theorem St.skip {W : zWd} {n t : Nat} {mkn : Nat → Nat} {r0 rln : Nat → Nat → Nat} (h : St W n mkn r0 rln t) (hm : mkn t = 0) : St W n mkn r0 rln (t + 1) := by
  obtain ⟨h1, h2, h3, h4⟩ := h
  refine ⟨fun s hs hs2 hms => h1 s (by
    rcases Nat.lt_or_eq_of_le (Nat.le_of_lt_succ hs) with q | q
    · exact q
    · rw [q] at hms; exact absurd hm hms) hs2 hms, h2, h3, fun s hs hm1 => (h4 s hs hm1).mono fun u hu => ?_⟩
  have hst : s ≠ t := fun z => by rw [z, hm] at hm1; omega
  by_cases q : s < t
  · rw [if_pos q] at hu
    rw [if_pos (by omega)]
    exact hu.mono (by omega) (fun _ _ _ _ => rfl)
  · rw [if_neg q] at hu
    rw [if_neg (by omega)]
    exact hu
theorem St.step {W : zWd} {n t : Nat} (htn : t < (tl W n).length) {mkn : Nat → Nat} {r0 rln : Nat → Nat → Nat} (h : St W n mkn r0 rln t) (hm : mkn t ≠ 0) (hm2 : ∀ s, s < (tl W n).length → mkn s ≤ 2) {v1 : Nat → Nat} (hR : RedS (tl W n) (wP W) mkn rln (fun j => if j < t then rln t j else 0) v1) : St W n mkn r0 (fun s j => if s = t then v1 j else rln s j) (t + 1) := by
  obtain ⟨h1, h2, h3, h4⟩ := h
  have hnd : (tl W n).Nodup := tl_nodup
  obtain ⟨hz1, hc⟩ := hR.2 t (fun j hj _ => if_neg (by omega))
  have hx : ∀ s, s ≠ t → V (tl W n) (RC (fun s j => if s = t then v1 j else rln s j) s) = V (tl W n) (RC rln s) := fun s hs => V_cong fun j _ => RC_cong (fun k _ => if_neg hs) j
  have hO : Li (wP W) (V (tl W n) (RC rln t)) (((tl W n).getD t [], 1) :: scl (-1) (Vn (tl W n) (fun j => if j < t then rln t j else 0))) := row_vec hnd htn (fun j hj => (if_pos hj).symm) (fun j hj _ => if_neg (by omega))
  have hN : Li (wP W) (V (tl W n) (RC (fun s j => if s = t then v1 j else rln s j) t)) (((tl W n).getD t [], 1) :: scl (-1) (Vn (tl W n) v1)) := row_vec hnd htn (fun j _ => if_pos rfl) hz1
  have hON : ∀ (G : zL → Prop), Cg (wP W) G (Vn (tl W n) (fun j => if j < t then rln t j else 0)) (Vn (tl W n) v1) → Cg (wP W) G (V (tl W n) (RC rln t)) (V (tl W n) (RC (fun s j => if s = t then v1 j else rln s j) t)) := fun G g => ((Cg.of hO).tr (Cg.app (u := [((tl W n).getD t [], 1)]) (w := [((tl W n).getD t [], 1)]) Cg.rf (g.sc (-1)))).tr (Cg.of hN.sy)
  have hK : ∀ u, RwK (tl W n) mkn rln t u → Rw (tl W n) (mkb mkn) (RC (fun s j => if s = t then v1 j else rln s j)) u := fun u hu => by
    obtain ⟨s, s0, s1, s2, rfl⟩ := hu
    exact ⟨s, s1, mkb_t.mpr s2, (hx s (by omega)).symm⟩
  refine ⟨fun s hs hs2 hms j hj hmj => ?_, fun u hu => Sp.le (h2 u hu) fun w hw => ?_, fun s hs hms => ?_, fun s hs hm1 => ?_⟩
  · show (if s = t then v1 j else rln s j) = 0
    by_cases e : s = t
    · rw [if_pos e]; exact hR.1 j (by omega) hmj
    · rw [if_neg e]; exact h1 s (by omega) hs2 hms j hj hmj
  · obtain ⟨s, s1, s2, rfl⟩ := hw
    by_cases e : s = t
    · subst e
      exact (hON _ (hc.mono hK)).sp (Sp.gen ⟨s, s1, s2, rfl⟩)
    · rw [← hx s e]; exact Sp.gen ⟨s, s1, s2, rfl⟩
  · by_cases e : s = t
    · subst e
      refine (Cg.sy (hON _ (hc.le (H := Gn W n) fun u hu => ?_))).sp (h3 s hs hms)
      obtain ⟨s', _, s1, s2, rfl⟩ := hu
      exact h3 s' s1 s2
    · rw [hx s e]; exact h3 s hs hms
  · by_cases e : s = t
    · subst e
      rw [if_pos (by omega)]
      refine (Cg.sy (hON (UL W n mkn (fun s' j => if s' = s then v1 j else rln s' j) (s + 1)) (hc.le fun u hu => ?_))).sp ?_
      · obtain ⟨s', s0, s1, s2, rfl⟩ := hu
        have := hm2 s' s1
        by_cases q : mkn s' = 2
        · exact Sp.gen (Or.inr ⟨s', by omega, s1, q, (hx s' (by omega)).symm⟩)
        · have h5 := h4 s' s1 (by omega)
          rw [if_pos s0] at h5
          exact h5.mono fun w hw => hw.mono (by omega) (fun s2 h6 j _ => if_neg (by omega))
      · have h5 := h4 s hs hm1
        rw [if_neg (by omega)] at h5
        exact h5.mono fun w hw => hw.mono (by omega) (fun s2 h6 j _ => absurd h6 (by omega))
    · rw [hx s e]
      refine (h4 s hs hm1).mono fun u hu => ?_
      by_cases q : s < t
      · rw [if_pos q] at hu
        rw [if_pos (by omega)]
        exact hu.mono (by omega) (fun s2 h6 j _ => if_neg (by omega))
      · rw [if_neg q] at hu
        rw [if_neg (by omega)]
        exact hu.mono (by omega) (fun s2 h6 j _ => absurd h6 (by omega))
def tSt (b f0 rf m n x y k : Nat) : Bool := tE2 b f0 rf m x y k || x == 108 && y == b && k == n
theorem tSt_e {b f0 rf m n : Nat} (x y k : Nat) (h : tE2 b f0 rf m x y k = true) : tSt b f0 rf m n x y k = true := by simp [tSt, h]
theorem Fr.st {S S1 : zS} {b f0 rf m n : Nat} (h : Fr (tSt b f0 rf m n) S S1) {x y k : Nat} (hx : tE2 b f0 rf m x y k = false) (h8 : x ≠ 108) : gI S1 x y k = gI S x y k := h.1 _ _ _ (by simp [tSt, hx]; omega)
theorem Wk.st {S S1 : zS} {b n m : Nat} {W : zWd} (hE : Eok (wA W) (we W)) {mk : Nat → Nat → Nat} {rl : Nat → Nat → Nat → Nat} (h : Wk S b W n mk rl) {q : Int32} (e : S1 = sI S 108 b n q) : Wk S1 b W n mk rl := by
  subst e
  have f : Fr (fun x y k => x == 108 && y == b) S (sI S 108 b n q) := (Fr.rf).i (by simp)
  exact ⟨h.1.fr f, h.2.1.fr f (fun x k h1 h2 => by simp; omega), h.2.2.1.fr f (fun k => ⟨by simp, by simp⟩), (f.1 _ _ _ (by simp)).trans h.2.2.2⟩
theorem Lvl.s8 {S : zS} {b n : Nat} {W : zWd} {mkn : Nat → Nat} {rln : Nat → Nat → Nat} (h : Lvl S b W n mkn rln) {q : Int32} : Lvl (sI S 108 b n q) b W n mkn rln := by
  have f : Fr (fun x y k => x == 108 && y == b) S (sI S 108 b n q) := (Fr.rf).i (by simp)
  exact ⟨h.1.fr f (fun k => ⟨by simp, by simp⟩), h.2.1.fr f (fun k => by simp), h.2.2.fr f (fun k => ⟨by simp, by simp⟩)⟩

theorem sI_same {S : zS} {a b k : Nat} {v : Int32} (h : gI S a b k = v) : sI S a b k v = S := by
  refine Prod.ext ?_ rfl
  funext x y z
  show (if x = a ∧ y = b ∧ z = k then v else S.1 x y z) = S.1 x y z
  by_cases e : x = a ∧ y = b ∧ z = k
  · rw [if_pos e, ← h, e.1, e.2.1, e.2.2]; rfl
  · rw [if_neg e]

set_option maxRecDepth 100000 in
theorem lp_settle {W : zWd} (hW : Wok W) {b n : Nat} (hb4 : b < 4) (hn7 : n ≤ 7) (hn1 : 1 ≤ n) {mk : Nat → Nat → Nat} {rl : Nat → Nat → Nat → Nat} {mkn : Nat → Nat} {r0 : Nat → Nat → Nat} : ∀ (d t : Nat) (S : zS) (rln : Nat → Nat → Nat), t + d = (tl W n).length → Wk S b W n mk rl → Lvl S b W n mkn rln → gI S 108 b n = nI (nz mkn t) → St W n mkn r0 rln t → Ok mX0_settleRules 9 [some (zr 0 b), some (zi (nI n)), some (zi (nI t))] [] S (fun r S1 => r = none ∧ Fr (tSt b (tfr W n) (rfr W n) (tl W n).length n) S S1 ∧ gI S1 108 b n = nI (nz mkn (tl W n).length) ∧ ∃ rl1, Lvl S1 b W n mkn rl1 ∧ St W n mkn r0 rl1 (tl W n).length) := by
  have hE := hW.2.1
  have hP2 := hW.1.1
  have hP97 := hW.1.2.1
  intro d
  induction d with
  | zero =>
    intro t S rln ht hk hl h8 hst
    obtain rfl : t = (tl W n).length := by omega
    have hs := hk.1
    have h300 := hl.1.2.2.2.1
    refine r_iload_n (q := 10) dX0_settleRules_9 rfl rfl rfl ?_
    refine r_aload_n (q := 11) dX0_settleRules_10 rfl rfl rfl ?_
    refine r_iload_n (q := 12) dX0_settleRules_11 rfl rfl rfl ?_
    refine r_callV (Mc := mX0_treesOf) (q := 15) (As := [zi (nI n)]) (st := [zi (nI ((tl W n).length))]) ck0 dX0_settleRules_12 rfl rfl mkX0_treesOf wt788 wt789 wt790 rfl (Nat.le_of_ble_eq_true rfl) (Nat.le_of_ble_eq_true rfl) (by decide) (by decide) (by decide) (Or.inl rfl) (hs.e (show b < 4 by omega)) (ok_treesOf hs hb4 hn7 hl.1) (fun r12 S12 hp12 => ?_)
    obtain ⟨rfl, hq12⟩ := hp12
    rw [hq12]
    show Ok _ _ _ [zi (nI ((tl W n).length)), zi (nI ((tl W n).length))] _ _
    refine r_icmp_geN (q := 18) (t := 64) (by omega) (by omega) dX0_settleRules_15 (by decide) rfl (fun h15 => ?_) (fun h15 => absurd h15 (by omega))
    refine r_return dX0_settleRules_64 rfl ?_
    exact ⟨rfl, Fr.rf, h8, rln, hl, hst⟩
  | succ d ih =>
    intro t S rln ht hk hl h8 hst
    have hs := hk.1
    have h300 := hl.1.2.2.2.1
    have h400 := hl.1.2.2.1
    have htn : t < (tl W n).length := by omega
    have hnz := nz_le (mk := mkn) t
    have hsz : nz mkn (t + 1) = nz mkn t + (if mkn t = 0 then 1 else 0) := rfl
    by_cases hm0 : mkn t = 0
    · skip
      refine r_iload_n (q := 10) dX0_settleRules_9 rfl rfl rfl ?_
      refine r_aload_n (q := 11) dX0_settleRules_10 rfl rfl rfl ?_
      refine r_iload_n (q := 12) dX0_settleRules_11 rfl rfl rfl ?_
      refine r_callV (Mc := mX0_treesOf) (q := 15) (As := [zi (nI n)]) (st := [zi (nI t)]) ck0 dX0_settleRules_12 rfl rfl mkX0_treesOf wt788 wt789 wt790 rfl (Nat.le_of_ble_eq_true rfl) (Nat.le_of_ble_eq_true rfl) (by decide) (by decide) (by decide) (Or.inl rfl) (hs.e (show b < 4 by omega)) (ok_treesOf hs hb4 hn7 hl.1) (fun r12 S12 hp12 => ?_)
      obtain ⟨rfl, hq12⟩ := hp12
      rw [hq12]
      show Ok _ _ _ [zi (nI ((tl W n).length)), zi (nI t)] _ _
      refine r_icmp_geN (q := 18) (t := 64) (by omega) (by omega) dX0_settleRules_15 (by decide) rfl (fun h15 => absurd h15 (by omega)) (fun h15 => ?_)
      refine r_aload_n (q := 19) dX0_settleRules_18 rfl rfl rfl ?_
      refine r_iload_n (q := 20) dX0_settleRules_19 rfl rfl rfl ?_
      refine r_iload_n (q := 21) dX0_settleRules_20 rfl rfl rfl ?_
      refine r_callV (Mc := mX0_isNormal) (q := 24) (As := [zi (nI n), zi (nI t)]) (st := []) ck0 dX0_settleRules_21 rfl rfl mkX0_isNormal wt844 wt845 wt846 rfl (Nat.le_of_ble_eq_true rfl) (Nat.le_of_ble_eq_true rfl) (by decide) (by decide) (by decide) (Or.inl rfl) (hs.e (show b < 4 by omega)) (ok_isNormal hs hb4 hn7 hl.1 hl.2.1 htn) (fun r21 S21 hp21 => ?_)
      obtain ⟨rfl, hq21⟩ := hp21
      rw [hq21]
      rw [if_pos hm0]
      show Ok _ _ _ [zi (nI 1)] _ _
      refine r_if_eqN (q := 27) (t := 40) (by omega) dX0_settleRules_24 (by decide) rfl (fun h24 => absurd h24 (by omega)) (fun h24 => ?_)
      refine r_aload_n (q := 28) dX0_settleRules_27 rfl rfl rfl ?_
      refine r_getr (q := 31) (some (108, b)) ck0 dX0_settleRules_28 rfl (k := 8) (by decide) wt385 rfl (hs.e (show b < 4 by omega)) (hs.r (show b < 4 by omega) (by decide)) ?_
      refine r_iload_n (q := 32) dX0_settleRules_31 rfl rfl rfl ?_
      refine r_dup2 (q := 33) dX0_settleRules_32 rfl rfl rfl ?_
      refine r_ialdN (q := 34) 8 (by decide) rfl dX0_settleRules_33 rfl (hs.e (show b < 4 by omega)) (hs.n rfl (show b < 4 by omega)) (by omega) (by decide) ?_
      refine r_topi (y := nI (nz mkn t)) h8 ?_
      refine r_iconst (q := 35) (nI 1) dX0_settleRules_34 rfl (by decide) ?_
      refine r_iaddN (q := 36) dX0_settleRules_35 rfl ?_
      refine r_iastN (q := 37) 8 (by decide) rfl dX0_settleRules_36 rfl (hs.e (show b < 4 by omega)) (hs.n rfl (show b < 4 by omega)) (by omega) (by decide) ?_
      refine r_goto (q := 58) dX0_settleRules_37 (by decide) ?_
      refine r_iincN (q := 61) (L' := [some (zr 0 b), some (zi (nI n)), some (zi (nI (t + 1)))]) 1 rfl dX0_settleRules_58 rfl rfl (by decide) rfl ?_
      refine r_goto (q := 9) dX0_settleRules_61 (by decide) ?_
      have f1 : Fr (tSt b (tfr W n) (rfr W n) (tl W n).length n) S (sI S 108 b n (nI (nz mkn t + 1))) := (Fr.rf).i (by simp [tSt])
      exact Ok.mono (ih (t + 1) _ rln (by omega) (hk.st hE (m := 0) rfl) hl.s8 (by rw [gI_sI, if_pos ⟨rfl, rfl, rfl⟩, hsz, if_pos hm0]) (hst.skip hm0)) fun r S2 z => ⟨z.1, f1.tr z.2.1, z.2.2⟩
    · skip
      refine r_iload_n (q := 10) dX0_settleRules_9 rfl rfl rfl ?_
      refine r_aload_n (q := 11) dX0_settleRules_10 rfl rfl rfl ?_
      refine r_iload_n (q := 12) dX0_settleRules_11 rfl rfl rfl ?_
      refine r_callV (Mc := mX0_treesOf) (q := 15) (As := [zi (nI n)]) (st := [zi (nI t)]) ck0 dX0_settleRules_12 rfl rfl mkX0_treesOf wt788 wt789 wt790 rfl (Nat.le_of_ble_eq_true rfl) (Nat.le_of_ble_eq_true rfl) (by decide) (by decide) (by decide) (Or.inl rfl) (hs.e (show b < 4 by omega)) (ok_treesOf hs hb4 hn7 hl.1) (fun r12 S12 hp12 => ?_)
      obtain ⟨rfl, hq12⟩ := hp12
      rw [hq12]
      show Ok _ _ _ [zi (nI ((tl W n).length)), zi (nI t)] _ _
      refine r_icmp_geN (q := 18) (t := 64) (by omega) (by omega) dX0_settleRules_15 (by decide) rfl (fun h15 => absurd h15 (by omega)) (fun h15 => ?_)
      refine r_aload_n (q := 19) dX0_settleRules_18 rfl rfl rfl ?_
      refine r_iload_n (q := 20) dX0_settleRules_19 rfl rfl rfl ?_
      refine r_iload_n (q := 21) dX0_settleRules_20 rfl rfl rfl ?_
      refine r_callV (Mc := mX0_isNormal) (q := 24) (As := [zi (nI n), zi (nI t)]) (st := []) ck0 dX0_settleRules_21 rfl rfl mkX0_isNormal wt844 wt845 wt846 rfl (Nat.le_of_ble_eq_true rfl) (Nat.le_of_ble_eq_true rfl) (by decide) (by decide) (by decide) (Or.inl rfl) (hs.e (show b < 4 by omega)) (ok_isNormal hs hb4 hn7 hl.1 hl.2.1 htn) (fun r21 S21 hp21 => ?_)
      obtain ⟨rfl, hq21⟩ := hp21
      rw [hq21]
      rw [if_neg hm0]
      show Ok _ _ _ [zi (nI 0)] _ _
      refine r_if_eqN (q := 27) (t := 40) (by omega) dX0_settleRules_24 (by decide) rfl (fun h24 => ?_) (fun h24 => absurd h24 (by omega))
      refine r_aload_n (q := 41) dX0_settleRules_40 rfl rfl rfl ?_
      refine r_iload_n (q := 42) dX0_settleRules_41 rfl rfl rfl ?_
      refine r_iload_n (q := 43) dX0_settleRules_42 rfl rfl rfl ?_
      refine r_callV (Mc := mX0_loadRule) (q := 46) (As := [zi (nI n), zi (nI t)]) (st := []) ck0 dX0_settleRules_43 rfl rfl mkX0_loadRule wt897 wt899 wp46 rfl (Nat.le_of_ble_eq_true rfl) (Nat.le_of_ble_eq_true rfl) (by decide) (by decide) (by decide) (Or.inl rfl) (hs.e (show b < 4 by omega)) (ok_loadRule hs hb4 hn7 hl.1 (by omega) hl.2.2 htn hm0) (fun r43 S43 hp43 => ?_)
      obtain ⟨rfl, f1, hV0⟩ := hp43
      have f1' := f1.mono (tSp_ve (b := b))
      have hl1 := hl.fr f1'
      show Ok _ _ _ [] _ _
      refine r_aload_n (q := 47) dX0_settleRules_46 rfl rfl rfl ?_
      refine r_iload_n (q := 48) dX0_settleRules_47 rfl rfl rfl ?_
      refine r_callV (Mc := mX0_reduceVector) (q := 51) (As := [zi (nI n)]) (st := []) ck0 dX0_settleRules_48 rfl rfl mkX0_reduceVector wt865 wt867 wp39 rfl (Nat.le_of_ble_eq_true rfl) (Nat.le_of_ble_eq_true rfl) (by decide) (by decide) (by decide) (Or.inl rfl) ((hs.fr f1).e (show b < 4 by omega)) (ok_reduceVector (hs.fr f1) hb4 hn7 hl1.1 tl_nodup hP2 hP97 ((f1.1 _ _ _ rfl).trans hk.2.2.2) hV0 hl1.2.1 hl1.2.2) (fun r48 S48 hp48 => ?_)
      obtain ⟨rfl, f2, v1, hV1, hR⟩ := hp48
      have f2' := f2.mono (tSp_ve (b := b))
      have hl2 := hl1.fr f2'
      show Ok _ _ _ [] _ _
      refine r_aload_n (q := 52) dX0_settleRules_51 rfl rfl rfl ?_
      refine r_iload_n (q := 53) dX0_settleRules_52 rfl rfl rfl ?_
      refine r_iload_n (q := 54) dX0_settleRules_53 rfl rfl rfl ?_
      refine r_iconst (q := 55) (nI 1) dX0_settleRules_54 rfl (by decide) ?_
      refine r_callV (Mc := mX0_storeRule) (q := 58) (As := [zi (nI n), zi (nI t), zi (nI 1)]) (st := []) ck0 dX0_settleRules_55 rfl rfl mkX0_storeRule wt869 wt871 wp40 rfl (Nat.le_of_ble_eq_true rfl) (Nat.le_of_ble_eq_true rfl) (by decide) (by decide) (by decide) (Or.inl rfl) (((hs.fr f1).fr f2).e (show b < 4 by omega)) (ok_storeRule ((hs.fr f1).fr f2) hb4 hn7 hP2 hP97 h300 htn hl2.2.2.1 hl2.2.2.2.1 hl2.2.2.2.2.1 ((f2.1 _ _ _ rfl).trans ((f1.1 _ _ _ rfl).trans hk.2.2.2)) hV1 (y := nI 1) (by decide) (bq := 1) (rs1 hP2)) (fun r55 S55 hp55 => ?_)
      obtain ⟨rfl, f3, g3⟩ := hp55
      show Ok _ _ _ [] _ _
      refine r_iincN (q := 61) (L' := [some (zr 0 b), some (zi (nI n)), some (zi (nI (t + 1)))]) 1 rfl dX0_settleRules_58 rfl rfl (by decide) rfl ?_
      refine r_goto (q := 9) dX0_settleRules_61 (by decide) ?_
      have hset := hl2.set (c := mkn t) (v := v1) (hl.2.1 t htn).2 (by omega) htn f3 (fun i hi => by rw [g3 i hi, Nat.mul_one, Nat.mod_eq_of_lt (hV1 i (by omega)).2]) (fun i hi => (hV1 i (by omega)).2)
      have em : (fun s => if s = t then mkn t else mkn s) = mkn := funext fun s => by by_cases e : s = t <;> simp [e]
      have e5 : sI S55 105 b (tfr W n + t) (nI (mkn t)) = S55 := by
        refine sI_same ?_
        rw [f3.1 _ _ _ (by simp [tRl])]; exact (hl2.2.1 t htn).1
      rw [em, e5] at hset
      have f4 : Fr (tE2 b (tfr W n) (rfr W n) (tl W n).length) S S55 := ((f1'.mono tE2_sp).tr (f2'.mono tE2_sp)).tr (f3.mono (fun x y k z => tE2_en x y k (tEn_rl htn x y k z)))
      exact Ok.mono (ih (t + 1) S55 _ (by omega) (hk.fr hE f4) hset (by rw [f4.1 _ _ _ (tE2_n (by omega)), h8, hsz, if_neg hm0, Nat.add_zero]) (hst.step htn hm0 (fun s hs => (hl.2.1 s hs).2) hR)) fun r S2 z => ⟨z.1, (f4.mono tSt_e).tr z.2.1, z.2.2⟩

set_option maxRecDepth 100000 in
theorem ok_settleRules {S : zS} {W : zWd} (hW : Wok W) {b n : Nat} (hb4 : b < 4) (hn7 : n ≤ 7) (hn1 : 1 ≤ n) {mk : Nat → Nat → Nat} {rl : Nat → Nat → Nat → Nat} (hk : Wk S b W n mk rl) {mkn : Nat → Nat} {rln : Nat → Nat → Nat} (hl : Lvl S b W n mkn rln) (hr : RId W n mkn rln) (h1u : ∀ s, s < (tl W n).length → mkn s = 1 → Sp (wP W) (UR W n) (V (tl W n) (RC rln s))) : Ok mX0_settleRules 0 (ent 3 [zr 0 b, zi (nI n)]) [] S (fun r S1 => r = none ∧ Fr (tSt b (tfr W n) (rfr W n) (tl W n).length n) S S1 ∧ gI S1 108 b n = nI (nz mkn (tl W n).length) ∧ ∃ rl1, Lvl S1 b W n mkn rl1 ∧ St W n mkn rln rl1 (tl W n).length) := by
  have hs := hk.1
  show Ok mX0_settleRules 0 [some (zr 0 b), some (zi (nI n)), none] [] S _
  refine r_aload_n (q := 1) dX0_settleRules_0 rfl rfl rfl ?_
  refine r_getr (q := 4) (some (108, b)) ck0 dX0_settleRules_1 rfl (k := 8) (by decide) wt385 rfl (hs.e (show b < 4 by omega)) (hs.r (show b < 4 by omega) (by decide)) ?_
  refine r_iload_n (q := 5) dX0_settleRules_4 rfl rfl rfl ?_
  refine r_iconst (q := 6) (nI 0) dX0_settleRules_5 rfl (by decide) ?_
  refine r_iastN (q := 7) 8 (by decide) rfl dX0_settleRules_6 rfl (hs.e (show b < 4 by omega)) (hs.n rfl (show b < 4 by omega)) (by omega) (by decide) ?_
  refine r_iconst (q := 8) (nI 0) dX0_settleRules_7 rfl (by decide) ?_
  refine r_istore_n (q := 9) (L' := [some (zr 0 b), some (zi (nI n)), some (zi (nI 0))]) dX0_settleRules_8 rfl rfl (by decide) rfl ?_
  have f1 : Fr (tSt b (tfr W n) (rfr W n) (tl W n).length n) S (sI S 108 b n (nI 0)) := (Fr.rf).i (by simp [tSt])
  exact Ok.mono (lp_settle hW hb4 hn7 hn1 _ 0 (sI S 108 b n (nI 0)) rln (Nat.zero_add _) (hk.st hW.2.1 (m := 0) rfl) hl.s8 (by rw [gI_sI, if_pos ⟨rfl, rfl, rfl⟩]; rfl) ⟨fun s h => absurd h (by omega), fun u hu => Sp.gen hu, hr, fun s h1 h2 => by rw [if_neg (by omega)]; exact (h1u s h1 h2).mono fun u hu => Or.inl hu⟩) fun r S2 z => ⟨z.1, f1.tr z.2.1, z.2.2⟩

