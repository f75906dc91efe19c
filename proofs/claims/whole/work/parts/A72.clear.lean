/-! dual: the class clears its rows -/
def tGr (a _b _k : Nat) : Bool := a == 10300
def tGo (r0 a b _k : Nat) : Bool := a == 10300 && b == r0
theorem Fr.go {r0 : Nat} {S S1 : zS} (f : Fr (tGo r0) S S1) : Fr tGr S S1 := f.mono (fun a b k z => by simp [tGo] at z; simp [tGr, z.1])
/-- numbers below P in L rows and n columns -/
def Gd (S : zS) (L n P : Nat) (g : Nat → Nat → Nat) : Prop := ∀ r c, r < L → c < n → gI S 10300 r c = nI (g r c) ∧ g r c < P
theorem nI_sub_toInt {a b : Nat} (ha : a < 1000000) (hb : b < 1000000) : (nI a - nI b).toInt = (a : Int) - (b : Int) := by
  rw [Int32.toInt_sub, nI_toInt (by omega), nI_toInt (by omega)]
  exact Int.bmod_eq_of_le (by omega) (by omega)
theorem rsN_dvd {x : Int32} {P : Nat} (hP : 0 < P) : (P : Int) ∣ (rsN x P : Int) - x.toInt := by
  unfold rsN
  rw [Int.toNat_of_nonneg (Int.emod_nonneg _ (by omega))]
  have := Int.emod_add_mul_ediv x.toInt P
  exact ⟨-(x.toInt / P), by rw [Int.mul_neg]; omega⟩
theorem rs_sub {P a b : Nat} (hP : 0 < P) (ha : a < 1000000) (hb : b < 1000000) : (P : Int) ∣ (rsN (nI a - nI b) P : Int) - ((a : Int) - (b : Int)) := by
  have := rsN_dvd (x := nI a - nI b) hP
  rw [nI_sub_toInt ha hb] at this
  exact this

set_option maxRecDepth 100000 in
theorem lp_sw2 {one other : Nat} (h1 : one < 18) (h2 : other < 18) {S0 : zS} : ∀ (d i : Nat) (S : zS) (w4 : Option zV), i + d = 18 → Sd S → Fr tGr S0 S → (∀ r c, c < 18 → gI S 10300 r c = if c < i then (if r = one then gI S0 10300 other c else if r = other then gI S0 10300 one c else gI S0 10300 r c) else gI S0 10300 r c) → Ok mX2_swapRows 2 [some (zr 2 0), some (zi (nI one)), some (zi (nI other)), some (zi (nI i)), w4] [] S (fun z S1 => z = none ∧ Fr tGr S0 S1 ∧ ∀ r c, c < 18 → gI S1 10300 r c = (if r = one then gI S0 10300 other c else if r = other then gI S0 10300 one c else gI S0 10300 r c)) := by
  intro d
  induction d with
  | zero =>
    intro i S w4 hi hs f0 hD
    obtain rfl : i = 18 := by omega
    refine r_mask [true, true, true, true, false] rfl ?_
    refine r_iload_n (q := 3) dX2_swapRows_2 rfl rfl rfl ?_
    refine r_bipush (q := 5) (nI 18) dX2_swapRows_3 rfl (by decide) ?_
    refine r_icmp_geN (q := 8) (t := 50) (by omega) (by omega) dX2_swapRows_5 (by decide) rfl (fun h5 => ?_) (fun h5 => absurd h5 (by omega))
    refine r_return dX2_swapRows_50 rfl ?_
    exact ⟨rfl, f0, fun r c hc => by rw [hD r c hc, if_pos hc]⟩
  | succ d ih =>
    intro i S w4 hi hs f0 hD
    have hi18 : i < 18 := by omega
    have e1 : gI S 10300 one i = gI S0 10300 one i := by rw [hD one i hi18, if_neg (Nat.lt_irrefl _)]
    have e2 : gI S 10300 other i = gI S0 10300 other i := by rw [hD other i hi18, if_neg (Nat.lt_irrefl _)]
    refine r_mask [true, true, true, true, false] rfl ?_
    refine r_iload_n (q := 3) dX2_swapRows_2 rfl rfl rfl ?_
    refine r_bipush (q := 5) (nI 18) dX2_swapRows_3 rfl (by decide) ?_
    refine r_icmp_geN (q := 8) (t := 50) (by omega) (by omega) dX2_swapRows_5 (by decide) rfl (fun h5 => absurd h5 (by omega)) (fun h5 => ?_)
    refine r_aload_n (q := 9) dX2_swapRows_8 rfl rfl rfl ?_
    refine r_getr (q := 12) (some (300, 0)) ck2 dX2_swapRows_9 rfl (k := 0) (by decide) wt271 rfl (hs.e (by decide)) (hs.r (by decide) (by decide)) ?_
    refine r_iload_n (q := 13) dX2_swapRows_12 rfl rfl rfl ?_
    refine r_aaldN (q := 14) (some (10300, one)) 18 (by decide) (by decide) (by decide) dX2_swapRows_13 rfl (hs.e (by decide)) (hs.n rfl (by decide)) (show one < 18 by omega) (by decide) ((hs.r (by decide) (show one < 18 by omega)).trans (if_pos (show one < 18 by omega))) ?_
    refine r_iload_n (q := 15) dX2_swapRows_14 rfl rfl rfl ?_
    refine r_ialdN (q := 16) 18 (by decide) rfl dX2_swapRows_15 rfl (hs.e (show one < 18 by omega)) (hs.n rfl (show one < 18 by omega)) (by omega) (by decide) ?_
    refine r_istore (q := 18) (L' := [some (zr 2 0), some (zi (nI one)), some (zi (nI other)), some (zi (nI i)), some (zi (gI S 10300 one i))]) dX2_swapRows_16 rfl (by decide) rfl ?_
    refine r_aload_n (q := 19) dX2_swapRows_18 rfl rfl rfl ?_
    refine r_getr (q := 22) (some (300, 0)) ck2 dX2_swapRows_19 rfl (k := 0) (by decide) wt271 rfl (hs.e (by decide)) (hs.r (by decide) (by decide)) ?_
    refine r_iload_n (q := 23) dX2_swapRows_22 rfl rfl rfl ?_
    refine r_aaldN (q := 24) (some (10300, one)) 18 (by decide) (by decide) (by decide) dX2_swapRows_23 rfl (hs.e (by decide)) (hs.n rfl (by decide)) (show one < 18 by omega) (by decide) ((hs.r (by decide) (show one < 18 by omega)).trans (if_pos (show one < 18 by omega))) ?_
    refine r_iload_n (q := 25) dX2_swapRows_24 rfl rfl rfl ?_
    refine r_aload_n (q := 26) dX2_swapRows_25 rfl rfl rfl ?_
    refine r_getr (q := 29) (some (300, 0)) ck2 dX2_swapRows_26 rfl (k := 0) (by decide) wt271 rfl (hs.e (by decide)) (hs.r (by decide) (by decide)) ?_
    refine r_iload_n (q := 30) dX2_swapRows_29 rfl rfl rfl ?_
    refine r_aaldN (q := 31) (some (10300, other)) 18 (by decide) (by decide) (by decide) dX2_swapRows_30 rfl (hs.e (by decide)) (hs.n rfl (by decide)) (show other < 18 by omega) (by decide) ((hs.r (by decide) (show other < 18 by omega)).trans (if_pos (show other < 18 by omega))) ?_
    refine r_iload_n (q := 32) dX2_swapRows_31 rfl rfl rfl ?_
    refine r_ialdN (q := 33) 18 (by decide) rfl dX2_swapRows_32 rfl (hs.e (show other < 18 by omega)) (hs.n rfl (show other < 18 by omega)) (by omega) (by decide) ?_
    refine r_iastN (q := 34) 18 (by decide) rfl dX2_swapRows_33 rfl (hs.e (show one < 18 by omega)) (hs.n rfl (show one < 18 by omega)) (by omega) (by decide) ?_
    refine r_aload_n (q := 35) dX2_swapRows_34 rfl rfl rfl ?_
    refine r_getr (q := 38) (some (300, 0)) ck2 dX2_swapRows_35 rfl (k := 0) (by decide) wt271 rfl (hs.e (by decide)) (hs.r (by decide) (by decide)) ?_
    refine r_iload_n (q := 39) dX2_swapRows_38 rfl rfl rfl ?_
    refine r_aaldN (q := 40) (some (10300, other)) 18 (by decide) (by decide) (by decide) dX2_swapRows_39 rfl (hs.e (by decide)) (hs.n rfl (by decide)) (show other < 18 by omega) (by decide) ((hs.r (by decide) (show other < 18 by omega)).trans (if_pos (show other < 18 by omega))) ?_
    refine r_iload_n (q := 41) dX2_swapRows_40 rfl rfl rfl ?_
    refine r_iload (q := 43) dX2_swapRows_41 rfl rfl ?_
    refine r_iastN (q := 44) 18 (by decide) rfl dX2_swapRows_43 rfl (hs.e (show other < 18 by omega)) (hs.n rfl (show other < 18 by omega)) (by omega) (by decide) ?_
    refine r_iincN (q := 47) (L' := [some (zr 2 0), some (zi (nI one)), some (zi (nI other)), some (zi (nI (i + 1))), some (zi (gI S 10300 one i))]) 1 rfl dX2_swapRows_44 rfl rfl (by decide) rfl ?_
    refine r_goto (q := 2) dX2_swapRows_47 (by decide) ?_
    refine ih (i + 1) (sI (sI S 10300 one i (gI S 10300 other i)) 10300 other i (gI S 10300 one i)) _ (by omega) hs ((f0.i rfl).i rfl) (fun r c hc => ?_)
    rw [gI_sI, gI_sI]
    by_cases ec : c = i
    · rw [ec, if_pos (show i < i + 1 by omega)]
      by_cases er : r = other
      · rw [if_pos ⟨rfl, er, rfl⟩, e1]
        by_cases eo : r = one
        · rw [if_pos eo, ← er, eo]
        · rw [if_neg eo, if_pos er]
      · rw [if_neg (fun z => er z.2.1)]
        by_cases eo : r = one
        · rw [if_pos ⟨rfl, eo, rfl⟩, if_pos eo, e2]
        · rw [if_neg (fun z => eo z.2.1), if_neg eo, if_neg er, hD r i hi18, if_neg (Nat.lt_irrefl _)]
    · rw [if_neg (fun z => ec z.2.2), if_neg (fun z => ec z.2.2), hD r c hc]
      by_cases el : c < i
      · rw [if_pos el, if_pos (show c < i + 1 by omega)]
      · rw [if_neg el, if_neg (show ¬ c < i + 1 by omega)]

set_option maxRecDepth 100000 in
theorem ok_swapRows {S0 : zS} (hs : Sd S0) {one other : Nat} (h1 : one < 18) (h2 : other < 18) : Ok mX2_swapRows 0 (ent 5 [zr 2 0, zi (nI one), zi (nI other)]) [] S0 (fun z S1 => z = none ∧ Fr tGr S0 S1 ∧ ∀ r c, c < 18 → gI S1 10300 r c = (if r = one then gI S0 10300 other c else if r = other then gI S0 10300 one c else gI S0 10300 r c)) := by
  show Ok mX2_swapRows 0 [some (zr 2 0), some (zi (nI one)), some (zi (nI other)), none, none] [] S0 _
  refine r_iconst (q := 1) (nI 0) dX2_swapRows_0 rfl (by decide) ?_
  refine r_istore_n (q := 2) (L' := [some (zr 2 0), some (zi (nI one)), some (zi (nI other)), some (zi (nI 0)), none]) dX2_swapRows_1 rfl rfl (by decide) rfl ?_
  exact lp_sw2 h1 h2 18 0 S0 _ (by omega) hs Fr.rf (fun r c hc => by rw [if_neg (Nat.not_lt_zero c)])

set_option maxRecDepth 100000 in
theorem lp_cc18 {row col L n P : Nat} (hr18 : row < 18) (hn18 : n ≤ 18) (h2 : 2 ≤ P) (hP : P ≤ 97) {by_ : Nat} (hby : by_ < P) {v : Nat → Nat} (hv : ∀ c, c < n → v c < P) {Po : Option zV → zS → Prop} : ∀ (d i : Nat) (S : zS), i + d = n → Sd S → (∀ c, c < i → gI S 10300 row c = nI (v c * by_ % P)) → (∀ c, i ≤ c → c < n → gI S 10300 row c = nI (v c)) → (∀ S1, Fr (tGo row) S S1 → (∀ c, c < n → gI S1 10300 row c = nI (v c * by_ % P)) → Ok mX2_clearColumn 57 [some (zr 2 0), some (zi (nI row)), some (zi (nI col)), some (zi (nI L)), some (zi (nI n)), some (zi (nI P)), some (zi (nI by_)), some (zi (nI n)), none, none] [] S1 Po) → Ok mX2_clearColumn 18 [some (zr 2 0), some (zi (nI row)), some (zi (nI col)), some (zi (nI L)), some (zi (nI n)), some (zi (nI P)), some (zi (nI by_)), some (zi (nI i)), none, none] [] S Po := by
  intro d
  induction d with
  | zero =>
    intro i S hi hs hlo hhi K
    obtain rfl : n = i := by omega
    refine r_iload (q := 20) dX2_clearColumn_18 rfl rfl ?_
    refine r_iload (q := 22) dX2_clearColumn_20 rfl rfl ?_
    refine r_icmp_geN (q := 25) (t := 57) (by omega) (by omega) dX2_clearColumn_22 (by decide) rfl (fun h22 => ?_) (fun h22 => absurd h22 (by omega))
    exact K S Fr.rf hlo
  | succ d ih =>
    intro i S hi hs hlo hhi K
    have hin : i < n := by omega
    have hvi := hhi i (Nat.le_refl _) hin
    have hv97 := hv i hin
    have hm : v i * by_ ≤ 97 * 97 := Nat.mul_le_mul (by omega) (by omega)
    refine r_iload (q := 20) dX2_clearColumn_18 rfl rfl ?_
    refine r_iload (q := 22) dX2_clearColumn_20 rfl rfl ?_
    refine r_icmp_geN (q := 25) (t := 57) (by omega) (by omega) dX2_clearColumn_22 (by decide) rfl (fun h22 => absurd h22 (by omega)) (fun h22 => ?_)
    refine r_aload_n (q := 26) dX2_clearColumn_25 rfl rfl rfl ?_
    refine r_getr (q := 29) (some (300, 0)) ck2 dX2_clearColumn_26 rfl (k := 0) (by decide) wt271 rfl (hs.e (by decide)) (hs.r (by decide) (by decide)) ?_
    refine r_iload_n (q := 30) dX2_clearColumn_29 rfl rfl rfl ?_
    refine r_aaldN (q := 31) (some (10300, row)) 18 (by decide) (by decide) (by decide) dX2_clearColumn_30 rfl (hs.e (by decide)) (hs.n rfl (by decide)) (show row < 18 by omega) (by decide) ((hs.r (by decide) (show row < 18 by omega)).trans (if_pos (show row < 18 by omega))) ?_
    refine r_iload (q := 33) dX2_clearColumn_31 rfl rfl ?_
    refine r_aload_n (q := 34) dX2_clearColumn_33 rfl rfl rfl ?_
    refine r_getr (q := 37) (some (300, 0)) ck2 dX2_clearColumn_34 rfl (k := 0) (by decide) wt271 rfl (hs.e (by decide)) (hs.r (by decide) (by decide)) ?_
    refine r_iload_n (q := 38) dX2_clearColumn_37 rfl rfl rfl ?_
    refine r_aaldN (q := 39) (some (10300, row)) 18 (by decide) (by decide) (by decide) dX2_clearColumn_38 rfl (hs.e (by decide)) (hs.n rfl (by decide)) (show row < 18 by omega) (by decide) ((hs.r (by decide) (show row < 18 by omega)).trans (if_pos (show row < 18 by omega))) ?_
    refine r_iload (q := 41) dX2_clearColumn_39 rfl rfl ?_
    refine r_ialdN (q := 42) 18 (by decide) rfl dX2_clearColumn_41 rfl (hs.e (show row < 18 by omega)) (hs.n rfl (show row < 18 by omega)) (by omega) (by decide) ?_
    refine r_topi (y := nI (v i)) hvi ?_
    refine r_iload (q := 44) dX2_clearColumn_42 rfl rfl ?_
    refine r_imulN (q := 45) dX2_clearColumn_44 rfl ?_
    refine r_iload (q := 47) dX2_clearColumn_45 rfl rfl ?_
    refine r_callSN (Mc := mX11_rest) (q := 50) (As := [zi (nI ((v i) * by_)), zi (nI P)]) (st := [zi (nI i), zr 10300 row]) dX2_clearColumn_47 rfl rfl mkX11_rest wn1000 wt614 rfl (Nat.le_of_ble_eq_true rfl) (Nat.le_of_ble_eq_true rfl) (by decide) (by decide) (by decide) (Or.inl rfl) hs.some (ok_X11_rest (by omega) h2 (by omega)) (fun r47 S47 hp47 => ?_)
    obtain ⟨rfl, hq47⟩ := hp47
    rw [hq47]
    show Ok _ _ _ [zi (nI (v i * by_ % P)), zi (nI i), zr 10300 row] _ _
    refine r_iastN (q := 51) 18 (by decide) rfl dX2_clearColumn_50 rfl (hs.e (show row < 18 by omega)) (hs.n rfl (show row < 18 by omega)) (by omega) (by decide) ?_
    refine r_iincN (q := 54) (L' := [some (zr 2 0), some (zi (nI row)), some (zi (nI col)), some (zi (nI L)), some (zi (nI n)), some (zi (nI P)), some (zi (nI by_)), some (zi (nI (i + 1))), none, none]) 1 rfl dX2_clearColumn_51 rfl rfl (by decide) rfl ?_
    refine r_goto (q := 18) dX2_clearColumn_54 (by decide) ?_
    have f1 : Fr (tGo row) S (sI S 10300 row i (nI (v i * by_ % P))) := Fr.rf.i (by simp [tGo])
    refine ih (i + 1) (sI S 10300 row i (nI (v i * by_ % P))) (by omega) hs (fun c hc => ?_) (fun c hc hc2 => ?_) (fun S1 f2 z => K S1 (f1.tr f2) z)
    · rw [gI_sI]
      by_cases e1 : c = i
      · rw [if_pos ⟨rfl, rfl, e1⟩, e1]
      · rw [if_neg (fun z => e1 z.2.2)]; exact hlo c (by omega)
    · rw [gI_sI, if_neg (by omega)]; exact hhi c (by omega) hc2

set_option maxRecDepth 100000 in
theorem lp_cc90 {row col L n P : Nat} (hr18 : row < 18) (hn18 : n ≤ 18) (h2 : 2 ≤ P) (hP : P ≤ 97) {by_ r t : Nat} (hrL : r < 18) (hrr : r ≠ row) (ht : t < P) (ht0 : t ≠ 0) {v u : Nat → Nat} (hv : ∀ c, c < n → v c < P) (hu : ∀ c, c < n → u c < P) {Po : Option zV → zS → Prop} : ∀ (d i : Nat) (S : zS), i + d = n → Sd S → (∀ c, c < n → gI S 10300 row c = nI (u c)) → (∀ c, c < i → ∃ y, y < P ∧ gI S 10300 r c = nI y ∧ (P : Int) ∣ (y : Int) - ((v c : Int) - (t * u c : Nat))) → (∀ c, i ≤ c → c < n → gI S 10300 r c = nI (v c)) → (∀ S1 w9, Fr (tGo r) S S1 → (∀ c, c < n → ∃ y, y < P ∧ gI S1 10300 r c = nI y ∧ (P : Int) ∣ (y : Int) - ((v c : Int) - (t * u c : Nat))) → Ok mX2_clearColumn 146 [some (zr 2 0), some (zi (nI row)), some (zi (nI col)), some (zi (nI L)), some (zi (nI n)), some (zi (nI P)), some (zi (nI by_)), some (zi (nI r)), some (zi (nI t)), w9] [] S1 Po) → Ok mX2_clearColumn 90 [some (zr 2 0), some (zi (nI row)), some (zi (nI col)), some (zi (nI L)), some (zi (nI n)), some (zi (nI P)), some (zi (nI by_)), some (zi (nI r)), some (zi (nI t)), some (zi (nI i))] [] S Po := by
  intro d
  induction d with
  | zero =>
    intro i S hi hs hru hlo hhi K
    obtain rfl : n = i := by omega
    refine r_iload (q := 92) dX2_clearColumn_90 rfl rfl ?_
    refine r_iload (q := 94) dX2_clearColumn_92 rfl rfl ?_
    refine r_icmp_geN (q := 97) (t := 146) (by omega) (by omega) dX2_clearColumn_94 (by decide) rfl (fun h94 => ?_) (fun h94 => absurd h94 (by omega))
    exact K S _ Fr.rf hlo
  | succ d ih =>
    intro i S hi hs hru hlo hhi K
    have hin : i < n := by omega
    have hvi := hhi i (Nat.le_refl _) hin
    have hui := hru i hin
    have hv97 := hv i hin
    have hu97 := hu i hin
    have hm : t * u i ≤ 97 * 97 := Nat.mul_le_mul (by omega) (by omega)
    refine r_iload (q := 92) dX2_clearColumn_90 rfl rfl ?_
    refine r_iload (q := 94) dX2_clearColumn_92 rfl rfl ?_
    refine r_icmp_geN (q := 97) (t := 146) (by omega) (by omega) dX2_clearColumn_94 (by decide) rfl (fun h94 => absurd h94 (by omega)) (fun h94 => ?_)
    refine r_iload (q := 99) dX2_clearColumn_97 rfl rfl ?_
    refine r_if_eqN (q := 102) (t := 146) (by omega) dX2_clearColumn_99 (by decide) rfl (fun h99 => absurd h99 (by omega)) (fun h99 => ?_)
    refine r_aload_n (q := 103) dX2_clearColumn_102 rfl rfl rfl ?_
    refine r_getr (q := 106) (some (300, 0)) ck2 dX2_clearColumn_103 rfl (k := 0) (by decide) wt271 rfl (hs.e (by decide)) (hs.r (by decide) (by decide)) ?_
    refine r_iload (q := 108) dX2_clearColumn_106 rfl rfl ?_
    refine r_aaldN (q := 109) (some (10300, r)) 18 (by decide) (by decide) (by decide) dX2_clearColumn_108 rfl (hs.e (by decide)) (hs.n rfl (by decide)) (show r < 18 by omega) (by decide) ((hs.r (by decide) (show r < 18 by omega)).trans (if_pos (show r < 18 by omega))) ?_
    refine r_iload (q := 111) dX2_clearColumn_109 rfl rfl ?_
    refine r_aload_n (q := 112) dX2_clearColumn_111 rfl rfl rfl ?_
    refine r_getr (q := 115) (some (300, 0)) ck2 dX2_clearColumn_112 rfl (k := 0) (by decide) wt271 rfl (hs.e (by decide)) (hs.r (by decide) (by decide)) ?_
    refine r_iload (q := 117) dX2_clearColumn_115 rfl rfl ?_
    refine r_aaldN (q := 118) (some (10300, r)) 18 (by decide) (by decide) (by decide) dX2_clearColumn_117 rfl (hs.e (by decide)) (hs.n rfl (by decide)) (show r < 18 by omega) (by decide) ((hs.r (by decide) (show r < 18 by omega)).trans (if_pos (show r < 18 by omega))) ?_
    refine r_iload (q := 120) dX2_clearColumn_118 rfl rfl ?_
    refine r_ialdN (q := 121) 18 (by decide) rfl dX2_clearColumn_120 rfl (hs.e (show r < 18 by omega)) (hs.n rfl (show r < 18 by omega)) (by omega) (by decide) ?_
    refine r_topi (y := nI (v i)) hvi ?_
    refine r_iload (q := 123) dX2_clearColumn_121 rfl rfl ?_
    refine r_aload_n (q := 124) dX2_clearColumn_123 rfl rfl rfl ?_
    refine r_getr (q := 127) (some (300, 0)) ck2 dX2_clearColumn_124 rfl (k := 0) (by decide) wt271 rfl (hs.e (by decide)) (hs.r (by decide) (by decide)) ?_
    refine r_iload_n (q := 128) dX2_clearColumn_127 rfl rfl rfl ?_
    refine r_aaldN (q := 129) (some (10300, row)) 18 (by decide) (by decide) (by decide) dX2_clearColumn_128 rfl (hs.e (by decide)) (hs.n rfl (by decide)) (show row < 18 by omega) (by decide) ((hs.r (by decide) (show row < 18 by omega)).trans (if_pos (show row < 18 by omega))) ?_
    refine r_iload (q := 131) dX2_clearColumn_129 rfl rfl ?_
    refine r_ialdN (q := 132) 18 (by decide) rfl dX2_clearColumn_131 rfl (hs.e (show row < 18 by omega)) (hs.n rfl (show row < 18 by omega)) (by omega) (by decide) ?_
    refine r_topi (y := nI (u i)) hui ?_
    refine r_imulN (q := 133) dX2_clearColumn_132 rfl ?_
    refine r_isub (q := 134) dX2_clearColumn_133 rfl ?_
    refine r_iload (q := 136) dX2_clearColumn_134 rfl rfl ?_
    refine r_callSN (Mc := mX11_rest) (q := 139) (As := [zi ((nI (v i)) - (nI (t * (u i)))), zi (nI P)]) (st := [zi (nI i), zr 10300 r]) dX2_clearColumn_136 rfl rfl mkX11_rest wn1000 wt614 rfl (Nat.le_of_ble_eq_true rfl) (Nat.le_of_ble_eq_true rfl) (by decide) (by decide) (by decide) (Or.inl rfl) hs.some (ok_X11_rest_i h2 hP) (fun r136 S136 hp136 => ?_)
    obtain ⟨rfl, hq136⟩ := hp136
    rw [hq136]
    show Ok _ _ _ [zi (nI (rsN (nI (v i) - nI (t * u i)) P)), zi (nI i), zr 10300 r] _ _
    refine r_iastN (q := 140) 18 (by decide) rfl dX2_clearColumn_139 rfl (hs.e (show r < 18 by omega)) (hs.n rfl (show r < 18 by omega)) (by omega) (by decide) ?_
    refine r_iincN (q := 143) (L' := [some (zr 2 0), some (zi (nI row)), some (zi (nI col)), some (zi (nI L)), some (zi (nI n)), some (zi (nI P)), some (zi (nI by_)), some (zi (nI r)), some (zi (nI t)), some (zi (nI (i + 1)))]) 1 rfl dX2_clearColumn_140 rfl rfl (by decide) rfl ?_
    refine r_goto (q := 90) dX2_clearColumn_143 (by decide) ?_
    have f1 : Fr (tGo r) S (sI S 10300 r i (nI (rsN (nI (v i) - nI (t * u i)) P))) := Fr.rf.i (by simp [tGo])
    refine ih (i + 1) (sI S 10300 r i (nI (rsN (nI (v i) - nI (t * u i)) P))) (by omega) hs (fun c hc => by rw [gI_sI, if_neg (fun z => hrr z.2.1.symm)]; exact hru c hc) (fun c hc => ?_) (fun c hc hc2 => ?_) (fun S1 w9 f2 z => K S1 w9 (f1.tr f2) z)
    · rw [gI_sI]
      by_cases e1 : c = i
      · rw [if_pos ⟨rfl, rfl, e1⟩, e1]
        exact ⟨_, rsN_lt (by omega), rfl, rs_sub (by omega) (by omega) (by omega)⟩
      · rw [if_neg (fun z => e1 z.2.2)]; exact hlo c (by omega)
    · rw [gI_sI, if_neg (by omega)]; exact hhi c (by omega) hc2

set_option maxRecDepth 100000 in
theorem lp_cc60 {row col L n P : Nat} (hr18 : row < 18) (hn18 : n ≤ 18) (h2 : 2 ≤ P) (hP : P ≤ 97) (hL18 : L ≤ 18) (hcn : col < n) {by_ : Nat} {g : Nat → Nat → Nat} {u : Nat → Nat} (hg : ∀ r c, r < L → c < n → g r c < P) (hu : ∀ c, c < n → u c < P) : ∀ (d i : Nat) (S : zS) (w8 w9 : Option zV), i + d = L → Sd S → (∀ c, c < n → gI S 10300 row c = nI (u c)) → (∀ r c, r < L → c < n → ∃ y, y < P ∧ gI S 10300 r c = nI y ∧ (if r = row then y = u c else if r < i then (P : Int) ∣ (y : Int) - ((g r c : Int) - (g r col * u c : Nat)) else y = g r c)) → Ok mX2_clearColumn 60 [some (zr 2 0), some (zi (nI row)), some (zi (nI col)), some (zi (nI L)), some (zi (nI n)), some (zi (nI P)), some (zi (nI by_)), some (zi (nI i)), w8, w9] [] S (fun z S1 => z = none ∧ Fr tGr S S1 ∧ ∀ r c, r < L → c < n → ∃ y, y < P ∧ gI S1 10300 r c = nI y ∧ (if r = row then y = u c else if r < L then (P : Int) ∣ (y : Int) - ((g r c : Int) - (g r col * u c : Nat)) else y = g r c)) := by
  intro d
  induction d with
  | zero =>
    intro i S w8 w9 hi hs hru hD
    obtain rfl : L = i := by omega
    refine r_mask [true, true, true, true, true, true, true, true, false, false] rfl ?_
    refine r_iload (q := 62) dX2_clearColumn_60 rfl rfl ?_
    refine r_iload_n (q := 63) dX2_clearColumn_62 rfl rfl rfl ?_
    refine r_icmp_geN (q := 66) (t := 152) (by omega) (by omega) dX2_clearColumn_63 (by decide) rfl (fun h63 => ?_) (fun h63 => absurd h63 (by omega))
    refine r_return dX2_clearColumn_152 rfl ?_
    exact ⟨rfl, Fr.rf, hD⟩
  | succ d ih =>
    intro i S w8 w9 hi hs hru hD
    have hiL : i < L := by omega
    refine r_mask [true, true, true, true, true, true, true, true, false, false] rfl ?_
    by_cases er : i = row
    · skip
      refine r_iload (q := 62) dX2_clearColumn_60 rfl rfl ?_
      refine r_iload_n (q := 63) dX2_clearColumn_62 rfl rfl rfl ?_
      refine r_icmp_geN (q := 66) (t := 152) (by omega) (by omega) dX2_clearColumn_63 (by decide) rfl (fun h63 => absurd h63 (by omega)) (fun h63 => ?_)
      refine r_iload (q := 68) dX2_clearColumn_66 rfl rfl ?_
      refine r_iload_n (q := 69) dX2_clearColumn_68 rfl rfl rfl ?_
      refine r_icmp_neN (q := 72) (t := 76) (by omega) (by omega) dX2_clearColumn_69 (by decide) rfl (fun h69 => absurd h69 (by omega)) (fun h69 => ?_)
      refine r_iconst (q := 73) (nI 0) dX2_clearColumn_72 rfl (by decide) ?_
      refine r_goto (q := 85) dX2_clearColumn_73 (by decide) ?_
      refine r_istore (q := 87) (L' := [some (zr 2 0), some (zi (nI row)), some (zi (nI col)), some (zi (nI L)), some (zi (nI n)), some (zi (nI P)), some (zi (nI by_)), some (zi (nI i)), some (zi (nI 0)), none]) dX2_clearColumn_85 rfl (by decide) rfl ?_
      refine r_iconst (q := 88) (nI 0) dX2_clearColumn_87 rfl (by decide) ?_
      refine r_istore (q := 90) (L' := [some (zr 2 0), some (zi (nI row)), some (zi (nI col)), some (zi (nI L)), some (zi (nI n)), some (zi (nI P)), some (zi (nI by_)), some (zi (nI i)), some (zi (nI 0)), some (zi (nI 0))]) dX2_clearColumn_88 rfl (by decide) rfl ?_
      refine r_iload (q := 92) dX2_clearColumn_90 rfl rfl ?_
      refine r_iload (q := 94) dX2_clearColumn_92 rfl rfl ?_
      refine r_icmp_geN (q := 97) (t := 146) (by omega) (by omega) dX2_clearColumn_94 (by decide) rfl (fun h94 => absurd h94 (by omega)) (fun h94 => ?_)
      refine r_iload (q := 99) dX2_clearColumn_97 rfl rfl ?_
      refine r_if_eqN (q := 102) (t := 146) (by omega) dX2_clearColumn_99 (by decide) rfl (fun h99 => ?_) (fun h99 => absurd h99 (by omega))
      refine r_iincN (q := 149) (L' := [some (zr 2 0), some (zi (nI row)), some (zi (nI col)), some (zi (nI L)), some (zi (nI n)), some (zi (nI P)), some (zi (nI by_)), some (zi (nI (i + 1))), some (zi (nI 0)), some (zi (nI 0))]) 1 rfl dX2_clearColumn_146 rfl rfl (by decide) rfl ?_
      refine r_goto (q := 60) dX2_clearColumn_149 (by decide) ?_
      refine r_mask [true, true, true, true, true, true, true, true, false, false] rfl ?_
      refine ih (i + 1) S none none (by omega) hs hru (fun r c hr hc => ?_)
      obtain ⟨y, y1, y2, y3⟩ := hD r c hr hc
      refine ⟨y, y1, y2, ?_⟩
      by_cases e1 : r = row
      · rw [if_pos e1] at y3 ⊢; exact y3
      · rw [if_neg e1] at y3 ⊢
        by_cases e2 : r < i
        · rw [if_pos e2] at y3; rw [if_pos (by omega)]; exact y3
        · rw [if_neg e2] at y3
          by_cases e3 : r = i
          · exact absurd (e3.trans er) e1
          · rw [if_neg (by omega)]; exact y3
    · obtain ⟨y, y1, y2, y3⟩ := hD i col hiL hcn
      rw [if_neg er, if_neg (Nat.lt_irrefl _)] at y3
      have hcol : gI S 10300 i col = nI (g i col) := by rw [y2, y3]
      have hgc := hg i col hiL hcn
      by_cases t0 : g i col = 0
      · skip
        refine r_iload (q := 62) dX2_clearColumn_60 rfl rfl ?_
        refine r_iload_n (q := 63) dX2_clearColumn_62 rfl rfl rfl ?_
        refine r_icmp_geN (q := 66) (t := 152) (by omega) (by omega) dX2_clearColumn_63 (by decide) rfl (fun h63 => absurd h63 (by omega)) (fun h63 => ?_)
        refine r_iload (q := 68) dX2_clearColumn_66 rfl rfl ?_
        refine r_iload_n (q := 69) dX2_clearColumn_68 rfl rfl rfl ?_
        refine r_icmp_neN (q := 72) (t := 76) (by omega) (by omega) dX2_clearColumn_69 (by decide) rfl (fun h69 => ?_) (fun h69 => absurd h69 (by omega))
        refine r_aload_n (q := 77) dX2_clearColumn_76 rfl rfl rfl ?_
        refine r_getr (q := 80) (some (300, 0)) ck2 dX2_clearColumn_77 rfl (k := 0) (by decide) wt271 rfl (hs.e (by decide)) (hs.r (by decide) (by decide)) ?_
        refine r_iload (q := 82) dX2_clearColumn_80 rfl rfl ?_
        refine r_aaldN (q := 83) (some (10300, i)) 18 (by decide) (by decide) (by decide) dX2_clearColumn_82 rfl (hs.e (by decide)) (hs.n rfl (by decide)) (show i < 18 by omega) (by decide) ((hs.r (by decide) (show i < 18 by omega)).trans (if_pos (show i < 18 by omega))) ?_
        refine r_iload_n (q := 84) dX2_clearColumn_83 rfl rfl rfl ?_
        refine r_ialdN (q := 85) 18 (by decide) rfl dX2_clearColumn_84 rfl (hs.e (show i < 18 by omega)) (hs.n rfl (show i < 18 by omega)) (by omega) (by decide) ?_
        refine r_topi (y := nI (g i col)) hcol ?_
        refine r_istore (q := 87) (L' := [some (zr 2 0), some (zi (nI row)), some (zi (nI col)), some (zi (nI L)), some (zi (nI n)), some (zi (nI P)), some (zi (nI by_)), some (zi (nI i)), some (zi (nI (g i col))), none]) dX2_clearColumn_85 rfl (by decide) rfl ?_
        refine r_iconst (q := 88) (nI 0) dX2_clearColumn_87 rfl (by decide) ?_
        refine r_istore (q := 90) (L' := [some (zr 2 0), some (zi (nI row)), some (zi (nI col)), some (zi (nI L)), some (zi (nI n)), some (zi (nI P)), some (zi (nI by_)), some (zi (nI i)), some (zi (nI (g i col))), some (zi (nI 0))]) dX2_clearColumn_88 rfl (by decide) rfl ?_
        refine r_iload (q := 92) dX2_clearColumn_90 rfl rfl ?_
        refine r_iload (q := 94) dX2_clearColumn_92 rfl rfl ?_
        refine r_icmp_geN (q := 97) (t := 146) (by omega) (by omega) dX2_clearColumn_94 (by decide) rfl (fun h94 => ?_) (fun h94 => ?_)
        · skip
          refine r_iincN (q := 149) (L' := [some (zr 2 0), some (zi (nI row)), some (zi (nI col)), some (zi (nI L)), some (zi (nI n)), some (zi (nI P)), some (zi (nI by_)), some (zi (nI (i + 1))), some (zi (nI (g i col))), some (zi (nI 0))]) 1 rfl dX2_clearColumn_146 rfl rfl (by decide) rfl ?_
          refine r_goto (q := 60) dX2_clearColumn_149 (by decide) ?_
          refine r_mask [true, true, true, true, true, true, true, true, false, false] rfl ?_
          refine ih (i + 1) S none none (by omega) hs hru (fun r c hr hc => ?_)
          obtain ⟨y, y1, y2, y3⟩ := hD r c hr hc
          refine ⟨y, y1, y2, ?_⟩
          by_cases e1 : r = row
          · rw [if_pos e1] at y3 ⊢; exact y3
          · rw [if_neg e1] at y3 ⊢
            by_cases e2 : r < i
            · rw [if_pos e2] at y3; rw [if_pos (by omega)]; exact y3
            · rw [if_neg e2] at y3
              by_cases e3 : r = i
              · rw [if_pos (by omega), y3, e3, t0, Nat.zero_mul]; exact ⟨0, by omega⟩
              · rw [if_neg (by omega)]; exact y3
        · skip
          refine r_iload (q := 99) dX2_clearColumn_97 rfl rfl ?_
          refine r_if_eqN (q := 102) (t := 146) (by omega) dX2_clearColumn_99 (by decide) rfl (fun h99 => ?_) (fun h99 => absurd h99 (by omega))
          refine r_iincN (q := 149) (L' := [some (zr 2 0), some (zi (nI row)), some (zi (nI col)), some (zi (nI L)), some (zi (nI n)), some (zi (nI P)), some (zi (nI by_)), some (zi (nI (i + 1))), some (zi (nI (g i col))), some (zi (nI 0))]) 1 rfl dX2_clearColumn_146 rfl rfl (by decide) rfl ?_
          refine r_goto (q := 60) dX2_clearColumn_149 (by decide) ?_
          refine r_mask [true, true, true, true, true, true, true, true, false, false] rfl ?_
          refine ih (i + 1) S none none (by omega) hs hru (fun r c hr hc => ?_)
          obtain ⟨y, y1, y2, y3⟩ := hD r c hr hc
          refine ⟨y, y1, y2, ?_⟩
          by_cases e1 : r = row
          · rw [if_pos e1] at y3 ⊢; exact y3
          · rw [if_neg e1] at y3 ⊢
            by_cases e2 : r < i
            · rw [if_pos e2] at y3; rw [if_pos (by omega)]; exact y3
            · rw [if_neg e2] at y3
              by_cases e3 : r = i
              · rw [if_pos (by omega), y3, e3, t0, Nat.zero_mul]; exact ⟨0, by omega⟩
              · rw [if_neg (by omega)]; exact y3
      · skip
        refine r_iload (q := 62) dX2_clearColumn_60 rfl rfl ?_
        refine r_iload_n (q := 63) dX2_clearColumn_62 rfl rfl rfl ?_
        refine r_icmp_geN (q := 66) (t := 152) (by omega) (by omega) dX2_clearColumn_63 (by decide) rfl (fun h63 => absurd h63 (by omega)) (fun h63 => ?_)
        refine r_iload (q := 68) dX2_clearColumn_66 rfl rfl ?_
        refine r_iload_n (q := 69) dX2_clearColumn_68 rfl rfl rfl ?_
        refine r_icmp_neN (q := 72) (t := 76) (by omega) (by omega) dX2_clearColumn_69 (by decide) rfl (fun h69 => ?_) (fun h69 => absurd h69 (by omega))
        refine r_aload_n (q := 77) dX2_clearColumn_76 rfl rfl rfl ?_
        refine r_getr (q := 80) (some (300, 0)) ck2 dX2_clearColumn_77 rfl (k := 0) (by decide) wt271 rfl (hs.e (by decide)) (hs.r (by decide) (by decide)) ?_
        refine r_iload (q := 82) dX2_clearColumn_80 rfl rfl ?_
        refine r_aaldN (q := 83) (some (10300, i)) 18 (by decide) (by decide) (by decide) dX2_clearColumn_82 rfl (hs.e (by decide)) (hs.n rfl (by decide)) (show i < 18 by omega) (by decide) ((hs.r (by decide) (show i < 18 by omega)).trans (if_pos (show i < 18 by omega))) ?_
        refine r_iload_n (q := 84) dX2_clearColumn_83 rfl rfl rfl ?_
        refine r_ialdN (q := 85) 18 (by decide) rfl dX2_clearColumn_84 rfl (hs.e (show i < 18 by omega)) (hs.n rfl (show i < 18 by omega)) (by omega) (by decide) ?_
        refine r_topi (y := nI (g i col)) hcol ?_
        refine r_istore (q := 87) (L' := [some (zr 2 0), some (zi (nI row)), some (zi (nI col)), some (zi (nI L)), some (zi (nI n)), some (zi (nI P)), some (zi (nI by_)), some (zi (nI i)), some (zi (nI (g i col))), none]) dX2_clearColumn_85 rfl (by decide) rfl ?_
        refine r_iconst (q := 88) (nI 0) dX2_clearColumn_87 rfl (by decide) ?_
        refine r_istore (q := 90) (L' := [some (zr 2 0), some (zi (nI row)), some (zi (nI col)), some (zi (nI L)), some (zi (nI n)), some (zi (nI P)), some (zi (nI by_)), some (zi (nI i)), some (zi (nI (g i col))), some (zi (nI 0))]) dX2_clearColumn_88 rfl (by decide) rfl ?_
        refine lp_cc90 hr18 hn18 h2 hP (L := L) (r := i) (t := g i col) (v := g i) (u := u) (by omega) er hgc t0 (fun c hc => hg i c hiL hc) hu n 0 S (by omega) hs hru (fun c hc => absurd hc (Nat.not_lt_zero c)) (fun c _ hc => ?_) (fun S1 w9' f1 hq => ?_)
        · obtain ⟨y, y1, y2, y3⟩ := hD i c hiL hc
          rw [if_neg er, if_neg (Nat.lt_irrefl _)] at y3
          rw [y2, y3]
        refine r_mask [true, true, true, true, true, true, true, true, false, false] rfl ?_
        have hs1 : Sd S1 := hs.fr f1
        refine r_iincN (q := 149) (L' := [some (zr 2 0), some (zi (nI row)), some (zi (nI col)), some (zi (nI L)), some (zi (nI n)), some (zi (nI P)), some (zi (nI by_)), some (zi (nI (i + 1))), none, none]) 1 rfl dX2_clearColumn_146 rfl rfl (by decide) rfl ?_
        refine r_goto (q := 60) dX2_clearColumn_149 (by decide) ?_
        refine Ok.mono (ih (i + 1) S1 none none (by omega) hs1 (fun c hc => (f1.1 _ _ _ (by simp [tGo]; exact fun z => er z.symm)).trans (hru c hc)) (fun r c hr hc => ?_)) (fun z S2 q => ⟨q.1, f1.go.tr q.2.1, q.2.2⟩)
        by_cases e3 : r = i
        · obtain ⟨y, y1, y2, y3⟩ := hq c hc
          exact ⟨y, y1, by rw [e3]; exact y2, by rw [e3, if_neg er, if_pos (by omega)]; exact y3⟩
        · obtain ⟨y, y1, y2, y3⟩ := hD r c hr hc
          refine ⟨y, y1, (f1.1 _ _ _ (by simp [tGo]; exact e3)).trans y2, ?_⟩
          by_cases e1 : r = row
          · rw [if_pos e1] at y3 ⊢; exact y3
          · rw [if_neg e1] at y3 ⊢
            by_cases e2 : r < i
            · rw [if_pos e2] at y3; rw [if_pos (by omega)]; exact y3
            · rw [if_neg e2] at y3; rw [if_neg (by omega)]; exact y3

set_option maxRecDepth 100000 in
theorem ok_clearColumn {S : zS} (hs : Sd S) {row col L n P : Nat} (hr : row < L) (hL18 : L ≤ 18) (hn18 : n ≤ 18) (hcn : col < n) (h2 : 2 ≤ P) (hP : P ≤ 97) (hpr : ∀ d, 2 ≤ d → d < P → P % d ≠ 0) {g : Nat → Nat → Nat} (hG : Gd S L n P g) (h0 : g row col ≠ 0) : Ok mX2_clearColumn 0 (ent 10 [zr 2 0, zi (nI row), zi (nI col), zi (nI L), zi (nI n), zi (nI P)]) [] S (fun z S1 => z = none ∧ Fr tGr S S1 ∧ ∃ i g', i * g row col % P = 1 ∧ Gd S1 L n P g' ∧ (∀ c, c < n → g' row c = g row c * i % P) ∧ ∀ r c, r < L → c < n → r ≠ row → (P : Int) ∣ (g' r c : Int) - ((g r c : Int) - (g r col * g' row c : Nat))) := by
  show Ok mX2_clearColumn 0 [some (zr 2 0), some (zi (nI row)), some (zi (nI col)), some (zi (nI L)), some (zi (nI n)), some (zi (nI P)), none, none, none, none] [] S _
  refine r_aload_n (q := 1) dX2_clearColumn_0 rfl rfl rfl ?_
  refine r_getr (q := 4) (some (300, 0)) ck2 dX2_clearColumn_1 rfl (k := 0) (by decide) wt271 rfl (hs.e (by decide)) (hs.r (by decide) (by decide)) ?_
  refine r_iload_n (q := 5) dX2_clearColumn_4 rfl rfl rfl ?_
  refine r_aaldN (q := 6) (some (10300, row)) 18 (by decide) (by decide) (by decide) dX2_clearColumn_5 rfl (hs.e (by decide)) (hs.n rfl (by decide)) (show row < 18 by omega) (by decide) ((hs.r (by decide) (show row < 18 by omega)).trans (if_pos (show row < 18 by omega))) ?_
  refine r_iload_n (q := 7) dX2_clearColumn_6 rfl rfl rfl ?_
  refine r_ialdN (q := 8) 18 (by decide) rfl dX2_clearColumn_7 rfl (hs.e (show row < 18 by omega)) (hs.n rfl (show row < 18 by omega)) (by omega) (by decide) ?_
  refine r_topi (y := nI (g row col)) (hG row col hr hcn).1 ?_
  refine r_iload (q := 10) dX2_clearColumn_8 rfl rfl ?_
  refine r_callSN (Mc := mX11_inverseOf) (q := 13) (As := [zi (nI (g row col)), zi (nI P)]) (st := []) dX2_clearColumn_10 rfl rfl mkX11_inverseOf wn1013 wt882 rfl (Nat.le_of_ble_eq_true rfl) (Nat.le_of_ble_eq_true rfl) (by decide) (by decide) (by decide) (Or.inl rfl) hs.some (ok_inverseOf hs h2 hP (hG row col hr hcn).2 (inv_ex h2 hP hpr h0 (hG row col hr hcn).2)) (fun r10 S10 hp10 => ?_)
  obtain ⟨⟨i, i1, i2, i3, rfl⟩, hq10⟩ := hp10
  rw [hq10]
  show Ok _ _ _ [zi (nI i)] _ _
  refine r_istore (q := 15) (L' := [some (zr 2 0), some (zi (nI row)), some (zi (nI col)), some (zi (nI L)), some (zi (nI n)), some (zi (nI P)), some (zi (nI i)), none, none, none]) dX2_clearColumn_13 rfl (by decide) rfl ?_
  refine r_iconst (q := 16) (nI 0) dX2_clearColumn_15 rfl (by decide) ?_
  refine r_istore (q := 18) (L' := [some (zr 2 0), some (zi (nI row)), some (zi (nI col)), some (zi (nI L)), some (zi (nI n)), some (zi (nI P)), some (zi (nI i)), some (zi (nI 0)), none, none]) dX2_clearColumn_16 rfl (by decide) rfl ?_
  refine lp_cc18 (row := row) (col := col) (L := L) (by omega) hn18 h2 hP (by_ := i) i2 (v := g row) (fun c hc => (hG row c hr hc).2) n 0 S (by omega) hs (fun c hc => absurd hc (Nat.not_lt_zero c)) (fun c _ hc => (hG row c hr hc).1) (fun S1 f1 hsc => ?_)
  have hs1 : Sd S1 := hs.fr f1
  refine r_iconst (q := 58) (nI 0) dX2_clearColumn_57 rfl (by decide) ?_
  refine r_istore (q := 60) (L' := [some (zr 2 0), some (zi (nI row)), some (zi (nI col)), some (zi (nI L)), some (zi (nI n)), some (zi (nI P)), some (zi (nI i)), some (zi (nI 0)), none, none]) dX2_clearColumn_58 rfl (by decide) rfl ?_
  refine Ok.mono (lp_cc60 (row := row) (col := col) (L := L) (by omega) hn18 h2 hP hL18 hcn (by_ := i) (g := g) (u := fun c => g row c * i % P) (fun r c hr' hc => (hG r c hr' hc).2) (fun c _ => Nat.mod_lt _ (by omega)) L 0 S1 none none (by omega) hs1 hsc (fun r c hr' hc => ?_)) (fun z S2 q => ?_)
  · by_cases e1 : r = row
    · exact ⟨_, Nat.mod_lt _ (by omega), by rw [e1]; exact hsc c hc, by rw [if_pos e1]⟩
    · exact ⟨g r c, (hG r c hr' hc).2, (f1.1 _ _ _ (by simp [tGo]; exact e1)).trans (hG r c hr' hc).1, by rw [if_neg e1, if_neg (Nat.not_lt_zero r)]⟩
  · obtain ⟨q1, q2, q3⟩ := q
    have val : ∀ r c, r < L → c < n → gI S2 10300 r c = nI ((gI S2 10300 r c).toInt.toNat) ∧ (gI S2 10300 r c).toInt.toNat < P ∧ (if r = row then (gI S2 10300 r c).toInt.toNat = g row c * i % P else if r < L then (P : Int) ∣ ((gI S2 10300 r c).toInt.toNat : Int) - ((g r c : Int) - (g r col * (g row c * i % P) : Nat)) else (gI S2 10300 r c).toInt.toNat = g r c) := fun r c hr' hc => by
      obtain ⟨y, y1, y2, y3⟩ := q3 r c hr' hc
      rw [y2, nI_toInt (by omega)]
      exact ⟨rfl, y1, y3⟩
    refine ⟨q1, f1.go.tr q2, i, fun r c => (gI S2 10300 r c).toInt.toNat, i3, fun r c hr' hc => ⟨(val r c hr' hc).1, (val r c hr' hc).2.1⟩, fun c hc => ?_, fun r c hr' hc e1 => ?_⟩
    · have := (val row c hr hc).2.2
      rw [if_pos rfl] at this
      exact this
    · have h1 := (val r c hr' hc).2.2
      have h3 := (val row c hr hc).2.2
      rw [if_neg e1, if_pos hr'] at h1
      rw [if_pos rfl] at h3
      show (P : Int) ∣ ((gI S2 10300 r c).toInt.toNat : Int) - ((g r c : Int) - (g r col * (gI S2 10300 row c).toInt.toNat : Nat))
      rw [h3]
      exact h1

