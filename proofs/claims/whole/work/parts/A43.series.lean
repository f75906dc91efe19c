/-! series -/
def pwS (f : Nat → Nat) : Nat → Nat → Nat
  | 0, n => if n = 0 then 1 else 0
  | k + 1, n => sm (fun j => f (j + 1) * pwS f k (n - (j + 1))) n
theorem pwS_zero {f : Nat → Nat} {k : Nat} : pwS f (k + 1) 0 = 0 := rfl
theorem pwS_one {f : Nat → Nat} {n : Nat} (hn : 1 ≤ n) : pwS f 1 n = f n := by
  obtain ⟨m, rfl⟩ : ∃ m, n = m + 1 := ⟨n - 1, by omega⟩
  rw [pwS, sm, sm_zero _ _ (fun i hi => by show f (i + 1) * pwS f 0 (m + 1 - (i + 1)) = 0; rw [pwS, if_neg (by omega), Nat.mul_zero]), pwS, if_pos (by omega)]
  omega
theorem pwS_cut {f : Nat → Nat} {k n : Nat} (hn : 1 ≤ n) : pwS f (k + 2) n = sm (fun j => f (j + 1) * pwS f (k + 1) (n - (j + 1))) (n - 1) := by
  obtain ⟨m, rfl⟩ : ∃ m, n = m + 1 := ⟨n - 1, by omega⟩
  rw [pwS, sm, show m + 1 - (m + 1) = 0 by omega, pwS_zero, Nat.mul_zero, Nat.add_zero, show m + 1 - 1 = m by omega]
def accJ (g : Nat → Int64) (f : Nat → Nat) (m : Nat) : Nat → Int64
  | 0 => if m = 1 then lN 1 else lN 0
  | k + 1 => accJ g f m k - g (k + 1) * lN (pwS f (k + 1) m)
/-- the series that undoes f, up to n -/
def IvS (g : Nat → Int64) (f : Nat → Nat) (n : Nat) : Prop := ∀ m, 1 ≤ m → m ≤ n → g m = accJ g f m (m - 1)
theorem accJ_cong {g g' : Nat → Int64} {f f' : Nat → Nat} {m : Nat} : ∀ {k : Nat}, (∀ i, 1 ≤ i → i ≤ k → g i = g' i ∧ pwS f i m = pwS f' i m) → accJ g f m k = accJ g' f' m k
  | 0, _ => rfl
  | k + 1, h => by rw [accJ, accJ, accJ_cong (fun i a b => h i a (by omega)), (h (k + 1) (by omega) (by omega)).1, (h (k + 1) (by omega) (by omega)).2]
theorem IvS.uniq {g g' : Nat → Int64} {f : Nat → Nat} {n : Nat} (h : IvS g f n) (h' : IvS g' f n) : ∀ m, 1 ≤ m → m ≤ n → g m = g' m := by
  intro m
  induction m using Nat.strongRecOn with
  | ind m ih =>
    intro h1 h2
    rw [h m h1 h2, h' m h1 h2]
    exact accJ_cong (fun i a b => ⟨ih i (by omega) a (by omega), rfl⟩)
theorem pwS_cong {f f' : Nat → Nat} : ∀ (k n : Nat), (∀ i, 1 ≤ i → i ≤ n → f i = f' i) → pwS f k n = pwS f' k n
  | 0, n, _ => rfl
  | k + 1, n, h => by
    rw [pwS, pwS]
    exact sm_cong fun j hj => by rw [h (j + 1) (by omega) (by omega), pwS_cong k (n - (j + 1)) (fun i a b => h i a (by omega))]
def tRa (x _y _k : Nat) : Bool := x == 10600
def Pw2 (S : zS) (f : Nat → Nat) (top n k : Nat) : Prop := ∀ k' n', 1 ≤ k' → k' ≤ top → 1 ≤ n' → (n' < n ∨ n' = n ∧ k' < k) → gJ S 10600 k' n' = lN (pwS f k' n')
def Szs (S : zS) (b : Nat) (f : Nat → Nat) (top : Nat) : Prop := ∀ i, 1 ≤ i → i ≤ top → gI S 108 b i = nI (f i) ∧ f i ≤ 300
theorem Szs.fr {S S1 : zS} {b top : Nat} {f : Nat → Nat} (h : Szs S b f top) {U : Nat → Nat → Nat → Bool} (g : Fr U S S1) (t : ∀ k, U 108 b k = false) : Szs S1 b f top := fun i a c => ⟨(g.1 _ _ _ (t _)).trans (h i a c).1, (h i a c).2⟩

set_option maxRecDepth 100000 in
theorem lp_ra34 {b top : Nat} (hb4 : b < 4) (ht7 : top ≤ 7) {f : Nat → Nat} {n : Nat} (hn1 : 1 ≤ n) (hnt : n ≤ top) {S : zS} (hs : Sd S) (hz : Szs S b f top) {k : Nat} (hk : k + 2 ≤ top) (hp : Pw2 S f top n (k + 2)) {Po : Option zV → zS → Prop} (K : Ok mX5_raise 71 [some (zr 5 0), some (zr 108 b), some (zi (nI top)), some (zi (nI n)), some (zi (nI (k + 2))), some (zl (lN (sm (fun i => f (i + 1) * pwS f (k + 1) (n - (i + 1))) (n - 1)))), none, some (zi (nI n))] [] S Po) : ∀ (d j : Nat), j + 1 + d = n → Ok mX5_raise 34 [some (zr 5 0), some (zr 108 b), some (zi (nI top)), some (zi (nI n)), some (zi (nI (k + 2))), some (zl (lN (sm (fun i => f (i + 1) * pwS f (k + 1) (n - (i + 1))) j))), none, some (zi (nI (j + 1)))] [] S Po := by
  intro d
  induction d with
  | zero =>
    intro j hj
    obtain rfl : n = j + 1 := by omega
    rw [show j + 1 - 1 = j by omega] at K
    refine r_iload (q := 36) dX5_raise_34 rfl rfl ?_
    refine r_iload_n (q := 37) dX5_raise_36 rfl rfl rfl ?_
    refine r_icmp_geN (q := 40) (t := 71) (by omega) (by omega) dX5_raise_37 (by decide) rfl (fun h37 => ?_) (fun h37 => absurd h37 (by omega))
    exact K
  | succ d ih =>
    intro j hj
    obtain ⟨z1, z2⟩ := hz (j + 1) (by omega) (by omega)
    have p1 := hp (k + 1) (n - (j + 1)) (by omega) (by omega) (by omega) (Or.inl (by omega))
    refine r_iload (q := 36) dX5_raise_34 rfl rfl ?_
    refine r_iload_n (q := 37) dX5_raise_36 rfl rfl rfl ?_
    refine r_icmp_geN (q := 40) (t := 71) (by omega) (by omega) dX5_raise_37 (by decide) rfl (fun h37 => absurd h37 (by omega)) (fun h37 => ?_)
    refine r_lload (q := 42) dX5_raise_40 rfl rfl ?_
    refine r_aload_n (q := 43) dX5_raise_42 rfl rfl rfl ?_
    refine r_iload (q := 45) dX5_raise_43 rfl rfl ?_
    refine r_ialdN (q := 46) 8 (by decide) rfl dX5_raise_45 rfl (hs.e (show b < 4 by omega)) (hs.n rfl (show b < 4 by omega)) (by omega) (by decide) ?_
    refine r_topi (y := nI (f (j + 1))) z1 ?_
    refine r_i2l (q := 47) dX5_raise_46 rfl ?_
    refine r_topl (y := lN (f (j + 1))) (nI_l (by omega)) ?_
    refine r_aload_n (q := 48) dX5_raise_47 rfl rfl rfl ?_
    refine r_getr (q := 51) (some (600, 0)) ck5 dX5_raise_48 rfl (k := 0) (by decide) wt255 rfl (hs.e (by decide)) (hs.r (by decide) (by decide)) ?_
    refine r_iload (q := 53) dX5_raise_51 rfl rfl ?_
    refine r_iconst (q := 54) (nI 1) dX5_raise_53 rfl (by decide) ?_
    refine r_isubN (q := 55) (by omega) dX5_raise_54 rfl ?_
    refine r_topi (y := nI (k + 1)) (congrArg nI (by omega)) ?_
    refine r_aaldN (q := 56) (some (10600, (k + 1))) 8 (by decide) (by decide) (by decide) dX5_raise_55 rfl (hs.e (by decide)) (hs.n rfl (by decide)) (show k + 1 < 8 by omega) (by decide) ((hs.r (by decide) (show k + 1 < 8 by omega)).trans (if_pos (show k + 1 < 8 by omega))) ?_
    refine r_iload_n (q := 57) dX5_raise_56 rfl rfl rfl ?_
    refine r_iload (q := 59) dX5_raise_57 rfl rfl ?_
    refine r_isubN (q := 60) (by omega) dX5_raise_59 rfl ?_
    refine r_laldN (q := 61) 8 (by decide) rfl dX5_raise_60 rfl (hs.e (show (k + 1) < 8 by omega)) (hs.n rfl (show (k + 1) < 8 by omega)) (by omega) (by decide) ?_
    refine r_topl (y := lN (pwS f (k + 1) (n - (j + 1)))) p1 ?_
    refine r_lmul (q := 62) dX5_raise_61 rfl ?_
    refine r_topl (y := lN ((f (j + 1)) * (pwS f (k + 1) (n - (j + 1))))) (lN_mul _ _) ?_
    refine r_ladd (q := 63) dX5_raise_62 rfl ?_
    refine r_topl (y := lN ((sm (fun i => f (i + 1) * pwS f (k + 1) (n - (i + 1))) j) + ((f (j + 1)) * (pwS f (k + 1) (n - (j + 1)))))) (lN_add _ _) ?_
    refine r_lstore (q := 65) (L' := [some (zr 5 0), some (zr 108 b), some (zi (nI top)), some (zi (nI n)), some (zi (nI (k + 2))), some (zl (lN ((sm (fun i => f (i + 1) * pwS f (k + 1) (n - (i + 1))) j) + ((f (j + 1)) * (pwS f (k + 1) (n - (j + 1))))))), none, some (zi (nI (j + 1)))]) dX5_raise_63 rfl (by decide) rfl ?_
    refine r_iincN (q := 68) (L' := [some (zr 5 0), some (zr 108 b), some (zi (nI top)), some (zi (nI n)), some (zi (nI (k + 2))), some (zl (lN ((sm (fun i => f (i + 1) * pwS f (k + 1) (n - (i + 1))) j) + ((f (j + 1)) * (pwS f (k + 1) (n - (j + 1))))))), none, some (zi (nI (j + 1 + 1)))]) 1 rfl dX5_raise_65 rfl rfl (by decide) rfl ?_
    refine r_goto (q := 34) dX5_raise_68 (by decide) ?_
    exact ih (j + 1) (by omega)

set_option maxRecDepth 100000 in
theorem lp_ra22 {b top : Nat} (hb4 : b < 4) (ht7 : top ≤ 7) {f : Nat → Nat} {n : Nat} (hn1 : 1 ≤ n) (hnt : n ≤ top) {Po : Option zV → zS → Prop} : ∀ (d k : Nat) (S : zS) (w5 w7 : Option zV), k + 1 + d = top → Sd S → Szs S b f top → Pw2 S f top n (k + 2) → (∀ S1 w5 w7, Fr tRa S S1 → Szs S1 b f top → Pw2 S1 f top (n + 1) 1 → Ok mX5_raise 88 [some (zr 5 0), some (zr 108 b), some (zi (nI top)), some (zi (nI n)), some (zi (nI (top + 1))), w5, none, w7] [] S1 Po) → Ok mX5_raise 22 [some (zr 5 0), some (zr 108 b), some (zi (nI top)), some (zi (nI n)), some (zi (nI (k + 2))), w5, none, w7] [] S Po := by
  intro d
  induction d with
  | zero =>
    intro k S w5 w7 hk hs hz hp K
    obtain rfl : top = k + 1 := by omega
    refine r_mask [true, true, true, true, true, false, true, false] rfl ?_
    refine r_iload (q := 24) dX5_raise_22 rfl rfl ?_
    refine r_iload_n (q := 25) dX5_raise_24 rfl rfl rfl ?_
    refine r_icmp_gtN (q := 28) (t := 88) (by omega) (by omega) dX5_raise_25 (by decide) rfl (fun h25 => ?_) (fun h25 => absurd h25 (by omega))
    exact K S _ _ Fr.rf hz (fun k' n' a b c d => hp k' n' a b c (by omega))
  | succ d ih =>
    intro k S w5 w7 hk hs hz hp K
    refine r_mask [true, true, true, true, true, false, true, false] rfl ?_
    refine r_iload (q := 24) dX5_raise_22 rfl rfl ?_
    refine r_iload_n (q := 25) dX5_raise_24 rfl rfl rfl ?_
    refine r_icmp_gtN (q := 28) (t := 88) (by omega) (by omega) dX5_raise_25 (by decide) rfl (fun h25 => absurd h25 (by omega)) (fun h25 => ?_)
    refine r_lconst (q := 29) (0 : Int64) dX5_raise_28 rfl rfl ?_
    refine r_topl (y := lN 0) rfl ?_
    refine r_lstore (q := 31) (L' := [some (zr 5 0), some (zr 108 b), some (zi (nI top)), some (zi (nI n)), some (zi (nI (k + 2))), some (zl (lN 0)), none, none]) dX5_raise_29 rfl (by decide) rfl ?_
    refine r_iconst (q := 32) (nI 1) dX5_raise_31 rfl (by decide) ?_
    refine r_istore (q := 34) (L' := [some (zr 5 0), some (zr 108 b), some (zi (nI top)), some (zi (nI n)), some (zi (nI (k + 2))), some (zl (lN 0)), none, some (zi (nI 1))]) dX5_raise_32 rfl (by decide) rfl ?_
    refine lp_ra34 hb4 ht7 hn1 hnt hs hz (by omega) hp ?_ (n - 1) 0 (by omega)
    refine r_aload_n (q := 72) dX5_raise_71 rfl rfl rfl ?_
    refine r_getr (q := 75) (some (600, 0)) ck5 dX5_raise_72 rfl (k := 0) (by decide) wt255 rfl (hs.e (by decide)) (hs.r (by decide) (by decide)) ?_
    refine r_iload (q := 77) dX5_raise_75 rfl rfl ?_
    refine r_aaldN (q := 78) (some (10600, (k + 2))) 8 (by decide) (by decide) (by decide) dX5_raise_77 rfl (hs.e (by decide)) (hs.n rfl (by decide)) (show k + 2 < 8 by omega) (by decide) ((hs.r (by decide) (show k + 2 < 8 by omega)).trans (if_pos (show k + 2 < 8 by omega))) ?_
    refine r_iload_n (q := 79) dX5_raise_78 rfl rfl rfl ?_
    refine r_lload (q := 81) dX5_raise_79 rfl rfl ?_
    refine r_lastN (q := 82) 8 (by decide) rfl dX5_raise_81 rfl (hs.e (show (k + 2) < 8 by omega)) (hs.n rfl (show (k + 2) < 8 by omega)) (by omega) (by decide) ?_
    refine r_iincN (q := 85) (L' := [some (zr 5 0), some (zr 108 b), some (zi (nI top)), some (zi (nI n)), some (zi (nI (k + 2 + 1))), some (zl (lN (sm (fun i => f (i + 1) * pwS f (k + 1) (n - (i + 1))) (n - 1)))), none, some (zi (nI n))]) 1 rfl dX5_raise_82 rfl rfl (by decide) rfl ?_
    refine r_goto (q := 22) dX5_raise_85 (by decide) ?_
    have f1 : Fr tRa S (sJ S 10600 (k + 2) n (lN (sm (fun i => f (i + 1) * pwS f (k + 1) (n - (i + 1))) (n - 1)))) := (Fr.rf).j rfl
    refine ih (k + 1) _ _ _ (by omega) (hs.fr f1) (hz.fr f1 (fun _ => rfl)) (fun k' n' a b c d => ?_) (fun S1 w5 w7 y1 y2 y3 => K S1 w5 w7 (f1.tr y1) y2 y3)
    rw [gJ_sJ]
    by_cases e : k' = k + 2 ∧ n' = n
    · rw [if_pos ⟨rfl, e.1, e.2⟩, e.1, e.2, pwS_cut hn1]
    · rw [if_neg (by omega)]; exact hp k' n' a b c (by omega)

set_option maxRecDepth 100000 in
theorem lp_ra2 {b top : Nat} (hb4 : b < 4) (ht1 : 1 ≤ top) (ht7 : top ≤ 7) {f : Nat → Nat} : ∀ (d n : Nat) (S : zS) (w4 w5 w7 : Option zV), n + d = top + 1 → 1 ≤ n → Sd S → Szs S b f top → Pw2 S f top n 1 → Ok mX5_raise 2 [some (zr 5 0), some (zr 108 b), some (zi (nI top)), some (zi (nI n)), w4, w5, none, w7] [] S (fun r S1 => r = none ∧ Fr tRa S S1 ∧ ∀ k' n', 1 ≤ k' → k' ≤ top → 1 ≤ n' → n' ≤ top → gJ S1 10600 k' n' = lN (pwS f k' n')) := by
  intro d
  induction d with
  | zero =>
    intro n S w4 w5 w7 hn hn1 hs hz hp
    obtain rfl : n = top + 1 := by omega
    refine r_mask [true, true, true, true, false, false, true, false] rfl ?_
    refine r_iload_n (q := 3) dX5_raise_2 rfl rfl rfl ?_
    refine r_iload_n (q := 4) dX5_raise_3 rfl rfl rfl ?_
    refine r_icmp_gtN (q := 7) (t := 94) (by omega) (by omega) dX5_raise_4 (by decide) rfl (fun h4 => ?_) (fun h4 => absurd h4 (by omega))
    refine r_return dX5_raise_94 rfl ?_
    exact ⟨rfl, Fr.rf, fun k' n' a b c d => hp k' n' a b c (Or.inl (by omega))⟩
  | succ d ih =>
    intro n S w4 w5 w7 hn hn1 hs hz hp
    obtain ⟨z1, z2⟩ := hz n hn1 (by omega)
    refine r_mask [true, true, true, true, false, false, true, false] rfl ?_
    refine r_iload_n (q := 3) dX5_raise_2 rfl rfl rfl ?_
    refine r_iload_n (q := 4) dX5_raise_3 rfl rfl rfl ?_
    refine r_icmp_gtN (q := 7) (t := 94) (by omega) (by omega) dX5_raise_4 (by decide) rfl (fun h4 => absurd h4 (by omega)) (fun h4 => ?_)
    refine r_aload_n (q := 8) dX5_raise_7 rfl rfl rfl ?_
    refine r_getr (q := 11) (some (600, 0)) ck5 dX5_raise_8 rfl (k := 0) (by decide) wt255 rfl (hs.e (by decide)) (hs.r (by decide) (by decide)) ?_
    refine r_iconst (q := 12) (nI 1) dX5_raise_11 rfl (by decide) ?_
    refine r_aaldN (q := 13) (some (10600, 1)) 8 (by decide) (by decide) (by decide) dX5_raise_12 rfl (hs.e (by decide)) (hs.n rfl (by decide)) (show 1 < 8 by omega) (by decide) ((hs.r (by decide) (show 1 < 8 by omega)).trans rfl) ?_
    refine r_iload_n (q := 14) dX5_raise_13 rfl rfl rfl ?_
    refine r_aload_n (q := 15) dX5_raise_14 rfl rfl rfl ?_
    refine r_iload_n (q := 16) dX5_raise_15 rfl rfl rfl ?_
    refine r_ialdN (q := 17) 8 (by decide) rfl dX5_raise_16 rfl (hs.e (show b < 4 by omega)) (hs.n rfl (show b < 4 by omega)) (by omega) (by decide) ?_
    refine r_topi (y := nI (f n)) z1 ?_
    refine r_i2l (q := 18) dX5_raise_17 rfl ?_
    refine r_topl (y := lN (f n)) (nI_l (by omega)) ?_
    refine r_lastN (q := 19) 8 (by decide) rfl dX5_raise_18 rfl (hs.e (by decide)) (hs.n rfl (by decide)) (by omega) (by decide) ?_
    refine r_iconst (q := 20) (nI 2) dX5_raise_19 rfl (by decide) ?_
    refine r_istore (q := 22) (L' := [some (zr 5 0), some (zr 108 b), some (zi (nI top)), some (zi (nI n)), some (zi (nI 2)), none, none, none]) dX5_raise_20 rfl (by decide) rfl ?_
    have f1 : Fr tRa S (sJ S 10600 1 n (lN (f n))) := (Fr.rf).j rfl
    refine lp_ra22 (f := f) hb4 ht7 hn1 (by omega) (top - 1) 0 (sJ S 10600 1 n (lN (f n))) none none (by omega) (hs.fr f1) (hz.fr f1 (fun _ => rfl)) (fun k' n' a b c d => ?_) (fun S1 w5 w7 y1 y2 y3 => ?_)
    · rw [gJ_sJ]
      by_cases e : k' = 1 ∧ n' = n
      · rw [if_pos ⟨rfl, e.1, e.2⟩, e.1, e.2, pwS_one hn1]
      · rw [if_neg (by omega)]; exact hp k' n' a b c (by omega)
    have f2 : Fr tRa S S1 := f1.tr y1
    have hs2 := hs.fr f2
    refine r_mask [true, true, true, true, false, false, true, false] rfl ?_
    refine r_iincN (q := 91) (L' := [some (zr 5 0), some (zr 108 b), some (zi (nI top)), some (zi (nI (n + 1))), none, none, none, none]) 1 rfl dX5_raise_88 rfl rfl (by decide) rfl ?_
    refine r_goto (q := 2) dX5_raise_91 (by decide) ?_
    exact Ok.mono (ih (n + 1) S1 none none none (by omega) (by omega) hs2 y2 y3) (fun r S3 z => ⟨z.1, f2.tr z.2.1, z.2.2⟩)

set_option maxRecDepth 100000 in
theorem ok_raise {S : zS} (hs : Sd S) {b top : Nat} (hb4 : b < 4) (ht1 : 1 ≤ top) (ht7 : top ≤ 7) {f : Nat → Nat} (hz : Szs S b f top) : Ok mX5_raise 0 (ent 8 [zr 5 0, zr 108 b, zi (nI top)]) [] S (fun r S1 => r = none ∧ Fr tRa S S1 ∧ ∀ k' n', 1 ≤ k' → k' ≤ top → 1 ≤ n' → n' ≤ top → gJ S1 10600 k' n' = lN (pwS f k' n')) := by
  show Ok mX5_raise 0 [some (zr 5 0), some (zr 108 b), some (zi (nI top)), none, none, none, none, none] [] S _
  refine r_iconst (q := 1) (nI 1) dX5_raise_0 rfl (by decide) ?_
  refine r_istore_n (q := 2) (L' := [some (zr 5 0), some (zr 108 b), some (zi (nI top)), some (zi (nI 1)), none, none, none, none]) dX5_raise_1 rfl rfl (by decide) rfl ?_
  exact lp_ra2 hb4 ht1 ht7 top 1 S none none none (by omega) (by omega) hs hz (fun k' n' a b c d => absurd d (by omega))

set_option maxRecDepth 100000 in
theorem lp_ov5 {S : zS} (hs : Sd S) {b n : Nat} (hb4 : b < 4) (hn1 : 1 ≤ n) (hn7 : n ≤ 7) {f g : Nat → Nat} (hz : Szs S b g n) (hp : ∀ k', 1 ≤ k' → k' ≤ n → gJ S 10600 k' n = lN (pwS f k' n)) : ∀ (d m : Nat), m + d = n → Ok mX5_over 5 [some (zr 5 0), some (zr 108 b), some (zi (nI n)), some (zl (lN (sm (fun i => g (i + 1) * pwS f (i + 1) n) m))), none, some (zi (nI (m + 1)))] [] S (fun r S1 => r = some (zl (lN (sm (fun i => g (i + 1) * pwS f (i + 1) n) n))) ∧ S1 = S) := by
  intro d
  induction d with
  | zero =>
    intro m hm
    obtain rfl : m = n := by omega
    refine r_iload (q := 7) dX5_over_5 rfl rfl ?_
    refine r_iload_n (q := 8) dX5_over_7 rfl rfl rfl ?_
    refine r_icmp_gtN (q := 11) (t := 35) (by omega) (by omega) dX5_over_8 (by decide) rfl (fun h8 => ?_) (fun h8 => absurd h8 (by omega))
    refine r_lload_n (q := 36) dX5_over_35 rfl rfl rfl ?_
    refine r_lreturn dX5_over_36 rfl ?_
    exact ⟨rfl, rfl⟩
  | succ d ih =>
    intro m hm
    obtain ⟨z1, z2⟩ := hz (m + 1) (by omega) (by omega)
    have p1 := hp (m + 1) (by omega) (by omega)
    refine r_iload (q := 7) dX5_over_5 rfl rfl ?_
    refine r_iload_n (q := 8) dX5_over_7 rfl rfl rfl ?_
    refine r_icmp_gtN (q := 11) (t := 35) (by omega) (by omega) dX5_over_8 (by decide) rfl (fun h8 => absurd h8 (by omega)) (fun h8 => ?_)
    refine r_lload_n (q := 12) dX5_over_11 rfl rfl rfl ?_
    refine r_aload_n (q := 13) dX5_over_12 rfl rfl rfl ?_
    refine r_iload (q := 15) dX5_over_13 rfl rfl ?_
    refine r_ialdN (q := 16) 8 (by decide) rfl dX5_over_15 rfl (hs.e (show b < 4 by omega)) (hs.n rfl (show b < 4 by omega)) (by omega) (by decide) ?_
    refine r_topi (y := nI (g (m + 1))) z1 ?_
    refine r_i2l (q := 17) dX5_over_16 rfl ?_
    refine r_topl (y := lN (g (m + 1))) (nI_l (by omega)) ?_
    refine r_aload_n (q := 18) dX5_over_17 rfl rfl rfl ?_
    refine r_getr (q := 21) (some (600, 0)) ck5 dX5_over_18 rfl (k := 0) (by decide) wt255 rfl (hs.e (by decide)) (hs.r (by decide) (by decide)) ?_
    refine r_iload (q := 23) dX5_over_21 rfl rfl ?_
    refine r_aaldN (q := 24) (some (10600, (m + 1))) 8 (by decide) (by decide) (by decide) dX5_over_23 rfl (hs.e (by decide)) (hs.n rfl (by decide)) (show m + 1 < 8 by omega) (by decide) ((hs.r (by decide) (show m + 1 < 8 by omega)).trans (if_pos (show m + 1 < 8 by omega))) ?_
    refine r_iload_n (q := 25) dX5_over_24 rfl rfl rfl ?_
    refine r_laldN (q := 26) 8 (by decide) rfl dX5_over_25 rfl (hs.e (show (m + 1) < 8 by omega)) (hs.n rfl (show (m + 1) < 8 by omega)) (by omega) (by decide) ?_
    refine r_topl (y := lN (pwS f (m + 1) n)) p1 ?_
    refine r_lmul (q := 27) dX5_over_26 rfl ?_
    refine r_topl (y := lN ((g (m + 1)) * (pwS f (m + 1) n))) (lN_mul _ _) ?_
    refine r_ladd (q := 28) dX5_over_27 rfl ?_
    refine r_topl (y := lN ((sm (fun i => g (i + 1) * pwS f (i + 1) n) m) + ((g (m + 1)) * (pwS f (m + 1) n)))) (lN_add _ _) ?_
    refine r_lstore_n (q := 29) (L' := [some (zr 5 0), some (zr 108 b), some (zi (nI n)), some (zl (lN ((sm (fun i => g (i + 1) * pwS f (i + 1) n) m) + ((g (m + 1)) * (pwS f (m + 1) n))))), none, some (zi (nI (m + 1)))]) dX5_over_28 rfl rfl (by decide) rfl ?_
    refine r_iincN (q := 32) (L' := [some (zr 5 0), some (zr 108 b), some (zi (nI n)), some (zl (lN ((sm (fun i => g (i + 1) * pwS f (i + 1) n) m) + ((g (m + 1)) * (pwS f (m + 1) n))))), none, some (zi (nI (m + 1 + 1)))]) 1 rfl dX5_over_29 rfl rfl (by decide) rfl ?_
    refine r_goto (q := 5) dX5_over_32 (by decide) ?_
    exact ih (m + 1) (by omega)

set_option maxRecDepth 100000 in
theorem ok_over {S : zS} (hs : Sd S) {b n : Nat} (hb4 : b < 4) (hn1 : 1 ≤ n) (hn7 : n ≤ 7) {f g : Nat → Nat} (hz : Szs S b g n) (hp : ∀ k', 1 ≤ k' → k' ≤ n → gJ S 10600 k' n = lN (pwS f k' n)) : Ok mX5_over 0 (ent 6 [zr 5 0, zr 108 b, zi (nI n)]) [] S (fun r S1 => r = some (zl (lN (sm (fun i => g (i + 1) * pwS f (i + 1) n) n))) ∧ S1 = S) := by
  show Ok mX5_over 0 [some (zr 5 0), some (zr 108 b), some (zi (nI n)), none, none, none] [] S _
  refine r_lconst (q := 1) (0 : Int64) dX5_over_0 rfl rfl ?_
  refine r_topl (y := lN 0) rfl ?_
  refine r_lstore_n (q := 2) (L' := [some (zr 5 0), some (zr 108 b), some (zi (nI n)), some (zl (lN 0)), none, none]) dX5_over_1 rfl rfl (by decide) rfl ?_
  refine r_iconst (q := 3) (nI 1) dX5_over_2 rfl (by decide) ?_
  refine r_istore (q := 5) (L' := [some (zr 5 0), some (zr 108 b), some (zi (nI n)), some (zl (lN 0)), none, some (zi (nI 1))]) dX5_over_3 rfl (by decide) rfl ?_
  exact lp_ov5 hs hb4 hn1 hn7 hz hp n 0 (by omega)

def tIn5 (x y _k : Nat) : Bool := x == 601 && y == 0

set_option maxRecDepth 100000 in
theorem lp_inv21 {S : zS} (hs : Sd S) {top n : Nat} (hn7 : n ≤ 7) (ht7 : top ≤ 7) {f : Nat → Nat} (hp : ∀ k', 1 ≤ k' → k' < n → gJ S 10600 k' n = lN (pwS f k' n)) {Po : Option zV → zS → Prop} (K : Ok mX5_invert 53 [some (zr 5 0), some (zi (nI top)), some (zi (nI n)), some (zl (accJ (fun m => gJ S 601 0 m) f n (n - 1))), none, some (zi (nI n))] [] S Po) : ∀ (d k : Nat), k + 1 + d = n → Ok mX5_invert 21 [some (zr 5 0), some (zi (nI top)), some (zi (nI n)), some (zl (accJ (fun m => gJ S 601 0 m) f n k)), none, some (zi (nI (k + 1)))] [] S Po := by
  intro d
  induction d with
  | zero =>
    intro k hk
    obtain rfl : n = k + 1 := by omega
    rw [show k + 1 - 1 = k by omega] at K
    refine r_iload (q := 23) dX5_invert_21 rfl rfl ?_
    refine r_iload_n (q := 24) dX5_invert_23 rfl rfl rfl ?_
    refine r_icmp_geN (q := 27) (t := 53) (by omega) (by omega) dX5_invert_24 (by decide) rfl (fun h24 => ?_) (fun h24 => absurd h24 (by omega))
    exact K
  | succ d ih =>
    intro k hk
    have p1 := hp (k + 1) (by omega) (by omega)
    refine r_iload (q := 23) dX5_invert_21 rfl rfl ?_
    refine r_iload_n (q := 24) dX5_invert_23 rfl rfl rfl ?_
    refine r_icmp_geN (q := 27) (t := 53) (by omega) (by omega) dX5_invert_24 (by decide) rfl (fun h24 => absurd h24 (by omega)) (fun h24 => ?_)
    refine r_lload_n (q := 28) dX5_invert_27 rfl rfl rfl ?_
    refine r_aload_n (q := 29) dX5_invert_28 rfl rfl rfl ?_
    refine r_getr (q := 32) (some (601, 0)) ck5 dX5_invert_29 rfl (k := 1) (by decide) wt256 rfl (hs.e (by decide)) (hs.r (by decide) (by decide)) ?_
    refine r_iload (q := 34) dX5_invert_32 rfl rfl ?_
    refine r_laldN (q := 35) 8 (by decide) rfl dX5_invert_34 rfl (hs.e (by decide)) (hs.n rfl (by decide)) (by omega) (by decide) ?_
    refine r_aload_n (q := 36) dX5_invert_35 rfl rfl rfl ?_
    refine r_getr (q := 39) (some (600, 0)) ck5 dX5_invert_36 rfl (k := 0) (by decide) wt255 rfl (hs.e (by decide)) (hs.r (by decide) (by decide)) ?_
    refine r_iload (q := 41) dX5_invert_39 rfl rfl ?_
    refine r_aaldN (q := 42) (some (10600, (k + 1))) 8 (by decide) (by decide) (by decide) dX5_invert_41 rfl (hs.e (by decide)) (hs.n rfl (by decide)) (show k + 1 < 8 by omega) (by decide) ((hs.r (by decide) (show k + 1 < 8 by omega)).trans (if_pos (show k + 1 < 8 by omega))) ?_
    refine r_iload_n (q := 43) dX5_invert_42 rfl rfl rfl ?_
    refine r_laldN (q := 44) 8 (by decide) rfl dX5_invert_43 rfl (hs.e (show (k + 1) < 8 by omega)) (hs.n rfl (show (k + 1) < 8 by omega)) (by omega) (by decide) ?_
    refine r_topl (y := lN (pwS f (k + 1) n)) p1 ?_
    refine r_lmul (q := 45) dX5_invert_44 rfl ?_
    refine r_lsub (q := 46) dX5_invert_45 rfl ?_
    refine r_lstore_n (q := 47) (L' := [some (zr 5 0), some (zi (nI top)), some (zi (nI n)), some (zl ((accJ (fun m => gJ S 601 0 m) f n k) - ((gJ S 601 0 (k + 1)) * (lN (pwS f (k + 1) n))))), none, some (zi (nI (k + 1)))]) dX5_invert_46 rfl rfl (by decide) rfl ?_
    refine r_iincN (q := 50) (L' := [some (zr 5 0), some (zi (nI top)), some (zi (nI n)), some (zl ((accJ (fun m => gJ S 601 0 m) f n k) - ((gJ S 601 0 (k + 1)) * (lN (pwS f (k + 1) n))))), none, some (zi (nI (k + 1 + 1)))]) 1 rfl dX5_invert_47 rfl rfl (by decide) rfl ?_
    refine r_goto (q := 21) dX5_invert_50 (by decide) ?_
    exact ih (k + 1) (by omega)

set_option maxRecDepth 100000 in
theorem lp_inv2 {top : Nat} (ht7 : top ≤ 7) {f : Nat → Nat} : ∀ (d n : Nat) (S : zS) (w3 w5 : Option zV), n + d = top + 1 → 1 ≤ n → Sd S → (∀ k' n', 1 ≤ k' → k' ≤ top → 1 ≤ n' → n' ≤ top → gJ S 10600 k' n' = lN (pwS f k' n')) → IvS (fun m => gJ S 601 0 m) f (n - 1) → Ok mX5_invert 2 [some (zr 5 0), some (zi (nI top)), some (zi (nI n)), w3, none, w5] [] S (fun r S1 => r = none ∧ Fr tIn5 S S1 ∧ IvS (fun m => gJ S1 601 0 m) f top) := by
  intro d
  induction d with
  | zero =>
    intro n S w3 w5 hn hn1 hs hp hi
    obtain rfl : n = top + 1 := by omega
    refine r_mask [true, true, true, false, true, false] rfl ?_
    refine r_iload_n (q := 3) dX5_invert_2 rfl rfl rfl ?_
    refine r_iload_n (q := 4) dX5_invert_3 rfl rfl rfl ?_
    refine r_icmp_gtN (q := 7) (t := 66) (by omega) (by omega) dX5_invert_4 (by decide) rfl (fun h4 => ?_) (fun h4 => absurd h4 (by omega))
    refine r_return dX5_invert_66 rfl ?_
    exact ⟨rfl, Fr.rf, hi⟩
  | succ d ih =>
    intro n S w3 w5 hn hn1 hs hp hi
    refine r_mask [true, true, true, false, true, false] rfl ?_
    have key : ∀ Po, Ok mX5_invert 53 [some (zr 5 0), some (zi (nI top)), some (zi (nI n)), some (zl (accJ (fun m => gJ S 601 0 m) f n (n - 1))), none, some (zi (nI n))] [] S Po → Ok mX5_invert 21 [some (zr 5 0), some (zi (nI top)), some (zi (nI n)), some (zl (accJ (fun m => gJ S 601 0 m) f n 0)), none, some (zi (nI 1))] [] S Po := fun Po K => lp_inv21 hs (by omega) ht7 (fun k' a b => hp k' n a (by omega) hn1 (by omega)) K (n - 1) 0 (by omega)
    by_cases hn9 : n = 1
    · skip
      refine r_iload_n (q := 3) dX5_invert_2 rfl rfl rfl ?_
      refine r_iload_n (q := 4) dX5_invert_3 rfl rfl rfl ?_
      refine r_icmp_gtN (q := 7) (t := 66) (by omega) (by omega) dX5_invert_4 (by decide) rfl (fun h4 => absurd h4 (by omega)) (fun h4 => ?_)
      refine r_iload_n (q := 8) dX5_invert_7 rfl rfl rfl ?_
      refine r_iconst (q := 9) (nI 1) dX5_invert_8 rfl (by decide) ?_
      refine r_icmp_neN (q := 12) (t := 16) (by omega) (by omega) dX5_invert_9 (by decide) rfl (fun h9 => absurd h9 (by omega)) (fun h9 => ?_)
      refine r_lconst (q := 13) (1 : Int64) dX5_invert_12 rfl rfl ?_
      refine r_topl (y := lN 1) rfl ?_
      refine r_goto (q := 17) dX5_invert_13 (by decide) ?_
      refine r_lstore_n (q := 18) (L' := [some (zr 5 0), some (zi (nI top)), some (zi (nI n)), some (zl (lN 1)), none, none]) dX5_invert_17 rfl rfl (by decide) rfl ?_
      refine r_iconst (q := 19) (nI 1) dX5_invert_18 rfl (by decide) ?_
      refine r_istore (q := 21) (L' := [some (zr 5 0), some (zi (nI top)), some (zi (nI n)), some (zl (lN 1)), none, some (zi (nI 1))]) dX5_invert_19 rfl (by decide) rfl ?_
      have ea : accJ (fun m => gJ S 601 0 m) f n 0 = lN 1 := if_pos hn9
      rw [ea] at key
      refine key _ ?_
      refine r_aload_n (q := 54) dX5_invert_53 rfl rfl rfl ?_
      refine r_getr (q := 57) (some (601, 0)) ck5 dX5_invert_54 rfl (k := 1) (by decide) wt256 rfl (hs.e (by decide)) (hs.r (by decide) (by decide)) ?_
      refine r_iload_n (q := 58) dX5_invert_57 rfl rfl rfl ?_
      refine r_lload_n (q := 59) dX5_invert_58 rfl rfl rfl ?_
      refine r_lastN (q := 60) 8 (by decide) rfl dX5_invert_59 rfl (hs.e (by decide)) (hs.n rfl (by decide)) (by omega) (by decide) ?_
      refine r_iincN (q := 63) (L' := [some (zr 5 0), some (zi (nI top)), some (zi (nI (n + 1))), some (zl (accJ (fun m => gJ S 601 0 m) f n (n - 1))), none, some (zi (nI n))]) 1 rfl dX5_invert_60 rfl rfl (by decide) rfl ?_
      refine r_goto (q := 2) dX5_invert_63 (by decide) ?_
      have f1 : Fr tIn5 S (sJ S 601 0 n (accJ (fun m => gJ S 601 0 m) f n (n - 1))) := (Fr.rf).j rfl
      refine Ok.mono (ih (n + 1) _ _ _ (by omega) (by omega) (hs.fr f1) (fun k' n' a b c d => (f1.2.1 _ _ _ rfl).trans (hp k' n' a b c d)) (fun m m1 m2 => ?_)) (fun r S3 z => ⟨z.1, f1.tr z.2.1, z.2.2⟩)
      have ec : accJ (fun m => gJ (sJ S 601 0 n (accJ (fun m => gJ S 601 0 m) f n (n - 1))) 601 0 m) f m (m - 1) = accJ (fun m => gJ S 601 0 m) f m (m - 1) := accJ_cong (fun i a b => ⟨by show gJ (sJ S 601 0 n (accJ (fun m => gJ S 601 0 m) f n (n - 1))) 601 0 i = gJ S 601 0 i; rw [gJ_sJ, if_neg (by omega)], rfl⟩)
      rw [ec]
      show gJ (sJ S 601 0 n (accJ (fun m => gJ S 601 0 m) f n (n - 1))) 601 0 m = _
      by_cases e : m = n
      · rw [gJ_sJ, if_pos ⟨rfl, rfl, e⟩, e]
      · rw [gJ_sJ, if_neg (by omega)]; exact hi m m1 (by omega)
    · skip
      refine r_iload_n (q := 3) dX5_invert_2 rfl rfl rfl ?_
      refine r_iload_n (q := 4) dX5_invert_3 rfl rfl rfl ?_
      refine r_icmp_gtN (q := 7) (t := 66) (by omega) (by omega) dX5_invert_4 (by decide) rfl (fun h4 => absurd h4 (by omega)) (fun h4 => ?_)
      refine r_iload_n (q := 8) dX5_invert_7 rfl rfl rfl ?_
      refine r_iconst (q := 9) (nI 1) dX5_invert_8 rfl (by decide) ?_
      refine r_icmp_neN (q := 12) (t := 16) (by omega) (by omega) dX5_invert_9 (by decide) rfl (fun h9 => ?_) (fun h9 => absurd h9 (by omega))
      refine r_lconst (q := 17) (0 : Int64) dX5_invert_16 rfl rfl ?_
      refine r_topl (y := lN 0) rfl ?_
      refine r_lstore_n (q := 18) (L' := [some (zr 5 0), some (zi (nI top)), some (zi (nI n)), some (zl (lN 0)), none, none]) dX5_invert_17 rfl rfl (by decide) rfl ?_
      refine r_iconst (q := 19) (nI 1) dX5_invert_18 rfl (by decide) ?_
      refine r_istore (q := 21) (L' := [some (zr 5 0), some (zi (nI top)), some (zi (nI n)), some (zl (lN 0)), none, some (zi (nI 1))]) dX5_invert_19 rfl (by decide) rfl ?_
      have ea : accJ (fun m => gJ S 601 0 m) f n 0 = lN 0 := if_neg hn9
      rw [ea] at key
      refine key _ ?_
      refine r_aload_n (q := 54) dX5_invert_53 rfl rfl rfl ?_
      refine r_getr (q := 57) (some (601, 0)) ck5 dX5_invert_54 rfl (k := 1) (by decide) wt256 rfl (hs.e (by decide)) (hs.r (by decide) (by decide)) ?_
      refine r_iload_n (q := 58) dX5_invert_57 rfl rfl rfl ?_
      refine r_lload_n (q := 59) dX5_invert_58 rfl rfl rfl ?_
      refine r_lastN (q := 60) 8 (by decide) rfl dX5_invert_59 rfl (hs.e (by decide)) (hs.n rfl (by decide)) (by omega) (by decide) ?_
      refine r_iincN (q := 63) (L' := [some (zr 5 0), some (zi (nI top)), some (zi (nI (n + 1))), some (zl (accJ (fun m => gJ S 601 0 m) f n (n - 1))), none, some (zi (nI n))]) 1 rfl dX5_invert_60 rfl rfl (by decide) rfl ?_
      refine r_goto (q := 2) dX5_invert_63 (by decide) ?_
      have f1 : Fr tIn5 S (sJ S 601 0 n (accJ (fun m => gJ S 601 0 m) f n (n - 1))) := (Fr.rf).j rfl
      refine Ok.mono (ih (n + 1) _ _ _ (by omega) (by omega) (hs.fr f1) (fun k' n' a b c d => (f1.2.1 _ _ _ rfl).trans (hp k' n' a b c d)) (fun m m1 m2 => ?_)) (fun r S3 z => ⟨z.1, f1.tr z.2.1, z.2.2⟩)
      have ec : accJ (fun m => gJ (sJ S 601 0 n (accJ (fun m => gJ S 601 0 m) f n (n - 1))) 601 0 m) f m (m - 1) = accJ (fun m => gJ S 601 0 m) f m (m - 1) := accJ_cong (fun i a b => ⟨by show gJ (sJ S 601 0 n (accJ (fun m => gJ S 601 0 m) f n (n - 1))) 601 0 i = gJ S 601 0 i; rw [gJ_sJ, if_neg (by omega)], rfl⟩)
      rw [ec]
      show gJ (sJ S 601 0 n (accJ (fun m => gJ S 601 0 m) f n (n - 1))) 601 0 m = _
      by_cases e : m = n
      · rw [gJ_sJ, if_pos ⟨rfl, rfl, e⟩, e]
      · rw [gJ_sJ, if_neg (by omega)]; exact hi m m1 (by omega)

set_option maxRecDepth 100000 in
theorem ok_invert {S : zS} (hs : Sd S) {top : Nat} (ht1 : 1 ≤ top) (ht7 : top ≤ 7) {f : Nat → Nat} (hp : ∀ k' n', 1 ≤ k' → k' ≤ top → 1 ≤ n' → n' ≤ top → gJ S 10600 k' n' = lN (pwS f k' n')) : Ok mX5_invert 0 (ent 6 [zr 5 0, zi (nI top)]) [] S (fun r S1 => r = none ∧ Fr tIn5 S S1 ∧ IvS (fun m => gJ S1 601 0 m) f top) := by
  show Ok mX5_invert 0 [some (zr 5 0), some (zi (nI top)), none, none, none, none] [] S _
  refine r_iconst (q := 1) (nI 1) dX5_invert_0 rfl (by decide) ?_
  refine r_istore_n (q := 2) (L' := [some (zr 5 0), some (zi (nI top)), some (zi (nI 1)), none, none, none]) dX5_invert_1 rfl rfl (by decide) rfl ?_
  exact lp_inv2 ht7 top 1 S none none (by omega) (by omega) hs hp (fun m a b => absurd b (by omega))

