/-! series of the reference -/
def tPo (x y _k : Nat) : Bool := x == 1368 && y == 0
def Fst (S : zS) (f : Nat → Nat) (n : Nat) : Prop := ∀ i, 1 ≤ i → i ≤ n → gJ S 1367 0 i = lN (f i)
theorem Fst.fr {S S1 : zS} {f : Nat → Nat} {n : Nat} (h : Fst S f n) {U : Nat → Nat → Nat → Bool} (g : Fr U S S1) (t : ∀ k, U 1367 0 k = false) : Fst S1 f n := fun i a b => (g.2.1 _ _ _ (t _)).trans (h i a b)

set_option maxRecDepth 100000 in
theorem lp_po2 {m n : Nat} (hn7 : n ≤ 7) {f : Nat → Nat} {Po : Option zV → zS → Prop} : ∀ (d k : Nat) (S : zS), k + d = n + 1 → Sd S → (∀ i, i < k → gJ S 1368 0 i = lN (pwS f 0 i)) → (∀ S1, Fr tPo S S1 → (∀ i, i ≤ n → gJ S1 1368 0 i = lN (pwS f 0 i)) → Ok mX12_powers 28 [some (zr 12 0), some (zi (nI m)), some (zi (nI n)), some (zi (nI (n + 1))), none, none, none, none] [] S1 Po) → Ok mX12_powers 2 [some (zr 12 0), some (zi (nI m)), some (zi (nI n)), some (zi (nI k)), none, none, none, none] [] S Po := by
  intro d
  induction d with
  | zero =>
    intro k S hk hs hp K
    obtain rfl : k = n + 1 := by omega
    refine r_iload_n (q := 3) dX12_powers_2 rfl rfl rfl ?_
    refine r_iload_n (q := 4) dX12_powers_3 rfl rfl rfl ?_
    refine r_icmp_gtN (q := 7) (t := 28) (by omega) (by omega) dX12_powers_4 (by decide) rfl (fun h4 => ?_) (fun h4 => absurd h4 (by omega))
    exact K S Fr.rf (fun i hi => hp i (by omega))
  | succ d ih =>
    intro k S hk hs hp K
    by_cases h0 : k = 0
    · skip
      refine r_iload_n (q := 3) dX12_powers_2 rfl rfl rfl ?_
      refine r_iload_n (q := 4) dX12_powers_3 rfl rfl rfl ?_
      refine r_icmp_gtN (q := 7) (t := 28) (by omega) (by omega) dX12_powers_4 (by decide) rfl (fun h4 => absurd h4 (by omega)) (fun h4 => ?_)
      refine r_aload_n (q := 8) dX12_powers_7 rfl rfl rfl ?_
      refine r_getr (q := 11) (some (1368, 0)) ck12 dX12_powers_8 rfl (k := 68) (by decide) wt1346 rfl (hs.e (by decide)) (hs.r (by decide) (by decide)) ?_
      refine r_iload_n (q := 12) dX12_powers_11 rfl rfl rfl ?_
      refine r_iload_n (q := 13) dX12_powers_12 rfl rfl rfl ?_
      refine r_if_neN (q := 16) (t := 20) (by omega) dX12_powers_13 (by decide) rfl (fun h13 => absurd h13 (by omega)) (fun h13 => ?_)
      refine r_lconst (q := 17) (1 : Int64) dX12_powers_16 rfl rfl ?_
      refine r_topl (y := lN 1) rfl ?_
      refine r_goto (q := 21) dX12_powers_17 (by decide) ?_
      refine r_lastN (q := 22) 8 (by decide) rfl dX12_powers_21 rfl (hs.e (by decide)) (hs.n rfl (by decide)) (by omega) (by decide) ?_
      refine r_iincN (q := 25) (L' := [some (zr 12 0), some (zi (nI m)), some (zi (nI n)), some (zi (nI (k + 1))), none, none, none, none]) 1 rfl dX12_powers_22 rfl rfl (by decide) rfl ?_
      refine r_goto (q := 2) dX12_powers_25 (by decide) ?_
      have f1 : Fr tPo S (sJ S 1368 0 k (lN 1)) := (Fr.rf).j rfl
      refine ih (k + 1) _ (by omega) (hs.fr f1) (fun i hi => ?_) (fun S1 y1 y2 => K S1 (f1.tr y1) y2)
      rw [gJ_sJ]
      by_cases e : i = k
      · rw [if_pos ⟨rfl, rfl, e⟩, e, pwS, if_pos h0]
      · rw [if_neg (by omega)]; exact hp i (by omega)
    · skip
      refine r_iload_n (q := 3) dX12_powers_2 rfl rfl rfl ?_
      refine r_iload_n (q := 4) dX12_powers_3 rfl rfl rfl ?_
      refine r_icmp_gtN (q := 7) (t := 28) (by omega) (by omega) dX12_powers_4 (by decide) rfl (fun h4 => absurd h4 (by omega)) (fun h4 => ?_)
      refine r_aload_n (q := 8) dX12_powers_7 rfl rfl rfl ?_
      refine r_getr (q := 11) (some (1368, 0)) ck12 dX12_powers_8 rfl (k := 68) (by decide) wt1346 rfl (hs.e (by decide)) (hs.r (by decide) (by decide)) ?_
      refine r_iload_n (q := 12) dX12_powers_11 rfl rfl rfl ?_
      refine r_iload_n (q := 13) dX12_powers_12 rfl rfl rfl ?_
      refine r_if_neN (q := 16) (t := 20) (by omega) dX12_powers_13 (by decide) rfl (fun h13 => ?_) (fun h13 => absurd h13 (by omega))
      refine r_lconst (q := 21) (0 : Int64) dX12_powers_20 rfl rfl ?_
      refine r_topl (y := lN 0) rfl ?_
      refine r_lastN (q := 22) 8 (by decide) rfl dX12_powers_21 rfl (hs.e (by decide)) (hs.n rfl (by decide)) (by omega) (by decide) ?_
      refine r_iincN (q := 25) (L' := [some (zr 12 0), some (zi (nI m)), some (zi (nI n)), some (zi (nI (k + 1))), none, none, none, none]) 1 rfl dX12_powers_22 rfl rfl (by decide) rfl ?_
      refine r_goto (q := 2) dX12_powers_25 (by decide) ?_
      have f1 : Fr tPo S (sJ S 1368 0 k (lN 0)) := (Fr.rf).j rfl
      refine ih (k + 1) _ (by omega) (hs.fr f1) (fun i hi => ?_) (fun S1 y1 y2 => K S1 (f1.tr y1) y2)
      rw [gJ_sJ]
      by_cases e : i = k
      · rw [if_pos ⟨rfl, rfl, e⟩, e, pwS, if_neg h0]
      · rw [if_neg (by omega)]; exact hp i (by omega)

set_option maxRecDepth 100000 in
theorem lp_po49 {S : zS} (hs : Sd S) {m n p k : Nat} (hn7 : n ≤ 7) (hk : k ≤ n) {f : Nat → Nat} (hf : Fst S f n) (hp : ∀ i, i < k → gJ S 1368 0 i = lN (pwS f p i)) {Po : Option zV → zS → Prop} (K : Ok mX12_powers 85 [some (zr 12 0), some (zi (nI m)), some (zi (nI n)), some (zi (nI p)), some (zi (nI k)), some (zl (lN (sm (fun i => f (i + 1) * pwS f p (k - (i + 1))) k))), none, some (zi (nI (k + 1)))] [] S Po) : ∀ (d j : Nat), j + d = k → Ok mX12_powers 49 [some (zr 12 0), some (zi (nI m)), some (zi (nI n)), some (zi (nI p)), some (zi (nI k)), some (zl (lN (sm (fun i => f (i + 1) * pwS f p (k - (i + 1))) j))), none, some (zi (nI (j + 1)))] [] S Po := by
  intro d
  induction d with
  | zero =>
    intro j hj
    obtain rfl : j = k := by omega
    refine r_iload (q := 51) dX12_powers_49 rfl rfl ?_
    refine r_iload (q := 53) dX12_powers_51 rfl rfl ?_
    refine r_icmp_gtN (q := 56) (t := 85) (by omega) (by omega) dX12_powers_53 (by decide) rfl (fun h53 => ?_) (fun h53 => absurd h53 (by omega))
    exact K
  | succ d ih =>
    intro j hj
    have z1 := hf (j + 1) (by omega) (by omega)
    have p1 := hp (k - (j + 1)) (by omega)
    refine r_iload (q := 51) dX12_powers_49 rfl rfl ?_
    refine r_iload (q := 53) dX12_powers_51 rfl rfl ?_
    refine r_icmp_gtN (q := 56) (t := 85) (by omega) (by omega) dX12_powers_53 (by decide) rfl (fun h53 => absurd h53 (by omega)) (fun h53 => ?_)
    refine r_lload (q := 58) dX12_powers_56 rfl rfl ?_
    refine r_aload_n (q := 59) dX12_powers_58 rfl rfl rfl ?_
    refine r_getr (q := 62) (some (1367, 0)) ck12 dX12_powers_59 rfl (k := 67) (by decide) wt1345 rfl (hs.e (by decide)) (hs.r (by decide) (by decide)) ?_
    refine r_iload (q := 64) dX12_powers_62 rfl rfl ?_
    refine r_laldN (q := 65) 8 (by decide) rfl dX12_powers_64 rfl (hs.e (by decide)) (hs.n rfl (by decide)) (by omega) (by decide) ?_
    refine r_topl (y := lN (f (j + 1))) z1 ?_
    refine r_aload_n (q := 66) dX12_powers_65 rfl rfl rfl ?_
    refine r_getr (q := 69) (some (1368, 0)) ck12 dX12_powers_66 rfl (k := 68) (by decide) wt1346 rfl (hs.e (by decide)) (hs.r (by decide) (by decide)) ?_
    refine r_iload (q := 71) dX12_powers_69 rfl rfl ?_
    refine r_iload (q := 73) dX12_powers_71 rfl rfl ?_
    refine r_isubN (q := 74) (by omega) dX12_powers_73 rfl ?_
    refine r_laldN (q := 75) 8 (by decide) rfl dX12_powers_74 rfl (hs.e (by decide)) (hs.n rfl (by decide)) (by omega) (by decide) ?_
    refine r_topl (y := lN (pwS f p (k - (j + 1)))) p1 ?_
    refine r_lmul (q := 76) dX12_powers_75 rfl ?_
    refine r_topl (y := lN ((f (j + 1)) * (pwS f p (k - (j + 1))))) (lN_mul _ _) ?_
    refine r_ladd (q := 77) dX12_powers_76 rfl ?_
    refine r_topl (y := lN ((sm (fun i => f (i + 1) * pwS f p (k - (i + 1))) j) + ((f (j + 1)) * (pwS f p (k - (j + 1)))))) (lN_add _ _) ?_
    refine r_lstore (q := 79) (L' := [some (zr 12 0), some (zi (nI m)), some (zi (nI n)), some (zi (nI p)), some (zi (nI k)), some (zl (lN ((sm (fun i => f (i + 1) * pwS f p (k - (i + 1))) j) + ((f (j + 1)) * (pwS f p (k - (j + 1))))))), none, some (zi (nI (j + 1)))]) dX12_powers_77 rfl (by decide) rfl ?_
    refine r_iincN (q := 82) (L' := [some (zr 12 0), some (zi (nI m)), some (zi (nI n)), some (zi (nI p)), some (zi (nI k)), some (zl (lN ((sm (fun i => f (i + 1) * pwS f p (k - (i + 1))) j) + ((f (j + 1)) * (pwS f p (k - (j + 1))))))), none, some (zi (nI (j + 1 + 1)))]) 1 rfl dX12_powers_79 rfl rfl (by decide) rfl ?_
    refine r_goto (q := 49) dX12_powers_82 (by decide) ?_
    exact ih (j + 1) (by omega)

set_option maxRecDepth 100000 in
theorem lp_po38 {m n p : Nat} (hn7 : n ≤ 7) {f : Nat → Nat} {Po : Option zV → zS → Prop} : ∀ (d : Nat) (x : Int32) (S : zS) (w5 w7 : Option zV), x = nI d - 1 → d ≤ n + 1 → Sd S → Fst S f n → (∀ i, i < d → gJ S 1368 0 i = lN (pwS f p i)) → (∀ i, d ≤ i → i ≤ n → gJ S 1368 0 i = lN (pwS f (p + 1) i)) → (∀ S1 w4 w5 w7, Fr tPo S S1 → Fst S1 f n → (∀ i, i ≤ n → gJ S1 1368 0 i = lN (pwS f (p + 1) i)) → Ok mX12_powers 100 [some (zr 12 0), some (zi (nI m)), some (zi (nI n)), some (zi (nI p)), w4, w5, none, w7] [] S1 Po) → Ok mX12_powers 38 [some (zr 12 0), some (zi (nI m)), some (zi (nI n)), some (zi (nI p)), some (zi x), w5, none, w7] [] S Po := by
  intro d
  induction d with
  | zero =>
    intro x S w5 w7 hx hd hs hf h1 h2 K
    obtain rfl : x = -1 := hx.trans (by decide)
    refine r_mask [true, true, true, true, true, false, true, false] rfl ?_
    refine r_iload (q := 40) dX12_powers_38 rfl rfl ?_
    refine r_if_lt (q := 43) (t := 100) dX12_powers_40 (by decide) rfl (fun h40 => ?_) (fun h40 => absurd h40 (by decide))
    exact K S _ _ _ Fr.rf hf (fun i hi => h2 i (by omega) hi)
  | succ k ih =>
    intro x S w5 w7 hx hd hs hf h1 h2 K
    obtain rfl : x = nI k := hx.trans (nI_prd k)
    refine r_mask [true, true, true, true, true, false, true, false] rfl ?_
    refine r_iload (q := 40) dX12_powers_38 rfl rfl ?_
    refine r_if_ltN (q := 43) (t := 100) (by omega) dX12_powers_40 (by decide) rfl ?_
    refine r_lconst (q := 44) (0 : Int64) dX12_powers_43 rfl rfl ?_
    refine r_topl (y := lN 0) rfl ?_
    refine r_lstore (q := 46) (L' := [some (zr 12 0), some (zi (nI m)), some (zi (nI n)), some (zi (nI p)), some (zi (nI k)), some (zl (lN 0)), none, none]) dX12_powers_44 rfl (by decide) rfl ?_
    refine r_iconst (q := 47) (nI 1) dX12_powers_46 rfl (by decide) ?_
    refine r_istore (q := 49) (L' := [some (zr 12 0), some (zi (nI m)), some (zi (nI n)), some (zi (nI p)), some (zi (nI k)), some (zl (lN 0)), none, some (zi (nI 1))]) dX12_powers_47 rfl (by decide) rfl ?_
    refine lp_po49 hs hn7 (by omega) hf (fun i hi => h1 i (by omega)) ?_ k 0 (by omega)
    refine r_aload_n (q := 86) dX12_powers_85 rfl rfl rfl ?_
    refine r_getr (q := 89) (some (1368, 0)) ck12 dX12_powers_86 rfl (k := 68) (by decide) wt1346 rfl (hs.e (by decide)) (hs.r (by decide) (by decide)) ?_
    refine r_iload (q := 91) dX12_powers_89 rfl rfl ?_
    refine r_lload (q := 93) dX12_powers_91 rfl rfl ?_
    refine r_lastN (q := 94) 8 (by decide) rfl dX12_powers_93 rfl (hs.e (by decide)) (hs.n rfl (by decide)) (by omega) (by decide) ?_
    refine r_iinc (q := 97) (L' := [some (zr 12 0), some (zi (nI m)), some (zi (nI n)), some (zi (nI p)), some (zi ((nI k) + (-1))), some (zl (lN (sm (fun i => f (i + 1) * pwS f p (k - (i + 1))) k))), none, some (zi (nI (k + 1)))]) ((nI k) + (-1)) dX12_powers_94 rfl rfl (by decide) rfl rfl ?_
    refine r_goto (q := 38) dX12_powers_97 (by decide) ?_
    have f1 : Fr tPo S (sJ S 1368 0 k (lN (sm (fun i => f (i + 1) * pwS f p (k - (i + 1))) k))) := (Fr.rf).j rfl
    refine ih _ _ _ _ (Int32.sub_eq_add_neg _ _).symm (by omega) (hs.fr f1) (hf.fr f1 (fun _ => rfl)) (fun i hi => by rw [gJ_sJ, if_neg (by omega)]; exact h1 i (by omega)) (fun i a b => ?_) (fun S1 w4 w5 w7 y1 y2 y3 => K S1 w4 w5 w7 (f1.tr y1) y2 y3)
    rw [gJ_sJ]
    by_cases e : i = k
    · rw [if_pos ⟨rfl, rfl, e⟩, e]; rfl
    · rw [if_neg (by omega)]; exact h2 i (by omega) b

set_option maxRecDepth 100000 in
theorem lp_po30 {m n : Nat} (hm7 : m ≤ 7) (hn7 : n ≤ 7) {f : Nat → Nat} : ∀ (d p : Nat) (S : zS) (w4 w5 w7 : Option zV), p + d = m → Sd S → Fst S f n → (∀ i, i ≤ n → gJ S 1368 0 i = lN (pwS f p i)) → Ok mX12_powers 30 [some (zr 12 0), some (zi (nI m)), some (zi (nI n)), some (zi (nI p)), w4, w5, none, w7] [] S (fun r S1 => r = none ∧ Fr tPo S S1 ∧ ∀ i, i ≤ n → gJ S1 1368 0 i = lN (pwS f m i)) := by
  intro d
  induction d with
  | zero =>
    intro p S w4 w5 w7 hp hs hf h1
    obtain rfl : p = m := by omega
    refine r_mask [true, true, true, true, false, false, true, false] rfl ?_
    refine r_iload_n (q := 31) dX12_powers_30 rfl rfl rfl ?_
    refine r_iload_n (q := 32) dX12_powers_31 rfl rfl rfl ?_
    refine r_icmp_geN (q := 35) (t := 106) (by omega) (by omega) dX12_powers_32 (by decide) rfl (fun h32 => ?_) (fun h32 => absurd h32 (by omega))
    refine r_return dX12_powers_106 rfl ?_
    exact ⟨rfl, Fr.rf, h1⟩
  | succ d ih =>
    intro p S w4 w5 w7 hp hs hf h1
    refine r_mask [true, true, true, true, false, false, true, false] rfl ?_
    refine r_iload_n (q := 31) dX12_powers_30 rfl rfl rfl ?_
    refine r_iload_n (q := 32) dX12_powers_31 rfl rfl rfl ?_
    refine r_icmp_geN (q := 35) (t := 106) (by omega) (by omega) dX12_powers_32 (by decide) rfl (fun h32 => absurd h32 (by omega)) (fun h32 => ?_)
    refine r_iload_n (q := 36) dX12_powers_35 rfl rfl rfl ?_
    refine r_istore (q := 38) (L' := [some (zr 12 0), some (zi (nI m)), some (zi (nI n)), some (zi (nI p)), some (zi (nI n)), none, none, none]) dX12_powers_36 rfl (by decide) rfl ?_
    refine lp_po38 hn7 (n + 1) (nI n) S none none (nI_prd n).symm (Nat.le_refl _) hs hf (fun i hi => h1 i (by omega)) (fun i a b => absurd a (by omega)) (fun S1 w4 w5 w7 y1 y2 y3 => ?_)
    have hs1 := hs.fr y1
    refine r_mask [true, true, true, true, false, false, true, false] rfl ?_
    refine r_iincN (q := 103) (L' := [some (zr 12 0), some (zi (nI m)), some (zi (nI n)), some (zi (nI (p + 1))), none, none, none, none]) 1 rfl dX12_powers_100 rfl rfl (by decide) rfl ?_
    refine r_goto (q := 30) dX12_powers_103 (by decide) ?_
    exact Ok.mono (ih (p + 1) S1 none none none (by omega) hs1 y2 y3) (fun r S3 z => ⟨z.1, y1.tr z.2.1, z.2.2⟩)

set_option maxRecDepth 100000 in
theorem ok_powers {S : zS} (hs : Sd S) {m n : Nat} (hm7 : m ≤ 7) (hn7 : n ≤ 7) {f : Nat → Nat} (hf : Fst S f n) : Ok mX12_powers 0 (ent 8 [zr 12 0, zi (nI m), zi (nI n)]) [] S (fun r S1 => r = none ∧ Fr tPo S S1 ∧ ∀ i, i ≤ n → gJ S1 1368 0 i = lN (pwS f m i)) := by
  show Ok mX12_powers 0 [some (zr 12 0), some (zi (nI m)), some (zi (nI n)), none, none, none, none, none] [] S _
  refine r_iconst (q := 1) (nI 0) dX12_powers_0 rfl (by decide) ?_
  refine r_istore_n (q := 2) (L' := [some (zr 12 0), some (zi (nI m)), some (zi (nI n)), some (zi (nI 0)), none, none, none, none]) dX12_powers_1 rfl rfl (by decide) rfl ?_
  refine lp_po2 (f := f) hn7 (n + 1) 0 S (by omega) hs (fun i hi => absurd hi (by omega)) (fun S1 y1 y2 => ?_)
  have hs1 := hs.fr y1
  refine r_iconst (q := 29) (nI 0) dX12_powers_28 rfl (by decide) ?_
  refine r_istore_n (q := 30) (L' := [some (zr 12 0), some (zi (nI m)), some (zi (nI n)), some (zi (nI 0)), none, none, none, none]) dX12_powers_29 rfl rfl (by decide) rfl ?_
  exact Ok.mono (lp_po30 hm7 hn7 m 0 S1 none none none (by omega) hs1 (hf.fr y1 (fun _ => rfl)) y2) (fun r S3 z => ⟨z.1, y1.tr z.2.1, z.2.2⟩)

def tBk (x y _k : Nat) : Bool := (x == 1368 || x == 1369) && y == 0
theorem tBk_po (x y k : Nat) (h : tPo x y k = true) : tBk x y k = true := by simp [tPo] at h; simp [tBk, h.1, h.2]

set_option maxRecDepth 100000 in
theorem lp_bk25 {n k : Nat} (hn7 : n ≤ 7) (hk1 : 1 ≤ k) (hkn : k ≤ n) {f : Nat → Nat} {Po : Option zV → zS → Prop} : ∀ (d m : Nat) (S : zS), m + 1 + d = k → Sd S → Fst S f n → gJ S 1369 0 k = (accJ (fun m => gJ S 1369 0 m) f k m) → (∀ S1, Fr tBk S S1 → Fst S1 f n → (∀ i, i ≠ k → gJ S1 1369 0 i = gJ S 1369 0 i) → gJ S1 1369 0 k = (accJ (fun m => gJ S 1369 0 m) f k (k - 1)) → Ok mX12_back 64 [some (zr 12 0), some (zi (nI n)), some (zi (nI k)), some (zi (nI k))] [] S1 Po) → Ok mX12_back 25 [some (zr 12 0), some (zi (nI n)), some (zi (nI k)), some (zi (nI (m + 1)))] [] S Po := by
  intro d
  induction d with
  | zero =>
    intro m S hm hs hf hb K
    obtain rfl : k = m + 1 := by omega
    refine r_iload_n (q := 26) dX12_back_25 rfl rfl rfl ?_
    refine r_iload_n (q := 27) dX12_back_26 rfl rfl rfl ?_
    refine r_icmp_geN (q := 30) (t := 64) (by omega) (by omega) dX12_back_27 (by decide) rfl (fun h27 => ?_) (fun h27 => absurd h27 (by omega))
    exact K S Fr.rf hf (fun _ _ => rfl) (by rw [show m + 1 - 1 = m by omega]; exact hb)
  | succ d ih =>
    intro m S hm hs hf hb K
    refine r_iload_n (q := 26) dX12_back_25 rfl rfl rfl ?_
    refine r_iload_n (q := 27) dX12_back_26 rfl rfl rfl ?_
    refine r_icmp_geN (q := 30) (t := 64) (by omega) (by omega) dX12_back_27 (by decide) rfl (fun h27 => absurd h27 (by omega)) (fun h27 => ?_)
    refine r_aload_n (q := 31) dX12_back_30 rfl rfl rfl ?_
    refine r_iload_n (q := 32) dX12_back_31 rfl rfl rfl ?_
    refine r_iload_n (q := 33) dX12_back_32 rfl rfl rfl ?_
    refine r_callV (Mc := mX12_powers) (q := 36) (As := [zi (nI (m + 1)), zi (nI k)]) (st := []) ck12 dX12_back_33 rfl rfl mkX12_powers wt1924 wt1926 wp132 rfl (Nat.le_of_ble_eq_true rfl) (Nat.le_of_ble_eq_true rfl) (by decide) (by decide) (by decide) (Or.inl rfl) (hs.e (by decide)) (ok_powers hs (show m + 1 ≤ 7 by omega) (show k ≤ 7 by omega) (fun i a b => hf i a (by omega))) (fun r33 S33 hp33 => ?_)
    obtain ⟨rfl, f1, hp1⟩ := hp33
    have hs1 := hs.fr f1
    have b1 : gJ S33 1369 0 k = accJ (fun m => gJ S 1369 0 m) f k m := (f1.2.1 _ _ _ rfl).trans hb
    have b2 : gJ S33 1369 0 (m + 1) = gJ S 1369 0 (m + 1) := f1.2.1 _ _ _ rfl
    have b3 := hp1 k (Nat.le_refl _)
    show Ok _ _ _ [] _ _
    refine r_aload_n (q := 37) dX12_back_36 rfl rfl rfl ?_
    refine r_getr (q := 40) (some (1369, 0)) ck12 dX12_back_37 rfl (k := 69) (by decide) wt1347 rfl (hs1.e (by decide)) (hs1.r (by decide) (by decide)) ?_
    refine r_iload_n (q := 41) dX12_back_40 rfl rfl rfl ?_
    refine r_dup2 (q := 42) dX12_back_41 rfl rfl rfl ?_
    refine r_laldN (q := 43) 8 (by decide) rfl dX12_back_42 rfl (hs1.e (by decide)) (hs1.n rfl (by decide)) (by omega) (by decide) ?_
    refine r_aload_n (q := 44) dX12_back_43 rfl rfl rfl ?_
    refine r_getr (q := 47) (some (1369, 0)) ck12 dX12_back_44 rfl (k := 69) (by decide) wt1347 rfl (hs1.e (by decide)) (hs1.r (by decide) (by decide)) ?_
    refine r_iload_n (q := 48) dX12_back_47 rfl rfl rfl ?_
    refine r_laldN (q := 49) 8 (by decide) rfl dX12_back_48 rfl (hs1.e (by decide)) (hs1.n rfl (by decide)) (by omega) (by decide) ?_
    refine r_aload_n (q := 50) dX12_back_49 rfl rfl rfl ?_
    refine r_getr (q := 53) (some (1368, 0)) ck12 dX12_back_50 rfl (k := 68) (by decide) wt1346 rfl (hs1.e (by decide)) (hs1.r (by decide) (by decide)) ?_
    refine r_iload_n (q := 54) dX12_back_53 rfl rfl rfl ?_
    refine r_laldN (q := 55) 8 (by decide) rfl dX12_back_54 rfl (hs1.e (by decide)) (hs1.n rfl (by decide)) (by omega) (by decide) ?_
    refine r_topl (y := lN (pwS f (m + 1) k)) b3 ?_
    refine r_lmul (q := 56) dX12_back_55 rfl ?_
    refine r_lsub (q := 57) dX12_back_56 rfl ?_
    refine r_lastN (q := 58) 8 (by decide) rfl dX12_back_57 rfl (hs1.e (by decide)) (hs1.n rfl (by decide)) (by omega) (by decide) ?_
    refine r_iincN (q := 61) (L' := [some (zr 12 0), some (zi (nI n)), some (zi (nI k)), some (zi (nI (m + 1 + 1)))]) 1 rfl dX12_back_58 rfl rfl (by decide) rfl ?_
    refine r_goto (q := 25) dX12_back_61 (by decide) ?_
    have f2 : Fr tBk S33 (sJ S33 1369 0 k (gJ S33 1369 0 k - gJ S33 1369 0 (m + 1) * lN (pwS f (m + 1) k))) := (Fr.rf).j rfl
    have e9 : ∀ i, i ≠ k → gJ (sJ S33 1369 0 k (gJ S33 1369 0 k - gJ S33 1369 0 (m + 1) * lN (pwS f (m + 1) k))) 1369 0 i = gJ S 1369 0 i := fun i hi => by rw [gJ_sJ, if_neg (by omega)]; exact f1.2.1 _ _ _ rfl
    have ec : ∀ j, j < k → accJ (fun z => gJ (sJ S33 1369 0 k (gJ S33 1369 0 k - gJ S33 1369 0 (m + 1) * lN (pwS f (m + 1) k))) 1369 0 z) f k j = accJ (fun m => gJ S 1369 0 m) f k j := fun j hj => accJ_cong (fun i a b => ⟨e9 i (by omega), rfl⟩)
    refine ih (m + 1) (sJ S33 1369 0 k (gJ S33 1369 0 k - gJ S33 1369 0 (m + 1) * lN (pwS f (m + 1) k))) (by omega) (hs1.fr f2) (fun i a b => (f2.2.1 _ _ _ rfl).trans ((f1.2.1 _ _ _ rfl).trans (hf i a b))) (by refine Eq.trans ?_ (ec (m + 1) (by omega)).symm; rw [gJ_sJ, if_pos ⟨rfl, rfl, rfl⟩, b1, b2]; rfl) (fun S1 y1 y2 y3 y4 => K S1 (((f1.mono tBk_po).tr f2).tr y1) y2 (fun i hi => (y3 i hi).trans (e9 i hi)) (y4.trans (ec (k - 1) (by omega))))

set_option maxRecDepth 100000 in
theorem lp_bk2 {n : Nat} (hn7 : n ≤ 7) {f : Nat → Nat} : ∀ (d k : Nat) (S : zS) (w3 : Option zV), k + d = n + 1 → 1 ≤ k → Sd S → Fst S f n → IvS (fun m => gJ S 1369 0 m) f (k - 1) → Ok mX12_back 2 [some (zr 12 0), some (zi (nI n)), some (zi (nI k)), w3] [] S (fun r S1 => r = none ∧ Fr tBk S S1 ∧ IvS (fun m => gJ S1 1369 0 m) f n) := by
  intro d
  induction d with
  | zero =>
    intro k S w3 hk h1 hs hf hi
    obtain rfl : k = n + 1 := by omega
    refine r_mask [true, true, true, false] rfl ?_
    refine r_iload_n (q := 3) dX12_back_2 rfl rfl rfl ?_
    refine r_iload_n (q := 4) dX12_back_3 rfl rfl rfl ?_
    refine r_icmp_gtN (q := 7) (t := 70) (by omega) (by omega) dX12_back_4 (by decide) rfl (fun h4 => ?_) (fun h4 => absurd h4 (by omega))
    refine r_return dX12_back_70 rfl ?_
    exact ⟨rfl, Fr.rf, hi⟩
  | succ d ih =>
    intro k S w3 hk h1 hs hf hi
    refine r_mask [true, true, true, false] rfl ?_
    by_cases h9 : k = 1
    · skip
      refine r_iload_n (q := 3) dX12_back_2 rfl rfl rfl ?_
      refine r_iload_n (q := 4) dX12_back_3 rfl rfl rfl ?_
      refine r_icmp_gtN (q := 7) (t := 70) (by omega) (by omega) dX12_back_4 (by decide) rfl (fun h4 => absurd h4 (by omega)) (fun h4 => ?_)
      refine r_aload_n (q := 8) dX12_back_7 rfl rfl rfl ?_
      refine r_getr (q := 11) (some (1369, 0)) ck12 dX12_back_8 rfl (k := 69) (by decide) wt1347 rfl (hs.e (by decide)) (hs.r (by decide) (by decide)) ?_
      refine r_iload_n (q := 12) dX12_back_11 rfl rfl rfl ?_
      refine r_iload_n (q := 13) dX12_back_12 rfl rfl rfl ?_
      refine r_iconst (q := 14) (nI 1) dX12_back_13 rfl (by decide) ?_
      refine r_icmp_neN (q := 17) (t := 21) (by omega) (by omega) dX12_back_14 (by decide) rfl (fun h14 => absurd h14 (by omega)) (fun h14 => ?_)
      refine r_lconst (q := 18) (1 : Int64) dX12_back_17 rfl rfl ?_
      refine r_topl (y := lN 1) rfl ?_
      refine r_goto (q := 22) dX12_back_18 (by decide) ?_
      refine r_lastN (q := 23) 8 (by decide) rfl dX12_back_22 rfl (hs.e (by decide)) (hs.n rfl (by decide)) (by omega) (by decide) ?_
      refine r_iconst (q := 24) (nI 1) dX12_back_23 rfl (by decide) ?_
      refine r_istore_n (q := 25) (L' := [some (zr 12 0), some (zi (nI n)), some (zi (nI k)), some (zi (nI 1))]) dX12_back_24 rfl rfl (by decide) rfl ?_
      have f1 : Fr tBk S (sJ S 1369 0 k (lN 1)) := (Fr.rf).j rfl
      refine lp_bk25 hn7 h1 (by omega) (k - 1) 0 (sJ S 1369 0 k (lN 1)) (by omega) (hs.fr f1) (fun i a b => (f1.2.1 _ _ _ rfl).trans (hf i a b)) (by rw [gJ_sJ, if_pos ⟨rfl, rfl, rfl⟩]; exact (if_pos h9).symm) (fun S2 y1 y2 y3 y4 => ?_)
      have f2 : Fr tBk S S2 := f1.tr y1
      have hs2 := hs.fr f2
      have e9 : ∀ i, i ≠ k → gJ S2 1369 0 i = gJ S 1369 0 i := fun i hi => (y3 i hi).trans (by rw [gJ_sJ, if_neg (by omega)])
      refine r_mask [true, true, true, false] rfl ?_
      refine r_iincN (q := 67) (L' := [some (zr 12 0), some (zi (nI n)), some (zi (nI (k + 1))), none]) 1 rfl dX12_back_64 rfl rfl (by decide) rfl ?_
      refine r_goto (q := 2) dX12_back_67 (by decide) ?_
      refine Ok.mono (ih (k + 1) S2 none (by omega) (by omega) hs2 y2 (fun m m1 m2 => ?_)) (fun r S3 z => ⟨z.1, f2.tr z.2.1, z.2.2⟩)
      have ec : accJ (fun m => gJ S2 1369 0 m) f m (m - 1) = accJ (fun m => gJ S 1369 0 m) f m (m - 1) := accJ_cong (fun i a b => ⟨e9 i (by omega), rfl⟩)
      show gJ S2 1369 0 m = _
      by_cases e : m = k
      · rw [e] at ec ⊢
        rw [y4]
        exact accJ_cong (fun i a b => ⟨(y3 i (by omega)).symm, rfl⟩)
      · rw [ec, e9 m e]; exact hi m m1 (by omega)
    · skip
      refine r_iload_n (q := 3) dX12_back_2 rfl rfl rfl ?_
      refine r_iload_n (q := 4) dX12_back_3 rfl rfl rfl ?_
      refine r_icmp_gtN (q := 7) (t := 70) (by omega) (by omega) dX12_back_4 (by decide) rfl (fun h4 => absurd h4 (by omega)) (fun h4 => ?_)
      refine r_aload_n (q := 8) dX12_back_7 rfl rfl rfl ?_
      refine r_getr (q := 11) (some (1369, 0)) ck12 dX12_back_8 rfl (k := 69) (by decide) wt1347 rfl (hs.e (by decide)) (hs.r (by decide) (by decide)) ?_
      refine r_iload_n (q := 12) dX12_back_11 rfl rfl rfl ?_
      refine r_iload_n (q := 13) dX12_back_12 rfl rfl rfl ?_
      refine r_iconst (q := 14) (nI 1) dX12_back_13 rfl (by decide) ?_
      refine r_icmp_neN (q := 17) (t := 21) (by omega) (by omega) dX12_back_14 (by decide) rfl (fun h14 => ?_) (fun h14 => absurd h14 (by omega))
      refine r_lconst (q := 22) (0 : Int64) dX12_back_21 rfl rfl ?_
      refine r_topl (y := lN 0) rfl ?_
      refine r_lastN (q := 23) 8 (by decide) rfl dX12_back_22 rfl (hs.e (by decide)) (hs.n rfl (by decide)) (by omega) (by decide) ?_
      refine r_iconst (q := 24) (nI 1) dX12_back_23 rfl (by decide) ?_
      refine r_istore_n (q := 25) (L' := [some (zr 12 0), some (zi (nI n)), some (zi (nI k)), some (zi (nI 1))]) dX12_back_24 rfl rfl (by decide) rfl ?_
      have f1 : Fr tBk S (sJ S 1369 0 k (lN 0)) := (Fr.rf).j rfl
      refine lp_bk25 hn7 h1 (by omega) (k - 1) 0 (sJ S 1369 0 k (lN 0)) (by omega) (hs.fr f1) (fun i a b => (f1.2.1 _ _ _ rfl).trans (hf i a b)) (by rw [gJ_sJ, if_pos ⟨rfl, rfl, rfl⟩]; exact (if_neg h9).symm) (fun S2 y1 y2 y3 y4 => ?_)
      have f2 : Fr tBk S S2 := f1.tr y1
      have hs2 := hs.fr f2
      have e9 : ∀ i, i ≠ k → gJ S2 1369 0 i = gJ S 1369 0 i := fun i hi => (y3 i hi).trans (by rw [gJ_sJ, if_neg (by omega)])
      refine r_mask [true, true, true, false] rfl ?_
      refine r_iincN (q := 67) (L' := [some (zr 12 0), some (zi (nI n)), some (zi (nI (k + 1))), none]) 1 rfl dX12_back_64 rfl rfl (by decide) rfl ?_
      refine r_goto (q := 2) dX12_back_67 (by decide) ?_
      refine Ok.mono (ih (k + 1) S2 none (by omega) (by omega) hs2 y2 (fun m m1 m2 => ?_)) (fun r S3 z => ⟨z.1, f2.tr z.2.1, z.2.2⟩)
      have ec : accJ (fun m => gJ S2 1369 0 m) f m (m - 1) = accJ (fun m => gJ S 1369 0 m) f m (m - 1) := accJ_cong (fun i a b => ⟨e9 i (by omega), rfl⟩)
      show gJ S2 1369 0 m = _
      by_cases e : m = k
      · rw [e] at ec ⊢
        rw [y4]
        exact accJ_cong (fun i a b => ⟨(y3 i (by omega)).symm, rfl⟩)
      · rw [ec, e9 m e]; exact hi m m1 (by omega)

set_option maxRecDepth 100000 in
theorem ok_back {S : zS} (hs : Sd S) {n : Nat} (hn1 : 1 ≤ n) (hn7 : n ≤ 7) {f : Nat → Nat} (hf : Fst S f n) : Ok mX12_back 0 (ent 4 [zr 12 0, zi (nI n)]) [] S (fun r S1 => r = none ∧ Fr tBk S S1 ∧ IvS (fun m => gJ S1 1369 0 m) f n) := by
  show Ok mX12_back 0 [some (zr 12 0), some (zi (nI n)), none, none] [] S _
  refine r_iconst (q := 1) (nI 1) dX12_back_0 rfl (by decide) ?_
  refine r_istore_n (q := 2) (L' := [some (zr 12 0), some (zi (nI n)), some (zi (nI 1)), none]) dX12_back_1 rfl rfl (by decide) rfl ?_
  exact lp_bk2 hn7 n 1 S none (by omega) (by omega) hs hf (fun m a b => absurd b (by omega))

