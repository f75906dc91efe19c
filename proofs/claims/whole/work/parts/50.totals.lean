/-! forests, as the reference counts them -/
def fw (T : Nat → Nat) (n : Nat) : Nat → Nat → Nat
  | 0, s => if s = 0 then 1 else 0
  | k + 1, s => sm (fun j => fw T n k (s - (j + 1)) * T (j + 1)) (min (n - 1) s)
def fwt (T : Nat → Nat) (n k s j : Nat) : Nat := fw T n (k - 1) (s - (j + 1)) * T (j + 1)
theorem fw_eq {T : Nat → Nat} {n k s : Nat} (hk : 1 ≤ k) : fw T n k s = sm (fwt T n k s) (min (n - 1) s) := by
  obtain ⟨m, rfl⟩ : ∃ m, k = m + 1 := ⟨k - 1, by omega⟩
  rw [fw]; rfl
theorem fw_0 {T : Nat → Nat} {n k : Nat} : fw T n (k + 1) 0 = 0 := by rw [fw, show min (n - 1) 0 = 0 by omega]; rfl
theorem sm_0 {f : Nat → Nat} : ∀ {n : Nat}, (∀ i, i < n → f i = 0) → sm f n = 0
  | 0, _ => rfl
  | n + 1, h => by rw [sm, sm_0 (fun i hi => h i (by omega)), h n (by omega)]
theorem fw_1 {T : Nat → Nat} {n s : Nat} (h0 : T 0 = 0) (hs : s < n) : fw T n 1 s = T s := by
  rw [fw, show min (n - 1) s = s by omega]
  cases s with
  | zero => exact h0.symm
  | succ s =>
    rw [sm, sm_0 (fun i hi => by rw [fw, if_neg (by omega), Nat.zero_mul]), fw, if_pos (by omega)]
    omega
theorem fw_foL {T : Nat → Nat} {n : Nat} (h0 : T 0 = 0) : ∀ (o s : Nat), s < n → fw T n (o + 1) s = foL T (o + 1) s
  | 0, s, hs => by rw [fw_1 h0 hs, foL]
  | o + 1, s, hs => by
    rw [fw, foL, show min (n - 1) s = s by omega]
    cases s with
    | zero => rfl
    | succ s =>
      rw [sm, show s + 1 - (s + 1) = 0 by omega, fw_0, Nat.zero_mul, Nat.add_zero, Nat.add_sub_cancel]
      exact sm_cong fun i hi => by rw [fw_foL h0 o _ (by omega), Nat.mul_comm]
theorem fw_top {T : Nat → Nat} {n : Nat} (h0 : T 0 = 0) (hn : 1 ≤ n) {o : Nat} (ho : 2 ≤ o) : fw T n o n = foL T o n := by
  obtain ⟨m, rfl⟩ : ∃ m, o = m + 2 := ⟨o - 2, by omega⟩
  rw [fw, foL, show min (n - 1) n = n - 1 by omega]
  exact sm_cong fun i hi => by rw [fw_foL h0 m _ (by omega), Nat.mul_comm]
theorem foL_cong {T U : Nat → Nat} : ∀ (o m : Nat), (∀ j, j ≤ m → T j = U j) → foL T o m = foL U o m
  | 0, _, _ => rfl
  | 1, m, h => h m (Nat.le_refl _)
  | o + 2, m, h => by
    rw [foL, foL]
    exact sm_cong fun i hi => by rw [h (i + 1) (by omega), foL_cong (o + 1) _ (fun j hj => h j (by omega))]
theorem foL_cong2 {T U : Nat → Nat} {o m : Nat} (ho : 2 ≤ o) (h : ∀ j, j < m → T j = U j) : foL T o m = foL U o m := by
  obtain ⟨k, rfl⟩ : ∃ k, o = k + 2 := ⟨o - 2, by omega⟩
  rw [foL, foL]
  exact sm_cong fun i hi => by rw [h (i + 1) (by omega), foL_cong (k + 1) _ (fun j hj => h j (by omega))]
theorem tcT_eq {W : zWd} : ∀ (m k : Nat), k ≤ m → tcT W m k = tc W k
  | 0, k, h => by rw [show k = 0 by omega]; rfl
  | m + 1, k, h => by
    by_cases hk : k ≤ m
    · show (if k ≤ m then tcT W m k else if k = m + 1 then (if m = 0 then 1 else 0) + sm (fun a => foL (tcT W m) (we W a) (m + 1)) (wA W) else 0) = _
      rw [if_pos hk, tcT_eq m k hk]
    · rw [show k = m + 1 by omega]; rfl
theorem tc_0 {W : zWd} : tc W 0 = 0 := rfl
theorem tc_succ {W : zWd} (hE : Eok (wA W) (we W)) (m : Nat) : tc W (m + 1) = (if m = 0 then 1 else 0) + sm (fun a => foL (tc W) (we W a) (m + 1)) (wA W) := by
  show (if m + 1 ≤ m then _ else if m + 1 = m + 1 then (if m = 0 then 1 else 0) + sm (fun a => foL (tcT W m) (we W a) (m + 1)) (wA W) else 0) = _
  rw [if_neg (by omega), if_pos rfl]
  congr 1
  exact sm_cong fun a ha => foL_cong2 (hE.two a ha) (fun j hj => tcT_eq m j (by omega))
def tWy (a b _k : Nat) : Bool := a == 1335 && b == 0
def Gw (S : zS) (T : Nat → Nat) (n k s : Nat) : Prop := ∀ k' s', k' ≤ 4 → s' ≤ 10 → gJ S 1335 0 (11 * k' + s') = lN (if k' < k ∨ k' = k ∧ s' < s then (if s' ≤ n then fw T n k' s' else 0) else 0)
def Tt (S : zS) (T : Nat → Nat) (q n : Nat) : Prop := ∀ i, 1 ≤ i → i < n → gJ S 1334 0 (11 * q + i) = lN (T i)
theorem Tt.fr {S S1 : zS} {T : Nat → Nat} {q n : Nat} (h : Tt S T q n) (f : Fr tWy S S1) : Tt S1 T q n := fun i h1 h2 => (f.2.1 _ _ _ rfl).trans (h i h1 h2)
theorem lN0 : (0 : Int64) = lN 0 := rfl

set_option maxRecDepth 100000 in
theorem lp_f0 {Po : Option zV → zS → Prop} {q e n : Int32} : ∀ (d i : Nat) (S : zS), i + d = 55 → Sd S → (∀ z, z < i → gJ S 1335 0 z = lN 0) → (∀ S', Fr tWy S S' → (∀ z, z < 55 → gJ S' 1335 0 z = lN 0) → Ok mX12_forests 24 [some (zr 12 0), some (zi q), some (zi e), some (zi n), some (zi (nI 55)), none, none] [] S' Po) → Ok mX12_forests 3 [some (zr 12 0), some (zi q), some (zi e), some (zi n), some (zi (nI i)), none, none] [] S Po := by
  intro d
  induction d with
  | zero =>
    intro i S hi hs h0 K
    obtain rfl : i = 55 := by omega
    refine r_iload (q := 5) dX12_forests_3 rfl rfl ?_
    refine r_bipush (q := 7) (nI 55) dX12_forests_5 rfl (by decide) ?_
    refine r_icmp_geN (q := 10) (t := 24) (by omega) (by omega) dX12_forests_7 (by decide) rfl (fun h7 => ?_) (fun h7 => absurd h7 (by omega))
    exact K S Fr.rf h0
  | succ d ih =>
    intro i S hi hs h0 K
    refine r_iload (q := 5) dX12_forests_3 rfl rfl ?_
    refine r_bipush (q := 7) (nI 55) dX12_forests_5 rfl (by decide) ?_
    refine r_icmp_geN (q := 10) (t := 24) (by omega) (by omega) dX12_forests_7 (by decide) rfl (fun h7 => absurd h7 (by omega)) (fun h7 => ?_)
    refine r_aload_n (q := 11) dX12_forests_10 rfl rfl rfl ?_
    refine r_getr (q := 14) (some (1335, 0)) ck12 dX12_forests_11 rfl (k := 35) (by decide) wt1313 rfl (hs.e (by decide)) (hs.r (by decide) (by decide)) ?_
    refine r_iload (q := 16) dX12_forests_14 rfl rfl ?_
    refine r_lconst (q := 17) (0 : Int64) dX12_forests_16 rfl rfl ?_
    refine r_topl (y := lN 0) rfl ?_
    refine r_lastN (q := 18) 55 (by decide) rfl dX12_forests_17 rfl (hs.e (by decide)) (hs.n rfl (by decide)) (by omega) (by decide) ?_
    refine r_iincN (q := 21) (L' := [some (zr 12 0), some (zi q), some (zi e), some (zi n), some (zi (nI (i + 1))), none, none]) 1 rfl dX12_forests_18 rfl rfl (by decide) rfl ?_
    refine r_goto (q := 3) dX12_forests_21 (by decide) ?_
    exact ih (i + 1) _ (by omega) hs (fun z hz => by rw [gJ_sJ]; by_cases h : z = i; rw [if_pos ⟨rfl, rfl, h⟩]; rw [if_neg (by omega)]; exact h0 z (by omega)) (fun S' f g => K S' ((Fr.rf.j rfl).tr f) g)

set_option maxRecDepth 100000 in
theorem lp_f3 {Po : Option zV → zS → Prop} {T : Nat → Nat} {n q e : Nat} (hn : 1 ≤ n) (hn10 : n ≤ 10) (hq : q ≤ 1) {k s : Nat} (hk1 : 1 ≤ k) (hk4 : k ≤ 4) (hs1 : 1 ≤ s) (hsn : s ≤ n) : ∀ (d j : Nat) (S : zS), j + d = min (n - 1) s → Sd S → gJ S 1335 0 (11 * k + s) = lN (sm (fwt T n k s) j) → (∀ i, i ≤ n → gJ S 1335 0 (11 * (k - 1) + i) = lN (fw T n (k - 1) i)) → Tt S T q n → (∀ S', Fr tWy S S' → (∀ z, z ≠ 11 * k + s → gJ S' 1335 0 z = gJ S 1335 0 z) → gJ S' 1335 0 (11 * k + s) = lN (sm (fwt T n k s) (min (n - 1) s)) → Ok mX12_forests 118 [some (zr 12 0), some (zi (nI q)), some (zi (nI e)), some (zi (nI n)), some (zi (nI k)), some (zi (nI s)), some (zi (nI (min (n - 1) s + 1)))] [] S' Po) → Ok mX12_forests 52 [some (zr 12 0), some (zi (nI q)), some (zi (nI e)), some (zi (nI n)), some (zi (nI k)), some (zi (nI s)), some (zi (nI (j + 1)))] [] S Po := by
  intro d
  induction d with
  | zero =>
    intro j S hj hs hc hr ht K
    obtain rfl : j = min (n - 1) s := by omega
    refine r_iload (q := 54) dX12_forests_52 rfl rfl ?_
    refine r_iload_n (q := 55) dX12_forests_54 rfl rfl rfl ?_
    refine r_icmp_geN (q := 58) (t := 118) (by omega) (by omega) dX12_forests_55 (by decide) rfl (fun h55 => ?_) (fun h55 => ?_)
    · skip
      exact K S Fr.rf (fun _ _ => rfl) hc
    · skip
      refine r_iload (q := 60) dX12_forests_58 rfl rfl ?_
      refine r_iload (q := 62) dX12_forests_60 rfl rfl ?_
      refine r_icmp_gtN (q := 65) (t := 118) (by omega) (by omega) dX12_forests_62 (by decide) rfl (fun h62 => ?_) (fun h62 => absurd h62 (by omega))
      exact K S Fr.rf (fun _ _ => rfl) hc
  | succ d ih =>
    intro j S hj hs hc hr ht K
    have r1 := hr (s - (j + 1)) (by omega)
    have r2 := ht (j + 1) (by omega) (by omega)
    refine r_iload (q := 54) dX12_forests_52 rfl rfl ?_
    refine r_iload_n (q := 55) dX12_forests_54 rfl rfl rfl ?_
    refine r_icmp_geN (q := 58) (t := 118) (by omega) (by omega) dX12_forests_55 (by decide) rfl (fun h55 => absurd h55 (by omega)) (fun h55 => ?_)
    refine r_iload (q := 60) dX12_forests_58 rfl rfl ?_
    refine r_iload (q := 62) dX12_forests_60 rfl rfl ?_
    refine r_icmp_gtN (q := 65) (t := 118) (by omega) (by omega) dX12_forests_62 (by decide) rfl (fun h62 => absurd h62 (by omega)) (fun h62 => ?_)
    refine r_aload_n (q := 66) dX12_forests_65 rfl rfl rfl ?_
    refine r_getr (q := 69) (some (1335, 0)) ck12 dX12_forests_66 rfl (k := 35) (by decide) wt1313 rfl (hs.e (by decide)) (hs.r (by decide) (by decide)) ?_
    refine r_bipush (q := 71) (nI 11) dX12_forests_69 rfl (by decide) ?_
    refine r_iload (q := 73) dX12_forests_71 rfl rfl ?_
    refine r_imulN (q := 74) dX12_forests_73 rfl ?_
    refine r_iload (q := 76) dX12_forests_74 rfl rfl ?_
    refine r_iaddN (q := 77) dX12_forests_76 rfl ?_
    refine r_topi (y := nI (11 * k + s)) rfl ?_
    refine r_dup2 (q := 78) dX12_forests_77 rfl rfl rfl ?_
    refine r_laldN (q := 79) 55 (by decide) rfl dX12_forests_78 rfl (hs.e (by decide)) (hs.n rfl (by decide)) (by omega) (by decide) ?_
    refine r_topl (y := lN (sm (fwt T n k s) j)) hc ?_
    refine r_aload_n (q := 80) dX12_forests_79 rfl rfl rfl ?_
    refine r_getr (q := 83) (some (1335, 0)) ck12 dX12_forests_80 rfl (k := 35) (by decide) wt1313 rfl (hs.e (by decide)) (hs.r (by decide) (by decide)) ?_
    refine r_bipush (q := 85) (nI 11) dX12_forests_83 rfl (by decide) ?_
    refine r_iload (q := 87) dX12_forests_85 rfl rfl ?_
    refine r_iconst (q := 88) (nI 1) dX12_forests_87 rfl (by decide) ?_
    refine r_isubN (q := 89) (by omega) dX12_forests_88 rfl ?_
    refine r_imulN (q := 90) dX12_forests_89 rfl ?_
    refine r_iload (q := 92) dX12_forests_90 rfl rfl ?_
    refine r_iaddN (q := 93) dX12_forests_92 rfl ?_
    refine r_iload (q := 95) dX12_forests_93 rfl rfl ?_
    refine r_isubN (q := 96) (by omega) dX12_forests_95 rfl ?_
    refine r_topi (y := nI (11 * (k - 1) + (s - (j + 1)))) (congrArg nI (by omega)) ?_
    refine r_laldN (q := 97) 55 (by decide) rfl dX12_forests_96 rfl (hs.e (by decide)) (hs.n rfl (by decide)) (by omega) (by decide) ?_
    refine r_topl (y := lN (fw T n (k - 1) (s - (j + 1)))) r1 ?_
    refine r_aload_n (q := 98) dX12_forests_97 rfl rfl rfl ?_
    refine r_getr (q := 101) (some (1334, 0)) ck12 dX12_forests_98 rfl (k := 34) (by decide) wt1312 rfl (hs.e (by decide)) (hs.r (by decide) (by decide)) ?_
    refine r_bipush (q := 103) (nI 11) dX12_forests_101 rfl (by decide) ?_
    refine r_iload_n (q := 104) dX12_forests_103 rfl rfl rfl ?_
    refine r_imulN (q := 105) dX12_forests_104 rfl ?_
    refine r_iload (q := 107) dX12_forests_105 rfl rfl ?_
    refine r_iaddN (q := 108) dX12_forests_107 rfl ?_
    refine r_topi (y := nI (11 * q + (j + 1))) rfl ?_
    refine r_laldN (q := 109) 22 (by decide) rfl dX12_forests_108 rfl (hs.e (by decide)) (hs.n rfl (by decide)) (by omega) (by decide) ?_
    refine r_topl (y := lN (T (j + 1))) r2 ?_
    refine r_lmul (q := 110) dX12_forests_109 rfl ?_
    refine r_topl (y := lN ((fw T n (k - 1) (s - (j + 1))) * (T (j + 1)))) (lN_mul _ _) ?_
    refine r_ladd (q := 111) dX12_forests_110 rfl ?_
    refine r_topl (y := lN ((sm (fwt T n k s) j) + ((fw T n (k - 1) (s - (j + 1))) * (T (j + 1))))) (lN_add _ _) ?_
    refine r_lastN (q := 112) 55 (by decide) rfl dX12_forests_111 rfl (hs.e (by decide)) (hs.n rfl (by decide)) (by omega) (by decide) ?_
    refine r_iincN (q := 115) (L' := [some (zr 12 0), some (zi (nI q)), some (zi (nI e)), some (zi (nI n)), some (zi (nI k)), some (zi (nI s)), some (zi (nI (j + 1 + 1)))]) 1 rfl dX12_forests_112 rfl rfl (by decide) rfl ?_
    refine r_goto (q := 52) dX12_forests_115 (by decide) ?_
    exact ih (j + 1) _ (by omega) hs (by rw [gJ_sJ, if_pos ⟨rfl, rfl, rfl⟩]; rfl) (fun i hi => by rw [gJ_sJ, if_neg (by omega)]; exact hr i hi) (fun i h1 h2 => by rw [gJ_sJ, if_neg (by omega)]; exact ht i h1 h2) (fun S' f g1 g2 => K S' ((Fr.rf.j rfl).tr f) (fun z hz => by rw [g1 z hz, gJ_sJ, if_neg (by omega)]) g2)

set_option maxRecDepth 100000 in
theorem lp_f2 {Po : Option zV → zS → Prop} {T : Nat → Nat} {n q e : Nat} (hn : 1 ≤ n) (hn10 : n ≤ 10) (hq : q ≤ 1) {k : Nat} (hk1 : 1 ≤ k) (hk4 : k ≤ 4) : ∀ (d s : Nat) (S : zS), s + d = n + 1 → 1 ≤ s → Sd S → Gw S T n k s → Tt S T q n → (∀ S', Fr tWy S S' → Gw S' T n k (n + 1) → Ok mX12_forests 124 [some (zr 12 0), some (zi (nI q)), some (zi (nI e)), some (zi (nI n)), some (zi (nI k)), some (zi (nI (n + 1))), none] [] S' Po) → Ok mX12_forests 43 [some (zr 12 0), some (zi (nI q)), some (zi (nI e)), some (zi (nI n)), some (zi (nI k)), some (zi (nI s)), none] [] S Po := by
  intro d
  induction d with
  | zero =>
    intro s S hd h1 hs hg ht K
    obtain rfl : s = n + 1 := by omega
    refine r_iload (q := 45) dX12_forests_43 rfl rfl ?_
    refine r_iload_n (q := 46) dX12_forests_45 rfl rfl rfl ?_
    refine r_icmp_gtN (q := 49) (t := 124) (by omega) (by omega) dX12_forests_46 (by decide) rfl (fun h46 => ?_) (fun h46 => absurd h46 (by omega))
    exact K S Fr.rf hg
  | succ d ih =>
    intro s S hd h1 hs hg ht K
    refine r_iload (q := 45) dX12_forests_43 rfl rfl ?_
    refine r_iload_n (q := 46) dX12_forests_45 rfl rfl rfl ?_
    refine r_icmp_gtN (q := 49) (t := 124) (by omega) (by omega) dX12_forests_46 (by decide) rfl (fun h46 => absurd h46 (by omega)) (fun h46 => ?_)
    refine r_iconst (q := 50) (nI 1) dX12_forests_49 rfl (by decide) ?_
    refine r_istore (q := 52) (L' := [some (zr 12 0), some (zi (nI q)), some (zi (nI e)), some (zi (nI n)), some (zi (nI k)), some (zi (nI s)), some (zi (nI 1))]) dX12_forests_50 rfl (by decide) rfl ?_
    refine lp_f3 hn hn10 hq hk1 hk4 h1 (by omega) (min (n - 1) s) 0 S (by omega) hs ((hg k s hk4 (by omega)).trans (by rw [if_neg (by omega)]; rfl)) (fun i hi => (hg (k - 1) i (by omega) (by omega)).trans (by rw [if_pos (by omega), if_pos hi])) ht (fun S' f g1 g2 => ?_)
    refine r_iincN (q := 121) (L' := [some (zr 12 0), some (zi (nI q)), some (zi (nI e)), some (zi (nI n)), some (zi (nI k)), some (zi (nI (s + 1))), some (zi (nI (min (n - 1) s + 1)))]) 1 rfl dX12_forests_118 rfl rfl (by decide) rfl ?_
    refine r_goto (q := 43) dX12_forests_121 (by decide) ?_
    refine r_mask [true, true, true, true, true, true, false] rfl ?_
    refine ih (s + 1) S' (by omega) (by omega) (hs.fr f) (fun k' s' hk' hs' => ?_) (ht.fr f) (fun S2 f2 g => K S2 (f.tr f2) g)
    by_cases hc : k' = k ∧ s' = s
    · obtain ⟨rfl, rfl⟩ := hc
      rw [g2, if_pos (by omega), if_pos (by omega), fw_eq hk1]
    · rw [g1 _ (by omega), hg k' s' hk' hs']
      congr 1
      by_cases h : k' < k ∨ k' = k ∧ s' < s
      · rw [if_pos h, if_pos (show k' < k ∨ k' = k ∧ s' < s + 1 by omega)]
      · rw [if_neg h, if_neg (show ¬ (k' < k ∨ k' = k ∧ s' < s + 1) by omega)]

set_option maxRecDepth 100000 in
theorem lp_f1 {T : Nat → Nat} {n q e : Nat} (hn : 1 ≤ n) (hn10 : n ≤ 10) (hq : q ≤ 1) (h0 : T 0 = 0) (he2 : 2 ≤ e) (he4 : e ≤ 4) : ∀ (d k : Nat) (S : zS), k + d = e + 1 → 1 ≤ k → Sd S → Gw S T n k 1 → Tt S T q n → Ok mX12_forests 34 [some (zr 12 0), some (zi (nI q)), some (zi (nI e)), some (zi (nI n)), some (zi (nI k)), none, none] [] S (fun r S1 => r = some (zl (lN (foL T e n))) ∧ Fr tWy S S1) := by
  intro d
  induction d with
  | zero =>
    intro k S hd h1 hs hg ht
    obtain rfl : k = e + 1 := by omega
    have hv : gJ S 1335 0 (11 * e + n) = lN (foL T e n) := (hg e n he4 hn10).trans (by rw [if_pos (by omega), if_pos (Nat.le_refl _), fw_top h0 hn he2])
    refine r_iload (q := 36) dX12_forests_34 rfl rfl ?_
    refine r_iload_n (q := 37) dX12_forests_36 rfl rfl rfl ?_
    refine r_icmp_gtN (q := 40) (t := 130) (by omega) (by omega) dX12_forests_37 (by decide) rfl (fun h37 => ?_) (fun h37 => absurd h37 (by omega))
    refine r_aload_n (q := 131) dX12_forests_130 rfl rfl rfl ?_
    refine r_getr (q := 134) (some (1335, 0)) ck12 dX12_forests_131 rfl (k := 35) (by decide) wt1313 rfl (hs.e (by decide)) (hs.r (by decide) (by decide)) ?_
    refine r_bipush (q := 136) (nI 11) dX12_forests_134 rfl (by decide) ?_
    refine r_iload_n (q := 137) dX12_forests_136 rfl rfl rfl ?_
    refine r_imulN (q := 138) dX12_forests_137 rfl ?_
    refine r_iload_n (q := 139) dX12_forests_138 rfl rfl rfl ?_
    refine r_iaddN (q := 140) dX12_forests_139 rfl ?_
    refine r_topi (y := nI (11 * e + n)) rfl ?_
    refine r_laldN (q := 141) 55 (by decide) rfl dX12_forests_140 rfl (hs.e (by decide)) (hs.n rfl (by decide)) (by omega) (by decide) ?_
    refine r_topl (y := lN (foL T e n)) hv ?_
    refine r_lreturn dX12_forests_141 rfl ?_
    exact ⟨rfl, Fr.rf⟩
  | succ d ih =>
    intro k S hd h1 hs hg ht
    refine r_iload (q := 36) dX12_forests_34 rfl rfl ?_
    refine r_iload_n (q := 37) dX12_forests_36 rfl rfl rfl ?_
    refine r_icmp_gtN (q := 40) (t := 130) (by omega) (by omega) dX12_forests_37 (by decide) rfl (fun h37 => absurd h37 (by omega)) (fun h37 => ?_)
    refine r_iconst (q := 41) (nI 1) dX12_forests_40 rfl (by decide) ?_
    refine r_istore (q := 43) (L' := [some (zr 12 0), some (zi (nI q)), some (zi (nI e)), some (zi (nI n)), some (zi (nI k)), some (zi (nI 1)), none]) dX12_forests_41 rfl (by decide) rfl ?_
    refine lp_f2 hn hn10 hq h1 (by omega) n 1 S (by omega) (by omega) hs hg ht (fun S' f g => ?_)
    refine r_iincN (q := 127) (L' := [some (zr 12 0), some (zi (nI q)), some (zi (nI e)), some (zi (nI n)), some (zi (nI (k + 1))), some (zi (nI (n + 1))), none]) 1 rfl dX12_forests_124 rfl rfl (by decide) rfl ?_
    refine r_goto (q := 34) dX12_forests_127 (by decide) ?_
    refine r_mask [true, true, true, true, true, false, false] rfl ?_
    refine Ok.mono (ih (k + 1) S' (by omega) (by omega) (hs.fr f) (fun k' s' hk' hs' => ?_) (ht.fr f)) (fun _ _ z => ⟨z.1, f.tr z.2⟩)
    rw [g k' s' hk' hs']
    congr 1
    by_cases ha : k' < k ∨ k' = k ∧ s' < n + 1
    · rw [if_pos ha, if_pos (show k' < k + 1 ∨ k' = k + 1 ∧ s' < 1 by omega)]
    · rw [if_neg ha]
      by_cases hb : k' < k + 1 ∨ k' = k + 1 ∧ s' < 1
      · rw [if_pos hb]
        by_cases hc : s' ≤ n
        · obtain rfl : k' = k + 1 := by omega
          obtain rfl : s' = 0 := by omega
          rw [if_pos hc, fw_0]
        · rw [if_neg hc]
      · rw [if_neg hb]

set_option maxRecDepth 100000 in
theorem ok_X12_forests {S : zS} (hs : Sd S) {T : Nat → Nat} {n q e : Nat} (hn : 1 ≤ n) (hn10 : n ≤ 10) (hq : q ≤ 1) (h0 : T 0 = 0) (he2 : 2 ≤ e) (he4 : e ≤ 4) (ht : Tt S T q n) : Ok mX12_forests 0 (ent 7 [zr 12 0, zi (nI q), zi (nI e), zi (nI n)]) [] S (fun r S1 => r = some (zl (lN (foL T e n))) ∧ Fr tWy S S1) := by
  show Ok mX12_forests 0 [some (zr 12 0), some (zi (nI q)), some (zi (nI e)), some (zi (nI n)), none, none, none] [] S _
  refine r_iconst (q := 1) (nI 0) dX12_forests_0 rfl (by decide) ?_
  refine r_istore (q := 3) (L' := [some (zr 12 0), some (zi (nI q)), some (zi (nI e)), some (zi (nI n)), some (zi (nI 0)), none, none]) dX12_forests_1 rfl (by decide) rfl ?_
  refine lp_f0 55 0 S (by omega) hs (fun z hz => absurd hz (by omega)) (fun S' f g => ?_)
  refine r_aload_n (q := 25) dX12_forests_24 rfl rfl rfl ?_
  refine r_getr (q := 28) (some (1335, 0)) ck12 dX12_forests_25 rfl (k := 35) (by decide) wt1313 rfl ((hs.fr f).e (by decide)) ((hs.fr f).r (by decide) (by decide)) ?_
  refine r_iconst (q := 29) (nI 0) dX12_forests_28 rfl (by decide) ?_
  refine r_lconst (q := 30) (1 : Int64) dX12_forests_29 rfl rfl ?_
  refine r_topl (y := lN 1) rfl ?_
  refine r_lastN (q := 31) 55 (by decide) rfl dX12_forests_30 rfl ((hs.fr f).e (by decide)) ((hs.fr f).n rfl (by decide)) (by omega) (by decide) ?_
  refine r_iconst (q := 32) (nI 1) dX12_forests_31 rfl (by decide) ?_
  refine r_istore (q := 34) (L' := [some (zr 12 0), some (zi (nI q)), some (zi (nI e)), some (zi (nI n)), some (zi (nI 1)), none, none]) dX12_forests_32 rfl (by decide) rfl ?_
  refine Ok.mono (lp_f1 hn hn10 hq h0 he2 he4 e 1 _ (by omega) (by omega) (show Sd S' from hs.fr f) (fun k' s' hk' hs' => ?_) (fun i a b => (ht.fr f) i a b)) (fun _ _ z => ⟨z.1, (f.j rfl).tr z.2⟩)
  rw [gJ_sJ]
  by_cases h : k' = 0
  · subst h
    rw [if_pos (Or.inl (by omega))]
    by_cases h1 : s' = 0
    · subst h1; rw [if_pos ⟨rfl, rfl, rfl⟩, if_pos (Nat.zero_le _)]; rfl
    · rw [if_neg (by omega), g _ (by omega), fw, if_neg h1]; split <;> rfl
  · rw [if_neg (by omega), g _ (by omega)]
    by_cases hb : k' < 1 ∨ k' = 1 ∧ s' < 1
    · obtain rfl : k' = 1 := by omega
      obtain rfl : s' = 0 := by omega
      rw [if_pos hb, if_pos (Nat.zero_le _), fw_0]
    · rw [if_neg hb]

def Tw (S : zS) (W : zWd) (q : Nat) : Prop := gI S 1322 0 (1173 * q + 1) = nI (wA W) ∧ ∀ a, a < wA W → gI S 1322 0 (1173 * q + 4 + a) = nI (we W a)
def tTo (a b _k : Nat) : Bool := (a == 1335 || a == 1334) && b == 0
theorem tTo_wy (a b k : Nat) (h : tWy a b k = true) : tTo a b k = true := by simp [tWy, tTo] at h ⊢; omega
theorem Tw.fr {S S1 : zS} {W : zWd} {q : Nat} (h : Tw S W q) (f : Fr tTo S S1) : Tw S1 W q := ⟨(f.1 _ _ _ rfl).trans h.1, fun a ha => (f.1 _ _ _ rfl).trans (h.2 a ha)⟩

set_option maxRecDepth 100000 in
theorem lp_t2 {Po : Option zV → zS → Prop} {W : zWd} {q : Nat} (hq : q ≤ 1) (hE : Eok (wA W) (we W)) {n x0 : Nat} (hn : 1 ≤ n) (hn10 : n ≤ 10) : ∀ (d a x : Nat) (S : zS), a + d = wA W → x = x0 + sm (fun a => foL (tc W) (we W a) n) a → Sd S → Tw S W q → Tt S (tc W) q n → (∀ S', Fr tWy S S' → Ok mX12_totals 69 [some (zr 12 0), some (zi (nI q)), some (zi (nI n)), some (zl (lN (x0 + sm (fun a => foL (tc W) (we W a) n) (wA W)))), none, some (zi (nI (wA W)))] [] S' Po) → Ok mX12_totals 22 [some (zr 12 0), some (zi (nI q)), some (zi (nI n)), some (zl (lN x)), none, some (zi (nI a))] [] S Po := by
  intro d
  induction d with
  | zero =>
    intro a x S hd hx hs hw ht K
    obtain rfl : a = wA W := by omega
    subst hx
    have hA := hE.1
    refine r_iload (q := 24) dX12_totals_22 rfl rfl ?_
    refine r_aload_n (q := 25) dX12_totals_24 rfl rfl rfl ?_
    refine r_getr (q := 28) (some (1322, 0)) ck12 dX12_totals_25 rfl (k := 22) (by decide) wt1300 rfl (hs.e (by decide)) (hs.r (by decide) (by decide)) ?_
    refine r_sipush (q := 31) (nI 1173) dX12_totals_28 rfl (by decide) ?_
    refine r_iload_n (q := 32) dX12_totals_31 rfl rfl rfl ?_
    refine r_imulN (q := 33) dX12_totals_32 rfl ?_
    refine r_iconst (q := 34) (nI 1) dX12_totals_33 rfl (by decide) ?_
    refine r_iaddN (q := 35) dX12_totals_34 rfl ?_
    refine r_topi (y := nI (1173 * q + 1)) rfl ?_
    refine r_ialdN (q := 36) 2346 (by decide) rfl dX12_totals_35 rfl (hs.e (by decide)) (hs.n rfl (by decide)) (by omega) (by decide) ?_
    refine r_topi (y := nI (wA W)) hw.1 ?_
    refine r_icmp_geN (q := 39) (t := 69) (by omega) (by omega) dX12_totals_36 (by decide) rfl (fun h36 => ?_) (fun h36 => absurd h36 (by omega))
    exact K S Fr.rf
  | succ d ih =>
    intro a x S hd hx hs hw ht K
    have hA := hE.1
    have he := hE.2 a (by omega)
    refine r_iload (q := 24) dX12_totals_22 rfl rfl ?_
    refine r_aload_n (q := 25) dX12_totals_24 rfl rfl rfl ?_
    refine r_getr (q := 28) (some (1322, 0)) ck12 dX12_totals_25 rfl (k := 22) (by decide) wt1300 rfl (hs.e (by decide)) (hs.r (by decide) (by decide)) ?_
    refine r_sipush (q := 31) (nI 1173) dX12_totals_28 rfl (by decide) ?_
    refine r_iload_n (q := 32) dX12_totals_31 rfl rfl rfl ?_
    refine r_imulN (q := 33) dX12_totals_32 rfl ?_
    refine r_iconst (q := 34) (nI 1) dX12_totals_33 rfl (by decide) ?_
    refine r_iaddN (q := 35) dX12_totals_34 rfl ?_
    refine r_topi (y := nI (1173 * q + 1)) rfl ?_
    refine r_ialdN (q := 36) 2346 (by decide) rfl dX12_totals_35 rfl (hs.e (by decide)) (hs.n rfl (by decide)) (by omega) (by decide) ?_
    refine r_topi (y := nI (wA W)) hw.1 ?_
    refine r_icmp_geN (q := 39) (t := 69) (by omega) (by omega) dX12_totals_36 (by decide) rfl (fun h36 => absurd h36 (by omega)) (fun h36 => ?_)
    refine r_lload_n (q := 40) dX12_totals_39 rfl rfl rfl ?_
    refine r_aload_n (q := 41) dX12_totals_40 rfl rfl rfl ?_
    refine r_iload_n (q := 42) dX12_totals_41 rfl rfl rfl ?_
    refine r_aload_n (q := 43) dX12_totals_42 rfl rfl rfl ?_
    refine r_getr (q := 46) (some (1322, 0)) ck12 dX12_totals_43 rfl (k := 22) (by decide) wt1300 rfl (hs.e (by decide)) (hs.r (by decide) (by decide)) ?_
    refine r_sipush (q := 49) (nI 1173) dX12_totals_46 rfl (by decide) ?_
    refine r_iload_n (q := 50) dX12_totals_49 rfl rfl rfl ?_
    refine r_imulN (q := 51) dX12_totals_50 rfl ?_
    refine r_iconst (q := 52) (nI 4) dX12_totals_51 rfl (by decide) ?_
    refine r_iaddN (q := 53) dX12_totals_52 rfl ?_
    refine r_iload (q := 55) dX12_totals_53 rfl rfl ?_
    refine r_iaddN (q := 56) dX12_totals_55 rfl ?_
    refine r_topi (y := nI (1173 * q + 4 + a)) rfl ?_
    refine r_ialdN (q := 57) 2346 (by decide) rfl dX12_totals_56 rfl (hs.e (by decide)) (hs.n rfl (by decide)) (by omega) (by decide) ?_
    refine r_topi (y := nI (we W a)) (hw.2 a (by omega)) ?_
    refine r_iload_n (q := 58) dX12_totals_57 rfl rfl rfl ?_
    refine r_callV (Mc := mX12_forests) (q := 61) (As := [zi (nI q), zi (nI (we W a)), zi (nI n)]) (st := [zl (lN x)]) ck12 dX12_totals_58 rfl rfl mkX12_forests wt1694 wt1696 wp92 rfl (Nat.le_of_ble_eq_true rfl) (Nat.le_of_ble_eq_true rfl) (by decide) (by decide) (by decide) (Or.inl rfl) (hs.e (by decide)) (ok_X12_forests hs hn hn10 hq tc_0 he.1 he.2 ht) (fun r58 S58 hp58 => ?_)
    obtain ⟨rfl, f⟩ := hp58
    show Ok _ _ _ [zl (lN (foL (tc W) (we W a) n)), zl (lN x)] _ _
    refine r_ladd (q := 62) dX12_totals_61 rfl ?_
    refine r_topl (y := lN (x + (foL (tc W) (we W a) n))) (lN_add _ _) ?_
    refine r_lstore_n (q := 63) (L' := [some (zr 12 0), some (zi (nI q)), some (zi (nI n)), some (zl (lN (x + (foL (tc W) (we W a) n)))), none, some (zi (nI a))]) dX12_totals_62 rfl rfl (by decide) rfl ?_
    refine r_iincN (q := 66) (L' := [some (zr 12 0), some (zi (nI q)), some (zi (nI n)), some (zl (lN (x + (foL (tc W) (we W a) n)))), none, some (zi (nI (a + 1)))]) 1 rfl dX12_totals_63 rfl rfl (by decide) rfl ?_
    refine r_goto (q := 22) dX12_totals_66 (by decide) ?_
    exact ih (a + 1) _ S58 (by omega) (by rw [hx, sm]; omega) (hs.fr f) (hw.fr (f.mono tTo_wy)) (ht.fr f) (fun S' f2 => K S' (f.tr f2))

set_option maxRecDepth 100000 in
theorem lp_t1 {W : zWd} {q : Nat} (hq : q ≤ 1) (hE : Eok (wA W) (we W)) : ∀ (d n : Nat) (S : zS), n + d = 11 → 1 ≤ n → Sd S → Tw S W q → Tt S (tc W) q n → Ok mX12_totals 2 [some (zr 12 0), some (zi (nI q)), some (zi (nI n)), none, none, none] [] S (fun r S1 => r = none ∧ Fr tTo S S1 ∧ Tt S1 (tc W) q 11) := by
  intro d
  induction d with
  | zero =>
    intro n S hd h1 hs hw ht
    obtain rfl : n = 11 := by omega
    refine r_iload_n (q := 3) dX12_totals_2 rfl rfl rfl ?_
    refine r_bipush (q := 5) (nI 10) dX12_totals_3 rfl (by decide) ?_
    refine r_icmp_gtN (q := 8) (t := 87) (by omega) (by omega) dX12_totals_5 (by decide) rfl (fun h5 => ?_) (fun h5 => absurd h5 (by omega))
    refine r_return dX12_totals_87 rfl ?_
    exact ⟨rfl, Fr.rf, ht⟩
  | succ d ih =>
    intro n S hd h1 hs hw ht
    refine r_iload_n (q := 3) dX12_totals_2 rfl rfl rfl ?_
    refine r_bipush (q := 5) (nI 10) dX12_totals_3 rfl (by decide) ?_
    refine r_icmp_gtN (q := 8) (t := 87) (by omega) (by omega) dX12_totals_5 (by decide) rfl (fun h5 => absurd h5 (by omega)) (fun h5 => ?_)
    refine r_iload_n (q := 9) dX12_totals_8 rfl rfl rfl ?_
    refine r_iconst (q := 10) (nI 1) dX12_totals_9 rfl (by decide) ?_
    refine r_icmp_neN (q := 13) (t := 17) (by omega) (by omega) dX12_totals_10 (by decide) rfl (fun h10 => ?_) (fun h10 => ?_)
    · skip
      refine r_lconst (q := 18) (0 : Int64) dX12_totals_17 rfl rfl ?_
      refine r_topl (y := lN 0) rfl ?_
      refine r_lstore_n (q := 19) (L' := [some (zr 12 0), some (zi (nI q)), some (zi (nI n)), some (zl (lN 0)), none, none]) dX12_totals_18 rfl rfl (by decide) rfl ?_
      refine r_iconst (q := 20) (nI 0) dX12_totals_19 rfl (by decide) ?_
      refine r_istore (q := 22) (L' := [some (zr 12 0), some (zi (nI q)), some (zi (nI n)), some (zl (lN 0)), none, some (zi (nI 0))]) dX12_totals_20 rfl (by decide) rfl ?_
      refine lp_t2 hq hE (x0 := 0) h1 (by omega) (wA W) 0 0 S (by omega) rfl hs hw ht (fun S' f => ?_)
      have hs' := hs.fr f
      refine r_aload_n (q := 70) dX12_totals_69 rfl rfl rfl ?_
      refine r_getr (q := 73) (some (1334, 0)) ck12 dX12_totals_70 rfl (k := 34) (by decide) wt1312 rfl (hs'.e (by decide)) (hs'.r (by decide) (by decide)) ?_
      refine r_bipush (q := 75) (nI 11) dX12_totals_73 rfl (by decide) ?_
      refine r_iload_n (q := 76) dX12_totals_75 rfl rfl rfl ?_
      refine r_imulN (q := 77) dX12_totals_76 rfl ?_
      refine r_iload_n (q := 78) dX12_totals_77 rfl rfl rfl ?_
      refine r_iaddN (q := 79) dX12_totals_78 rfl ?_
      refine r_topi (y := nI (11 * q + n)) rfl ?_
      refine r_lload_n (q := 80) dX12_totals_79 rfl rfl rfl ?_
      refine r_lastN (q := 81) 22 (by decide) rfl dX12_totals_80 rfl (hs'.e (by decide)) (hs'.n rfl (by decide)) (by omega) (by decide) ?_
      refine r_iincN (q := 84) (L' := [some (zr 12 0), some (zi (nI q)), some (zi (nI (n + 1))), some (zl (lN (0 + sm (fun a => foL (tc W) (we W a) n) (wA W)))), none, some (zi (nI (wA W)))]) 1 rfl dX12_totals_81 rfl rfl (by decide) rfl ?_
      refine r_goto (q := 2) dX12_totals_84 (by decide) ?_
      refine r_mask [true, true, true, false, false, false] rfl ?_
      refine Ok.mono (ih (n + 1) _ (by omega) (by omega) hs' (hw.fr ((f.mono tTo_wy).j rfl)) (fun i a b => ?_)) (fun _ _ z => ⟨z.1, (((f.mono tTo_wy).j rfl)).tr z.2.1, z.2.2⟩)
      rw [gJ_sJ]
      by_cases h : i = n
      · subst h
        obtain ⟨m, rfl⟩ : ∃ m, i = m + 1 := ⟨i - 1, by omega⟩
        rw [if_pos ⟨rfl, rfl, rfl⟩, tc_succ hE, if_neg (by omega)]
      · rw [if_neg (by omega)]; exact (ht.fr f) i a (by omega)
    · skip
      refine r_lconst (q := 14) (1 : Int64) dX12_totals_13 rfl rfl ?_
      refine r_topl (y := lN 1) rfl ?_
      refine r_goto (q := 18) dX12_totals_14 (by decide) ?_
      refine r_lstore_n (q := 19) (L' := [some (zr 12 0), some (zi (nI q)), some (zi (nI n)), some (zl (lN 1)), none, none]) dX12_totals_18 rfl rfl (by decide) rfl ?_
      refine r_iconst (q := 20) (nI 0) dX12_totals_19 rfl (by decide) ?_
      refine r_istore (q := 22) (L' := [some (zr 12 0), some (zi (nI q)), some (zi (nI n)), some (zl (lN 1)), none, some (zi (nI 0))]) dX12_totals_20 rfl (by decide) rfl ?_
      refine lp_t2 hq hE (x0 := 1) h1 (by omega) (wA W) 0 1 S (by omega) rfl hs hw ht (fun S' f => ?_)
      have hs' := hs.fr f
      refine r_aload_n (q := 70) dX12_totals_69 rfl rfl rfl ?_
      refine r_getr (q := 73) (some (1334, 0)) ck12 dX12_totals_70 rfl (k := 34) (by decide) wt1312 rfl (hs'.e (by decide)) (hs'.r (by decide) (by decide)) ?_
      refine r_bipush (q := 75) (nI 11) dX12_totals_73 rfl (by decide) ?_
      refine r_iload_n (q := 76) dX12_totals_75 rfl rfl rfl ?_
      refine r_imulN (q := 77) dX12_totals_76 rfl ?_
      refine r_iload_n (q := 78) dX12_totals_77 rfl rfl rfl ?_
      refine r_iaddN (q := 79) dX12_totals_78 rfl ?_
      refine r_topi (y := nI (11 * q + n)) rfl ?_
      refine r_lload_n (q := 80) dX12_totals_79 rfl rfl rfl ?_
      refine r_lastN (q := 81) 22 (by decide) rfl dX12_totals_80 rfl (hs'.e (by decide)) (hs'.n rfl (by decide)) (by omega) (by decide) ?_
      refine r_iincN (q := 84) (L' := [some (zr 12 0), some (zi (nI q)), some (zi (nI (n + 1))), some (zl (lN (1 + sm (fun a => foL (tc W) (we W a) n) (wA W)))), none, some (zi (nI (wA W)))]) 1 rfl dX12_totals_81 rfl rfl (by decide) rfl ?_
      refine r_goto (q := 2) dX12_totals_84 (by decide) ?_
      refine r_mask [true, true, true, false, false, false] rfl ?_
      refine Ok.mono (ih (n + 1) _ (by omega) (by omega) hs' (hw.fr ((f.mono tTo_wy).j rfl)) (fun i a b => ?_)) (fun _ _ z => ⟨z.1, (((f.mono tTo_wy).j rfl)).tr z.2.1, z.2.2⟩)
      rw [gJ_sJ]
      by_cases h : i = n
      · subst h
        obtain ⟨m, rfl⟩ : ∃ m, i = m + 1 := ⟨i - 1, by omega⟩
        rw [if_pos ⟨rfl, rfl, rfl⟩, tc_succ hE, if_pos (by omega)]
      · rw [if_neg (by omega)]; exact (ht.fr f) i a (by omega)

set_option maxRecDepth 100000 in
theorem ok_X12_totals {S : zS} (hs : Sd S) {W : zWd} {q : Nat} (hq : q ≤ 1) (hE : Eok (wA W) (we W)) (hw : Tw S W q) : Ok mX12_totals 0 (ent 6 [zr 12 0, zi (nI q)]) [] S (fun r S1 => r = none ∧ Fr tTo S S1 ∧ Tt S1 (tc W) q 11) := by
  show Ok mX12_totals 0 [some (zr 12 0), some (zi (nI q)), none, none, none, none] [] S _
  refine r_iconst (q := 1) (nI 1) dX12_totals_0 rfl (by decide) ?_
  refine r_istore_n (q := 2) (L' := [some (zr 12 0), some (zi (nI q)), some (zi (nI 1)), none, none, none]) dX12_totals_1 rfl rfl (by decide) rfl ?_
  exact lp_t1 hq hE 10 1 S (by omega) (by omega) hs hw (fun i a b => absurd a (by omega))

