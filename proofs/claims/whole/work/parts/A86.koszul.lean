/-! koszul: the class -/

set_option maxRecDepth 100000 in
theorem ok_reach_stop {S : zS} (hs : Sd S) {W : zWd} (hW : Wok W) {b n : Nat} (hb4 : b < 4) (hn7 : n + 1 ≤ 7) (hT : Tcs S b W) {mk : Nat → Nat → Nat} {rl : Nat → Nat → Nat → Nat} (hB : CB S b W n mk rl) (h3 : ¬ tc W (n + 1) ≤ 300) : Ok mX0_reach 0 (ent 3 [zr 0 b, zi (nI (n + 1))]) [] S (fun r S1 => r = some (zi (nI 0)) ∧ S1 = S) := by
  have t9 := hT (n + 1) (by omega) (by omega)
  have hsm := tc_small hW.2.1 (show n + 1 ≤ 7 by omega)
  show Ok mX0_reach 0 [some (zr 0 b), some (zi (nI (n + 1))), none] [] S _
  refine r_iload_n (q := 1) dX0_reach_0 rfl rfl rfl ?_
  refine r_iconst (q := 2) (nI 1) dX0_reach_1 rfl (by decide) ?_
  refine r_icmp_ltN (q := 5) (t := 11) (by omega) (by omega) dX0_reach_2 (by decide) rfl (fun h2 => absurd h2 (by omega)) (fun h2 => ?_)
  refine r_iload_n (q := 6) dX0_reach_5 rfl rfl rfl ?_
  refine r_bipush (q := 8) (nI 7) dX0_reach_6 rfl (by decide) ?_
  refine r_icmp_leN (q := 11) (t := 13) (by omega) (by omega) dX0_reach_8 (by decide) rfl (fun h8 => ?_) (fun h8 => absurd h8 (by omega))
  refine r_aload_n (q := 14) dX0_reach_13 rfl rfl rfl ?_
  refine r_geti (q := 17) ck0 dX0_reach_14 rfl (k := 2) (by decide) wt379 (Or.inl rfl) (hs.e (show b < 4 by omega)) ?_
  refine r_topi (y := nI n) hB.1 ?_
  refine r_iconst (q := 18) (nI 1) dX0_reach_17 rfl (by decide) ?_
  refine r_iaddN (q := 19) dX0_reach_18 rfl ?_
  refine r_istore_n (q := 20) (L' := [some (zr 0 b), some (zi (nI (n + 1))), some (zi (nI (n + 1)))]) dX0_reach_19 rfl rfl (by decide) rfl ?_
  refine r_iload_n (q := 21) dX0_reach_20 rfl rfl rfl ?_
  refine r_iload_n (q := 22) dX0_reach_21 rfl rfl rfl ?_
  refine r_icmp_gtN (q := 25) (t := 79) (by omega) (by omega) dX0_reach_22 (by decide) rfl (fun h22 => absurd h22 (by omega)) (fun h22 => ?_)
  refine r_aload_n (q := 26) dX0_reach_25 rfl rfl rfl ?_
  refine r_getr (q := 29) (some (9, b)) ck0 dX0_reach_26 rfl (k := 0) (by decide) wt374 rfl (hs.e (show b < 4 by omega)) (hs.r (show b < 4 by omega) (by decide)) ?_
  refine r_getr (q := 32) (some (1009, b)) ck9 dX0_reach_29 rfl (k := 9) (by decide) wt339 rfl (hs.e (show b < 4 by omega)) (hs.r (show b < 4 by omega) (by decide)) ?_
  refine r_iload_n (q := 33) dX0_reach_32 rfl rfl rfl ?_
  refine r_laldN (q := 34) 11 (by decide) rfl dX0_reach_33 rfl (hs.e (show b < 4 by omega)) (hs.n rfl (show b < 4 by omega)) (by omega) (by decide) ?_
  refine r_topl (y := lN (tc W (n + 1))) t9 ?_
  refine r_ldc2 (q := 37) (300 : Int64) dX0_reach_34 rfl wt774 ?_
  refine r_topl (y := lN 300) rfl ?_
  refine r_lcmp (q := 38) dX0_reach_37 rfl ?_
  refine r_if_le (q := 41) (t := 43) dX0_reach_38 (by decide) rfl (fun h38 => absurd h38 (fun z => h3 ((lcmp_le (by omega) (by omega)).mp z))) (fun h38 => ?_)
  refine r_iconst (q := 42) (nI 0) dX0_reach_41 rfl (by decide) ?_
  refine r_zreturn (by decide) dX0_reach_42 rfl ?_
  exact ⟨rfl, rfl⟩

/-- the cache of the dual's sizes -/
def DcK (S : zS) (cc : Nat) (W : zWd) : Prop := ∃ K, K ≤ 7 ∧ gI S 0 cc 12 = nI K ∧ ∀ mk R, IsD W mk R → ∀ k, 1 ≤ k → k ≤ K → gI S 111 cc k = nI (szW (dW W mk R) k)
def tFk (cc s a b k : Nat) : Prop := tRe s a b k ∨ a = 111 ∧ b = cc
def tFd (cc s a b k : Nat) : Prop := tMk s a b k ∨ tFo s a b k = true ∨ tFk cc s a b k ∨ a = 0 ∧ b = cc ∧ k = 12

set_option maxRecDepth 100000 in
theorem lp_fd42 {W' : zWd} (hW' : Wok W') {cc s t : Nat} (hc4 : cc < 4) (hs4 : s < 4) (hsc : s ≠ cc) (ht7 : t ≤ 7) (h3 : ∀ k, k ≤ t → tc W' k ≤ 300) {Po : Option zV → zS → Prop} : ∀ (d k : Nat) (S : zS), k + d = t + 1 → 1 ≤ k → Sd S → WC S s W' → Tcs S s W' → (∃ n mk rl, CB S s W' n mk rl) → (∀ j, 1 ≤ j → j < k → gI S 111 cc j = nI (szW W' j)) → (∀ S1, Fg (tFk cc s) S S1 → WC S1 s W' → (∃ n mk rl, CB S1 s W' n mk rl) → (∀ j, 1 ≤ j → j ≤ t → gI S1 111 cc j = nI (szW W' j)) → Ok mX11_findDualSizes 81 [some (zr 11 0), some (zr 0 cc), some (zi (nI t)), some (zr 0 s), some (zi (nI (t + 1)))] [] S1 Po) → Ok mX11_findDualSizes 42 [some (zr 11 0), some (zr 0 cc), some (zi (nI t)), some (zr 0 s), some (zi (nI k))] [] S Po := by
  intro d
  induction d with
  | zero =>
    intro k S hk hk1 hs hc hT hB hlo K
    obtain rfl : k = t + 1 := by omega
    refine r_iload (q := 44) dX11_findDualSizes_42 rfl rfl ?_
    refine r_iload_n (q := 45) dX11_findDualSizes_44 rfl rfl rfl ?_
    refine r_icmp_gtN (q := 48) (t := 81) (by omega) (by omega) dX11_findDualSizes_45 (by decide) rfl (fun h45 => ?_) (fun h45 => absurd h45 (by omega))
    exact K S (Fg.rf hs) hc hB (fun j a b => hlo j a (by omega))
  | succ d ih =>
    intro k S hk hk1 hs hc hT hB hlo K
    obtain ⟨n0, mk0, rl0, hB⟩ := hB
    refine r_iload (q := 44) dX11_findDualSizes_42 rfl rfl ?_
    refine r_iload_n (q := 45) dX11_findDualSizes_44 rfl rfl rfl ?_
    refine r_icmp_gtN (q := 48) (t := 81) (by omega) (by omega) dX11_findDualSizes_45 (by decide) rfl (fun h45 => absurd h45 (by omega)) (fun h45 => ?_)
    refine r_aload_n (q := 49) dX11_findDualSizes_48 rfl rfl rfl ?_
    refine r_getr (q := 52) (some (111, cc)) ck0 dX11_findDualSizes_49 rfl (k := 11) (by decide) wt391 rfl (hs.e (show cc < 4 by omega)) (hs.r (show cc < 4 by omega) (by decide)) ?_
    refine r_iload (q := 54) dX11_findDualSizes_52 rfl rfl ?_
    refine r_aload_n (q := 55) dX11_findDualSizes_54 rfl rfl rfl ?_
    refine r_iload (q := 57) dX11_findDualSizes_55 rfl rfl ?_
    refine r_callV (Mc := mX0_reach) (q := 60) (As := [zi (nI k)]) (st := [zi (nI k), zr 111 cc]) ck0 dX11_findDualSizes_57 rfl rfl mkX0_reach wt770 wt771 wt772 rfl (Nat.le_of_ble_eq_true rfl) (Nat.le_of_ble_eq_true rfl) (by decide) (by decide) (by decide) (Or.inr ⟨Nat.le_of_ble_eq_true rfl, rfl, rfl⟩) (hs.e (show s < 4 by omega)) (ok_reach_y hs hW' hs4 hk1 (by omega) hc hT hB (h3 k (by omega))) (fun r57 S57 hp57 => ?_)
    obtain ⟨rfl, f1, hc1, n1, mk1, rl1, hB1, hn1⟩ := hp57
    have hs1 := f1.sd
    have hsz := hB1.szs hW' hn1 k hk1 (Nat.le_refl _)
    show Ok _ _ _ [zi (nI 1), zi (nI k), zr 111 cc] _ _
    refine r_if_eqN (q := 63) (t := 73) (by omega) dX11_findDualSizes_60 (by decide) rfl (fun h60 => absurd h60 (by omega)) (fun h60 => ?_)
    refine r_aload_n (q := 64) dX11_findDualSizes_63 rfl rfl rfl ?_
    refine r_getr (q := 67) (some (108, s)) ck0 dX11_findDualSizes_64 rfl (k := 8) (by decide) wt386 rfl (f1.sd.e (show s < 4 by omega)) (f1.sd.r (show s < 4 by omega) (by decide)) ?_
    refine r_iload (q := 69) dX11_findDualSizes_67 rfl rfl ?_
    refine r_ialdN (q := 70) 8 (by decide) rfl dX11_findDualSizes_69 rfl (f1.sd.e (show s < 4 by omega)) (f1.sd.n rfl (show s < 4 by omega)) (by omega) (by decide) ?_
    refine r_topi (y := nI (szW W' k)) hsz.1 ?_
    refine r_goto (q := 74) dX11_findDualSizes_70 (by decide) ?_
    refine r_iastN (q := 75) 8 (by decide) rfl dX11_findDualSizes_74 rfl (f1.sd.e (show cc < 4 by omega)) (f1.sd.n rfl (show cc < 4 by omega)) (by omega) (by decide) ?_
    refine r_iincN (q := 78) (L' := [some (zr 11 0), some (zr 0 cc), some (zi (nI t)), some (zr 0 s), some (zi (nI (k + 1)))]) 1 rfl dX11_findDualSizes_75 rfl rfl (by decide) rfl ?_
    refine r_goto (q := 42) dX11_findDualSizes_78 (by decide) ?_
    have f2 : Fr (fun x y _ => x == 111 && y == cc) S57 (sI S57 111 cc k (nI (szW W' k))) := Fr.rf.i (by simp)
    have g2 : Fg (fun a b _ => a = 111 ∧ b = cc) S57 (sI S57 111 cc k (nI (szW W' k))) := f2.fg hs1 (fun a b k z => by simpa using z)
    have ga : Fg (tFk cc s) S (sI S57 111 cc k (nI (szW W' k))) := (f1.mono fun _ _ _ z => Or.inl z).tr (g2.mono fun _ _ _ z => Or.inr z)
    refine ih (k + 1) (sI S57 111 cc k (nI (szW W' k))) (by omega) (by omega) hs1 (hc1.fg g2 (fun a k ha => by omega)) (fun m a b => (ga.J (by omega) (by unfold tFk tRe; omega)).trans (hT m a b)) ⟨n1, mk1, rl1, hB1.fg g2 ⟨by omega, fun x k a b => by omega⟩⟩ (fun j a b => ?_) (fun S1 g a b c => K S1 (ga.tr g) a b c)
    rw [gI_sI]
    by_cases e : j = k
    · rw [if_pos ⟨rfl, rfl, e⟩, e]
    · rw [if_neg (fun z => e z.2.2), f1.I (by omega) (by unfold tRe; omega)]; exact hlo j a (by omega)

set_option maxRecDepth 100000 in
theorem ok_findDual_k {S : zS} (hs : Sd S) {W : zWd} (hW : Wok W) {cc : Nat} (hcc : gI S 11 0 3 = nI cc) (hc4 : cc < 4) (hc : WC S cc W) (hQ : Qd W) {n0 : Nat} {mk0 : Nat → Nat → Nat} {rl0 : Nat → Nat → Nat → Nat} (hB : CB S cc W n0 mk0 rl0) (hn3 : 3 ≤ n0) {t K : Nat} (ht1 : 1 ≤ t) (ht7 : t ≤ 7) (h3 : ∀ k, k ≤ t → tc W k ≤ 300) (hK7 : K ≤ 7) (hK : gI S 0 cc 12 = nI K) (htK : t ≤ K) : Ok mX11_findDualSizes 0 (ent 5 [zr 11 0, zr 0 cc, zi (nI t)]) [] S (fun r S1 => r = none ∧ S1 = S) := by
  show Ok mX11_findDualSizes 0 [some (zr 11 0), some (zr 0 cc), some (zi (nI t)), none, none] [] S _
  refine r_aload_n (q := 1) dX11_findDualSizes_0 rfl rfl rfl ?_
  refine r_geti (q := 4) ck0 dX11_findDualSizes_1 rfl (k := 12) (by decide) wt393 (Or.inl rfl) (hs.e (show cc < 4 by omega)) ?_
  refine r_topi (y := nI K) hK ?_
  refine r_iload_n (q := 5) dX11_findDualSizes_4 rfl rfl rfl ?_
  refine r_icmp_ltN (q := 8) (t := 9) (by omega) (by omega) dX11_findDualSizes_5 (by decide) rfl (fun h5 => absurd h5 (by omega)) (fun h5 => ?_)
  refine r_return dX11_findDualSizes_8 rfl ?_
  exact ⟨rfl, rfl⟩

set_option maxRecDepth 100000 in
theorem ok_findDual_m {S : zS} (hs : Sd S) {W : zWd} (hW : Wok W) {cc : Nat} (hcc : gI S 11 0 3 = nI cc) (hc4 : cc < 4) (hc : WC S cc W) (hQ : Qd W) {n0 : Nat} {mk0 : Nat → Nat → Nat} {rl0 : Nat → Nat → Nat → Nat} (hB : CB S cc W n0 mk0 rl0) (hn3 : 3 ≤ n0) {t K : Nat} (ht1 : 1 ≤ t) (ht7 : t ≤ 7) (h3 : ∀ k, k ≤ t → tc W k ≤ 300) (hK7 : K ≤ 7) (hK : gI S 0 cc 12 = nI K) (htK : ¬ t ≤ K) (hTL : TL S 11) (h6 : ∀ s, s < 4 → gI S 1006 s 0 = nI 0) (hini : ∀ s, s < 4 → gI S 103 s 1 = nI 0 ∧ gI S 106 s 1 = nI 0 ∧ 512 ≤ gN S 107 s ∧ gN S 107 s ≤ 160000) : Ok mX11_findDualSizes 0 (ent 5 [zr 11 0, zr 0 cc, zi (nI t)]) [] S (fun r S1 => r = none ∧ ∃ s mk R, s < 4 ∧ s ≠ cc ∧ nI s ≠ gI S 1204 0 0 ∧ nI s ≠ gI S 1204 0 1 ∧ IsD W mk R ∧ Fg (tFd cc s) S S1 ∧ WC S1 s (dW W mk R) ∧ TL S1 11 ∧ (∃ n mk' rl', CB S1 s (dW W mk R) n mk' rl') ∧ gI S1 0 cc 12 = nI t ∧ ∀ k, 1 ≤ k → k ≤ t → gI S1 111 cc k = nI (szW (dW W mk R) k)) := by
  show Ok mX11_findDualSizes 0 [some (zr 11 0), some (zr 0 cc), some (zi (nI t)), none, none] [] S _
  refine r_aload_n (q := 1) dX11_findDualSizes_0 rfl rfl rfl ?_
  refine r_geti (q := 4) ck0 dX11_findDualSizes_1 rfl (k := 12) (by decide) wt393 (Or.inl rfl) (hs.e (show cc < 4 by omega)) ?_
  refine r_topi (y := nI K) hK ?_
  refine r_iload_n (q := 5) dX11_findDualSizes_4 rfl rfl rfl ?_
  refine r_icmp_ltN (q := 8) (t := 9) (by omega) (by omega) dX11_findDualSizes_5 (by decide) rfl (fun h5 => ?_) (fun h5 => absurd h5 (by omega))
  refine r_aload_n (q := 10) dX11_findDualSizes_9 rfl rfl rfl ?_
  refine r_getr (q := 13) (some (1202, 0)) ck11 dX11_findDualSizes_10 rfl (k := 2) (by decide) wt424 rfl (hs.e (by decide)) (hs.r (by decide) (by decide)) ?_
  refine r_aload_n (q := 14) dX11_findDualSizes_13 rfl rfl rfl ?_
  refine r_callV (Mc := mX11_freeSlot) (q := 17) (As := []) (st := [zr 1202 0]) ck11 dX11_findDualSizes_14 rfl rfl mkX11_freeSlot wt499 wt501 wp1 rfl (Nat.le_of_ble_eq_true rfl) (Nat.le_of_ble_eq_true rfl) (by decide) (by decide) (by decide) (Or.inl rfl) (hs.e (by decide)) (ok_freeSlot hs hcc hc4) (fun r14 S14 hp14 => ?_)
  obtain ⟨⟨s, hs4, rfl, hsc, hk0, hk1⟩, hq14⟩ := hp14
  rw [hq14]
  show Ok _ _ _ [zi (nI s), zr 1202 0] _ _
  refine r_aaldN (q := 18) (some (0, s)) 4 (by decide) (by decide) (by decide) dX11_findDualSizes_17 rfl (hs.e (by decide)) (hs.n rfl (by decide)) (show s < 4 by omega) (by decide) ((hs.r (by decide) (show s < 4 by omega)).trans (if_pos (show s < 4 by omega))) ?_
  refine r_astore_n (q := 19) (L' := [some (zr 11 0), some (zr 0 cc), some (zi (nI t)), some (zr 0 s), none]) dX11_findDualSizes_18 rfl rfl (by decide) rfl ?_
  refine r_aload_n (q := 20) dX11_findDualSizes_19 rfl rfl rfl ?_
  refine r_getr (q := 23) (some (2, 0)) ck11 dX11_findDualSizes_20 rfl (k := 19) (by decide) wt441 rfl (hs.e (by decide)) (hs.r (by decide) (by decide)) ?_
  refine r_aload_n (q := 24) dX11_findDualSizes_23 rfl rfl rfl ?_
  refine r_aload_n (q := 25) dX11_findDualSizes_24 rfl rfl rfl ?_
  refine r_getr (q := 28) (some (9, s)) ck0 dX11_findDualSizes_25 rfl (k := 0) (by decide) wt377 rfl (hs.e (show s < 4 by omega)) (hs.r (show s < 4 by omega) (by decide)) ?_
  refine r_aload_n (q := 29) dX11_findDualSizes_28 rfl rfl rfl ?_
  refine r_getr (q := 32) (some (8, 11)) ck11 dX11_findDualSizes_29 rfl (k := 12) (by decide) wt434 rfl (hs.e (by decide)) (hs.r (by decide) (by decide)) ?_
  refine r_callV (Mc := mX2_make) (q := 35) (As := [zr 0 cc, zr 9 s, zr 8 11]) (st := []) ck2 dX11_findDualSizes_32 rfl rfl mkX2_make wt979 wt980 wt981 rfl (Nat.le_of_ble_eq_true rfl) (Nat.le_of_ble_eq_true rfl) (by decide) (by decide) (by decide) (Or.inr ⟨Nat.le_of_ble_eq_true rfl, rfl, rfl⟩) (hs.e (by decide)) (ok_make hs hW hQ hc4 hs4 (fun z => hsc z.symm) hc (hB.2.2.2.1 3 (by omega) hn3).1 (h6 s hs4) hTL) (fun r32 S32 hp32 => ?_)
  obtain ⟨rfl, mk, R, hD, f2, hw2, hTL2⟩ := hp32
  have hs2 := f2.sd
  have hWd := dW_ok hW hQ hD
  show Ok _ _ _ [] _ _
  refine r_aload_n (q := 36) dX11_findDualSizes_35 rfl rfl rfl ?_
  refine r_callV (Mc := mX0_forget) (q := 39) (As := []) (st := []) ck0 dX11_findDualSizes_36 rfl rfl mkX0_forget wt656 wt657 wt658 rfl (Nat.le_of_ble_eq_true rfl) (Nat.le_of_ble_eq_true rfl) (by decide) (by decide) (by decide) (Or.inl rfl) (f2.sd.e (show s < 4 by omega)) (ok_forget (W := dW W mk R) hs2 hs4 hWd.2.1 hw2.2.1 (fun a ha => (hw2.2.2.2.1 a ha).1)) (fun r36 S36 hp36 => ?_)
  obtain ⟨rfl, f3, hCf, g1, g2, g3⟩ := hp36
  have hs3 : Sd S36 := hs2.fr f3
  have f3g : Fg (fun a b k => tFo s a b k = true) S32 S36 := f3.fg hs2 (fun _ _ _ z => z)
  have hw3 : WC S36 s (dW W mk R) := hw2.fr f3 (fun a k ha => by simp [tFo, tCt]; omega)
  have f23 : Fg (fun a b k => tMk s a b k ∨ tFo s a b k = true) S S36 := (f2.mono fun _ _ _ z => Or.inl z).tr (f3g.mono fun _ _ _ z => Or.inr z)
  have hx : ∀ a k, a = 103 ∨ a = 106 ∨ a = 107 → ¬ (tMk s a s k ∨ tFo s a s k = true) := fun a k ha z => by
    rcases z with z | z
    · unfold tMk at z; omega
    · have := tFo_n z; omega
  obtain ⟨i1, i2, i3, i4⟩ := hini s hs4
  have r0 : rfr (dW W mk R) (0 + 1) = 0 := by show 0 + tri 0 = 0; decide
  have hB3 : CB S36 s (dW W mk R) 0 (fun _ _ => 0) (fun _ _ _ => 0) := ⟨g1, by omega, fun k hk => by rw [show k = 0 by omega]; exact (Nat.zero_le _ : tc (dW W mk R) 0 ≤ 300), fun k a b => absurd a (by omega), (f23.I (by omega) (hx _ _ (by omega))).trans i1, (f23.I (by omega) (hx _ _ (by omega))).trans (i2.trans (by rw [r0])), by rw [r0]; exact Nat.zero_le _, by rw [f23.N (by omega) (hx _ _ (by omega))]; exact i3, by rw [f23.N (by omega) (hx _ _ (by omega))]; exact i4, fun k a b => absurd a (by omega)⟩
  show Ok _ _ _ [] _ _
  refine r_iconst (q := 40) (nI 1) dX11_findDualSizes_39 rfl (by decide) ?_
  refine r_istore (q := 42) (L' := [some (zr 11 0), some (zr 0 cc), some (zi (nI t)), some (zr 0 s), some (zi (nI 1))]) dX11_findDualSizes_40 rfl (by decide) rfl ?_
  refine lp_fd42 hWd (t := t) hc4 hs4 hsc ht7 (fun k hk => by rw [tc_dW]; exact h3 k hk) t 1 S36 (by omega) (Nat.le_refl _) hs3 hw3 (fun m a b => (hCf m a (by omega)).1) ⟨_, _, _, hB3⟩ (fun j a b => absurd a (by omega)) (fun S4 f4 hw4 hB4 hrow => ?_)
  have hs4' := f4.sd
  refine r_aload_n (q := 82) dX11_findDualSizes_81 rfl rfl rfl ?_
  refine r_iload_n (q := 83) dX11_findDualSizes_82 rfl rfl rfl ?_
  refine r_puti (q := 86) ck0 dX11_findDualSizes_83 rfl (k := 12) (by decide) wt393 (Or.inl rfl) rfl (hs4'.e (show cc < 4 by omega)) ?_
  refine r_return dX11_findDualSizes_86 rfl ?_
  have f5 : Fr (fun x y k => x == 0 && y == cc && k == 12) S4 (sI S4 0 cc 12 (nI t)) := Fr.rf.i (by simp)
  have f5g : Fg (fun a b k => a = 0 ∧ b = cc ∧ k = 12) S4 (sI S4 0 cc 12 (nI t)) := f5.fg hs4' (fun a b k z => by simp at z; exact ⟨z.1.1, z.1.2, z.2⟩)
  obtain ⟨n5, mk5, rl5, hB5⟩ := hB4
  have ga : Fg (tFd cc s) S (sI S4 0 cc 12 (nI t)) := (((f2.mono fun _ _ _ z => Or.inl z).tr (f3g.mono fun _ _ _ z => Or.inr (Or.inl z))).tr (f4.mono fun _ _ _ z => Or.inr (Or.inr (Or.inl z)))).tr (f5g.mono fun _ _ _ z => Or.inr (Or.inr (Or.inr z)))
  refine ⟨rfl, s, mk, R, hs4, hsc, hk0, hk1, hD, ga, hw4.fg f5g (fun a k ha => by omega), ?_, ⟨n5, mk5, rl5, hB5.fg f5g ⟨by omega, fun x k a b => by omega⟩⟩, by rw [gI_sI, if_pos ⟨rfl, rfl, rfl⟩], fun k a b => by rw [gI_sI, if_neg (by omega)]; exact hrow k a b⟩
  refine hTL2.cong ?_ ?_ ?_
  · exact (f5g.N (by omega) (by omega)).trans ((f4.N (by omega) (by unfold tFk tRe; omega)).trans (gN_22 f3.2.2))
  · exact (f5g.N (by omega) (by omega)).trans ((f4.N (by omega) (by unfold tFk tRe; omega)).trans (gN_22 f3.2.2))
  · exact (f5g.I (by omega) (by omega)).trans ((f4.I (by omega) (by unfold tFk tRe; omega)).trans (f3.1 _ _ _ (by simp [tFo, tCt])))

