/-! koszul whole: the class -/

set_option maxRecDepth 100000 in
theorem ok_reach_id {S : zS} (hs : Sd S) {W : zWd} {b n m : Nat} (hb4 : b < 4) {mk : Nat → Nat → Nat} {rl : Nat → Nat → Nat → Nat} (hB : CB S b W n mk rl) (hm1 : 1 ≤ m) (hm7 : m ≤ 7) (hmn : m ≤ n) : Ok mX0_reach 0 (ent 3 [zr 0 b, zi (nI m)]) [] S (fun r S1 => r = some (zi (nI 1)) ∧ S1 = S) := by
  have hn7 := hB.2.1
  show Ok mX0_reach 0 [some (zr 0 b), some (zi (nI m)), none] [] S _
  refine r_iload_n (q := 1) dX0_reach_0 rfl rfl rfl ?_
  refine r_iconst (q := 2) (nI 1) dX0_reach_1 rfl (by decide) ?_
  refine r_icmp_ltN (q := 5) (t := 11) (by omega) (by omega) dX0_reach_2 (by decide) rfl (fun h2 => absurd h2 (by omega)) (fun h2 => ?_)
  refine r_iload_n (q := 6) dX0_reach_5 rfl rfl rfl ?_
  refine r_bipush (q := 8) (nI 7) dX0_reach_6 rfl (by decide) ?_
  refine r_icmp_leN (q := 11) (t := 13) (by omega) (by omega) dX0_reach_8 (by decide) rfl (fun h8 => ?_) (fun h8 => absurd h8 (by omega))
  refine r_aload_n (q := 14) dX0_reach_13 rfl rfl rfl ?_
  refine r_geti (q := 17) ck0 dX0_reach_14 rfl (k := 2) (by decide) wt379 (Or.inl rfl) (hs.e (show b < 4 by omega)) ?_
  refine r_topi (y := nI n) hB.1 ?_
  refine r_iconst (q := 18) (nI 1) dX0_reach_17 rfl (by decide) ?_
  refine r_iaddN (q := 19) dX0_reach_18 rfl ?_
  refine r_istore_n (q := 20) (L' := [some (zr 0 b), some (zi (nI m)), some (zi (nI (n + 1)))]) dX0_reach_19 rfl rfl (by decide) rfl ?_
  refine r_iload_n (q := 21) dX0_reach_20 rfl rfl rfl ?_
  refine r_iload_n (q := 22) dX0_reach_21 rfl rfl rfl ?_
  refine r_icmp_gtN (q := 25) (t := 79) (by omega) (by omega) dX0_reach_22 (by decide) rfl (fun h22 => ?_) (fun h22 => absurd h22 (by omega))
  refine r_iconst (q := 80) (nI 1) dX0_reach_79 rfl (by decide) ?_
  refine r_zreturn (by decide) dX0_reach_80 rfl ?_
  exact ⟨rfl, rfl⟩

set_option maxRecDepth 100000 in
theorem lp_kz39 {W : zWd} (hW : Wok W) {cc n t0 : Nat} (hc4 : cc < 4) (hn7 : n ≤ 7) {Po : Option zV → zS → Prop} : ∀ (d t : Nat) (S : zS), t + d = n → t0 ≤ t → Sd S → WC S cc W → Tcs S cc W → (∃ n1 mk rl, CB S cc W n1 mk rl ∧ t ≤ n1 ∧ 3 ≤ n1) → (∀ S1 t, Fg (tRe cc) S S1 → WC S1 cc W → (∃ n1 mk rl, CB S1 cc W n1 mk rl ∧ t ≤ n1 ∧ 3 ≤ n1) → t0 ≤ t → t ≤ n → (t = n ∨ ¬ tc W (t + 1) ≤ 300) → Ok mX11_koszul 60 [some (zr 11 0), some (zi (nI n)), some (zr 0 cc), some (zi (nI t)), none, none, none] [] S1 Po) → Ok mX11_koszul 39 [some (zr 11 0), some (zi (nI n)), some (zr 0 cc), some (zi (nI t)), none, none, none] [] S Po := by
  intro d
  induction d with
  | zero =>
    intro t S ht h0 hs hc hT hB K
    obtain rfl : n = t := by omega
    refine r_iload_n (q := 40) dX11_koszul_39 rfl rfl rfl ?_
    refine r_iload_n (q := 41) dX11_koszul_40 rfl rfl rfl ?_
    refine r_icmp_geN (q := 44) (t := 60) (by omega) (by omega) dX11_koszul_41 (by decide) rfl (fun h41 => ?_) (fun h41 => absurd h41 (by omega))
    exact K S n (Fg.rf hs) hc hB h0 (Nat.le_refl _) (Or.inl rfl)
  | succ d ih =>
    intro t S ht h0 hs hc hT hB K
    obtain ⟨n1, mk1, rl1, hB1, htn, hn3⟩ := hB
    by_cases h3 : tc W (t + 1) ≤ 300
    · by_cases hle : t + 1 ≤ n1
      · skip
        refine r_iload_n (q := 40) dX11_koszul_39 rfl rfl rfl ?_
        refine r_iload_n (q := 41) dX11_koszul_40 rfl rfl rfl ?_
        refine r_icmp_geN (q := 44) (t := 60) (by omega) (by omega) dX11_koszul_41 (by decide) rfl (fun h41 => absurd h41 (by omega)) (fun h41 => ?_)
        refine r_aload_n (q := 45) dX11_koszul_44 rfl rfl rfl ?_
        refine r_iload_n (q := 46) dX11_koszul_45 rfl rfl rfl ?_
        refine r_iconst (q := 47) (nI 1) dX11_koszul_46 rfl (by decide) ?_
        refine r_iaddN (q := 48) dX11_koszul_47 rfl ?_
        refine r_callV (Mc := mX0_reach) (q := 51) (As := [zi (nI (t + 1))]) (st := []) ck0 dX11_koszul_48 rfl rfl mkX0_reach wt770 wt771 wt772 rfl (Nat.le_of_ble_eq_true rfl) (Nat.le_of_ble_eq_true rfl) (by decide) (by decide) (by decide) (Or.inr ⟨Nat.le_of_ble_eq_true rfl, rfl, rfl⟩) (hs.e (show cc < 4 by omega)) (ok_reach_id hs hc4 hB1 (by omega) (by omega) hle) (fun r48 S48 hp48 => ?_)
        obtain ⟨rfl, hq48⟩ := hp48
        rw [hq48]
        show Ok _ _ _ [zi (nI 1)] _ _
        refine r_if_eqN (q := 54) (t := 60) (by omega) dX11_koszul_51 (by decide) rfl (fun h51 => absurd h51 (by omega)) (fun h51 => ?_)
        refine r_iincN (q := 57) (L' := [some (zr 11 0), some (zi (nI n)), some (zr 0 cc), some (zi (nI (t + 1))), none, none, none]) 1 rfl dX11_koszul_54 rfl rfl (by decide) rfl ?_
        refine r_goto (q := 39) dX11_koszul_57 (by decide) ?_
        exact ih (t + 1) S (by omega) (by omega) hs hc hT ⟨n1, mk1, rl1, hB1, hle, hn3⟩ K
      · skip
        refine r_iload_n (q := 40) dX11_koszul_39 rfl rfl rfl ?_
        refine r_iload_n (q := 41) dX11_koszul_40 rfl rfl rfl ?_
        refine r_icmp_geN (q := 44) (t := 60) (by omega) (by omega) dX11_koszul_41 (by decide) rfl (fun h41 => absurd h41 (by omega)) (fun h41 => ?_)
        refine r_aload_n (q := 45) dX11_koszul_44 rfl rfl rfl ?_
        refine r_iload_n (q := 46) dX11_koszul_45 rfl rfl rfl ?_
        refine r_iconst (q := 47) (nI 1) dX11_koszul_46 rfl (by decide) ?_
        refine r_iaddN (q := 48) dX11_koszul_47 rfl ?_
        refine r_callV (Mc := mX0_reach) (q := 51) (As := [zi (nI (t + 1))]) (st := []) ck0 dX11_koszul_48 rfl rfl mkX0_reach wt770 wt771 wt772 rfl (Nat.le_of_ble_eq_true rfl) (Nat.le_of_ble_eq_true rfl) (by decide) (by decide) (by decide) (Or.inr ⟨Nat.le_of_ble_eq_true rfl, rfl, rfl⟩) (hs.e (show cc < 4 by omega)) (ok_reach_y hs hW hc4 (by omega) (by omega) hc hT hB1 h3) (fun r48 S48 hp48 => ?_)
        obtain ⟨rfl, f1, hc1, n2, mk2, rl2, hB2, hn2⟩ := hp48
        show Ok _ _ _ [zi (nI 1)] _ _
        refine r_if_eqN (q := 54) (t := 60) (by omega) dX11_koszul_51 (by decide) rfl (fun h51 => absurd h51 (by omega)) (fun h51 => ?_)
        refine r_iincN (q := 57) (L' := [some (zr 11 0), some (zi (nI n)), some (zr 0 cc), some (zi (nI (t + 1))), none, none, none]) 1 rfl dX11_koszul_54 rfl rfl (by decide) rfl ?_
        refine r_goto (q := 39) dX11_koszul_57 (by decide) ?_
        exact ih (t + 1) S48 (by omega) (by omega) f1.sd hc1 (fun m a b => (f1.J (by omega) (by unfold tRe; omega)).trans (hT m a b)) ⟨n2, mk2, rl2, hB2, hn2, by omega⟩ (fun S2 t2 f2 a b c d e => K S2 t2 (f1.tr f2) a b c d e)
    · have hnt : n1 = t := by
        apply Classical.byContradiction
        intro z
        exact h3 (hB1.2.2.1 (t + 1) (by omega))
      subst hnt
      refine r_iload_n (q := 40) dX11_koszul_39 rfl rfl rfl ?_
      refine r_iload_n (q := 41) dX11_koszul_40 rfl rfl rfl ?_
      refine r_icmp_geN (q := 44) (t := 60) (by omega) (by omega) dX11_koszul_41 (by decide) rfl (fun h41 => absurd h41 (by omega)) (fun h41 => ?_)
      refine r_aload_n (q := 45) dX11_koszul_44 rfl rfl rfl ?_
      refine r_iload_n (q := 46) dX11_koszul_45 rfl rfl rfl ?_
      refine r_iconst (q := 47) (nI 1) dX11_koszul_46 rfl (by decide) ?_
      refine r_iaddN (q := 48) dX11_koszul_47 rfl ?_
      refine r_callV (Mc := mX0_reach) (q := 51) (As := [zi (nI (n1 + 1))]) (st := []) ck0 dX11_koszul_48 rfl rfl mkX0_reach wt770 wt771 wt772 rfl (Nat.le_of_ble_eq_true rfl) (Nat.le_of_ble_eq_true rfl) (by decide) (by decide) (by decide) (Or.inr ⟨Nat.le_of_ble_eq_true rfl, rfl, rfl⟩) (hs.e (show cc < 4 by omega)) (ok_reach_stop hs hW hc4 (by omega) hT hB1 h3) (fun r48 S48 hp48 => ?_)
      obtain ⟨rfl, hq48⟩ := hp48
      rw [hq48]
      show Ok _ _ _ [zi (nI 0)] _ _
      refine r_if_eqN (q := 54) (t := 60) (by omega) dX11_koszul_51 (by decide) rfl (fun h51 => ?_) (fun h51 => absurd h51 (by omega))
      exact K S n1 (Fg.rf hs) hc ⟨n1, mk1, rl1, hB1, Nat.le_refl _, hn3⟩ h0 (by omega) (Or.inr h3)

set_option maxRecDepth 100000 in
theorem lp_kz89 {W : zWd} (hW : Wok W) {S : zS} (hs : Sd S) {cc n t : Nat} (hc4 : cc < 4) (hn7 : n ≤ 7) (htn : t ≤ n) (h3 : ∀ k, k ≤ t → tc W k ≤ 300) (htop : t = n ∨ ¬ tc W (t + 1) ≤ 300) {g : Nat → Int64} (hg : ∀ k, 1 ≤ k → k ≤ t → gJ S 601 0 k = g k) : ∀ (e k : Nat) (w5 w6 : Option zV), k + e = t + 1 → 1 ≤ k → Ok mX11_koszul 89 [some (zr 11 0), some (zi (nI n)), some (zr 0 cc), some (zi (nI t)), some (zi (nI (k))), w5, w6] [] S (fun r S1 => S1 = S ∧ ∃ v, r = some (zi v) ∧ ∀ d, (∀ k, 1 ≤ k → k ≤ t → gI S 111 cc k = nI (d k)) → v = kzF W g d (n + 1 - (k)) (k)) := by
  intro e
  induction e with
  | zero =>
    intro k w5 w6 hk hk1
    obtain rfl : k = t + 1 := by omega
    refine r_mask [true, true, true, true, true, false, false] rfl ?_
    refine r_iload (q := 91) dX11_koszul_89 rfl rfl ?_
    refine r_iload_n (q := 92) dX11_koszul_91 rfl rfl rfl ?_
    refine r_icmp_gtN (q := 95) (t := 149) (by omega) (by omega) dX11_koszul_92 (by decide) rfl (fun h92 => ?_) (fun h92 => absurd h92 (by omega))
    refine r_iconst (q := 150) ((-1 : Int32)) dX11_koszul_149 rfl (by decide) ?_
    refine r_ireturn dX11_koszul_150 rfl ?_
    refine ⟨rfl, _, rfl, fun d _ => ?_⟩
    rcases htop with z | z
    · rw [show n + 1 - (t + 1) = 0 by omega]; rfl
    · by_cases e2 : t = n
      · rw [show n + 1 - (t + 1) = 0 by omega]; rfl
      · rw [show n + 1 - (t + 1) = (n - t - 1) + 1 by omega, kzF, if_neg z]
  | succ e ih =>
    intro k w5 w6 hk hk1
    have hkt : k ≤ t := by omega
    have hgk := hg k hk1 hkt
    have hun : n + 1 - k = (n + 1 - (k + 1)) + 1 := by omega
    refine r_mask [true, true, true, true, true, false, false] rfl ?_
    by_cases hp2 : k % 2 = 0
    · have hsg : ∀ d, (∀ k, 1 ≤ k → k ≤ t → gI S 111 cc k = nI (d k)) → sgK d k = (-(gI S 111 cc k)).toInt64 := fun d hd => by unfold sgK; rw [if_pos hp2, hd k hk1 hkt]
      refine r_iload (q := 91) dX11_koszul_89 rfl rfl ?_
      refine r_iload_n (q := 92) dX11_koszul_91 rfl rfl rfl ?_
      refine r_icmp_gtN (q := 95) (t := 149) (by omega) (by omega) dX11_koszul_92 (by decide) rfl (fun h92 => absurd h92 (by omega)) (fun h92 => ?_)
      refine r_iload (q := 97) dX11_koszul_95 rfl rfl ?_
      refine r_iconst (q := 98) (nI 2) dX11_koszul_97 rfl (by decide) ?_
      refine r_iremN (q := 99) (by omega) (by omega) (by omega) dX11_koszul_98 rfl ?_
      refine r_if_neN (q := 102) (t := 114) (by omega) dX11_koszul_99 (by decide) rfl (fun h99 => absurd h99 (by omega)) (fun h99 => ?_)
      refine r_aload_n (q := 103) dX11_koszul_102 rfl rfl rfl ?_
      refine r_getr (q := 106) (some (111, cc)) ck0 dX11_koszul_103 rfl (k := 11) (by decide) wt391 rfl (hs.e (show cc < 4 by omega)) (hs.r (show cc < 4 by omega) (by decide)) ?_
      refine r_iload (q := 108) dX11_koszul_106 rfl rfl ?_
      refine r_ialdN (q := 109) 8 (by decide) rfl dX11_koszul_108 rfl (hs.e (show cc < 4 by omega)) (hs.n rfl (show cc < 4 by omega)) (by omega) (by decide) ?_
      refine r_ineg (q := 110) dX11_koszul_109 rfl ?_
      refine r_i2l (q := 111) dX11_koszul_110 rfl ?_
      refine r_goto (q := 122) dX11_koszul_111 (by decide) ?_
      refine r_lstore (q := 124) (L' := [some (zr 11 0), some (zi (nI n)), some (zr 0 cc), some (zi (nI t)), some (zi (nI k)), some (zl ((-(gI S 111 cc k)).toInt64)), none]) dX11_koszul_122 rfl (by decide) rfl ?_
      refine r_aload_n (q := 125) dX11_koszul_124 rfl rfl rfl ?_
      refine r_getr (q := 128) (some (5, 0)) ck11 dX11_koszul_125 rfl (k := 18) (by decide) wt440 rfl (hs.e (by decide)) (hs.r (by decide) (by decide)) ?_
      refine r_getr (q := 131) (some (601, 0)) ck5 dX11_koszul_128 rfl (k := 1) (by decide) wt257 rfl (hs.e (by decide)) (hs.r (by decide) (by decide)) ?_
      refine r_iload (q := 133) dX11_koszul_131 rfl rfl ?_
      refine r_laldN (q := 134) 8 (by decide) rfl dX11_koszul_133 rfl (hs.e (by decide)) (hs.n rfl (by decide)) (by omega) (by decide) ?_
      refine r_lload (q := 136) dX11_koszul_134 rfl rfl ?_
      refine r_lcmp (q := 137) dX11_koszul_136 rfl ?_
      by_cases he : g k = (-(gI S 111 cc k)).toInt64
      · rw [hgk, he]
        refine r_topi (y := nI 0) (lg_same _) ?_
        refine r_if_eqN (q := 140) (t := 143) (by omega) dX11_koszul_137 (by decide) rfl (fun h137 => ?_) (fun h137 => absurd h137 (by omega))
        refine r_iincN (q := 146) (L' := [some (zr 11 0), some (zi (nI n)), some (zr 0 cc), some (zi (nI t)), some (zi (nI (k + 1))), some (zl ((-(gI S 111 cc k)).toInt64)), none]) 1 rfl dX11_koszul_143 rfl rfl (by decide) rfl ?_
        refine r_goto (q := 89) dX11_koszul_146 (by decide) ?_
        refine Ok.mono (ih (k + 1) _ _ (by omega) (by omega)) (fun r S9 q => ?_)
        obtain ⟨q1, v, q2, q3⟩ := q
        exact ⟨q1, v, q2, fun d hd => by rw [hun, kzF, if_pos (h3 k hkt), if_pos (he.trans (hsg d hd).symm)]; exact q3 d hd⟩
      · rw [hgk]
        refine r_if_eq (q := 140) (t := 143) dX11_koszul_137 (by decide) rfl (fun h137 => absurd h137 ((fun z => he (lg_eq0.mp z)))) (fun h137 => ?_)
        refine r_iload (q := 142) dX11_koszul_140 rfl rfl ?_
        refine r_ireturn dX11_koszul_142 rfl ?_
        exact ⟨rfl, _, rfl, fun d hd => by rw [hun, kzF, if_pos (h3 k hkt), if_neg (fun y => he (y.trans (hsg d hd)))]⟩
    · have hsg : ∀ d, (∀ k, 1 ≤ k → k ≤ t → gI S 111 cc k = nI (d k)) → sgK d k = (gI S 111 cc k).toInt64 := fun d hd => by unfold sgK; rw [if_neg hp2, hd k hk1 hkt]
      refine r_iload (q := 91) dX11_koszul_89 rfl rfl ?_
      refine r_iload_n (q := 92) dX11_koszul_91 rfl rfl rfl ?_
      refine r_icmp_gtN (q := 95) (t := 149) (by omega) (by omega) dX11_koszul_92 (by decide) rfl (fun h92 => absurd h92 (by omega)) (fun h92 => ?_)
      refine r_iload (q := 97) dX11_koszul_95 rfl rfl ?_
      refine r_iconst (q := 98) (nI 2) dX11_koszul_97 rfl (by decide) ?_
      refine r_iremN (q := 99) (by omega) (by omega) (by omega) dX11_koszul_98 rfl ?_
      refine r_if_neN (q := 102) (t := 114) (by omega) dX11_koszul_99 (by decide) rfl (fun h99 => ?_) (fun h99 => absurd h99 (by omega))
      refine r_aload_n (q := 115) dX11_koszul_114 rfl rfl rfl ?_
      refine r_getr (q := 118) (some (111, cc)) ck0 dX11_koszul_115 rfl (k := 11) (by decide) wt391 rfl (hs.e (show cc < 4 by omega)) (hs.r (show cc < 4 by omega) (by decide)) ?_
      refine r_iload (q := 120) dX11_koszul_118 rfl rfl ?_
      refine r_ialdN (q := 121) 8 (by decide) rfl dX11_koszul_120 rfl (hs.e (show cc < 4 by omega)) (hs.n rfl (show cc < 4 by omega)) (by omega) (by decide) ?_
      refine r_i2l (q := 122) dX11_koszul_121 rfl ?_
      refine r_lstore (q := 124) (L' := [some (zr 11 0), some (zi (nI n)), some (zr 0 cc), some (zi (nI t)), some (zi (nI k)), some (zl ((gI S 111 cc k).toInt64)), none]) dX11_koszul_122 rfl (by decide) rfl ?_
      refine r_aload_n (q := 125) dX11_koszul_124 rfl rfl rfl ?_
      refine r_getr (q := 128) (some (5, 0)) ck11 dX11_koszul_125 rfl (k := 18) (by decide) wt440 rfl (hs.e (by decide)) (hs.r (by decide) (by decide)) ?_
      refine r_getr (q := 131) (some (601, 0)) ck5 dX11_koszul_128 rfl (k := 1) (by decide) wt257 rfl (hs.e (by decide)) (hs.r (by decide) (by decide)) ?_
      refine r_iload (q := 133) dX11_koszul_131 rfl rfl ?_
      refine r_laldN (q := 134) 8 (by decide) rfl dX11_koszul_133 rfl (hs.e (by decide)) (hs.n rfl (by decide)) (by omega) (by decide) ?_
      refine r_lload (q := 136) dX11_koszul_134 rfl rfl ?_
      refine r_lcmp (q := 137) dX11_koszul_136 rfl ?_
      by_cases he : g k = (gI S 111 cc k).toInt64
      · rw [hgk, he]
        refine r_topi (y := nI 0) (lg_same _) ?_
        refine r_if_eqN (q := 140) (t := 143) (by omega) dX11_koszul_137 (by decide) rfl (fun h137 => ?_) (fun h137 => absurd h137 (by omega))
        refine r_iincN (q := 146) (L' := [some (zr 11 0), some (zi (nI n)), some (zr 0 cc), some (zi (nI t)), some (zi (nI (k + 1))), some (zl ((gI S 111 cc k).toInt64)), none]) 1 rfl dX11_koszul_143 rfl rfl (by decide) rfl ?_
        refine r_goto (q := 89) dX11_koszul_146 (by decide) ?_
        refine Ok.mono (ih (k + 1) _ _ (by omega) (by omega)) (fun r S9 q => ?_)
        obtain ⟨q1, v, q2, q3⟩ := q
        exact ⟨q1, v, q2, fun d hd => by rw [hun, kzF, if_pos (h3 k hkt), if_pos (he.trans (hsg d hd).symm)]; exact q3 d hd⟩
      · rw [hgk]
        refine r_if_eq (q := 140) (t := 143) dX11_koszul_137 (by decide) rfl (fun h137 => absurd h137 ((fun z => he (lg_eq0.mp z)))) (fun h137 => ?_)
        refine r_iload (q := 142) dX11_koszul_140 rfl rfl ?_
        refine r_ireturn dX11_koszul_142 rfl ?_
        exact ⟨rfl, _, rfl, fun d hd => by rw [hun, kzF, if_pos (h3 k hkt), if_neg (fun y => he (y.trans (hsg d hd)))]⟩

set_option maxRecDepth 100000 in
theorem cm_kz_x {S : zS} (hs : Sd S) {cc : Nat} (hcc : gI S 11 0 3 = nI cc) (hc4 : cc < 4) {x : Int32} (hx : ¬ (nI 1 ≤ x ∧ x ≤ nI 7)) : Ok mX11_koszul 0 (ent 7 [zr 11 0, zi x]) [] S (fun r S1 => r = some (zi (-2)) ∧ S1 = S) := by
  show Ok mX11_koszul 0 [some (zr 11 0), some (zi x), none, none, none, none, none] [] S _
  refine r_aload_n (q := 1) dX11_koszul_0 rfl rfl rfl ?_
  refine r_callV (Mc := mX11_basisHere) (q := 4) (As := []) (st := []) ck11 dX11_koszul_1 rfl rfl mkX11_basisHere wt766 wt768 wp27 rfl (Nat.le_of_ble_eq_true rfl) (Nat.le_of_ble_eq_true rfl) (by decide) (by decide) (by decide) (Or.inl rfl) (hs.e (by decide)) (ok_basisHere hs hcc hc4) (fun r1 S1 hp1 => ?_)
  obtain ⟨rfl, hq1⟩ := hp1
  rw [hq1]
  show Ok _ _ _ [zr 0 cc] _ _
  refine r_astore_n (q := 5) (L' := [some (zr 11 0), some (zi x), some (zr 0 cc), none, none, none, none]) dX11_koszul_4 rfl rfl (by decide) rfl ?_
  refine r_iload_n (q := 6) dX11_koszul_5 rfl rfl rfl ?_
  refine r_iconst (q := 7) (nI 1) dX11_koszul_6 rfl (by decide) ?_
  refine r_icmp_lt (q := 10) (t := 34) dX11_koszul_7 (by decide) rfl (fun h7 => ?_) (fun h7 => ?_)
  · skip
    refine r_bipush (q := 36) ((-2 : Int32)) dX11_koszul_34 rfl (by decide) ?_
    refine r_ireturn dX11_koszul_36 rfl ?_
    exact ⟨rfl, rfl⟩
  · skip
    refine r_iload_n (q := 11) dX11_koszul_10 rfl rfl rfl ?_
    refine r_bipush (q := 13) (nI 7) dX11_koszul_11 rfl (by decide) ?_
    refine r_icmp_gt (q := 16) (t := 34) dX11_koszul_13 (by decide) rfl (fun h13 => ?_) (fun h13 => ?_)
    · skip
      refine r_bipush (q := 36) ((-2 : Int32)) dX11_koszul_34 rfl (by decide) ?_
      refine r_ireturn dX11_koszul_36 rfl ?_
      exact ⟨rfl, rfl⟩
    · skip
      exact absurd ⟨Int32.not_lt.mp h7, Int32.not_lt.mp h13⟩ hx

set_option maxRecDepth 100000 in
theorem cm_kz_n {S : zS} (hs : Sd S) {W : zWd} (hW : Wok W) {cc : Nat} (hcc : gI S 11 0 3 = nI cc) (hc4 : cc < 4) (hc : WC S cc W) (hQ : ¬ Qd W) {n : Nat} (hn1 : 1 ≤ n) (hn7 : n ≤ 7) : Ok mX11_koszul 0 (ent 7 [zr 11 0, zi (nI n)]) [] S (fun r S1 => r = some (zi (-2)) ∧ S1 = S) := by
  show Ok mX11_koszul 0 [some (zr 11 0), some (zi (nI n)), none, none, none, none, none] [] S _
  refine r_aload_n (q := 1) dX11_koszul_0 rfl rfl rfl ?_
  refine r_callV (Mc := mX11_basisHere) (q := 4) (As := []) (st := []) ck11 dX11_koszul_1 rfl rfl mkX11_basisHere wt766 wt768 wp27 rfl (Nat.le_of_ble_eq_true rfl) (Nat.le_of_ble_eq_true rfl) (by decide) (by decide) (by decide) (Or.inl rfl) (hs.e (by decide)) (ok_basisHere hs hcc hc4) (fun r1 S1 hp1 => ?_)
  obtain ⟨rfl, hq1⟩ := hp1
  rw [hq1]
  show Ok _ _ _ [zr 0 cc] _ _
  refine r_astore_n (q := 5) (L' := [some (zr 11 0), some (zi (nI n)), some (zr 0 cc), none, none, none, none]) dX11_koszul_4 rfl rfl (by decide) rfl ?_
  refine r_iload_n (q := 6) dX11_koszul_5 rfl rfl rfl ?_
  refine r_iconst (q := 7) (nI 1) dX11_koszul_6 rfl (by decide) ?_
  refine r_icmp_ltN (q := 10) (t := 34) (by omega) (by omega) dX11_koszul_7 (by decide) rfl (fun h7 => absurd h7 (by omega)) (fun h7 => ?_)
  refine r_iload_n (q := 11) dX11_koszul_10 rfl rfl rfl ?_
  refine r_bipush (q := 13) (nI 7) dX11_koszul_11 rfl (by decide) ?_
  refine r_icmp_gtN (q := 16) (t := 34) (by omega) (by omega) dX11_koszul_13 (by decide) rfl (fun h13 => absurd h13 (by omega)) (fun h13 => ?_)
  refine r_aload_n (q := 17) dX11_koszul_16 rfl rfl rfl ?_
  refine r_getr (q := 20) (some (9, cc)) ck0 dX11_koszul_17 rfl (k := 0) (by decide) wt377 rfl (hs.e (show cc < 4 by omega)) (hs.r (show cc < 4 by omega) (by decide)) ?_
  refine r_callV (Mc := mX9_hasDual) (q := 23) (As := []) (st := []) ck9 dX11_koszul_20 rfl rfl mkX9_hasDual wt975 wt976 wt977 rfl (Nat.le_of_ble_eq_true rfl) (Nat.le_of_ble_eq_true rfl) (by decide) (by decide) (by decide) (Or.inl rfl) (hs.e (show cc < 4 by omega)) (ok_X9_hasDual hs hW hc4 hc) (fun r20 S20 hp20 => ?_)
  obtain ⟨hq20, v, v1, rfl, v2⟩ := hp20
  rw [hq20]
  obtain rfl : v = 0 := by have hv1 : v ≠ 1 := fun z => hQ (v2.mp z); omega
  show Ok _ _ _ [zi (nI 0)] _ _
  refine r_if_eqN (q := 26) (t := 34) (by omega) dX11_koszul_23 (by decide) rfl (fun h23 => ?_) (fun h23 => absurd h23 (by omega))
  refine r_bipush (q := 36) ((-2 : Int32)) dX11_koszul_34 rfl (by decide) ?_
  refine r_ireturn dX11_koszul_36 rfl ?_
  exact ⟨rfl, rfl⟩

def tKc (cc s a b k : Nat) : Prop := tRe cc a b k ∨ tFd cc s a b k ∨ a = 10600 ∨ a = 601 ∧ b = 0
/-- a free slot that was used, or none (4) -/
def KzS (S S1 : zS) (cc s : Nat) (W : zWd) : Prop := (s < 4 ∧ s ≠ cc ∧ nI s ≠ gI S 1204 0 0 ∧ nI s ≠ gI S 1204 0 1 ∧ TL S1 11 ∧ (∃ mk R n mk' rl', IsD W mk R ∧ WC S1 s (dW W mk R) ∧ CB S1 s (dW W mk R) n mk' rl') ∨ s = 4) ∧ Fg (tKc cc s) S S1 ∧ (∃ n mk rl, CB S1 cc W n mk rl) ∧ DcK S1 cc W
theorem tFd_n {cc s a b k : Nat} (hsc : s ≠ cc) (h : tFd cc s a b k) : (b = cc → a ≠ 9 ∧ ¬ (1002 ≤ a ∧ a ≤ 1009) ∧ ¬ (a = 0 ∧ k = 2) ∧ ¬ (103 ≤ a ∧ a ≤ 108)) ∧ a ≠ 601 ∧ a ≠ 10600 := by
  rcases h with h | h | h | h
  · unfold tMk at h; omega
  · have := tFo_n h; omega
  · unfold tFk tRe at h; omega
  · omega

theorem kz_ini {S S2 : zS} {cc : Nat} {W : zWd} (hini : ∀ s, s < 4 → gI S 103 s 1 = nI 0 ∧ gI S 106 s 1 = nI 0 ∧ 512 ≤ gN S 107 s ∧ gN S 107 s ≤ 160000) (f : Fg (tRe cc) S S2) {n : Nat} {mk : Nat → Nat → Nat} {rl : Nat → Nat → Nat → Nat} (hB : CB S2 cc W n mk rl) (hn1 : 1 ≤ n) : ∀ s, s < 4 → gI S2 103 s 1 = nI 0 ∧ gI S2 106 s 1 = nI 0 ∧ 512 ≤ gN S2 107 s ∧ gN S2 107 s ≤ 160000 := fun s hs => by
  by_cases e : s = cc
  · subst e
    obtain ⟨-, -, -, h4, -, -, -, h8, h9, -⟩ := hB
    obtain ⟨l1, l2, l3⟩ := h4 1 (Nat.le_refl _) hn1
    exact ⟨l1.1.trans rfl, l3.1.trans (by show nI (0 + tri 0) = nI 0; rfl), h8, h9⟩
  · obtain ⟨i1, i2, i3, i4⟩ := hini s hs
    exact ⟨(f.I (by omega) (by unfold tRe; omega)).trans i1, (f.I (by omega) (by unfold tRe; omega)).trans i2, by rw [f.N (by omega) (by unfold tRe; omega)]; exact i3, by rw [f.N (by omega) (by unfold tRe; omega)]; exact i4⟩

set_option maxRecDepth 100000 in
theorem cm_kz_y {S : zS} (hs : Sd S) {W : zWd} (hW : Wok W) {cc : Nat} (hcc : gI S 11 0 3 = nI cc) (hc4 : cc < 4) (hc : WC S cc W) (hQ : Qd W) (hT : Tcs S cc W) {n0 : Nat} {mk0 : Nat → Nat → Nat} {rl0 : Nat → Nat → Nat → Nat} (hB : CB S cc W n0 mk0 rl0) (hTL : TL S 11) (h6 : ∀ s, s < 4 → gI S 1006 s 0 = nI 0) (hini : ∀ s, s < 4 → gI S 103 s 1 = nI 0 ∧ gI S 106 s 1 = nI 0 ∧ 512 ≤ gN S 107 s ∧ gN S 107 s ≤ 160000) (hDc : DcK S cc W) {n : Nat} (hn1 : 1 ≤ n) (hn7 : n ≤ 7) {g : Nat → Int64} (hg : IvS g (szW W) 7) : Ok mX11_koszul 0 (ent 7 [zr 11 0, zi (nI n)]) [] S (fun r S1 => ∃ v, r = some (zi v) ∧ (∀ mk R, IsD W mk R → v = kzF W g (szW (dW W mk R)) n 1) ∧ ∃ s, KzS S S1 cc s W) := by
  show Ok mX11_koszul 0 [some (zr 11 0), some (zi (nI n)), none, none, none, none, none] [] S _
  refine r_aload_n (q := 1) dX11_koszul_0 rfl rfl rfl ?_
  refine r_callV (Mc := mX11_basisHere) (q := 4) (As := []) (st := []) ck11 dX11_koszul_1 rfl rfl mkX11_basisHere wt766 wt768 wp27 rfl (Nat.le_of_ble_eq_true rfl) (Nat.le_of_ble_eq_true rfl) (by decide) (by decide) (by decide) (Or.inl rfl) (hs.e (by decide)) (ok_basisHere hs hcc hc4) (fun r1 S1 hp1 => ?_)
  obtain ⟨rfl, hq1⟩ := hp1
  rw [hq1]
  show Ok _ _ _ [zr 0 cc] _ _
  refine r_astore_n (q := 5) (L' := [some (zr 11 0), some (zi (nI n)), some (zr 0 cc), none, none, none, none]) dX11_koszul_4 rfl rfl (by decide) rfl ?_
  refine r_iload_n (q := 6) dX11_koszul_5 rfl rfl rfl ?_
  refine r_iconst (q := 7) (nI 1) dX11_koszul_6 rfl (by decide) ?_
  refine r_icmp_ltN (q := 10) (t := 34) (by omega) (by omega) dX11_koszul_7 (by decide) rfl (fun h7 => absurd h7 (by omega)) (fun h7 => ?_)
  refine r_iload_n (q := 11) dX11_koszul_10 rfl rfl rfl ?_
  refine r_bipush (q := 13) (nI 7) dX11_koszul_11 rfl (by decide) ?_
  refine r_icmp_gtN (q := 16) (t := 34) (by omega) (by omega) dX11_koszul_13 (by decide) rfl (fun h13 => absurd h13 (by omega)) (fun h13 => ?_)
  refine r_aload_n (q := 17) dX11_koszul_16 rfl rfl rfl ?_
  refine r_getr (q := 20) (some (9, cc)) ck0 dX11_koszul_17 rfl (k := 0) (by decide) wt377 rfl (hs.e (show cc < 4 by omega)) (hs.r (show cc < 4 by omega) (by decide)) ?_
  refine r_callV (Mc := mX9_hasDual) (q := 23) (As := []) (st := []) ck9 dX11_koszul_20 rfl rfl mkX9_hasDual wt975 wt976 wt977 rfl (Nat.le_of_ble_eq_true rfl) (Nat.le_of_ble_eq_true rfl) (by decide) (by decide) (by decide) (Or.inl rfl) (hs.e (show cc < 4 by omega)) (ok_X9_hasDual hs hW hc4 hc) (fun r20 S20 hp20 => ?_)
  obtain ⟨hq20, v, v1, rfl, v2⟩ := hp20
  rw [hq20]
  obtain rfl : v = 1 := by exact v2.mpr hQ
  show Ok _ _ _ [zi (nI 1)] _ _
  refine r_if_eqN (q := 26) (t := 34) (by omega) dX11_koszul_23 (by decide) rfl (fun h23 => absurd h23 (by omega)) (fun h23 => ?_)
  refine r_aload_n (q := 27) dX11_koszul_26 rfl rfl rfl ?_
  refine r_iconst (q := 28) (nI 3) dX11_koszul_27 rfl (by decide) ?_
  refine r_callV (Mc := mX0_reach) (q := 31) (As := [zi (nI 3)]) (st := []) ck0 dX11_koszul_28 rfl rfl mkX0_reach wt770 wt771 wt772 rfl (Nat.le_of_ble_eq_true rfl) (Nat.le_of_ble_eq_true rfl) (by decide) (by decide) (by decide) (Or.inr ⟨Nat.le_of_ble_eq_true rfl, rfl, rfl⟩) (hs.e (show cc < 4 by omega)) (ok_reach_y hs hW hc4 (by omega) (by omega) hc hT hB (qd300 hW hQ)) (fun r28 S28 hp28 => ?_)
  obtain ⟨rfl, f1, hc1, n1, mk1, rl1, hB1, hn1'⟩ := hp28
  have hs1 := f1.sd
  have hT1 : Tcs S28 cc W := fun m a b => (f1.J (by omega) (by unfold tRe; omega)).trans (hT m a b)
  show Ok _ _ _ [zi (nI 1)] _ _
  refine r_if_neN (q := 34) (t := 37) (by omega) dX11_koszul_31 (by decide) rfl (fun h31 => ?_) (fun h31 => absurd h31 (by omega))
  refine r_iconst (q := 38) (nI 0) dX11_koszul_37 rfl (by decide) ?_
  refine r_istore_n (q := 39) (L' := [some (zr 11 0), some (zi (nI n)), some (zr 0 cc), some (zi (nI 0)), none, none, none]) dX11_koszul_38 rfl rfl (by decide) rfl ?_
  refine lp_kz39 hW (t0 := 0) hc4 hn7 n 0 S28 (by omega) (Nat.le_refl _) hs1 hc1 hT1 ⟨n1, mk1, rl1, hB1, Nat.zero_le _, hn1'⟩ (fun S2 t f2 hc2 hB2e _ htn htop => ?_)
  obtain ⟨n2, mk2, rl2, hB2, htn2, hn23⟩ := hB2e
  have hs2 := f2.sd
  have f12 : Fg (tRe cc) S S2 := f1.tr f2
  have ht1 : 1 ≤ t := by
    rcases htop with z | z
    · omega
    · apply Classical.byContradiction
      intro y
      obtain rfl : t = 0 := by omega
      exact z (by have : tc W 1 = 1 := tcT_1 hQ; show tc W 1 ≤ 300; omega)
  have ht7 : t ≤ 7 := by omega
  have h3t : ∀ k, k ≤ t → tc W k ≤ 300 := fun k hk => hB2.2.2.1 k (by omega)
  obtain ⟨K, hK7, hK, hKd⟩ := hDc
  have hK2 : gI S2 0 cc 12 = nI K := (f12.I (by omega) (by unfold tRe; omega)).trans hK
  have hKd2 : ∀ mk R, IsD W mk R → ∀ k, 1 ≤ k → k ≤ K → gI S2 111 cc k = nI (szW (dW W mk R) k) := fun mk R h k a b => (f12.I (by omega) (by unfold tRe; omega)).trans (hKd mk R h k a b)
  have hcc2 : gI S2 11 0 3 = nI cc := (f12.I (by omega) (by unfold tRe; omega)).trans hcc
  have hTL2 : TL S2 11 := hTL.cong (f12.N (by omega) (by unfold tRe; omega)) (f12.N (by omega) (by unfold tRe; omega)) (f12.I (by omega) (by unfold tRe; omega))
  have hini2 := kz_ini hini f12 hB2 (by omega)
  by_cases htK : t ≤ K
  · skip
    refine r_aload_n (q := 61) dX11_koszul_60 rfl rfl rfl ?_
    refine r_aload_n (q := 62) dX11_koszul_61 rfl rfl rfl ?_
    refine r_iload_n (q := 63) dX11_koszul_62 rfl rfl rfl ?_
    refine r_callV (Mc := mX11_findDualSizes) (q := 66) (As := [zr 0 cc, zi (nI t)]) (st := []) ck11 dX11_koszul_63 rfl rfl mkX11_findDualSizes wt1021 wt1023 wp54 rfl (Nat.le_of_ble_eq_true rfl) (Nat.le_of_ble_eq_true rfl) (by decide) (by decide) (by decide) (Or.inr ⟨Nat.le_of_ble_eq_true rfl, rfl, rfl⟩) (hs2.e (by decide)) (ok_findDual_k hs2 hW hcc2 hc4 hc2 hQ hB2 hn23 ht1 ht7 h3t hK7 hK2 htK) (fun r63 S63 hp63 => ?_)
    obtain ⟨rfl, hq63⟩ := hp63
    rw [hq63]
    have hs5 := hs2
    have hz5 := hB2.szs hW htn2
    show Ok _ _ _ [] _ _
    refine r_aload_n (q := 67) dX11_koszul_66 rfl rfl rfl ?_
    refine r_getr (q := 70) (some (5, 0)) ck11 dX11_koszul_67 rfl (k := 18) (by decide) wt440 rfl (hs5.e (by decide)) (hs5.r (by decide) (by decide)) ?_
    refine r_aload_n (q := 71) dX11_koszul_70 rfl rfl rfl ?_
    refine r_getr (q := 74) (some (108, cc)) ck0 dX11_koszul_71 rfl (k := 8) (by decide) wt386 rfl (hs5.e (show cc < 4 by omega)) (hs5.r (show cc < 4 by omega) (by decide)) ?_
    refine r_iload_n (q := 75) dX11_koszul_74 rfl rfl rfl ?_
    refine r_callV (Mc := mX5_raise) (q := 78) (As := [zr 108 cc, zi (nI t)]) (st := []) ck5 dX11_koszul_75 rfl rfl mkX5_raise wt1025 wt1026 wt1027 rfl (Nat.le_of_ble_eq_true rfl) (Nat.le_of_ble_eq_true rfl) (by decide) (by decide) (by decide) (Or.inl rfl) (hs5.e (by decide)) (ok_raise (S := S2) hs5 hc4 ht1 ht7 hz5) (fun r75 S75 hp75 => ?_)
    obtain ⟨rfl, f7, hpw⟩ := hp75
    have hs7 : Sd S75 := hs5.fr f7
    show Ok _ _ _ [] _ _
    refine r_aload_n (q := 79) dX11_koszul_78 rfl rfl rfl ?_
    refine r_getr (q := 82) (some (5, 0)) ck11 dX11_koszul_79 rfl (k := 18) (by decide) wt440 rfl (hs7.e (by decide)) (hs7.r (by decide) (by decide)) ?_
    refine r_iload_n (q := 83) dX11_koszul_82 rfl rfl rfl ?_
    refine r_callV (Mc := mX5_invert) (q := 86) (As := [zi (nI t)]) (st := []) ck5 dX11_koszul_83 rfl rfl mkX5_invert wt1029 wt1030 wt1031 rfl (Nat.le_of_ble_eq_true rfl) (Nat.le_of_ble_eq_true rfl) (by decide) (by decide) (by decide) (Or.inl rfl) (hs7.e (by decide)) (ok_invert (S := S75) hs7 ht1 ht7 hpw) (fun r83 S83 hp83 => ?_)
    obtain ⟨rfl, f8, hiv⟩ := hp83
    have hs6 : Sd S83 := hs7.fr f8
    show Ok _ _ _ [] _ _
    refine r_iconst (q := 87) (nI 1) dX11_koszul_86 rfl (by decide) ?_
    refine r_istore (q := 89) (L' := [some (zr 11 0), some (zi (nI n)), some (zr 0 cc), some (zi (nI t)), some (zi (nI 1)), none, none]) dX11_koszul_87 rfl (by decide) rfl ?_
    have g2 : Fg (fun a b _ => a = 10600 ∨ a = 601 ∧ b = 0) S2 S83 := (f7.fg hs5 (fun a b k h => Or.inl (by simpa [tRa] using h))).tr (f8.fg hs7 (fun a b k h => Or.inr (by simpa [tIn5] using h)))
    refine Ok.mono (lp_kz89 hW hs6 hc4 hn7 htn h3t htop (g := g) (fun k a b => hiv.uniq (hg.le ht7) k a b) t 1 none none (by omega) (Nat.le_refl _)) (fun r S9 q => ?_)
    obtain ⟨rfl, v, q2, q3⟩ := q
    rw [show n + 1 - 1 = n by omega] at q3
    exact ⟨v, q2, fun mk R h => q3 _ (fun k a b => (g2.I (by omega) (by omega)).trans (hKd2 mk R h k a (by omega))), 4, Or.inr rfl, (f12.mono fun _ _ _ z => Or.inl z).tr (g2.mono fun _ _ _ z => Or.inr (Or.inr z)), ⟨n2, mk2, rl2, hB2.fg g2 ⟨by omega, fun x k a b => by omega⟩⟩, K, hK7, (g2.I (by omega) (by omega)).trans hK2, fun mk R h k a b => (g2.I (by omega) (by omega)).trans (hKd2 mk R h k a b)⟩
  · skip
    refine r_aload_n (q := 61) dX11_koszul_60 rfl rfl rfl ?_
    refine r_aload_n (q := 62) dX11_koszul_61 rfl rfl rfl ?_
    refine r_iload_n (q := 63) dX11_koszul_62 rfl rfl rfl ?_
    refine r_callV (Mc := mX11_findDualSizes) (q := 66) (As := [zr 0 cc, zi (nI t)]) (st := []) ck11 dX11_koszul_63 rfl rfl mkX11_findDualSizes wt1021 wt1023 wp54 rfl (Nat.le_of_ble_eq_true rfl) (Nat.le_of_ble_eq_true rfl) (by decide) (by decide) (by decide) (Or.inr ⟨Nat.le_of_ble_eq_true rfl, rfl, rfl⟩) (hs2.e (by decide)) (ok_findDual_m hs2 hW hcc2 hc4 hc2 hQ hB2 hn23 ht1 ht7 h3t hK7 hK2 htK hTL2 (fun s h => (f12.I (by omega) (by unfold tRe; omega)).trans (h6 s h)) hini2) (fun r63 S63 hp63 => ?_)
    obtain ⟨rfl, s, mk, R, hs4, hsc, hk0, hk1, hD, f5, hw5, hTL5, ⟨n5, mk5, rl5, hB5⟩, hK5, hrow5⟩ := hp63
    have hs5 := f5.sd
    have hBc5 : CB S63 cc W n2 mk2 rl2 := hB2.fg f5 ⟨fun z => by have := (tFd_n hsc z).1 rfl; omega, fun x k a b z => by have := (tFd_n hsc z).1 rfl; omega⟩
    have hz5 := hBc5.szs hW htn2
    have e0 : gI S2 1204 0 0 = gI S 1204 0 0 := f12.I (by omega) (by unfold tRe; omega)
    have e1 : gI S2 1204 0 1 = gI S 1204 0 1 := f12.I (by omega) (by unfold tRe; omega)
    rw [e0] at hk0
    rw [e1] at hk1
    show Ok _ _ _ [] _ _
    refine r_aload_n (q := 67) dX11_koszul_66 rfl rfl rfl ?_
    refine r_getr (q := 70) (some (5, 0)) ck11 dX11_koszul_67 rfl (k := 18) (by decide) wt440 rfl (hs5.e (by decide)) (hs5.r (by decide) (by decide)) ?_
    refine r_aload_n (q := 71) dX11_koszul_70 rfl rfl rfl ?_
    refine r_getr (q := 74) (some (108, cc)) ck0 dX11_koszul_71 rfl (k := 8) (by decide) wt386 rfl (hs5.e (show cc < 4 by omega)) (hs5.r (show cc < 4 by omega) (by decide)) ?_
    refine r_iload_n (q := 75) dX11_koszul_74 rfl rfl rfl ?_
    refine r_callV (Mc := mX5_raise) (q := 78) (As := [zr 108 cc, zi (nI t)]) (st := []) ck5 dX11_koszul_75 rfl rfl mkX5_raise wt1025 wt1026 wt1027 rfl (Nat.le_of_ble_eq_true rfl) (Nat.le_of_ble_eq_true rfl) (by decide) (by decide) (by decide) (Or.inl rfl) (hs5.e (by decide)) (ok_raise (S := S63) hs5 hc4 ht1 ht7 hz5) (fun r75 S75 hp75 => ?_)
    obtain ⟨rfl, f7, hpw⟩ := hp75
    have hs7 : Sd S75 := hs5.fr f7
    show Ok _ _ _ [] _ _
    refine r_aload_n (q := 79) dX11_koszul_78 rfl rfl rfl ?_
    refine r_getr (q := 82) (some (5, 0)) ck11 dX11_koszul_79 rfl (k := 18) (by decide) wt440 rfl (hs7.e (by decide)) (hs7.r (by decide) (by decide)) ?_
    refine r_iload_n (q := 83) dX11_koszul_82 rfl rfl rfl ?_
    refine r_callV (Mc := mX5_invert) (q := 86) (As := [zi (nI t)]) (st := []) ck5 dX11_koszul_83 rfl rfl mkX5_invert wt1029 wt1030 wt1031 rfl (Nat.le_of_ble_eq_true rfl) (Nat.le_of_ble_eq_true rfl) (by decide) (by decide) (by decide) (Or.inl rfl) (hs7.e (by decide)) (ok_invert (S := S75) hs7 ht1 ht7 hpw) (fun r83 S83 hp83 => ?_)
    obtain ⟨rfl, f8, hiv⟩ := hp83
    have hs6 : Sd S83 := hs7.fr f8
    show Ok _ _ _ [] _ _
    refine r_iconst (q := 87) (nI 1) dX11_koszul_86 rfl (by decide) ?_
    refine r_istore (q := 89) (L' := [some (zr 11 0), some (zi (nI n)), some (zr 0 cc), some (zi (nI t)), some (zi (nI 1)), none, none]) dX11_koszul_87 rfl (by decide) rfl ?_
    have g2 : Fg (fun a b _ => a = 10600 ∨ a = 601 ∧ b = 0) S63 S83 := (f7.fg hs5 (fun a b k h => Or.inl (by simpa [tRa] using h))).tr (f8.fg hs7 (fun a b k h => Or.inr (by simpa [tIn5] using h)))
    refine Ok.mono (lp_kz89 hW hs6 hc4 hn7 htn h3t htop (g := g) (fun k a b => hiv.uniq (hg.le ht7) k a b) t 1 none none (by omega) (Nat.le_refl _)) (fun r S9 q => ?_)
    obtain ⟨rfl, v, q2, q3⟩ := q
    rw [show n + 1 - 1 = n by omega] at q3
    have hrow6 : ∀ mk' R', IsD W mk' R' → ∀ k, 1 ≤ k → k ≤ t → gI S9 111 cc k = nI (szW (dW W mk' R') k) := fun mk' R' h k a b => by rw [h.uniq hW hD]; exact (g2.I (by omega) (by omega)).trans (hrow5 k a b)
    exact ⟨v, q2, fun mk' R' h => q3 _ (hrow6 mk' R' h), s, Or.inl ⟨hs4, hsc, hk0, hk1, hTL5.cong (g2.N (by omega) (by omega)) (g2.N (by omega) (by omega)) (g2.I (by omega) (by omega)), mk, R, n5, mk5, rl5, hD, hw5.fg g2 (fun a k ha => by omega), hB5.fg g2 ⟨by omega, fun x k a b => by omega⟩⟩, ((f12.mono fun _ _ _ z => Or.inl z).tr (f5.mono fun _ _ _ z => Or.inr (Or.inl z))).tr (g2.mono fun _ _ _ z => Or.inr (Or.inr z)), ⟨n2, mk2, rl2, hBc5.fg g2 ⟨by omega, fun x k a b => by omega⟩⟩, t, ht7, (g2.I (by omega) (by omega)).trans hK5, hrow6⟩

