/-- what spreadByEntry tells -/
def SpR (S S1 : zS) (W : zWd) (b n t a : Nat) (us : List (List Nat)) (mk : Nat → Nat → Nat) (rl : Nat → Nat → Nat → Nat) (r : Option zV) : Prop := Fr (tSp b) S S1 ∧ (r = some (zi (nI 0)) ∧ (∀ u, u ∈ us → Nm W mk u) ∨ r = some (zi (nI 1)) ∧ ∃ us1 us2 m k v, us = us1 ++ (tl W m).getD k [] :: us2 ∧ 1 ≤ m ∧ m < n ∧ k < (tl W m).length ∧ mk m k ≠ 0 ∧ lvs us1.flatten + m + lvs us2.flatten = n ∧ (∀ u, u ∈ us1 → Nm W mk u) ∧ Vx S1 b (tl W n).length (wP W) v ∧ AccV (wP W) (tl W n) v (mp (cx a us1 us2) (lowS (tl W m) (rl m k) k)) ∧ ∀ j, t ≤ j → j < (tl W n).length → v j = 0)
theorem row_at {S : zS} {b : Nat} {x u z : List Nat} (h : Rx S b (x ++ u ++ z)) {f : Nat} (hf : f = x.length) : ∀ i, i < u.length → gI S 700 b (f + i) = nI (nd (u.getD i 0)) := fun i hi => by
  have := h (x.length + i) (by rw [List.length_append, List.length_append]; omega)
  rw [hf, this, List.append_assoc, getD_appN, if_neg (by omega), show x.length + i - x.length = i by omega, getD_appN, if_pos hi]

set_option maxRecDepth 100000 in
theorem lp_spO {W : zWd} (hW : Wok W) {b n t a : Nat} (hb4 : b < 4) (hn7 : n ≤ 7) (htn : t < (tl W n).length) (ha : a < wA W) {mk : Nat → Nat → Nat} {rl : Nat → Nat → Nat → Nat} : ∀ (us2 us1 : List (List Nat)) (S : zS) (w6 w7 w8 w9 w10 w11 : Option zV), Sd S → BS S b W n mk rl → Wa S b W → gI S 9 b 0 = nI (wP W) → Rx S b ((a + 1) :: (us1 ++ us2).flatten) → (tl W n).getD t [] = (a + 1) :: (us1 ++ us2).flatten → us1.length + us2.length = we W a → (∀ u, u ∈ us1 ++ us2 → Fs (wA W) (we W) u 1) → (∀ u, u ∈ us1 → Nm W mk u) → Ok mX0_spreadByEntry 24 [some (zr 0 b), some (zi (nI n)), some (zi (nI t)), some (zi (nI ((us1 ++ us2).flatten.length + 1))), some (zi (nI (us1.flatten.length + 1))), some (zi (nI us1.length)), w6, w7, w8, w9, w10, w11] [] S (fun r S1 => SpR S S1 W b n t a (us1 ++ us2) mk rl r) := by
  have hE := hW.2.1
  have hP2 := hW.1.1
  have hP97 := hW.1.2.1
  intro us2
  induction us2 with
  | nil =>
    intro us1 S w6 w7 w8 w9 w10 w11 hs hB hw hp hR ht hl hu hN
    rw [List.append_nil] at *
    have hlen : (tl W n).getD t [] = _ := ht
    have htr := tl_tr hE htn
    have h13 := htr.len hE
    rw [ht, List.length_cons] at h13
    have he4 := hE.2 a ha
    have hl0 : us1.length = we W a := by have h0 : us1.length + 0 = we W a := hl; omega
    refine r_mask [true, true, true, true, true, true, false, false, false, false, false, false] rfl ?_
    refine r_iload (q := 26) dX0_spreadByEntry_24 rfl rfl ?_
    refine r_iconst (q := 27) (nI 4) dX0_spreadByEntry_26 rfl (by decide) ?_
    refine r_icmp_geN (q := 30) (t := 212) (by omega) (by omega) dX0_spreadByEntry_27 (by decide) rfl (fun h27 => ?_) (fun h27 => ?_)
    · skip
      refine r_iconst (q := 213) (nI 0) dX0_spreadByEntry_212 rfl (by decide) ?_
      refine r_zreturn (by decide) dX0_spreadByEntry_213 rfl ?_
      exact ⟨Fr.rf, Or.inl ⟨rfl, hN⟩⟩
    · skip
      refine r_iload (q := 32) dX0_spreadByEntry_30 rfl rfl ?_
      refine r_iload_n (q := 33) dX0_spreadByEntry_32 rfl rfl rfl ?_
      refine r_icmp_geN (q := 36) (t := 212) (by omega) (by omega) dX0_spreadByEntry_33 (by decide) rfl (fun h33 => ?_) (fun h33 => absurd h33 (by omega))
      refine r_iconst (q := 213) (nI 0) dX0_spreadByEntry_212 rfl (by decide) ?_
      refine r_zreturn (by decide) dX0_spreadByEntry_213 rfl ?_
      exact ⟨Fr.rf, Or.inl ⟨rfl, hN⟩⟩
  | cons u us2 ih =>
    intro us1 S w6 w7 w8 w9 w10 w11 hs hB hw hp hR ht hl hu hN
    have htr := tl_tr hE htn
    have h13 := htr.len hE
    rw [ht, List.length_cons] at h13
    have he4 := hE.2 a ha
    have hfl : (us1 ++ u :: us2).flatten = us1.flatten ++ u ++ us2.flatten := by simp
    have hle : (us1 ++ u :: us2).flatten.length = us1.flatten.length + u.length + us2.flatten.length := by rw [hfl, List.length_append, List.length_append]
    have hll : us1.length + us2.length + 1 = we W a := by rw [← hl, List.length_cons]; omega
    have hfu := hu u (List.mem_append_right _ List.mem_cons_self)
    have hu1 := Fs.cnt hE.two hfu
    have hge := lvs_flat_ge hE (us := us1 ++ u :: us2) hu
    have hgu := hge.2 u (List.mem_append_right _ List.mem_cons_self)
    have hlv : lvs (us1 ++ u :: us2).flatten = n := by
      have := htr.2
      rw [ht, lvs, if_neg (by omega)] at this; omega
    have hlv3 : lvs us1.flatten + lvs u + lvs us2.flatten = n := by rw [← hlv, hfl, lvs_app, lvs_app]
    have hun : lvs u < n := by have : (us1 ++ u :: us2).length = us1.length + (us2.length + 1) := by simp
                               omega
    obtain ⟨k, hk, ek⟩ := mem_idx ((tl_mem hE (W := W)).mpr ⟨hfu, rfl⟩)
    obtain ⟨b1, b2, b3⟩ := hB (lvs u) (by omega) (by omega)
    have hk3 := b1.2.2.2.1
    have hk4 := b1.2.2.1
    have hsm := tl_sorted hE (show lvs u ≤ 7 by omega)
    have hBm : ∀ s, s ∈ tl W (lvs u) → ky s < 2 ^ 30 := fun s z => ky_lt hE ((tl_mem hE).mp z) (by omega)
    have hR2 : Rx S b (((a + 1) :: us1.flatten) ++ u ++ us2.flatten) := by have := hR; rw [hfl] at this; exact this
    have hrow := row_at hR2 (f := us1.flatten.length + 1) rfl
    have hpl : Ok mX0_placeOf 0 (ent 6 [zr 0 b, zi (nI (lvs u)), zi (nI (ky u))]) [] S (fun r S1 => r = some (zi (nI (tfr W (lvs u) + k))) ∧ S1 = S) := by
      have := ok_bplace_in hs hb4 (show lvs u ≤ 7 by omega) b1 hsm hBm hk
      rw [ek] at this; exact this
    have hul : u.length ≤ 13 := by omega
    have hul0 := len_la u
    have h3 : ∀ q, q ∈ u → q ≤ 3 := fun q hq => Nat.le_trans (hfu.tok q hq) hE.1
    refine r_mask [true, true, true, true, true, true, false, false, false, false, false, false] rfl ?_
    by_cases hm0 : mk (lvs u) k = 0
    · skip
      refine r_iload (q := 26) dX0_spreadByEntry_24 rfl rfl ?_
      refine r_iconst (q := 27) (nI 4) dX0_spreadByEntry_26 rfl (by decide) ?_
      refine r_icmp_geN (q := 30) (t := 212) (by omega) (by omega) dX0_spreadByEntry_27 (by decide) rfl (fun h27 => absurd h27 (by omega)) (fun h27 => ?_)
      refine r_iload (q := 32) dX0_spreadByEntry_30 rfl rfl ?_
      refine r_iload_n (q := 33) dX0_spreadByEntry_32 rfl rfl rfl ?_
      refine r_icmp_geN (q := 36) (t := 212) (by omega) (by omega) dX0_spreadByEntry_33 (by decide) rfl (fun h33 => absurd h33 (by omega)) (fun h33 => ?_)
      refine r_aload_n (q := 37) dX0_spreadByEntry_36 rfl rfl rfl ?_
      refine r_getr (q := 40) (some (6, b)) ck0 dX0_spreadByEntry_37 rfl (k := 1) (by decide) wt378 rfl (hs.e (show b < 4 by omega)) (hs.r (show b < 4 by omega) (by decide)) ?_
      refine r_getr (q := 43) (some (700, b)) ck6 dX0_spreadByEntry_40 rfl (k := 0) (by decide) wt98 rfl (hs.e (show b < 5 by omega)) (hs.r (show b < 5 by omega) (by decide)) ?_
      refine r_iload (q := 45) dX0_spreadByEntry_43 rfl rfl ?_
      refine r_iload_n (q := 46) dX0_spreadByEntry_45 rfl rfl rfl ?_
      refine r_aload_n (q := 47) dX0_spreadByEntry_46 rfl rfl rfl ?_
      refine r_getr (q := 50) (some (9, b)) ck0 dX0_spreadByEntry_47 rfl (k := 0) (by decide) wt374 rfl (hs.e (show b < 4 by omega)) (hs.r (show b < 4 by omega) (by decide)) ?_
      refine r_getr (q := 53) (some (1003, b)) ck9 dX0_spreadByEntry_50 rfl (k := 3) (by decide) wt308 rfl (hs.e (show b < 4 by omega)) (hs.r (show b < 4 by omega) (by decide)) ?_
      refine r_callS (Mc := mX6_endOf) (q := 56) (As := [zr 700 b, zi (nI (us1.flatten.length + 1)), zi (nI ((us1 ++ u :: us2).flatten.length + 1)), zr 1003 b]) (st := []) dX0_spreadByEntry_53 rfl rfl mkX6_endOf wt837 wt838 rfl (Nat.le_of_ble_eq_true rfl) (Nat.le_of_ble_eq_true rfl) (by decide) (by decide) (by decide) (Or.inl rfl) hs.some (ok_endOf hs (by omega) hb4 (show (us1 ++ u :: us2).flatten.length + 1 ≤ 13 by omega) hE hw.2 hfu (by omega) hrow) (fun r53 S53 hp53 => ?_)
      obtain ⟨rfl, hq53⟩ := hp53
      rw [hq53]
      show Ok _ _ _ [zi (nI (us1.flatten.length + 1 + u.length))] _ _
      refine r_istore (q := 58) (L' := [some (zr 0 b), some (zi (nI n)), some (zi (nI t)), some (zi (nI ((us1 ++ u :: us2).flatten.length + 1))), some (zi (nI (us1.flatten.length + 1))), some (zi (nI us1.length)), some (zi (nI (us1.flatten.length + 1 + u.length))), none, none, none, none, none]) dX0_spreadByEntry_56 rfl (by decide) rfl ?_
      refine r_aload_n (q := 59) dX0_spreadByEntry_58 rfl rfl rfl ?_
      refine r_getr (q := 62) (some (6, b)) ck0 dX0_spreadByEntry_59 rfl (k := 1) (by decide) wt378 rfl (hs.e (show b < 4 by omega)) (hs.r (show b < 4 by omega) (by decide)) ?_
      refine r_getr (q := 65) (some (700, b)) ck6 dX0_spreadByEntry_62 rfl (k := 0) (by decide) wt98 rfl (hs.e (show b < 5 by omega)) (hs.r (show b < 5 by omega) (by decide)) ?_
      refine r_iload (q := 67) dX0_spreadByEntry_65 rfl rfl ?_
      refine r_iload (q := 69) dX0_spreadByEntry_67 rfl rfl ?_
      refine r_callS (Mc := mX6_leavesIn) (q := 72) (As := [zr 700 b, zi (nI (us1.flatten.length + 1)), zi (nI (us1.flatten.length + 1 + u.length))]) (st := []) dX0_spreadByEntry_69 rfl rfl mkX6_leavesIn wt840 wt841 rfl (Nat.le_of_ble_eq_true rfl) (Nat.le_of_ble_eq_true rfl) (by decide) (by decide) (by decide) (Or.inl rfl) hs.some (ok_leavesIn hs (by omega) (show us1.flatten.length + 1 + u.length ≤ 13 by omega) h3 rfl hrow) (fun r69 S69 hp69 => ?_)
      obtain ⟨rfl, hq69⟩ := hp69
      rw [hq69]
      show Ok _ _ _ [zi (nI (lvs u))] _ _
      refine r_istore (q := 74) (L' := [some (zr 0 b), some (zi (nI n)), some (zi (nI t)), some (zi (nI ((us1 ++ u :: us2).flatten.length + 1))), some (zi (nI (us1.flatten.length + 1))), some (zi (nI us1.length)), some (zi (nI (us1.flatten.length + 1 + u.length))), some (zi (nI (lvs u))), none, none, none, none]) dX0_spreadByEntry_72 rfl (by decide) rfl ?_
      refine r_aload_n (q := 75) dX0_spreadByEntry_74 rfl rfl rfl ?_
      refine r_iload (q := 77) dX0_spreadByEntry_75 rfl rfl ?_
      refine r_aload_n (q := 78) dX0_spreadByEntry_77 rfl rfl rfl ?_
      refine r_getr (q := 81) (some (6, b)) ck0 dX0_spreadByEntry_78 rfl (k := 1) (by decide) wt378 rfl (hs.e (show b < 4 by omega)) (hs.r (show b < 4 by omega) (by decide)) ?_
      refine r_getr (q := 84) (some (700, b)) ck6 dX0_spreadByEntry_81 rfl (k := 0) (by decide) wt98 rfl (hs.e (show b < 5 by omega)) (hs.r (show b < 5 by omega) (by decide)) ?_
      refine r_iload (q := 86) dX0_spreadByEntry_84 rfl rfl ?_
      refine r_iload (q := 88) dX0_spreadByEntry_86 rfl rfl ?_
      refine r_callS (Mc := mX6_code) (q := 91) (As := [zr 700 b, zi (nI (us1.flatten.length + 1)), zi (nI (us1.flatten.length + 1 + u.length))]) (st := [zi (nI (lvs u)), zr 0 b]) dX0_spreadByEntry_88 rfl rfl mkX6_code wt843 wt607 rfl (Nat.le_of_ble_eq_true rfl) (Nat.le_of_ble_eq_true rfl) (by decide) (by decide) (by decide) (Or.inl rfl) hs.some (ok_code_700 hs (by omega) (show us1.flatten.length + 1 + u.length ≤ 13 by omega) hE (⟨hfu, rfl⟩ : Tr (wA W) (we W) (lvs u) u) (by omega) rfl hrow) (fun r88 S88 hp88 => ?_)
      obtain ⟨rfl, hq88⟩ := hp88
      rw [hq88]
      show Ok _ _ _ [zi (nI (ky u)), zi (nI (lvs u)), zr 0 b] _ _
      refine r_callV (Mc := mX0_placeOf) (q := 94) (As := [zi (nI (lvs u)), zi (nI (ky u))]) (st := []) ck0 dX0_spreadByEntry_91 rfl rfl mkX0_placeOf wt783 wt785 wp30 rfl (Nat.le_of_ble_eq_true rfl) (Nat.le_of_ble_eq_true rfl) (by decide) (by decide) (by decide) (Or.inl rfl) (hs.e (show b < 4 by omega)) hpl (fun r91 S91 hp91 => ?_)
      obtain ⟨rfl, hq91⟩ := hp91
      rw [hq91]
      show Ok _ _ _ [zi (nI (tfr W (lvs u) + k))] _ _
      refine r_aload_n (q := 95) dX0_spreadByEntry_94 rfl rfl rfl ?_
      refine r_getr (q := 98) (some (103, b)) ck0 dX0_spreadByEntry_95 rfl (k := 3) (by decide) wt380 rfl (hs.e (show b < 4 by omega)) (hs.r (show b < 4 by omega) (by decide)) ?_
      refine r_iload (q := 100) dX0_spreadByEntry_98 rfl rfl ?_
      refine r_ialdN (q := 101) 9 (by decide) rfl dX0_spreadByEntry_100 rfl (hs.e (show b < 4 by omega)) (hs.n rfl (show b < 4 by omega)) (by omega) (by decide) ?_
      refine r_topi (y := nI (tfr W (lvs u))) b1.1 ?_
      refine r_isubN (q := 102) (by omega) dX0_spreadByEntry_101 rfl ?_
      refine r_topi (y := nI k) (congrArg nI (by omega)) ?_
      refine r_istore (q := 104) (L' := [some (zr 0 b), some (zi (nI n)), some (zi (nI t)), some (zi (nI ((us1 ++ u :: us2).flatten.length + 1))), some (zi (nI (us1.flatten.length + 1))), some (zi (nI us1.length)), some (zi (nI (us1.flatten.length + 1 + u.length))), some (zi (nI (lvs u))), some (zi (nI k)), none, none, none]) dX0_spreadByEntry_102 rfl (by decide) rfl ?_
      refine r_aload_n (q := 105) dX0_spreadByEntry_104 rfl rfl rfl ?_
      refine r_iload (q := 107) dX0_spreadByEntry_105 rfl rfl ?_
      refine r_iload (q := 109) dX0_spreadByEntry_107 rfl rfl ?_
      refine r_callV (Mc := mX0_isNormal) (q := 112) (As := [zi (nI (lvs u)), zi (nI k)]) (st := []) ck0 dX0_spreadByEntry_109 rfl rfl mkX0_isNormal wt844 wt845 wt846 rfl (Nat.le_of_ble_eq_true rfl) (Nat.le_of_ble_eq_true rfl) (by decide) (by decide) (by decide) (Or.inl rfl) (hs.e (show b < 4 by omega)) (ok_isNormal hs hb4 (show lvs u ≤ 7 by omega) b1 b2 hk) (fun r109 S109 hp109 => ?_)
      obtain ⟨rfl, hq109⟩ := hp109
      rw [hq109]
      rw [if_pos hm0]
      show Ok _ _ _ [zi (nI 1)] _ _
      refine r_if_neN (q := 115) (t := 202) (by omega) dX0_spreadByEntry_112 (by decide) rfl (fun h112 => ?_) (fun h112 => absurd h112 (by omega))
      refine r_iload (q := 204) dX0_spreadByEntry_202 rfl rfl ?_
      refine r_istore (q := 206) (L' := [some (zr 0 b), some (zi (nI n)), some (zi (nI t)), some (zi (nI ((us1 ++ u :: us2).flatten.length + 1))), some (zi (nI (us1.flatten.length + 1 + u.length))), some (zi (nI us1.length)), some (zi (nI (us1.flatten.length + 1 + u.length))), some (zi (nI (lvs u))), some (zi (nI k)), none, none, none]) dX0_spreadByEntry_204 rfl (by decide) rfl ?_
      refine r_iincN (q := 209) (L' := [some (zr 0 b), some (zi (nI n)), some (zi (nI t)), some (zi (nI ((us1 ++ u :: us2).flatten.length + 1))), some (zi (nI (us1.flatten.length + 1 + u.length))), some (zi (nI (us1.length + 1))), some (zi (nI (us1.flatten.length + 1 + u.length))), some (zi (nI (lvs u))), some (zi (nI k)), none, none, none]) 1 rfl dX0_spreadByEntry_206 rfl rfl (by decide) rfl ?_
      refine r_goto (q := 24) dX0_spreadByEntry_209 (by decide) ?_
      have hNu : Nm W mk u := fun j hj e => by rw [getD_inj tl_nodup hj hk (e.trans ek.symm)]; exact hm0
      have hap : us1 ++ u :: us2 = (us1 ++ [u]) ++ us2 := by simp
      have e1 : us1.flatten.length + 1 + u.length = (us1 ++ [u]).flatten.length + 1 := by simp; omega
      have e2 : us1.length + 1 = (us1 ++ [u]).length := by simp
      rw [e1, e2, hap]
      rw [hap] at hR ht hu
      exact ih (us1 ++ [u]) S _ _ _ _ _ _ hs hB hw hp hR ht (by rw [← e2]; omega) hu (fun v hv => by
        rcases List.mem_append.mp hv with q | q
        · exact hN v q
        · rw [List.mem_singleton.mp q]; exact hNu)
    · skip
      refine r_iload (q := 26) dX0_spreadByEntry_24 rfl rfl ?_
      refine r_iconst (q := 27) (nI 4) dX0_spreadByEntry_26 rfl (by decide) ?_
      refine r_icmp_geN (q := 30) (t := 212) (by omega) (by omega) dX0_spreadByEntry_27 (by decide) rfl (fun h27 => absurd h27 (by omega)) (fun h27 => ?_)
      refine r_iload (q := 32) dX0_spreadByEntry_30 rfl rfl ?_
      refine r_iload_n (q := 33) dX0_spreadByEntry_32 rfl rfl rfl ?_
      refine r_icmp_geN (q := 36) (t := 212) (by omega) (by omega) dX0_spreadByEntry_33 (by decide) rfl (fun h33 => absurd h33 (by omega)) (fun h33 => ?_)
      refine r_aload_n (q := 37) dX0_spreadByEntry_36 rfl rfl rfl ?_
      refine r_getr (q := 40) (some (6, b)) ck0 dX0_spreadByEntry_37 rfl (k := 1) (by decide) wt378 rfl (hs.e (show b < 4 by omega)) (hs.r (show b < 4 by omega) (by decide)) ?_
      refine r_getr (q := 43) (some (700, b)) ck6 dX0_spreadByEntry_40 rfl (k := 0) (by decide) wt98 rfl (hs.e (show b < 5 by omega)) (hs.r (show b < 5 by omega) (by decide)) ?_
      refine r_iload (q := 45) dX0_spreadByEntry_43 rfl rfl ?_
      refine r_iload_n (q := 46) dX0_spreadByEntry_45 rfl rfl rfl ?_
      refine r_aload_n (q := 47) dX0_spreadByEntry_46 rfl rfl rfl ?_
      refine r_getr (q := 50) (some (9, b)) ck0 dX0_spreadByEntry_47 rfl (k := 0) (by decide) wt374 rfl (hs.e (show b < 4 by omega)) (hs.r (show b < 4 by omega) (by decide)) ?_
      refine r_getr (q := 53) (some (1003, b)) ck9 dX0_spreadByEntry_50 rfl (k := 3) (by decide) wt308 rfl (hs.e (show b < 4 by omega)) (hs.r (show b < 4 by omega) (by decide)) ?_
      refine r_callS (Mc := mX6_endOf) (q := 56) (As := [zr 700 b, zi (nI (us1.flatten.length + 1)), zi (nI ((us1 ++ u :: us2).flatten.length + 1)), zr 1003 b]) (st := []) dX0_spreadByEntry_53 rfl rfl mkX6_endOf wt837 wt838 rfl (Nat.le_of_ble_eq_true rfl) (Nat.le_of_ble_eq_true rfl) (by decide) (by decide) (by decide) (Or.inl rfl) hs.some (ok_endOf hs (by omega) hb4 (show (us1 ++ u :: us2).flatten.length + 1 ≤ 13 by omega) hE hw.2 hfu (by omega) hrow) (fun r53 S53 hp53 => ?_)
      obtain ⟨rfl, hq53⟩ := hp53
      rw [hq53]
      show Ok _ _ _ [zi (nI (us1.flatten.length + 1 + u.length))] _ _
      refine r_istore (q := 58) (L' := [some (zr 0 b), some (zi (nI n)), some (zi (nI t)), some (zi (nI ((us1 ++ u :: us2).flatten.length + 1))), some (zi (nI (us1.flatten.length + 1))), some (zi (nI us1.length)), some (zi (nI (us1.flatten.length + 1 + u.length))), none, none, none, none, none]) dX0_spreadByEntry_56 rfl (by decide) rfl ?_
      refine r_aload_n (q := 59) dX0_spreadByEntry_58 rfl rfl rfl ?_
      refine r_getr (q := 62) (some (6, b)) ck0 dX0_spreadByEntry_59 rfl (k := 1) (by decide) wt378 rfl (hs.e (show b < 4 by omega)) (hs.r (show b < 4 by omega) (by decide)) ?_
      refine r_getr (q := 65) (some (700, b)) ck6 dX0_spreadByEntry_62 rfl (k := 0) (by decide) wt98 rfl (hs.e (show b < 5 by omega)) (hs.r (show b < 5 by omega) (by decide)) ?_
      refine r_iload (q := 67) dX0_spreadByEntry_65 rfl rfl ?_
      refine r_iload (q := 69) dX0_spreadByEntry_67 rfl rfl ?_
      refine r_callS (Mc := mX6_leavesIn) (q := 72) (As := [zr 700 b, zi (nI (us1.flatten.length + 1)), zi (nI (us1.flatten.length + 1 + u.length))]) (st := []) dX0_spreadByEntry_69 rfl rfl mkX6_leavesIn wt840 wt841 rfl (Nat.le_of_ble_eq_true rfl) (Nat.le_of_ble_eq_true rfl) (by decide) (by decide) (by decide) (Or.inl rfl) hs.some (ok_leavesIn hs (by omega) (show us1.flatten.length + 1 + u.length ≤ 13 by omega) h3 rfl hrow) (fun r69 S69 hp69 => ?_)
      obtain ⟨rfl, hq69⟩ := hp69
      rw [hq69]
      show Ok _ _ _ [zi (nI (lvs u))] _ _
      refine r_istore (q := 74) (L' := [some (zr 0 b), some (zi (nI n)), some (zi (nI t)), some (zi (nI ((us1 ++ u :: us2).flatten.length + 1))), some (zi (nI (us1.flatten.length + 1))), some (zi (nI us1.length)), some (zi (nI (us1.flatten.length + 1 + u.length))), some (zi (nI (lvs u))), none, none, none, none]) dX0_spreadByEntry_72 rfl (by decide) rfl ?_
      refine r_aload_n (q := 75) dX0_spreadByEntry_74 rfl rfl rfl ?_
      refine r_iload (q := 77) dX0_spreadByEntry_75 rfl rfl ?_
      refine r_aload_n (q := 78) dX0_spreadByEntry_77 rfl rfl rfl ?_
      refine r_getr (q := 81) (some (6, b)) ck0 dX0_spreadByEntry_78 rfl (k := 1) (by decide) wt378 rfl (hs.e (show b < 4 by omega)) (hs.r (show b < 4 by omega) (by decide)) ?_
      refine r_getr (q := 84) (some (700, b)) ck6 dX0_spreadByEntry_81 rfl (k := 0) (by decide) wt98 rfl (hs.e (show b < 5 by omega)) (hs.r (show b < 5 by omega) (by decide)) ?_
      refine r_iload (q := 86) dX0_spreadByEntry_84 rfl rfl ?_
      refine r_iload (q := 88) dX0_spreadByEntry_86 rfl rfl ?_
      refine r_callS (Mc := mX6_code) (q := 91) (As := [zr 700 b, zi (nI (us1.flatten.length + 1)), zi (nI (us1.flatten.length + 1 + u.length))]) (st := [zi (nI (lvs u)), zr 0 b]) dX0_spreadByEntry_88 rfl rfl mkX6_code wt843 wt607 rfl (Nat.le_of_ble_eq_true rfl) (Nat.le_of_ble_eq_true rfl) (by decide) (by decide) (by decide) (Or.inl rfl) hs.some (ok_code_700 hs (by omega) (show us1.flatten.length + 1 + u.length ≤ 13 by omega) hE (⟨hfu, rfl⟩ : Tr (wA W) (we W) (lvs u) u) (by omega) rfl hrow) (fun r88 S88 hp88 => ?_)
      obtain ⟨rfl, hq88⟩ := hp88
      rw [hq88]
      show Ok _ _ _ [zi (nI (ky u)), zi (nI (lvs u)), zr 0 b] _ _
      refine r_callV (Mc := mX0_placeOf) (q := 94) (As := [zi (nI (lvs u)), zi (nI (ky u))]) (st := []) ck0 dX0_spreadByEntry_91 rfl rfl mkX0_placeOf wt783 wt785 wp30 rfl (Nat.le_of_ble_eq_true rfl) (Nat.le_of_ble_eq_true rfl) (by decide) (by decide) (by decide) (Or.inl rfl) (hs.e (show b < 4 by omega)) hpl (fun r91 S91 hp91 => ?_)
      obtain ⟨rfl, hq91⟩ := hp91
      rw [hq91]
      show Ok _ _ _ [zi (nI (tfr W (lvs u) + k))] _ _
      refine r_aload_n (q := 95) dX0_spreadByEntry_94 rfl rfl rfl ?_
      refine r_getr (q := 98) (some (103, b)) ck0 dX0_spreadByEntry_95 rfl (k := 3) (by decide) wt380 rfl (hs.e (show b < 4 by omega)) (hs.r (show b < 4 by omega) (by decide)) ?_
      refine r_iload (q := 100) dX0_spreadByEntry_98 rfl rfl ?_
      refine r_ialdN (q := 101) 9 (by decide) rfl dX0_spreadByEntry_100 rfl (hs.e (show b < 4 by omega)) (hs.n rfl (show b < 4 by omega)) (by omega) (by decide) ?_
      refine r_topi (y := nI (tfr W (lvs u))) b1.1 ?_
      refine r_isubN (q := 102) (by omega) dX0_spreadByEntry_101 rfl ?_
      refine r_topi (y := nI k) (congrArg nI (by omega)) ?_
      refine r_istore (q := 104) (L' := [some (zr 0 b), some (zi (nI n)), some (zi (nI t)), some (zi (nI ((us1 ++ u :: us2).flatten.length + 1))), some (zi (nI (us1.flatten.length + 1))), some (zi (nI us1.length)), some (zi (nI (us1.flatten.length + 1 + u.length))), some (zi (nI (lvs u))), some (zi (nI k)), none, none, none]) dX0_spreadByEntry_102 rfl (by decide) rfl ?_
      refine r_aload_n (q := 105) dX0_spreadByEntry_104 rfl rfl rfl ?_
      refine r_iload (q := 107) dX0_spreadByEntry_105 rfl rfl ?_
      refine r_iload (q := 109) dX0_spreadByEntry_107 rfl rfl ?_
      refine r_callV (Mc := mX0_isNormal) (q := 112) (As := [zi (nI (lvs u)), zi (nI k)]) (st := []) ck0 dX0_spreadByEntry_109 rfl rfl mkX0_isNormal wt844 wt845 wt846 rfl (Nat.le_of_ble_eq_true rfl) (Nat.le_of_ble_eq_true rfl) (by decide) (by decide) (by decide) (Or.inl rfl) (hs.e (show b < 4 by omega)) (ok_isNormal hs hb4 (show lvs u ≤ 7 by omega) b1 b2 hk) (fun r109 S109 hp109 => ?_)
      obtain ⟨rfl, hq109⟩ := hp109
      rw [hq109]
      rw [if_neg hm0]
      show Ok _ _ _ [zi (nI 0)] _ _
      refine r_if_neN (q := 115) (t := 202) (by omega) dX0_spreadByEntry_112 (by decide) rfl (fun h112 => absurd h112 (by omega)) (fun h112 => ?_)
      refine r_aload_n (q := 116) dX0_spreadByEntry_115 rfl rfl rfl ?_
      refine r_iload_n (q := 117) dX0_spreadByEntry_116 rfl rfl rfl ?_
      refine r_callV (Mc := mX0_clearVector) (q := 120) (As := [zi (nI n)]) (st := []) ck0 dX0_spreadByEntry_117 rfl rfl mkX0_clearVector wt848 wt850 wp36 rfl (Nat.le_of_ble_eq_true rfl) (Nat.le_of_ble_eq_true rfl) (by decide) (by decide) (by decide) (Or.inl rfl) (hs.e (show b < 4 by omega)) (ok_clearVector hs hb4 hn7 (hB n (by omega) (Nat.le_refl _)).1) (fun r117 S117 hp117 => ?_)
      obtain ⟨rfl, hq117⟩ := hp117
      have hv0 := vx_clear (S := S) (b := b) (m := (tl W n).length) (P := wP W) (by omega)
      rw [← hq117] at hv0
      obtain ⟨hv1, f1⟩ := hv0
      show Ok _ _ _ [] _ _
      refine r_aload_n (q := 121) dX0_spreadByEntry_120 rfl rfl rfl ?_
      refine r_iload (q := 123) dX0_spreadByEntry_121 rfl rfl ?_
      refine r_iload (q := 125) dX0_spreadByEntry_123 rfl rfl ?_
      refine r_callV (Mc := mX0_ruleOf) (q := 128) (As := [zi (nI (lvs u)), zi (nI k)]) (st := []) ck0 dX0_spreadByEntry_125 rfl rfl mkX0_ruleOf wt852 wt854 wp37 rfl (Nat.le_of_ble_eq_true rfl) (Nat.le_of_ble_eq_true rfl) (by decide) (by decide) (by decide) (Or.inl rfl) ((hs.fr f1).e (show b < 4 by omega)) (ok_ruleOf (hs.fr f1) hb4 (show lvs u ≤ 7 by omega) ((f1.1 _ _ _ rfl).trans b3.1) (by omega)) (fun r125 S125 hp125 => ?_)
      obtain ⟨rfl, hq125⟩ := hp125
      rw [hq125]
      show Ok _ _ _ [zi (nI (rfr W (lvs u) + tri k))] _ _
      refine r_istore (q := 130) (L' := [some (zr 0 b), some (zi (nI n)), some (zi (nI t)), some (zi (nI ((us1 ++ u :: us2).flatten.length + 1))), some (zi (nI (us1.flatten.length + 1))), some (zi (nI us1.length)), some (zi (nI (us1.flatten.length + 1 + u.length))), some (zi (nI (lvs u))), some (zi (nI k)), some (zi (nI (rfr W (lvs u) + tri k))), none, none]) dX0_spreadByEntry_128 rfl (by decide) rfl ?_
      refine r_iconst (q := 131) (nI 0) dX0_spreadByEntry_130 rfl (by decide) ?_
      refine r_istore (q := 133) (L' := [some (zr 0 b), some (zi (nI n)), some (zi (nI t)), some (zi (nI ((us1 ++ u :: us2).flatten.length + 1))), some (zi (nI (us1.flatten.length + 1))), some (zi (nI us1.length)), some (zi (nI (us1.flatten.length + 1 + u.length))), some (zi (nI (lvs u))), some (zi (nI k)), some (zi (nI (rfr W (lvs u) + tri k))), some (zi (nI 0)), none]) dX0_spreadByEntry_131 rfl (by decide) rfl ?_
      have htri := tri_le (t := k) (m := (tl W (lvs u)).length) hk
      have hcnt : (us1 ++ u :: us2).flatten.length + 1 = ((a + 1) :: us1.flatten).length + u.length + us2.flatten.length := by rw [hle, List.length_cons]; omega
      rw [hcnt]
      have hF : ∀ s, Tr (wA W) (we W) (lvs u) s → Tr (wA W) (we W) n (((a + 1) :: us1.flatten) ++ s ++ us2.flatten) := fun s hs => cx_tr ha (by omega) (fun v hv => hu v (List.mem_append_left _ hv)) (fun v hv => hu v (List.mem_append_right _ (List.mem_cons_of_mem _ hv))) hlv3 hs
      have htt : ((a + 1) :: us1.flatten) ++ u ++ us2.flatten = (tl W n).getD t [] := by rw [ht, hfl]; rfl
      refine Ok.mono (lp_spI hE hb4 hn7 hP2 hP97 (x := (a + 1) :: us1.flatten) (u := u) (z := us2.flatten) (m := lvs u) (fm := tfr W (lvs u)) (rfm := rfr W (lvs u)) (k := k) (t := t) (f0 := tfr W n) (by omega) (by rw [List.length_cons]; omega) hk htn hF (fun c hc => ?_) (rl := rl (lvs u) k) k 0 S117 (fun _ => 0) none (by omega) (hs.fr f1) ((hB n (by omega) (Nat.le_refl _)).1.fr f1 (fun k => ⟨rfl, rfl⟩)) (b1.fr f1 (fun k => ⟨rfl, rfl⟩)) ((f1.1 _ _ _ rfl).trans hp) (by rw [gN_22 f1.2.2]; have := b3.2.1; omega) (by rw [gN_22 f1.2.2]; exact b3.2.2.1) (fun j hj => ⟨(f1.1 _ _ _ rfl).trans (b3.2.2.2 k hk hm0 j hj).1, (b3.2.2.2 k hk hm0 j hj).2⟩) (fun j hj => (f1.1 _ _ _ rfl).trans (hR2 j hj)) hv1 acc_nil (fun j _ _ => rfl)) fun r S2 y => ?_
      · rw [← htt]
        exact ky_ctx hE (show lvs u ≤ 7 by omega) hn7 (tl_tr hE (show c < _ by omega)) ⟨hfu, rfl⟩ (hF _ (tl_tr hE (show c < _ by omega))) (hF _ ⟨hfu, rfl⟩) (by have := sort_lt hsm hc hk; rw [ek] at this; exact this)
      · obtain ⟨y1, y2, v1, y3, y4, y5⟩ := y
        exact ⟨(f1.mono tSp_ve).tr y2, Or.inr ⟨y1, us1, us2, lvs u, k, v1, by rw [ek], by omega, hun, hk, hm0, hlv3, hN, y3, y4, y5⟩⟩

set_option maxRecDepth 100000 in
theorem ok_spread_n {S : zS} (hs : Sd S) {W : zWd} (hW : Wok W) {b n t : Nat} (hb4 : b < 4) (hn7 : n ≤ 7) (hn1 : 1 ≤ n) (htn : t < (tl W n).length) {mk : Nat → Nat → Nat} {rl : Nat → Nat → Nat → Nat} (hB : BS S b W n mk rl) (hw : Wa S b W) (hp : gI S 9 b 0 = nI (wP W)) {a : Nat} {us : List (List Nat)} (ha : a < wA W) (ht : (tl W n).getD t [] = (a + 1) :: us.flatten) (hl : us.length = we W a) (hu : ∀ u, u ∈ us → Fs (wA W) (we W) u 1) : Ok mX0_spreadByEntry 0 (ent 12 [zr 0 b, zi (nI n), zi (nI t)]) [] S (fun r S1 => SpR S S1 W b n t a us mk rl r) := by
  have hE := hW.2.1
  have htr := tl_tr hE htn
  have h13 := htr.len hE
  have hL := (hB n hn1 (Nat.le_refl _)).1
  have hl3 := hL.2.2.2.1
  show Ok mX0_spreadByEntry 0 [some (zr 0 b), some (zi (nI n)), some (zi (nI t)), none, none, none, none, none, none, none, none, none] [] S _
  refine r_aload_n (q := 1) dX0_spreadByEntry_0 rfl rfl rfl ?_
  refine r_iload_n (q := 2) dX0_spreadByEntry_1 rfl rfl rfl ?_
  refine r_iload_n (q := 3) dX0_spreadByEntry_2 rfl rfl rfl ?_
  refine r_callV (Mc := mX0_keyOf) (q := 6) (As := [zi (nI n), zi (nI t)]) (st := []) ck0 dX0_spreadByEntry_3 rfl rfl mkX0_keyOf wt792 wt793 wt794 rfl (Nat.le_of_ble_eq_true rfl) (Nat.le_of_ble_eq_true rfl) (by decide) (by decide) (by decide) (Or.inl rfl) (hs.e (show b < 4 by omega)) (ok_keyOf hs hb4 hn7 hL htn) (fun r3 S3 hp3 => ?_)
  obtain ⟨rfl, hq3⟩ := hp3
  rw [hq3]
  show Ok _ _ _ [zi (nI (ky ((tl W n).getD t [])))] _ _
  refine r_iload_n (q := 7) dX0_spreadByEntry_6 rfl rfl rfl ?_
  refine r_aload_n (q := 8) dX0_spreadByEntry_7 rfl rfl rfl ?_
  refine r_getr (q := 11) (some (6, b)) ck0 dX0_spreadByEntry_8 rfl (k := 1) (by decide) wt378 rfl (hs.e (show b < 4 by omega)) (hs.r (show b < 4 by omega) (by decide)) ?_
  refine r_getr (q := 14) (some (700, b)) ck6 dX0_spreadByEntry_11 rfl (k := 0) (by decide) wt98 rfl (hs.e (show b < 5 by omega)) (hs.r (show b < 5 by omega) (by decide)) ?_
  refine r_callS (Mc := mX6_open) (q := 17) (As := [zi (nI (ky ((tl W n).getD t []))), zi (nI n), zr 700 b]) (st := []) dX0_spreadByEntry_14 rfl rfl mkX6_open wt836 wt746 rfl (Nat.le_of_ble_eq_true rfl) (Nat.le_of_ble_eq_true rfl) (by decide) (by decide) (by decide) (Or.inl rfl) hs.some (ok_open_700 hs (by omega) hE htr hn7) (fun r14 S14 hp14 => ?_)
  obtain ⟨rfl, hq14⟩ := hp14
  have f1 : Fr (tSp b) S S14 := by rw [hq14]; exact (Fr.rf).stR (fun k => by simp [tSp])
  have hR : Rx S14 b ((tl W n).getD t []) := fun j hj => by rw [hq14, gI_stR_k (by rw [List.length_map]; exact hj), getD_map hj]
  show Ok _ _ _ [zi (nI (((tl W n).getD t []).length))] _ _
  refine r_istore_n (q := 18) (L' := [some (zr 0 b), some (zi (nI n)), some (zi (nI t)), some (zi (nI (((tl W n).getD t []).length))), none, none, none, none, none, none, none, none]) dX0_spreadByEntry_17 rfl rfl (by decide) rfl ?_
  refine r_iconst (q := 19) (nI 1) dX0_spreadByEntry_18 rfl (by decide) ?_
  refine r_istore (q := 21) (L' := [some (zr 0 b), some (zi (nI n)), some (zi (nI t)), some (zi (nI (((tl W n).getD t []).length))), some (zi (nI 1)), none, none, none, none, none, none, none]) dX0_spreadByEntry_19 rfl (by decide) rfl ?_
  refine r_iconst (q := 22) (nI 0) dX0_spreadByEntry_21 rfl (by decide) ?_
  refine r_istore (q := 24) (L' := [some (zr 0 b), some (zi (nI n)), some (zi (nI t)), some (zi (nI (((tl W n).getD t []).length))), some (zi (nI 1)), some (zi (nI 0)), none, none, none, none, none, none]) dX0_spreadByEntry_22 rfl (by decide) rfl ?_
  have e1 : ((tl W n).getD t []).length = ([] ++ us).flatten.length + 1 := by rw [ht]; rfl
  rw [e1]
  exact Ok.mono (lp_spO hW hb4 hn7 htn ha us [] S14 none none none none none none (hs.fr f1) (hB.fr f1 (fun x k h1 h2 => by simp [tSp]; omega)) (hw.fr f1 (fun k => ⟨by simp [tSp], by simp [tSp]⟩)) ((f1.1 _ _ _ (by simp [tSp])).trans hp) (by have := hR; rw [ht] at this; exact this) ht (by rw [← hl]; simp) hu (fun v hv => absurd hv List.not_mem_nil)) fun r S1 z => ⟨f1.tr z.1, z.2⟩

set_option maxRecDepth 100000 in
theorem ok_spread_0 {S : zS} (hs : Sd S) {W : zWd} (hW : Wok W) {b n t : Nat} (hb4 : b < 4) (hn7 : n ≤ 7) (hn1 : 1 ≤ n) (htn : t < (tl W n).length) {mk : Nat → Nat → Nat} {rl : Nat → Nat → Nat → Nat} (hB : BS S b W n mk rl) (hw : Wa S b W) (hp : gI S 9 b 0 = nI (wP W)) (ht : (tl W n).getD t [] = [0]) : Ok mX0_spreadByEntry 0 (ent 12 [zr 0 b, zi (nI n), zi (nI t)]) [] S (fun r S1 => r = some (zi (nI 0)) ∧ Fr (tSp b) S S1) := by
  have hE := hW.2.1
  have htr := tl_tr hE htn
  have h13 := htr.len hE
  have hL := (hB n hn1 (Nat.le_refl _)).1
  have hl3 := hL.2.2.2.1
  show Ok mX0_spreadByEntry 0 [some (zr 0 b), some (zi (nI n)), some (zi (nI t)), none, none, none, none, none, none, none, none, none] [] S _
  refine r_aload_n (q := 1) dX0_spreadByEntry_0 rfl rfl rfl ?_
  refine r_iload_n (q := 2) dX0_spreadByEntry_1 rfl rfl rfl ?_
  refine r_iload_n (q := 3) dX0_spreadByEntry_2 rfl rfl rfl ?_
  refine r_callV (Mc := mX0_keyOf) (q := 6) (As := [zi (nI n), zi (nI t)]) (st := []) ck0 dX0_spreadByEntry_3 rfl rfl mkX0_keyOf wt792 wt793 wt794 rfl (Nat.le_of_ble_eq_true rfl) (Nat.le_of_ble_eq_true rfl) (by decide) (by decide) (by decide) (Or.inl rfl) (hs.e (show b < 4 by omega)) (ok_keyOf hs hb4 hn7 hL htn) (fun r3 S3 hp3 => ?_)
  obtain ⟨rfl, hq3⟩ := hp3
  rw [hq3]
  show Ok _ _ _ [zi (nI (ky ((tl W n).getD t [])))] _ _
  refine r_iload_n (q := 7) dX0_spreadByEntry_6 rfl rfl rfl ?_
  refine r_aload_n (q := 8) dX0_spreadByEntry_7 rfl rfl rfl ?_
  refine r_getr (q := 11) (some (6, b)) ck0 dX0_spreadByEntry_8 rfl (k := 1) (by decide) wt378 rfl (hs.e (show b < 4 by omega)) (hs.r (show b < 4 by omega) (by decide)) ?_
  refine r_getr (q := 14) (some (700, b)) ck6 dX0_spreadByEntry_11 rfl (k := 0) (by decide) wt98 rfl (hs.e (show b < 5 by omega)) (hs.r (show b < 5 by omega) (by decide)) ?_
  refine r_callS (Mc := mX6_open) (q := 17) (As := [zi (nI (ky ((tl W n).getD t []))), zi (nI n), zr 700 b]) (st := []) dX0_spreadByEntry_14 rfl rfl mkX6_open wt836 wt746 rfl (Nat.le_of_ble_eq_true rfl) (Nat.le_of_ble_eq_true rfl) (by decide) (by decide) (by decide) (Or.inl rfl) hs.some (ok_open_700 hs (by omega) hE htr hn7) (fun r14 S14 hp14 => ?_)
  obtain ⟨rfl, hq14⟩ := hp14
  have f1 : Fr (tSp b) S S14 := by rw [hq14]; exact (Fr.rf).stR (fun k => by simp [tSp])
  have hR : Rx S14 b ((tl W n).getD t []) := fun j hj => by rw [hq14, gI_stR_k (by rw [List.length_map]; exact hj), getD_map hj]
  show Ok _ _ _ [zi (nI (((tl W n).getD t []).length))] _ _
  refine r_istore_n (q := 18) (L' := [some (zr 0 b), some (zi (nI n)), some (zi (nI t)), some (zi (nI (((tl W n).getD t []).length))), none, none, none, none, none, none, none, none]) dX0_spreadByEntry_17 rfl rfl (by decide) rfl ?_
  refine r_iconst (q := 19) (nI 1) dX0_spreadByEntry_18 rfl (by decide) ?_
  refine r_istore (q := 21) (L' := [some (zr 0 b), some (zi (nI n)), some (zi (nI t)), some (zi (nI (((tl W n).getD t []).length))), some (zi (nI 1)), none, none, none, none, none, none, none]) dX0_spreadByEntry_19 rfl (by decide) rfl ?_
  refine r_iconst (q := 22) (nI 0) dX0_spreadByEntry_21 rfl (by decide) ?_
  refine r_istore (q := 24) (L' := [some (zr 0 b), some (zi (nI n)), some (zi (nI t)), some (zi (nI (((tl W n).getD t []).length))), some (zi (nI 1)), some (zi (nI 0)), none, none, none, none, none, none]) dX0_spreadByEntry_22 rfl (by decide) rfl ?_
  refine r_iload (q := 26) dX0_spreadByEntry_24 rfl rfl ?_
  refine r_iconst (q := 27) (nI 4) dX0_spreadByEntry_26 rfl (by decide) ?_
  refine r_icmp_geN (q := 30) (t := 212) (by omega) (by omega) dX0_spreadByEntry_27 (by decide) rfl (fun h27 => absurd h27 (by omega)) (fun h27 => ?_)
  refine r_iload (q := 32) dX0_spreadByEntry_30 rfl rfl ?_
  refine r_iload_n (q := 33) dX0_spreadByEntry_32 rfl rfl rfl ?_
  refine r_icmp_geN (q := 36) (t := 212) (by omega) (by omega) dX0_spreadByEntry_33 (by decide) rfl (fun h33 => ?_) (fun h33 => absurd h33 (by rw [ht]; simp))
  refine r_iconst (q := 213) (nI 0) dX0_spreadByEntry_212 rfl (by decide) ?_
  refine r_zreturn (by decide) dX0_spreadByEntry_213 rfl ?_
  exact ⟨rfl, f1⟩

/-- a tree: a leaf, or an act and its entries -/
theorem tr_root {A : Nat} {e : Nat → Nat} {n : Nat} {t : List Nat} (h : Tr A e n t) : t = [0] ∨ ∃ (a : Nat) (us : List (List Nat)), a < A ∧ t = (a + 1) :: us.flatten ∧ us.length = e a ∧ ∀ u, u ∈ us → Fs A e u 1 := by
  cases t with
  | nil => exact absurd h.1 (by simp [Fs])
  | cons k r =>
    have h2 := h.1.2
    by_cases h0 : k = 0
    · left
      rw [if_pos h0] at h2
      cases r with
      | nil => rw [h0]
      | cons x r => have := h2.1; omega
    · right
      rw [if_neg h0] at h2
      obtain ⟨us, e1, e2, e3⟩ := Fs.split h2.2
      simp only [Nat.sub_self, Nat.zero_add] at e1
      exact ⟨k - 1, us, by omega, by rw [e3, show k - 1 + 1 = k by omega], e1, e2⟩

