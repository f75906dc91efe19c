/-! laws with an act put in a leaf -/
def rowS (T : List (List Nat)) (rl : Nat → Nat → Nat) (t c : Nat) : zL := (List.range c).map (fun j => (T.getD j [], RC rl t j))
theorem mp_rowS {T : List (List Nat)} {rl : Nat → Nat → Nat} {t c : Nat} {F : List Nat → List Nat} : mp F (rowS T rl t (c + 1)) = mp F (rowS T rl t c) ++ [(F (T.getD c []), RC rl t c)] := by unfold rowS mp; rw [List.range_succ, List.map_append, List.map_append]; rfl
theorem rowS_li {P : Nat} {T : List (List Nat)} {rl : Nat → Nat → Nat} {t : Nat} (ht : t < T.length) : Li P (rowS T rl t (t + 1)) (V T (RC rl t)) := by
  refine li_of_ev fun g => ?_
  unfold rowS
  rw [ev_rng, ev_V]
  have h : ∀ d, t + 1 + d ≤ T.length → smz (fun j => RC rl t j * g (T.getD j [])) (t + 1 + d) = smz (fun j => RC rl t j * g (T.getD j [])) (t + 1) := by
    intro d
    induction d with
    | zero => intro _; rfl
    | succ d ih =>
      intro hd
      rw [← Nat.add_assoc, smz, ih (by omega)]
      have : RC rl t (t + 1 + d) = 0 := (if_neg (by omega)).trans (if_neg (by omega))
      rw [this, Int.zero_mul, Int.add_zero]
  have := h (T.length - (t + 1)) (by omega)
  rw [show t + 1 + (T.length - (t + 1)) = T.length by omega] at this
  exact this.symm
theorem neg_nz : ∀ x, x < 97 → -nI x = 0 → x = 0 := by decide
theorem neg_int : ∀ x, x < 97 → (-nI x).toInt = -(x : Int) := fun x hx => by
  rw [Int32.toInt_neg, nI_toInt (by omega)]
  exact Int.bmod_eq_of_le (by omega) (by omega)

set_option maxRecDepth 100000 in
theorem lp_plugI {W : zWd} (hW : Wok W) {b n m t i a : Nat} (hb4 : b < 4) (hn7 : n ≤ 7) (ha : a < wA W) (hme : m + we W a = n + 1) (hi : i < m) (ht : t < (tl W m).length) {rl : Nat → Nat → Nat} : ∀ (d c : Nat) (S : zS) (v : Nat → Nat) (w9 : Option zV), c + d = t + 1 → Sd S → Wa S b W → gI S 9 b 0 = nI (wP W) → Lx S b n (tfr W n) (tl W n) → Lx S b m (tfr W m) (tl W m) → rfr W m + tri t + t ≤ gN S 107 b → gN S 107 b ≤ 160000 → (∀ j, j < t → gI S 107 b (rfr W m + tri t + j) = nI (rl t j) ∧ rl t j < wP W) → Vx S b (tl W n).length (wP W) v → AccV (wP W) (tl W n) v (mp (fun s => gr s i (acT a (we W a))) (rowS (tl W m) rl t c)) → Ok mX0_loadPlugged 23 [some (zr 0 b), some (zi (nI n)), some (zi (nI m)), some (zi (nI t)), some (zi (nI i)), some (zi (nI a)), some (zi (nI (ky (acT a (we W a))))), some (zi (nI (rfr W m + tri t))), some (zi (nI c)), w9] [] S (fun r S1 => r = none ∧ Fr (tSp b) S S1 ∧ ∃ v1, Vx S1 b (tl W n).length (wP W) v1 ∧ AccV (wP W) (tl W n) v1 (mp (fun s => gr s i (acT a (we W a))) (rowS (tl W m) rl t (t + 1)))) := by
  have hE := hW.2.1
  have hP2 := hW.1.1
  have hP97 := hW.1.2.1
  have hea := hE.2 a ha
  have ha3 : a < 3 := Nat.lt_of_lt_of_le ha hE.1
  intro d
  induction d with
  | zero =>
    intro c S v w9 hc hs hw hp hL hLm hl1 hl2 hr hV hA
    obtain rfl : c = t + 1 := by omega
    have hk3 := hLm.2.2.2.1
    refine r_mask [true, true, true, true, true, true, true, true, true, false] rfl ?_
    refine r_iload (q := 25) dX0_loadPlugged_23 rfl rfl ?_
    refine r_iload_n (q := 26) dX0_loadPlugged_25 rfl rfl rfl ?_
    refine r_icmp_gtN (q := 29) (t := 99) (by omega) (by omega) dX0_loadPlugged_26 (by decide) rfl (fun h26 => ?_) (fun h26 => absurd h26 (by omega))
    refine r_return dX0_loadPlugged_99 rfl ?_
    exact ⟨rfl, Fr.rf, v, hV, hA⟩
  | succ d ih =>
    intro c S v w9 hc hs hw hp hL hLm hl1 hl2 hr hV hA
    have hk3 := hLm.2.2.2.1
    have hct := tl_tr hE (show c < (tl W m).length by omega)
    have hg : Tr (wA W) (we W) n (gr ((tl W m).getD c []) i (acT a (we W a))) := by have := hct.gr (tr_acT (e := we W) ha) hi; rw [show m + we W a - 1 = n by omega] at this; exact this
    obtain ⟨k, hk, ek⟩ := mem_idx ((tl_mem hE).mpr hg)
    have hsn := tl_sorted hE hn7
    have hB : ∀ s, s ∈ tl W n → ky s < 2 ^ 30 := fun s z => ky_lt hE ((tl_mem hE).mp z) hn7
    have he3 := hw.2 a ha
    refine r_mask [true, true, true, true, true, true, true, true, true, false] rfl ?_
    by_cases hct0 : c = t
    · subst hct0
      refine r_iload (q := 25) dX0_loadPlugged_23 rfl rfl ?_
      refine r_iload_n (q := 26) dX0_loadPlugged_25 rfl rfl rfl ?_
      refine r_icmp_gtN (q := 29) (t := 99) (by omega) (by omega) dX0_loadPlugged_26 (by decide) rfl (fun h26 => absurd h26 (by omega)) (fun h26 => ?_)
      refine r_iload (q := 31) dX0_loadPlugged_29 rfl rfl ?_
      refine r_iload_n (q := 32) dX0_loadPlugged_31 rfl rfl rfl ?_
      refine r_icmp_neN (q := 35) (t := 39) (by omega) (by omega) dX0_loadPlugged_32 (by decide) rfl (fun h32 => absurd h32 (by omega)) (fun h32 => ?_)
      refine r_iconst (q := 36) (nI 1) dX0_loadPlugged_35 rfl (by decide) ?_
      refine r_goto (q := 50) dX0_loadPlugged_36 (by decide) ?_
      refine r_istore (q := 52) (L' := [some (zr 0 b), some (zi (nI n)), some (zi (nI m)), some (zi (nI c)), some (zi (nI i)), some (zi (nI a)), some (zi (nI (ky (acT a (we W a))))), some (zi (nI (rfr W m + tri c))), some (zi (nI c)), some (zi (nI 1))]) dX0_loadPlugged_50 rfl (by decide) rfl ?_
      refine r_iload (q := 54) dX0_loadPlugged_52 rfl rfl ?_
      refine r_if_eqN (q := 57) (t := 93) (by omega) dX0_loadPlugged_54 (by decide) rfl (fun h54 => absurd h54 (by omega)) (fun h54 => ?_)
      refine r_aload_n (q := 58) dX0_loadPlugged_57 rfl rfl rfl ?_
      refine r_iload_n (q := 59) dX0_loadPlugged_58 rfl rfl rfl ?_
      refine r_aload_n (q := 60) dX0_loadPlugged_59 rfl rfl rfl ?_
      refine r_getr (q := 63) (some (6, b)) ck0 dX0_loadPlugged_60 rfl (k := 1) (by decide) wt378 rfl (hs.e (show b < 4 by omega)) (hs.r (show b < 4 by omega) (by decide)) ?_
      refine r_aload_n (q := 64) dX0_loadPlugged_63 rfl rfl rfl ?_
      refine r_iload_n (q := 65) dX0_loadPlugged_64 rfl rfl rfl ?_
      refine r_iload (q := 67) dX0_loadPlugged_65 rfl rfl ?_
      refine r_callV (Mc := mX0_keyOf) (q := 70) (As := [zi (nI m), zi (nI c)]) (st := [zr 6 b, zi (nI n), zr 0 b]) ck0 dX0_loadPlugged_67 rfl rfl mkX0_keyOf wt792 wt793 wt794 rfl (Nat.le_of_ble_eq_true rfl) (Nat.le_of_ble_eq_true rfl) (by decide) (by decide) (by decide) (Or.inl rfl) (hs.e (show b < 4 by omega)) (ok_keyOf hs hb4 (by omega) hLm (by omega)) (fun r67 S67 hp67 => ?_)
      obtain ⟨rfl, hq67⟩ := hp67
      rw [hq67]
      show Ok _ _ _ [zi (nI (ky ((tl W m).getD c []))), zr 6 b, zi (nI n), zr 0 b] _ _
      refine r_iload_n (q := 71) dX0_loadPlugged_70 rfl rfl rfl ?_
      refine r_iload (q := 73) dX0_loadPlugged_71 rfl rfl ?_
      refine r_iload (q := 75) dX0_loadPlugged_73 rfl rfl ?_
      refine r_aload_n (q := 76) dX0_loadPlugged_75 rfl rfl rfl ?_
      refine r_getr (q := 79) (some (9, b)) ck0 dX0_loadPlugged_76 rfl (k := 0) (by decide) wt374 rfl (hs.e (show b < 4 by omega)) (hs.r (show b < 4 by omega) (by decide)) ?_
      refine r_getr (q := 82) (some (1003, b)) ck9 dX0_loadPlugged_79 rfl (k := 3) (by decide) wt308 rfl (hs.e (show b < 4 by omega)) (hs.r (show b < 4 by omega) (by decide)) ?_
      refine r_iload (q := 84) dX0_loadPlugged_82 rfl rfl ?_
      refine r_ialdN (q := 85) 3 (by decide) rfl dX0_loadPlugged_84 rfl (hs.e (show b < 4 by omega)) (hs.n rfl (show b < 4 by omega)) (by omega) (by decide) ?_
      refine r_topi (y := nI (we W a)) he3 ?_
      refine r_callV (Mc := mX6_grafted) (q := 88) (As := [zi (nI (ky ((tl W m).getD c []))), zi (nI m), zi (nI i), zi (nI (ky (acT a (we W a)))), zi (nI (we W a))]) (st := [zi (nI n), zr 0 b]) ck6 dX0_loadPlugged_85 rfl rfl mkX6_grafted wt800 wt801 wt802 rfl (Nat.le_of_ble_eq_true rfl) (Nat.le_of_ble_eq_true rfl) (by decide) (by decide) (by decide) (Or.inl rfl) (hs.e (show b < 5 by omega)) (ok_grafted hs (by omega) hE hct (tr_acT ha) hi (by omega)) (fun r85 S85 hp85 => ?_)
      obtain ⟨rfl, f1⟩ := hp85
      have f1' := f1.mono tSp_sh
      rw [← ek]
      show Ok _ _ _ [zi (nI (ky ((tl W n).getD k []))), zi (nI n), zr 0 b] _ _
      refine r_iload (q := 90) dX0_loadPlugged_88 rfl rfl ?_
      refine r_callV (Mc := mX0_addToVector) (q := 93) (As := [zi (nI n), zi (nI (ky ((tl W n).getD k []))), zi (nI 1)]) (st := []) ck0 dX0_loadPlugged_90 rfl rfl mkX0_addToVector wt860 wt862 wp38 rfl (Nat.le_of_ble_eq_true rfl) (Nat.le_of_ble_eq_true rfl) (by decide) (by decide) (by decide) (Or.inl rfl) ((hs.fr f1).e (show b < 4 by omega)) (ok_addToVector (hs.fr f1) hb4 hn7 (hL.fr f1 (fun k => ⟨rfl, rfl⟩)) hsn hB hP2 hP97 ((f1.1 _ _ _ rfl).trans hp) (hV.fr f1 (fun k => rfl)) hk (nI 1)) (fun r90 S90 hp90 => ?_)
      obtain ⟨rfl, hq90⟩ := hp90
      have f2 : Fr (tSp b) S S90 := by rw [hq90]; exact f1'.tr (fr_ve.mono tSp_ve)
      show Ok _ _ _ [] _ _
      refine r_iincN (q := 96) (L' := [some (zr 0 b), some (zi (nI n)), some (zi (nI m)), some (zi (nI c)), some (zi (nI i)), some (zi (nI a)), some (zi (nI (ky (acT a (we W a))))), some (zi (nI (rfr W m + tri c))), some (zi (nI (c + 1))), some (zi (nI 1))]) 1 rfl dX0_loadPlugged_93 rfl rfl (by decide) rfl ?_
      refine r_goto (q := 23) dX0_loadPlugged_96 (by decide) ?_
      refine Ok.mono (ih (c + 1) S90 (fun j => if j = k then rsN (nI (v k) + (nI 1)) (wP W) else v j) _ (by omega) (hs.fr f2) (hw.fr f2 (fun k => ⟨by simp [tSp], by simp [tSp]⟩)) ((f2.1 _ _ _ (by simp [tSp])).trans hp) (hL.fr f2 (fun k => ⟨by simp [tSp], by simp [tSp]⟩)) (hLm.fr f2 (fun k => ⟨by simp [tSp], by simp [tSp]⟩)) (by rw [gN_22 f2.2.2]; exact hl1) (by rw [gN_22 f2.2.2]; exact hl2) (fun j hj => ⟨(f2.1 _ _ _ (by simp [tSp])).trans (hr j hj).1, (hr j hj).2⟩) (by rw [hq90]; exact (hV.fr f1 (fun k => rfl)).set (rsN_lt (by omega))) ?_) fun r S2 y => ⟨y.1, f2.tr y.2.1, y.2.2⟩
      have hx0 : (nI 1 : Int32).toInt = RC rl c c := (if_pos rfl).symm
      rw [mp_rowS, ← hx0, ← ek]
      exact acc_add hP2 hP97 tl_nodup hA hk (hV k hk).2 (by decide)
    · obtain ⟨r1, r2⟩ := hr c (by omega)
      by_cases hz0 : rl t c = 0
      · skip
        refine r_iload (q := 25) dX0_loadPlugged_23 rfl rfl ?_
        refine r_iload_n (q := 26) dX0_loadPlugged_25 rfl rfl rfl ?_
        refine r_icmp_gtN (q := 29) (t := 99) (by omega) (by omega) dX0_loadPlugged_26 (by decide) rfl (fun h26 => absurd h26 (by omega)) (fun h26 => ?_)
        refine r_iload (q := 31) dX0_loadPlugged_29 rfl rfl ?_
        refine r_iload_n (q := 32) dX0_loadPlugged_31 rfl rfl rfl ?_
        refine r_icmp_neN (q := 35) (t := 39) (by omega) (by omega) dX0_loadPlugged_32 (by decide) rfl (fun h32 => ?_) (fun h32 => absurd h32 (by omega))
        refine r_aload_n (q := 40) dX0_loadPlugged_39 rfl rfl rfl ?_
        refine r_getr (q := 43) (some (107, b)) ck0 dX0_loadPlugged_40 rfl (k := 7) (by decide) wt384 rfl (hs.e (show b < 4 by omega)) (hs.r (show b < 4 by omega) (by decide)) ?_
        refine r_iload (q := 45) dX0_loadPlugged_43 rfl rfl ?_
        refine r_iload (q := 47) dX0_loadPlugged_45 rfl rfl ?_
        refine r_iaddN (q := 48) dX0_loadPlugged_47 rfl ?_
        refine r_ialdN (q := 49) (gN S 107 b) (by decide) rfl dX0_loadPlugged_48 rfl (hs.e (show b < 4 by omega)) rfl (by omega) (by omega) ?_
        refine r_topi (y := nI (rl t c)) r1 ?_
        refine r_ineg (q := 50) dX0_loadPlugged_49 rfl ?_
        refine r_istore (q := 52) (L' := [some (zr 0 b), some (zi (nI n)), some (zi (nI m)), some (zi (nI t)), some (zi (nI i)), some (zi (nI a)), some (zi (nI (ky (acT a (we W a))))), some (zi (nI (rfr W m + tri t))), some (zi (nI c)), some (zi (-(nI (rl t c))))]) dX0_loadPlugged_50 rfl (by decide) rfl ?_
        refine r_iload (q := 54) dX0_loadPlugged_52 rfl rfl ?_
        refine r_if_eq (q := 57) (t := 93) dX0_loadPlugged_54 (by decide) rfl (fun h54 => ?_) (fun h54 => absurd h54 (fun z => z (by rw [hz0]; decide)))
        refine r_iincN (q := 96) (L' := [some (zr 0 b), some (zi (nI n)), some (zi (nI m)), some (zi (nI t)), some (zi (nI i)), some (zi (nI a)), some (zi (nI (ky (acT a (we W a))))), some (zi (nI (rfr W m + tri t))), some (zi (nI (c + 1))), some (zi (-(nI (rl t c))))]) 1 rfl dX0_loadPlugged_93 rfl rfl (by decide) rfl ?_
        refine r_goto (q := 23) dX0_loadPlugged_96 (by decide) ?_
        refine ih (c + 1) S v _ (by omega) hs hw hp hL hLm hl1 hl2 hr hV ?_
        have hx0 : RC rl t c = 0 := ((if_neg hct0).trans (if_pos (by omega))).trans (by rw [hz0]; rfl)
        rw [mp_rowS, hx0]; exact acc_zero hA _
      · skip
        refine r_iload (q := 25) dX0_loadPlugged_23 rfl rfl ?_
        refine r_iload_n (q := 26) dX0_loadPlugged_25 rfl rfl rfl ?_
        refine r_icmp_gtN (q := 29) (t := 99) (by omega) (by omega) dX0_loadPlugged_26 (by decide) rfl (fun h26 => absurd h26 (by omega)) (fun h26 => ?_)
        refine r_iload (q := 31) dX0_loadPlugged_29 rfl rfl ?_
        refine r_iload_n (q := 32) dX0_loadPlugged_31 rfl rfl rfl ?_
        refine r_icmp_neN (q := 35) (t := 39) (by omega) (by omega) dX0_loadPlugged_32 (by decide) rfl (fun h32 => ?_) (fun h32 => absurd h32 (by omega))
        refine r_aload_n (q := 40) dX0_loadPlugged_39 rfl rfl rfl ?_
        refine r_getr (q := 43) (some (107, b)) ck0 dX0_loadPlugged_40 rfl (k := 7) (by decide) wt384 rfl (hs.e (show b < 4 by omega)) (hs.r (show b < 4 by omega) (by decide)) ?_
        refine r_iload (q := 45) dX0_loadPlugged_43 rfl rfl ?_
        refine r_iload (q := 47) dX0_loadPlugged_45 rfl rfl ?_
        refine r_iaddN (q := 48) dX0_loadPlugged_47 rfl ?_
        refine r_ialdN (q := 49) (gN S 107 b) (by decide) rfl dX0_loadPlugged_48 rfl (hs.e (show b < 4 by omega)) rfl (by omega) (by omega) ?_
        refine r_topi (y := nI (rl t c)) r1 ?_
        refine r_ineg (q := 50) dX0_loadPlugged_49 rfl ?_
        refine r_istore (q := 52) (L' := [some (zr 0 b), some (zi (nI n)), some (zi (nI m)), some (zi (nI t)), some (zi (nI i)), some (zi (nI a)), some (zi (nI (ky (acT a (we W a))))), some (zi (nI (rfr W m + tri t))), some (zi (nI c)), some (zi (-(nI (rl t c))))]) dX0_loadPlugged_50 rfl (by decide) rfl ?_
        refine r_iload (q := 54) dX0_loadPlugged_52 rfl rfl ?_
        refine r_if_eq (q := 57) (t := 93) dX0_loadPlugged_54 (by decide) rfl (fun h54 => absurd h54 (fun z => hz0 (neg_nz _ (by omega) z))) (fun h54 => ?_)
        refine r_aload_n (q := 58) dX0_loadPlugged_57 rfl rfl rfl ?_
        refine r_iload_n (q := 59) dX0_loadPlugged_58 rfl rfl rfl ?_
        refine r_aload_n (q := 60) dX0_loadPlugged_59 rfl rfl rfl ?_
        refine r_getr (q := 63) (some (6, b)) ck0 dX0_loadPlugged_60 rfl (k := 1) (by decide) wt378 rfl (hs.e (show b < 4 by omega)) (hs.r (show b < 4 by omega) (by decide)) ?_
        refine r_aload_n (q := 64) dX0_loadPlugged_63 rfl rfl rfl ?_
        refine r_iload_n (q := 65) dX0_loadPlugged_64 rfl rfl rfl ?_
        refine r_iload (q := 67) dX0_loadPlugged_65 rfl rfl ?_
        refine r_callV (Mc := mX0_keyOf) (q := 70) (As := [zi (nI m), zi (nI c)]) (st := [zr 6 b, zi (nI n), zr 0 b]) ck0 dX0_loadPlugged_67 rfl rfl mkX0_keyOf wt792 wt793 wt794 rfl (Nat.le_of_ble_eq_true rfl) (Nat.le_of_ble_eq_true rfl) (by decide) (by decide) (by decide) (Or.inl rfl) (hs.e (show b < 4 by omega)) (ok_keyOf hs hb4 (by omega) hLm (by omega)) (fun r67 S67 hp67 => ?_)
        obtain ⟨rfl, hq67⟩ := hp67
        rw [hq67]
        show Ok _ _ _ [zi (nI (ky ((tl W m).getD c []))), zr 6 b, zi (nI n), zr 0 b] _ _
        refine r_iload_n (q := 71) dX0_loadPlugged_70 rfl rfl rfl ?_
        refine r_iload (q := 73) dX0_loadPlugged_71 rfl rfl ?_
        refine r_iload (q := 75) dX0_loadPlugged_73 rfl rfl ?_
        refine r_aload_n (q := 76) dX0_loadPlugged_75 rfl rfl rfl ?_
        refine r_getr (q := 79) (some (9, b)) ck0 dX0_loadPlugged_76 rfl (k := 0) (by decide) wt374 rfl (hs.e (show b < 4 by omega)) (hs.r (show b < 4 by omega) (by decide)) ?_
        refine r_getr (q := 82) (some (1003, b)) ck9 dX0_loadPlugged_79 rfl (k := 3) (by decide) wt308 rfl (hs.e (show b < 4 by omega)) (hs.r (show b < 4 by omega) (by decide)) ?_
        refine r_iload (q := 84) dX0_loadPlugged_82 rfl rfl ?_
        refine r_ialdN (q := 85) 3 (by decide) rfl dX0_loadPlugged_84 rfl (hs.e (show b < 4 by omega)) (hs.n rfl (show b < 4 by omega)) (by omega) (by decide) ?_
        refine r_topi (y := nI (we W a)) he3 ?_
        refine r_callV (Mc := mX6_grafted) (q := 88) (As := [zi (nI (ky ((tl W m).getD c []))), zi (nI m), zi (nI i), zi (nI (ky (acT a (we W a)))), zi (nI (we W a))]) (st := [zi (nI n), zr 0 b]) ck6 dX0_loadPlugged_85 rfl rfl mkX6_grafted wt800 wt801 wt802 rfl (Nat.le_of_ble_eq_true rfl) (Nat.le_of_ble_eq_true rfl) (by decide) (by decide) (by decide) (Or.inl rfl) (hs.e (show b < 5 by omega)) (ok_grafted hs (by omega) hE hct (tr_acT ha) hi (by omega)) (fun r85 S85 hp85 => ?_)
        obtain ⟨rfl, f1⟩ := hp85
        have f1' := f1.mono tSp_sh
        rw [← ek]
        show Ok _ _ _ [zi (nI (ky ((tl W n).getD k []))), zi (nI n), zr 0 b] _ _
        refine r_iload (q := 90) dX0_loadPlugged_88 rfl rfl ?_
        refine r_callV (Mc := mX0_addToVector) (q := 93) (As := [zi (nI n), zi (nI (ky ((tl W n).getD k []))), zi (-(nI (rl t c)))]) (st := []) ck0 dX0_loadPlugged_90 rfl rfl mkX0_addToVector wt860 wt862 wp38 rfl (Nat.le_of_ble_eq_true rfl) (Nat.le_of_ble_eq_true rfl) (by decide) (by decide) (by decide) (Or.inl rfl) ((hs.fr f1).e (show b < 4 by omega)) (ok_addToVector (hs.fr f1) hb4 hn7 (hL.fr f1 (fun k => ⟨rfl, rfl⟩)) hsn hB hP2 hP97 ((f1.1 _ _ _ rfl).trans hp) (hV.fr f1 (fun k => rfl)) hk (-nI (rl t c))) (fun r90 S90 hp90 => ?_)
        obtain ⟨rfl, hq90⟩ := hp90
        have f2 : Fr (tSp b) S S90 := by rw [hq90]; exact f1'.tr (fr_ve.mono tSp_ve)
        show Ok _ _ _ [] _ _
        refine r_iincN (q := 96) (L' := [some (zr 0 b), some (zi (nI n)), some (zi (nI m)), some (zi (nI t)), some (zi (nI i)), some (zi (nI a)), some (zi (nI (ky (acT a (we W a))))), some (zi (nI (rfr W m + tri t))), some (zi (nI (c + 1))), some (zi (-(nI (rl t c))))]) 1 rfl dX0_loadPlugged_93 rfl rfl (by decide) rfl ?_
        refine r_goto (q := 23) dX0_loadPlugged_96 (by decide) ?_
        refine Ok.mono (ih (c + 1) S90 (fun j => if j = k then rsN (nI (v k) + (-nI (rl t c))) (wP W) else v j) _ (by omega) (hs.fr f2) (hw.fr f2 (fun k => ⟨by simp [tSp], by simp [tSp]⟩)) ((f2.1 _ _ _ (by simp [tSp])).trans hp) (hL.fr f2 (fun k => ⟨by simp [tSp], by simp [tSp]⟩)) (hLm.fr f2 (fun k => ⟨by simp [tSp], by simp [tSp]⟩)) (by rw [gN_22 f2.2.2]; exact hl1) (by rw [gN_22 f2.2.2]; exact hl2) (fun j hj => ⟨(f2.1 _ _ _ (by simp [tSp])).trans (hr j hj).1, (hr j hj).2⟩) (by rw [hq90]; exact (hV.fr f1 (fun k => rfl)).set (rsN_lt (by omega))) ?_) fun r S2 y => ⟨y.1, f2.tr y.2.1, y.2.2⟩
        have hx0 : (-nI (rl t c) : Int32).toInt = RC rl t c := (neg_int _ (by omega)).trans ((if_neg hct0).trans (if_pos (by omega))).symm
        rw [mp_rowS, ← hx0, ← ek]
        exact acc_add hP2 hP97 tl_nodup hA hk (hV k hk).2 (by rw [neg_int _ (by omega)]; omega)

set_option maxRecDepth 100000 in
theorem ok_loadPlugged {S : zS} (hs : Sd S) {W : zWd} (hW : Wok W) {b n m t i a : Nat} (hb4 : b < 4) (hn7 : n ≤ 7) (ha : a < wA W) (hme : m + we W a = n + 1) (hi : i < m) (ht : t < (tl W m).length) {rl : Nat → Nat → Nat} (hw : Wa S b W) (hp : gI S 9 b 0 = nI (wP W)) (hL : Lx S b n (tfr W n) (tl W n)) (hLm : Lx S b m (tfr W m) (tl W m)) {mkm : Nat → Nat} (hU : Ux S b m (rfr W m) (tl W m).length (wP W) mkm rl) (hm : mkm t ≠ 0) : Ok mX0_loadPlugged 0 (ent 10 [zr 0 b, zi (nI n), zi (nI m), zi (nI t), zi (nI i), zi (nI a)]) [] S (fun r S1 => r = none ∧ Fr (tSp b) S S1 ∧ ∃ v1, Vx S1 b (tl W n).length (wP W) v1 ∧ AccV (wP W) (tl W n) v1 (mp (fun s => gr s i (acT a (we W a))) (rowS (tl W m) rl t (t + 1)))) := by
  have hE := hW.2.1
  have hP2 := hW.1.1
  have hea := hE.2 a ha
  have ha3 : a < 3 := Nat.lt_of_lt_of_le ha hE.1
  have hk3 := hLm.2.2.2.1
  have hn3 := hL.2.2.2.1
  have htri := tri_le (t := t) ht
  show Ok mX0_loadPlugged 0 [some (zr 0 b), some (zi (nI n)), some (zi (nI m)), some (zi (nI t)), some (zi (nI i)), some (zi (nI a)), none, none, none, none] [] S _
  refine r_aload_n (q := 1) dX0_loadPlugged_0 rfl rfl rfl ?_
  refine r_iload_n (q := 2) dX0_loadPlugged_1 rfl rfl rfl ?_
  refine r_callV (Mc := mX0_clearVector) (q := 5) (As := [zi (nI n)]) (st := []) ck0 dX0_loadPlugged_2 rfl rfl mkX0_clearVector wt848 wt850 wp36 rfl (Nat.le_of_ble_eq_true rfl) (Nat.le_of_ble_eq_true rfl) (by decide) (by decide) (by decide) (Or.inl rfl) (hs.e (show b < 4 by omega)) (ok_clearVector hs hb4 hn7 hL) (fun r2 S2 hp2 => ?_)
  obtain ⟨rfl, hq2⟩ := hp2
  have hv0 := vx_clear (S := S) (b := b) (m := (tl W n).length) (P := wP W) (by omega)
  rw [← hq2] at hv0
  obtain ⟨hv1, f1⟩ := hv0
  show Ok _ _ _ [] _ _
  refine r_iload (q := 7) dX0_loadPlugged_5 rfl rfl ?_
  refine r_callS (Mc := mX6_keyOfAct) (q := 10) (As := [zi (nI a)]) (st := []) dX0_loadPlugged_7 rfl rfl mkX6_keyOfAct wt796 wt797 rfl (Nat.le_of_ble_eq_true rfl) (Nat.le_of_ble_eq_true rfl) (by decide) (by decide) (by decide) (Or.inl rfl) (hs.fr f1).some (ok_keyOfAct ha3) (fun r7 S7 hp7 => ?_)
  obtain ⟨rfl, hq7⟩ := hp7
  rw [hq7, ← ky_acT (n := we W a) (a := a) (by omega)]
  show Ok _ _ _ [zi (nI (ky (acT a (we W a))))] _ _
  refine r_istore (q := 12) (L' := [some (zr 0 b), some (zi (nI n)), some (zi (nI m)), some (zi (nI t)), some (zi (nI i)), some (zi (nI a)), some (zi (nI (ky (acT a (we W a))))), none, none, none]) dX0_loadPlugged_10 rfl (by decide) rfl ?_
  refine r_aload_n (q := 13) dX0_loadPlugged_12 rfl rfl rfl ?_
  refine r_iload_n (q := 14) dX0_loadPlugged_13 rfl rfl rfl ?_
  refine r_iload_n (q := 15) dX0_loadPlugged_14 rfl rfl rfl ?_
  refine r_callV (Mc := mX0_ruleOf) (q := 18) (As := [zi (nI m), zi (nI t)]) (st := []) ck0 dX0_loadPlugged_15 rfl rfl mkX0_ruleOf wt852 wt854 wp37 rfl (Nat.le_of_ble_eq_true rfl) (Nat.le_of_ble_eq_true rfl) (by decide) (by decide) (by decide) (Or.inl rfl) ((hs.fr f1).e (show b < 4 by omega)) (ok_ruleOf (hs.fr f1) hb4 (show m ≤ 7 by omega) ((f1.1 _ _ _ rfl).trans hU.1) (by omega)) (fun r15 S15 hp15 => ?_)
  obtain ⟨rfl, hq15⟩ := hp15
  rw [hq15]
  show Ok _ _ _ [zi (nI (rfr W m + tri t))] _ _
  refine r_istore (q := 20) (L' := [some (zr 0 b), some (zi (nI n)), some (zi (nI m)), some (zi (nI t)), some (zi (nI i)), some (zi (nI a)), some (zi (nI (ky (acT a (we W a))))), some (zi (nI (rfr W m + tri t))), none, none]) dX0_loadPlugged_18 rfl (by decide) rfl ?_
  refine r_iconst (q := 21) (nI 0) dX0_loadPlugged_20 rfl (by decide) ?_
  refine r_istore (q := 23) (L' := [some (zr 0 b), some (zi (nI n)), some (zi (nI m)), some (zi (nI t)), some (zi (nI i)), some (zi (nI a)), some (zi (nI (ky (acT a (we W a))))), some (zi (nI (rfr W m + tri t))), some (zi (nI 0)), none]) dX0_loadPlugged_21 rfl (by decide) rfl ?_
  exact Ok.mono (lp_plugI hW hb4 hn7 ha hme hi ht (t + 1) 0 S2 (fun _ => 0) none (by omega) (hs.fr f1) (hw.fr f1 (fun k => ⟨rfl, rfl⟩)) ((f1.1 _ _ _ rfl).trans hp) (hL.fr f1 (fun k => ⟨rfl, rfl⟩)) (hLm.fr f1 (fun k => ⟨rfl, rfl⟩)) (by rw [gN_22 f1.2.2]; have := hU.2.1; omega) (by rw [gN_22 f1.2.2]; exact hU.2.2.1) (fun j hj => ⟨(f1.1 _ _ _ rfl).trans (hU.2.2.2 t ht hm j hj).1, (hU.2.2.2 t ht hm j hj).2⟩) hv1 acc_nil) fun r S1 y => ⟨y.1, (f1.mono tSp_ve).tr y.2.1, y.2.2⟩

