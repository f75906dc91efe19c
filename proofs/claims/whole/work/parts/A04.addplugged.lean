theorem low_n2 : ∀ n, n < 8 → ∀ e, e < 5 → n < e → nI n - nI e + nI 1 < nI 2 := by decide

set_option maxRecDepth 100000 in
theorem lp_pl3 {W : zWd} (hW : Wok W) {b n : Nat} (hb4 : b < 4) (hn7 : n ≤ 7) (hn1 : 1 ≤ n) {mk : Nat → Nat → Nat} {rl : Nat → Nat → Nat → Nat} (hid : ∀ m k, 1 ≤ m → m < n → k < (tl W m).length → mk m k ≠ 0 → Id W m (V (tl W m) (RC (rl m) k))) {a m ti : Nat} (ha : a < wA W) (hm : m + we W a = n + 1) (hm2 : 2 ≤ m) (hti : ti < (tl W m).length) (hmk : mk m ti ≠ 0) {Po : Option zV → zS → Prop} : ∀ (d i : Nat) (S : zS) (mkn : Nat → Nat) (rln : Nat → Nat → Nat), i + d = m → Wk S b W n mk rl → WC S b W → Lvl S b W n mkn rln → RId W n mkn rln → (∀ S1 mk1 rl1, Fr (tE2 b (tfr W n) (rfr W n) (tl W n).length) S S1 → Lvl S1 b W n mk1 rl1 → Ext W n mkn rln mk1 rl1 → (∀ j, i ≤ j → j < m → Sp (wP W) (Rw (tl W n) (mkb mk1) (RC rl1)) (mp (fun s => gr s j (acT a (we W a))) (V (tl W m) (RC (rl m) ti)))) → Ok mX0_addPluggedLaws 94 [some (zr 0 b), some (zi (nI n)), some (zi (nI a)), some (zi (nI m)), some (zi (nI ti)), some (zi (nI m))] [] S1 Po) → Ok mX0_addPluggedLaws 66 [some (zr 0 b), some (zi (nI n)), some (zi (nI a)), some (zi (nI m)), some (zi (nI ti)), some (zi (nI i))] [] S Po := by
  have hE := hW.2.1
  have hP2 := hW.1.1
  have hP97 := hW.1.2.1
  have hea := hE.2 a ha
  intro d
  induction d with
  | zero =>
    intro i S mkn rln hi hk hc hl hr K
    obtain rfl : i = m := by omega
    have hs := hk.1
    refine r_iload (q := 68) dX0_addPluggedLaws_66 rfl rfl ?_
    refine r_iload_n (q := 69) dX0_addPluggedLaws_68 rfl rfl rfl ?_
    refine r_icmp_geN (q := 72) (t := 94) (by omega) (by omega) dX0_addPluggedLaws_69 (by decide) rfl (fun h69 => ?_) (fun h69 => absurd h69 (by omega))
    exact K S mkn rln Fr.rf hl Ext.rf (fun j a b => absurd a (by omega))
  | succ d ih =>
    intro i S mkn rln hi hk hc hl hr K
    have hs := hk.1
    obtain ⟨b1, b2, b3⟩ := hk.2.1 m (by omega) (by omega)
    refine r_iload (q := 68) dX0_addPluggedLaws_66 rfl rfl ?_
    refine r_iload_n (q := 69) dX0_addPluggedLaws_68 rfl rfl rfl ?_
    refine r_icmp_geN (q := 72) (t := 94) (by omega) (by omega) dX0_addPluggedLaws_69 (by decide) rfl (fun h69 => absurd h69 (by omega)) (fun h69 => ?_)
    refine r_aload_n (q := 73) dX0_addPluggedLaws_72 rfl rfl rfl ?_
    refine r_iload_n (q := 74) dX0_addPluggedLaws_73 rfl rfl rfl ?_
    refine r_iload_n (q := 75) dX0_addPluggedLaws_74 rfl rfl rfl ?_
    refine r_iload (q := 77) dX0_addPluggedLaws_75 rfl rfl ?_
    refine r_iload (q := 79) dX0_addPluggedLaws_77 rfl rfl ?_
    refine r_iload_n (q := 80) dX0_addPluggedLaws_79 rfl rfl rfl ?_
    refine r_callV (Mc := mX0_loadPlugged) (q := 83) (As := [zi (nI n), zi (nI m), zi (nI ti), zi (nI i), zi (nI a)]) (st := []) ck0 dX0_addPluggedLaws_80 rfl rfl mkX0_loadPlugged wt889 wt891 wp44 rfl (Nat.le_of_ble_eq_true rfl) (Nat.le_of_ble_eq_true rfl) (by decide) (by decide) (by decide) (Or.inl rfl) (hs.e (show b < 4 by omega)) (ok_loadPlugged hs hW hb4 hn7 ha hm (show i < m by omega) hti hk.2.2.1 hk.2.2.2 hl.1 b1 b3 hmk) (fun r80 S80 hp80 => ?_)
    obtain ⟨rfl, f3, v2, hV2, hA2⟩ := hp80
    have hl2 := hl.fr f3
    have hk2 := hk.sp hE f3
    show Ok _ _ _ [] _ _
    refine r_aload_n (q := 84) dX0_addPluggedLaws_83 rfl rfl rfl ?_
    refine r_iload_n (q := 85) dX0_addPluggedLaws_84 rfl rfl rfl ?_
    refine r_callV (Mc := mX0_enterVector) (q := 88) (As := [zi (nI n)]) (st := []) ck0 dX0_addPluggedLaws_85 rfl rfl mkX0_enterVector wt877 wt879 wp42 rfl (Nat.le_of_ble_eq_true rfl) (Nat.le_of_ble_eq_true rfl) (by decide) (by decide) (by decide) (Or.inl rfl) (hk2.1.e (show b < 4 by omega)) (ok_enterVector hk2.1 hb4 hn7 hl2.1 tl_nodup hP2 hP97 hW.1.2.2 hk2.2.2.2 hl2.2.1 hl2.2.2 hV2) (fun r85 S85 hp85 => ?_)
    obtain ⟨rfl, f4, mk4, rl4, hM4, hU4, hE4⟩ := hp85
    show Ok _ _ _ [] _ _
    refine r_iincN (q := 91) (L' := [some (zr 0 b), some (zi (nI n)), some (zi (nI a)), some (zi (nI m)), some (zi (nI ti)), some (zi (nI (i + 1)))]) 1 rfl dX0_addPluggedLaws_88 rfl rfl (by decide) rfl ?_
    refine r_goto (q := 66) dX0_addPluggedLaws_91 (by decide) ?_
    have f5 : Fr (tE2 b (tfr W n) (rfr W n) (tl W n).length) S S85 := (f3.mono tE2_sp).tr (f4.mono tE2_en)
    have hli1 : Li (wP W) (mp (fun s => gr s i (acT a (we W a))) (V (tl W m) (RC (rl m) ti))) (mp (fun s => gr s i (acT a (we W a))) (rowS (tl W m) (rl m) ti (ti + 1))) := ((rowS_li hti).sy).mp _
    have hli : Li (wP W) (mp (fun s => gr s i (acT a (we W a))) (V (tl W m) (RC (rl m) ti))) (Vn (tl W n) v2) := hli1.tr (acc_li tl_nodup hA2 (fun p hp => by
      obtain ⟨q, hq, e⟩ := mp_mem hp
      obtain ⟨j, hj, rfl⟩ := List.mem_map.mp hq
      have hj := List.mem_range.mp hj
      rw [e]
      have := (tl_tr hE (show j < (tl W m).length by omega)).gr (tr_acT (e := we W) ha) (i := i) (by omega)
      rw [show m + we W a - 1 = n by omega] at this
      exact (tl_mem hE).mpr this))
    have hvid : Id W n (Vn (tl W n) v2) := Sp.li ((hid m ti (by omega) (by omega) hti hmk).gr hW (tr_acT ha).1 (by omega) (by rw [(tr_acT (e := we W) ha).2]; omega)) hli
    have hx := hE4.ext hr hvid
    refine ih (i + 1) S85 mk4 rl4 (by omega) (hk.fr hE f5) (hc.e2 f5) ⟨hl2.1.fr f4 (fun k => ⟨by simp [tEn], by simp [tEn]⟩), hM4, hU4⟩ (hx.id hr) (fun S1 mk5 rl5 g1 g2 g3 g4 => K S1 mk5 rl5 (f5.tr g1) g2 (hx.tr g3) (fun j h1 h2 => ?_))
    by_cases e : j = i
    · subst e
      exact ((hE4.1).mono g3.1).li hli.sy
    · exact g4 j (by omega) h2

set_option maxRecDepth 100000 in
theorem lp_pl2 {W : zWd} (hW : Wok W) {b n : Nat} (hb4 : b < 4) (hn7 : n ≤ 7) (hn1 : 1 ≤ n) {mk : Nat → Nat → Nat} {rl : Nat → Nat → Nat → Nat} (hid : ∀ m k, 1 ≤ m → m < n → k < (tl W m).length → mk m k ≠ 0 → Id W m (V (tl W m) (RC (rl m) k))) {a m : Nat} (ha : a < wA W) (hm : m + we W a = n + 1) (hm2 : 2 ≤ m) {Po : Option zV → zS → Prop} : ∀ (d ti : Nat) (S : zS) (mkn : Nat → Nat) (rln : Nat → Nat → Nat) (w5 : Option zV), ti + d = (tl W m).length → Wk S b W n mk rl → WC S b W → Lvl S b W n mkn rln → RId W n mkn rln → (∀ S1 mk1 rl1 w4 w5, Fr (tE2 b (tfr W n) (rfr W n) (tl W n).length) S S1 → Lvl S1 b W n mk1 rl1 → Ext W n mkn rln mk1 rl1 → (∀ t j, ti ≤ t → t < (tl W m).length → mk m t = 2 → j < m → Sp (wP W) (Rw (tl W n) (mkb mk1) (RC rl1)) (mp (fun s => gr s j (acT a (we W a))) (V (tl W m) (RC (rl m) t)))) → Ok mX0_addPluggedLaws 100 [some (zr 0 b), some (zi (nI n)), some (zi (nI a)), some (zi (nI m)), w4, w5] [] S1 Po) → Ok mX0_addPluggedLaws 30 [some (zr 0 b), some (zi (nI n)), some (zi (nI a)), some (zi (nI m)), some (zi (nI ti)), w5] [] S Po := by
  have hE := hW.2.1
  have hea := hE.2 a ha
  intro d
  induction d with
  | zero =>
    intro ti S mkn rln w5 hi hk hc hl hr K
    have hs := hk.1
    obtain ⟨b1, b2, b3⟩ := hk.2.1 m (by omega) (by omega)
    have h300 := b1.2.2.2.1
    refine r_mask [true, true, true, true, true, false] rfl ?_
    refine r_iload_n (q := 31) dX0_addPluggedLaws_30 rfl rfl rfl ?_
    refine r_iconst (q := 32) (nI 2) dX0_addPluggedLaws_31 rfl (by decide) ?_
    refine r_icmp_ltN (q := 35) (t := 100) (by omega) (by omega) dX0_addPluggedLaws_32 (by decide) rfl (fun h32 => absurd h32 (by omega)) (fun h32 => ?_)
    refine r_iload (q := 37) dX0_addPluggedLaws_35 rfl rfl ?_
    refine r_aload_n (q := 38) dX0_addPluggedLaws_37 rfl rfl rfl ?_
    refine r_iload_n (q := 39) dX0_addPluggedLaws_38 rfl rfl rfl ?_
    refine r_callV (Mc := mX0_treesOf) (q := 42) (As := [zi (nI m)]) (st := [zi (nI ti)]) ck0 dX0_addPluggedLaws_39 rfl rfl mkX0_treesOf wt788 wt789 wt790 rfl (Nat.le_of_ble_eq_true rfl) (Nat.le_of_ble_eq_true rfl) (by decide) (by decide) (by decide) (Or.inl rfl) (hs.e (show b < 4 by omega)) (ok_treesOf hs hb4 (show m ≤ 7 by omega) b1) (fun r39 S39 hp39 => ?_)
    obtain ⟨rfl, hq39⟩ := hp39
    rw [hq39]
    show Ok _ _ _ [zi (nI ((tl W m).length)), zi (nI ti)] _ _
    refine r_icmp_geN (q := 45) (t := 100) (by omega) (by omega) dX0_addPluggedLaws_42 (by decide) rfl (fun h42 => ?_) (fun h42 => absurd h42 (by omega))
    exact K S mkn rln _ _ Fr.rf hl Ext.rf (fun t j a b => absurd a (by omega))
  | succ d ih =>
    intro ti S mkn rln w5 hi hk hc hl hr K
    have hs := hk.1
    obtain ⟨b1, b2, b3⟩ := hk.2.1 m (by omega) (by omega)
    have h300 := b1.2.2.2.1
    have h400 := b1.2.2.1
    have hti : ti < (tl W m).length := by omega
    obtain ⟨m1, m2⟩ := b2 ti hti
    refine r_mask [true, true, true, true, true, false] rfl ?_
    by_cases hmk : mk m ti = 2
    · skip
      refine r_iload_n (q := 31) dX0_addPluggedLaws_30 rfl rfl rfl ?_
      refine r_iconst (q := 32) (nI 2) dX0_addPluggedLaws_31 rfl (by decide) ?_
      refine r_icmp_ltN (q := 35) (t := 100) (by omega) (by omega) dX0_addPluggedLaws_32 (by decide) rfl (fun h32 => absurd h32 (by omega)) (fun h32 => ?_)
      refine r_iload (q := 37) dX0_addPluggedLaws_35 rfl rfl ?_
      refine r_aload_n (q := 38) dX0_addPluggedLaws_37 rfl rfl rfl ?_
      refine r_iload_n (q := 39) dX0_addPluggedLaws_38 rfl rfl rfl ?_
      refine r_callV (Mc := mX0_treesOf) (q := 42) (As := [zi (nI m)]) (st := [zi (nI ti)]) ck0 dX0_addPluggedLaws_39 rfl rfl mkX0_treesOf wt788 wt789 wt790 rfl (Nat.le_of_ble_eq_true rfl) (Nat.le_of_ble_eq_true rfl) (by decide) (by decide) (by decide) (Or.inl rfl) (hs.e (show b < 4 by omega)) (ok_treesOf hs hb4 (show m ≤ 7 by omega) b1) (fun r39 S39 hp39 => ?_)
      obtain ⟨rfl, hq39⟩ := hp39
      rw [hq39]
      show Ok _ _ _ [zi (nI ((tl W m).length)), zi (nI ti)] _ _
      refine r_icmp_geN (q := 45) (t := 100) (by omega) (by omega) dX0_addPluggedLaws_42 (by decide) rfl (fun h42 => absurd h42 (by omega)) (fun h42 => ?_)
      refine r_aload_n (q := 46) dX0_addPluggedLaws_45 rfl rfl rfl ?_
      refine r_getr (q := 49) (some (105, b)) ck0 dX0_addPluggedLaws_46 rfl (k := 5) (by decide) wt382 rfl (hs.e (show b < 4 by omega)) (hs.r (show b < 4 by omega) (by decide)) ?_
      refine r_aload_n (q := 50) dX0_addPluggedLaws_49 rfl rfl rfl ?_
      refine r_getr (q := 53) (some (103, b)) ck0 dX0_addPluggedLaws_50 rfl (k := 3) (by decide) wt380 rfl (hs.e (show b < 4 by omega)) (hs.r (show b < 4 by omega) (by decide)) ?_
      refine r_iload_n (q := 54) dX0_addPluggedLaws_53 rfl rfl rfl ?_
      refine r_ialdN (q := 55) 9 (by decide) rfl dX0_addPluggedLaws_54 rfl (hs.e (show b < 4 by omega)) (hs.n rfl (show b < 4 by omega)) (by omega) (by decide) ?_
      refine r_topi (y := nI (tfr W m)) b1.1 ?_
      refine r_iload (q := 57) dX0_addPluggedLaws_55 rfl rfl ?_
      refine r_iaddN (q := 58) dX0_addPluggedLaws_57 rfl ?_
      refine r_ialdN (q := 59) 400 (by decide) rfl dX0_addPluggedLaws_58 rfl (hs.e (show b < 4 by omega)) (hs.n rfl (show b < 4 by omega)) (by omega) (by decide) ?_
      refine r_topi (y := nI (mk m ti)) m1 ?_
      refine r_iconst (q := 60) (nI 2) dX0_addPluggedLaws_59 rfl (by decide) ?_
      refine r_icmp_neN (q := 63) (t := 94) (by omega) (by omega) dX0_addPluggedLaws_60 (by decide) rfl (fun h60 => absurd h60 (by omega)) (fun h60 => ?_)
      refine r_iconst (q := 64) (nI 0) dX0_addPluggedLaws_63 rfl (by decide) ?_
      refine r_istore (q := 66) (L' := [some (zr 0 b), some (zi (nI n)), some (zi (nI a)), some (zi (nI m)), some (zi (nI ti)), some (zi (nI 0))]) dX0_addPluggedLaws_64 rfl (by decide) rfl ?_
      refine lp_pl3 hW hb4 hn7 hn1 hid ha hm hm2 hti (by omega) m 0 S mkn rln (by omega) hk hc hl hr (fun S1 mk1 rl1 f1 g2 g3 g4 => ?_)
      refine r_iincN (q := 97) (L' := [some (zr 0 b), some (zi (nI n)), some (zi (nI a)), some (zi (nI m)), some (zi (nI (ti + 1))), some (zi (nI m))]) 1 rfl dX0_addPluggedLaws_94 rfl rfl (by decide) rfl ?_
      refine r_goto (q := 30) dX0_addPluggedLaws_97 (by decide) ?_
      refine ih (ti + 1) S1 mk1 rl1 _ (by omega) (hk.fr hE f1) (hc.e2 f1) g2 (g3.id hr) (fun S2 mk2 rl2 w4 w5 k1 k2 k3 k4 => K S2 mk2 rl2 w4 w5 (f1.tr k1) k2 (g3.tr k3) (fun t j h1 h2 h3 h4 => ?_))
      by_cases e : t = ti
      · subst e
        exact (g4 j (by omega) h4).mono k3.1
      · exact k4 t j (by omega) h2 h3 h4
    · skip
      refine r_iload_n (q := 31) dX0_addPluggedLaws_30 rfl rfl rfl ?_
      refine r_iconst (q := 32) (nI 2) dX0_addPluggedLaws_31 rfl (by decide) ?_
      refine r_icmp_ltN (q := 35) (t := 100) (by omega) (by omega) dX0_addPluggedLaws_32 (by decide) rfl (fun h32 => absurd h32 (by omega)) (fun h32 => ?_)
      refine r_iload (q := 37) dX0_addPluggedLaws_35 rfl rfl ?_
      refine r_aload_n (q := 38) dX0_addPluggedLaws_37 rfl rfl rfl ?_
      refine r_iload_n (q := 39) dX0_addPluggedLaws_38 rfl rfl rfl ?_
      refine r_callV (Mc := mX0_treesOf) (q := 42) (As := [zi (nI m)]) (st := [zi (nI ti)]) ck0 dX0_addPluggedLaws_39 rfl rfl mkX0_treesOf wt788 wt789 wt790 rfl (Nat.le_of_ble_eq_true rfl) (Nat.le_of_ble_eq_true rfl) (by decide) (by decide) (by decide) (Or.inl rfl) (hs.e (show b < 4 by omega)) (ok_treesOf hs hb4 (show m ≤ 7 by omega) b1) (fun r39 S39 hp39 => ?_)
      obtain ⟨rfl, hq39⟩ := hp39
      rw [hq39]
      show Ok _ _ _ [zi (nI ((tl W m).length)), zi (nI ti)] _ _
      refine r_icmp_geN (q := 45) (t := 100) (by omega) (by omega) dX0_addPluggedLaws_42 (by decide) rfl (fun h42 => absurd h42 (by omega)) (fun h42 => ?_)
      refine r_aload_n (q := 46) dX0_addPluggedLaws_45 rfl rfl rfl ?_
      refine r_getr (q := 49) (some (105, b)) ck0 dX0_addPluggedLaws_46 rfl (k := 5) (by decide) wt382 rfl (hs.e (show b < 4 by omega)) (hs.r (show b < 4 by omega) (by decide)) ?_
      refine r_aload_n (q := 50) dX0_addPluggedLaws_49 rfl rfl rfl ?_
      refine r_getr (q := 53) (some (103, b)) ck0 dX0_addPluggedLaws_50 rfl (k := 3) (by decide) wt380 rfl (hs.e (show b < 4 by omega)) (hs.r (show b < 4 by omega) (by decide)) ?_
      refine r_iload_n (q := 54) dX0_addPluggedLaws_53 rfl rfl rfl ?_
      refine r_ialdN (q := 55) 9 (by decide) rfl dX0_addPluggedLaws_54 rfl (hs.e (show b < 4 by omega)) (hs.n rfl (show b < 4 by omega)) (by omega) (by decide) ?_
      refine r_topi (y := nI (tfr W m)) b1.1 ?_
      refine r_iload (q := 57) dX0_addPluggedLaws_55 rfl rfl ?_
      refine r_iaddN (q := 58) dX0_addPluggedLaws_57 rfl ?_
      refine r_ialdN (q := 59) 400 (by decide) rfl dX0_addPluggedLaws_58 rfl (hs.e (show b < 4 by omega)) (hs.n rfl (show b < 4 by omega)) (by omega) (by decide) ?_
      refine r_topi (y := nI (mk m ti)) m1 ?_
      refine r_iconst (q := 60) (nI 2) dX0_addPluggedLaws_59 rfl (by decide) ?_
      refine r_icmp_neN (q := 63) (t := 94) (by omega) (by omega) dX0_addPluggedLaws_60 (by decide) rfl (fun h60 => ?_) (fun h60 => absurd h60 (by omega))
      refine r_iincN (q := 97) (L' := [some (zr 0 b), some (zi (nI n)), some (zi (nI a)), some (zi (nI m)), some (zi (nI (ti + 1))), none]) 1 rfl dX0_addPluggedLaws_94 rfl rfl (by decide) rfl ?_
      refine r_goto (q := 30) dX0_addPluggedLaws_97 (by decide) ?_
      exact ih (ti + 1) S mkn rln _ (by omega) hk hc hl hr (fun S2 mk2 rl2 w4 w5 k1 k2 k3 k4 => K S2 mk2 rl2 w4 w5 k1 k2 k3 (fun t j h1 h2 h3 h4 => if e : t = ti then absurd (by rw [← e]; exact h3) hmk else k4 t j (by omega) h2 h3 h4))

set_option maxRecDepth 100000 in
theorem lp_pl1 {W : zWd} (hW : Wok W) {b n : Nat} (hb4 : b < 4) (hn7 : n ≤ 7) (hn1 : 1 ≤ n) {mk : Nat → Nat → Nat} {rl : Nat → Nat → Nat → Nat} (hid : ∀ m k, 1 ≤ m → m < n → k < (tl W m).length → mk m k ≠ 0 → Id W m (V (tl W m) (RC (rl m) k))) : ∀ (d a : Nat) (S : zS) (mkn : Nat → Nat) (rln : Nat → Nat → Nat) (w3 w4 w5 : Option zV), a + d = wA W → Wk S b W n mk rl → WC S b W → Lvl S b W n mkn rln → RId W n mkn rln → Ok mX0_addPluggedLaws 2 [some (zr 0 b), some (zi (nI n)), some (zi (nI a)), w3, w4, w5] [] S (fun r S1 => r = none ∧ Fr (tE2 b (tfr W n) (rfr W n) (tl W n).length) S S1 ∧ ∃ mk1 rl1, Lvl S1 b W n mk1 rl1 ∧ Ext W n mkn rln mk1 rl1 ∧ (∀ a' m' i t, a ≤ a' → a' < wA W → m' + we W a' = n + 1 → i < m' → 2 ≤ m' → t < (tl W m').length → mk m' t = 2 → Sp (wP W) (Rw (tl W n) (mkb mk1) (RC rl1)) (mp (fun s => gr s i (acT a' (we W a'))) (V (tl W m') (RC (rl m') t))))) := by
  have hE := hW.2.1
  have hA3 := hE.1
  intro d
  induction d with
  | zero =>
    intro a S mkn rln w3 w4 w5 hi hk hc hl hr
    have hs := hk.1
    have c1 := hc.2.1
    obtain rfl : a = wA W := by omega
    refine r_mask [true, true, true, false, false, false] rfl ?_
    refine r_iload_n (q := 3) dX0_addPluggedLaws_2 rfl rfl rfl ?_
    refine r_aload_n (q := 4) dX0_addPluggedLaws_3 rfl rfl rfl ?_
    refine r_getr (q := 7) (some (9, b)) ck0 dX0_addPluggedLaws_4 rfl (k := 0) (by decide) wt374 rfl (hs.e (show b < 4 by omega)) (hs.r (show b < 4 by omega) (by decide)) ?_
    refine r_geti (q := 10) ck9 dX0_addPluggedLaws_7 rfl (k := 1) (by decide) wt298 (Or.inl rfl) (hs.e (show b < 4 by omega)) ?_
    refine r_topi (y := nI (wA W)) c1 ?_
    refine r_icmp_geN (q := 13) (t := 106) (by omega) (by omega) dX0_addPluggedLaws_10 (by decide) rfl (fun h10 => ?_) (fun h10 => absurd h10 (by omega))
    refine r_return dX0_addPluggedLaws_106 rfl ?_
    exact ⟨rfl, Fr.rf, mkn, rln, hl, Ext.rf, fun a' m' i t h1 h2 => absurd h1 (by omega)⟩
  | succ d ih =>
    intro a S mkn rln w3 w4 w5 hi hk hc hl hr
    have hs := hk.1
    have c1 := hc.2.1
    have ha : a < wA W := by omega
    have c3 := (hc.2.2.2.1 a ha).1
    have hea := hE.2 a ha
    refine r_mask [true, true, true, false, false, false] rfl ?_
    by_cases hen : we W a + 1 ≤ n
    · skip
      refine r_iload_n (q := 3) dX0_addPluggedLaws_2 rfl rfl rfl ?_
      refine r_aload_n (q := 4) dX0_addPluggedLaws_3 rfl rfl rfl ?_
      refine r_getr (q := 7) (some (9, b)) ck0 dX0_addPluggedLaws_4 rfl (k := 0) (by decide) wt374 rfl (hs.e (show b < 4 by omega)) (hs.r (show b < 4 by omega) (by decide)) ?_
      refine r_geti (q := 10) ck9 dX0_addPluggedLaws_7 rfl (k := 1) (by decide) wt298 (Or.inl rfl) (hs.e (show b < 4 by omega)) ?_
      refine r_topi (y := nI (wA W)) c1 ?_
      refine r_icmp_geN (q := 13) (t := 106) (by omega) (by omega) dX0_addPluggedLaws_10 (by decide) rfl (fun h10 => absurd h10 (by omega)) (fun h10 => ?_)
      refine r_iload_n (q := 14) dX0_addPluggedLaws_13 rfl rfl rfl ?_
      refine r_aload_n (q := 15) dX0_addPluggedLaws_14 rfl rfl rfl ?_
      refine r_getr (q := 18) (some (9, b)) ck0 dX0_addPluggedLaws_15 rfl (k := 0) (by decide) wt374 rfl (hs.e (show b < 4 by omega)) (hs.r (show b < 4 by omega) (by decide)) ?_
      refine r_getr (q := 21) (some (1003, b)) ck9 dX0_addPluggedLaws_18 rfl (k := 3) (by decide) wt308 rfl (hs.e (show b < 4 by omega)) (hs.r (show b < 4 by omega) (by decide)) ?_
      refine r_iload_n (q := 22) dX0_addPluggedLaws_21 rfl rfl rfl ?_
      refine r_ialdN (q := 23) 3 (by decide) rfl dX0_addPluggedLaws_22 rfl (hs.e (show b < 4 by omega)) (hs.n rfl (show b < 4 by omega)) (by omega) (by decide) ?_
      refine r_topi (y := nI (we W a)) c3 ?_
      refine r_isubN (q := 24) (by omega) dX0_addPluggedLaws_23 rfl ?_
      refine r_iconst (q := 25) (nI 1) dX0_addPluggedLaws_24 rfl (by decide) ?_
      refine r_iaddN (q := 26) dX0_addPluggedLaws_25 rfl ?_
      refine r_istore_n (q := 27) (L' := [some (zr 0 b), some (zi (nI n)), some (zi (nI a)), some (zi (nI ((n - (we W a)) + 1))), none, none]) dX0_addPluggedLaws_26 rfl rfl (by decide) rfl ?_
      refine r_iconst (q := 28) (nI 0) dX0_addPluggedLaws_27 rfl (by decide) ?_
      refine r_istore (q := 30) (L' := [some (zr 0 b), some (zi (nI n)), some (zi (nI a)), some (zi (nI ((n - (we W a)) + 1))), some (zi (nI 0)), none]) dX0_addPluggedLaws_28 rfl (by decide) rfl ?_
      obtain ⟨m, hm⟩ : ∃ m, m + we W a = n + 1 := ⟨n - we W a + 1, by omega⟩
      rw [show n - we W a + 1 = m by omega]
      refine lp_pl2 hW hb4 hn7 hn1 hid ha hm (by omega) _ 0 S mkn rln _ (Nat.zero_add _) hk hc hl hr (fun S1 mk1 rl1 w4 w5 f1 g2 g3 g4 => ?_)
      refine r_mask [true, true, true, true, false, false] rfl ?_
      refine r_iincN (q := 103) (L' := [some (zr 0 b), some (zi (nI n)), some (zi (nI (a + 1))), some (zi (nI m)), none, none]) 1 rfl dX0_addPluggedLaws_100 rfl rfl (by decide) rfl ?_
      refine r_goto (q := 2) dX0_addPluggedLaws_103 (by decide) ?_
      refine Ok.mono (ih (a + 1) S1 mk1 rl1 _ _ _ (by omega) (hk.fr hE f1) (hc.e2 f1) g2 (g3.id hr)) fun r S2 z => ?_
      obtain ⟨z1, z2, mk2, rl2, z3, z4, z5⟩ := z
      refine ⟨z1, f1.tr z2, mk2, rl2, z3, g3.tr z4, fun a' m' i t h1 h2 h3 h4 h5 h6 h7 => ?_⟩
      by_cases e : a' = a
      · subst e
        obtain rfl : m' = m := by omega
        exact (g4 t i (by omega) h6 h7 h4).mono z4.1
      · exact z5 a' m' i t (by omega) h2 h3 h4 h5 h6 h7
    by_cases hen2 : we W a ≤ n
    · skip
      refine r_iload_n (q := 3) dX0_addPluggedLaws_2 rfl rfl rfl ?_
      refine r_aload_n (q := 4) dX0_addPluggedLaws_3 rfl rfl rfl ?_
      refine r_getr (q := 7) (some (9, b)) ck0 dX0_addPluggedLaws_4 rfl (k := 0) (by decide) wt374 rfl (hs.e (show b < 4 by omega)) (hs.r (show b < 4 by omega) (by decide)) ?_
      refine r_geti (q := 10) ck9 dX0_addPluggedLaws_7 rfl (k := 1) (by decide) wt298 (Or.inl rfl) (hs.e (show b < 4 by omega)) ?_
      refine r_topi (y := nI (wA W)) c1 ?_
      refine r_icmp_geN (q := 13) (t := 106) (by omega) (by omega) dX0_addPluggedLaws_10 (by decide) rfl (fun h10 => absurd h10 (by omega)) (fun h10 => ?_)
      refine r_iload_n (q := 14) dX0_addPluggedLaws_13 rfl rfl rfl ?_
      refine r_aload_n (q := 15) dX0_addPluggedLaws_14 rfl rfl rfl ?_
      refine r_getr (q := 18) (some (9, b)) ck0 dX0_addPluggedLaws_15 rfl (k := 0) (by decide) wt374 rfl (hs.e (show b < 4 by omega)) (hs.r (show b < 4 by omega) (by decide)) ?_
      refine r_getr (q := 21) (some (1003, b)) ck9 dX0_addPluggedLaws_18 rfl (k := 3) (by decide) wt308 rfl (hs.e (show b < 4 by omega)) (hs.r (show b < 4 by omega) (by decide)) ?_
      refine r_iload_n (q := 22) dX0_addPluggedLaws_21 rfl rfl rfl ?_
      refine r_ialdN (q := 23) 3 (by decide) rfl dX0_addPluggedLaws_22 rfl (hs.e (show b < 4 by omega)) (hs.n rfl (show b < 4 by omega)) (by omega) (by decide) ?_
      refine r_topi (y := nI (we W a)) c3 ?_
      refine r_isubN (q := 24) (by omega) dX0_addPluggedLaws_23 rfl ?_
      refine r_iconst (q := 25) (nI 1) dX0_addPluggedLaws_24 rfl (by decide) ?_
      refine r_iaddN (q := 26) dX0_addPluggedLaws_25 rfl ?_
      refine r_istore_n (q := 27) (L' := [some (zr 0 b), some (zi (nI n)), some (zi (nI a)), some (zi (nI ((n - (we W a)) + 1))), none, none]) dX0_addPluggedLaws_26 rfl rfl (by decide) rfl ?_
      refine r_iconst (q := 28) (nI 0) dX0_addPluggedLaws_27 rfl (by decide) ?_
      refine r_istore (q := 30) (L' := [some (zr 0 b), some (zi (nI n)), some (zi (nI a)), some (zi (nI ((n - (we W a)) + 1))), some (zi (nI 0)), none]) dX0_addPluggedLaws_28 rfl (by decide) rfl ?_
      refine r_iload_n (q := 31) dX0_addPluggedLaws_30 rfl rfl rfl ?_
      refine r_iconst (q := 32) (nI 2) dX0_addPluggedLaws_31 rfl (by decide) ?_
      refine r_icmp_ltN (q := 35) (t := 100) (by omega) (by omega) dX0_addPluggedLaws_32 (by decide) rfl (fun h32 => ?_) (fun h32 => absurd h32 (by omega))
      refine r_iincN (q := 103) (L' := [some (zr 0 b), some (zi (nI n)), some (zi (nI (a + 1))), some (zi (nI ((n - (we W a)) + 1))), some (zi (nI 0)), none]) 1 rfl dX0_addPluggedLaws_100 rfl rfl (by decide) rfl ?_
      refine r_goto (q := 2) dX0_addPluggedLaws_103 (by decide) ?_
      exact Ok.mono (ih (a + 1) S mkn rln _ _ _ (by omega) hk hc hl hr) fun r S2 z => ⟨z.1, z.2.1, by obtain ⟨mk2, rl2, z3, z4, z5⟩ := z.2.2; exact ⟨mk2, rl2, z3, z4, fun a' m' i t h1 h2 h3 h4 h5 h6 h7 => if e : a' = a then by (subst e; exfalso; omega) else z5 a' m' i t (by omega) h2 h3 h4 h5 h6 h7⟩⟩
    · skip
      refine r_iload_n (q := 3) dX0_addPluggedLaws_2 rfl rfl rfl ?_
      refine r_aload_n (q := 4) dX0_addPluggedLaws_3 rfl rfl rfl ?_
      refine r_getr (q := 7) (some (9, b)) ck0 dX0_addPluggedLaws_4 rfl (k := 0) (by decide) wt374 rfl (hs.e (show b < 4 by omega)) (hs.r (show b < 4 by omega) (by decide)) ?_
      refine r_geti (q := 10) ck9 dX0_addPluggedLaws_7 rfl (k := 1) (by decide) wt298 (Or.inl rfl) (hs.e (show b < 4 by omega)) ?_
      refine r_topi (y := nI (wA W)) c1 ?_
      refine r_icmp_geN (q := 13) (t := 106) (by omega) (by omega) dX0_addPluggedLaws_10 (by decide) rfl (fun h10 => absurd h10 (by omega)) (fun h10 => ?_)
      refine r_iload_n (q := 14) dX0_addPluggedLaws_13 rfl rfl rfl ?_
      refine r_aload_n (q := 15) dX0_addPluggedLaws_14 rfl rfl rfl ?_
      refine r_getr (q := 18) (some (9, b)) ck0 dX0_addPluggedLaws_15 rfl (k := 0) (by decide) wt374 rfl (hs.e (show b < 4 by omega)) (hs.r (show b < 4 by omega) (by decide)) ?_
      refine r_getr (q := 21) (some (1003, b)) ck9 dX0_addPluggedLaws_18 rfl (k := 3) (by decide) wt308 rfl (hs.e (show b < 4 by omega)) (hs.r (show b < 4 by omega) (by decide)) ?_
      refine r_iload_n (q := 22) dX0_addPluggedLaws_21 rfl rfl rfl ?_
      refine r_ialdN (q := 23) 3 (by decide) rfl dX0_addPluggedLaws_22 rfl (hs.e (show b < 4 by omega)) (hs.n rfl (show b < 4 by omega)) (by omega) (by decide) ?_
      refine r_topi (y := nI (we W a)) c3 ?_
      refine r_isub (q := 24) dX0_addPluggedLaws_23 rfl ?_
      refine r_iconst (q := 25) (nI 1) dX0_addPluggedLaws_24 rfl (by decide) ?_
      refine r_iadd (q := 26) dX0_addPluggedLaws_25 rfl ?_
      refine r_istore_n (q := 27) (L' := [some (zr 0 b), some (zi (nI n)), some (zi (nI a)), some (zi (((nI n) - (nI (we W a))) + (nI 1))), none, none]) dX0_addPluggedLaws_26 rfl rfl (by decide) rfl ?_
      refine r_iconst (q := 28) (nI 0) dX0_addPluggedLaws_27 rfl (by decide) ?_
      refine r_istore (q := 30) (L' := [some (zr 0 b), some (zi (nI n)), some (zi (nI a)), some (zi (((nI n) - (nI (we W a))) + (nI 1))), some (zi (nI 0)), none]) dX0_addPluggedLaws_28 rfl (by decide) rfl ?_
      refine r_iload_n (q := 31) dX0_addPluggedLaws_30 rfl rfl rfl ?_
      refine r_iconst (q := 32) (nI 2) dX0_addPluggedLaws_31 rfl (by decide) ?_
      refine r_icmp_lt (q := 35) (t := 100) dX0_addPluggedLaws_32 (by decide) rfl (fun h32 => ?_) (fun h32 => absurd h32 (fun z => z (low_n2 n (by omega) (we W a) (by omega) (by omega))))
      refine r_iincN (q := 103) (L' := [some (zr 0 b), some (zi (nI n)), some (zi (nI (a + 1))), some (zi (((nI n) - (nI (we W a))) + (nI 1))), some (zi (nI 0)), none]) 1 rfl dX0_addPluggedLaws_100 rfl rfl (by decide) rfl ?_
      refine r_goto (q := 2) dX0_addPluggedLaws_103 (by decide) ?_
      exact Ok.mono (ih (a + 1) S mkn rln _ _ _ (by omega) hk hc hl hr) fun r S2 z => ⟨z.1, z.2.1, by obtain ⟨mk2, rl2, z3, z4, z5⟩ := z.2.2; exact ⟨mk2, rl2, z3, z4, fun a' m' i t h1 h2 h3 h4 h5 h6 h7 => if e : a' = a then by (subst e; exfalso; omega) else z5 a' m' i t (by omega) h2 h3 h4 h5 h6 h7⟩⟩

set_option maxRecDepth 100000 in
theorem ok_addPlugged {S : zS} {W : zWd} (hW : Wok W) {b n : Nat} (hb4 : b < 4) (hn7 : n ≤ 7) (hn1 : 1 ≤ n) {mk : Nat → Nat → Nat} {rl : Nat → Nat → Nat → Nat} (hid : ∀ m k, 1 ≤ m → m < n → k < (tl W m).length → mk m k ≠ 0 → Id W m (V (tl W m) (RC (rl m) k))) (hk : Wk S b W n mk rl) (hc : WC S b W) {mkn : Nat → Nat} {rln : Nat → Nat → Nat} (hl : Lvl S b W n mkn rln) (hr : RId W n mkn rln) : Ok mX0_addPluggedLaws 0 (ent 6 [zr 0 b, zi (nI n)]) [] S (fun r S1 => r = none ∧ Fr (tE2 b (tfr W n) (rfr W n) (tl W n).length) S S1 ∧ ∃ mk1 rl1, Lvl S1 b W n mk1 rl1 ∧ Ext W n mkn rln mk1 rl1 ∧ (∀ a' m' i t, 0 ≤ a' → a' < wA W → m' + we W a' = n + 1 → i < m' → 2 ≤ m' → t < (tl W m').length → mk m' t = 2 → Sp (wP W) (Rw (tl W n) (mkb mk1) (RC rl1)) (mp (fun s => gr s i (acT a' (we W a'))) (V (tl W m') (RC (rl m') t))))) := by
  show Ok mX0_addPluggedLaws 0 [some (zr 0 b), some (zi (nI n)), none, none, none, none] [] S _
  refine r_iconst (q := 1) (nI 0) dX0_addPluggedLaws_0 rfl (by decide) ?_
  refine r_istore_n (q := 2) (L' := [some (zr 0 b), some (zi (nI n)), some (zi (nI 0)), none, none, none]) dX0_addPluggedLaws_1 rfl rfl (by decide) rfl ?_
  exact lp_pl1 hW hb4 hn7 hn1 hid _ 0 S mkn rln _ _ _ (Nat.zero_add _) hk hc hl hr

