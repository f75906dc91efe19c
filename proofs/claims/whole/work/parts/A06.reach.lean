/-! a level built -/
theorem LvC.cong {W : zWd} {mk mk' : Nat → Nat → Nat} {rl rl' : Nat → Nat → Nat → Nat} {m : Nat} (h : LvC W mk rl m) (h1 : mk' m = mk m) (h2 : rl' m = rl m) : LvC W mk' rl' m := by
  unfold LvC RowC RwC at *
  rw [h1, h2]
  exact h
theorem BS.fg {S S1 : zS} {b n : Nat} {W : zWd} (hE : Eok (wA W) (we W)) {mk : Nat → Nat → Nat} {rl : Nat → Nat → Nat → Nat} (h : BS S b W (n - 1) mk rl) (f : Fg (tLt b n (tfr W n)) S S1) (h7 : ∀ k, k < rfr W n → gI S1 107 b k = gI S 107 b k) (hl : rfr W n ≤ gN S1 107 b) (hl2 : gN S1 107 b ≤ 160000) : BS S1 b W (n - 1) mk rl := fun k k1 k2 => by
  obtain ⟨h1, h2, h3⟩ := h k k1 k2
  have s1 : tfr W k + tc W k ≤ tfr W n := sm_le (f := tc W) (show k < n by omega)
  have s2 : rfr W k + tri (tc W k) ≤ rfr W n := sm_le (f := fun i => tri (tc W i)) (show k < n by omega)
  have hlk : (tl W k).length = tc W k := tl_len hE
  refine ⟨⟨(f.I (by omega) (by unfold tLt; omega)).trans h1.1, (f.I (by omega) (by unfold tLt; omega)).trans h1.2.1, h1.2.2.1, h1.2.2.2.1, fun i hi => (f.I (by omega) (by unfold tLt; omega)).trans (h1.2.2.2.2 i hi)⟩, fun i hi => ⟨(f.I (by omega) (by unfold tLt; omega)).trans (h2 i hi).1, (h2 i hi).2⟩, (f.I (by omega) (by unfold tLt; omega)).trans h3.1, by rw [hlk]; omega, hl2, fun t ht hm j hj => ⟨(h7 _ ?_).trans (h3.2.2.2 t ht hm j hj).1, (h3.2.2.2 t ht hm j hj).2⟩⟩
  have := tri_lt ht hj
  rw [hlk] at this
  omega
/-- a basis as far as it was built -/
def CB (S : zS) (b : Nat) (W : zWd) (n : Nat) (mk : Nat → Nat → Nat) (rl : Nat → Nat → Nat → Nat) : Prop := gI S 0 b 2 = nI n ∧ n ≤ 7 ∧ (∀ k, k ≤ n → tc W k ≤ 300) ∧ BS S b W n mk rl ∧ gI S 103 b (n + 1) = nI (tfr W (n + 1)) ∧ gI S 106 b (n + 1) = nI (rfr W (n + 1)) ∧ rfr W (n + 1) ≤ gN S 107 b ∧ 512 ≤ gN S 107 b ∧ gN S 107 b ≤ 160000 ∧ ∀ k, 1 ≤ k → k ≤ n → gI S 108 b k = nI (nz (mk k) (tl W k).length) ∧ LvC W mk rl k
def tRe (b x y k : Nat) : Prop := y = b ∧ (x = 0 ∧ k = 2 ∨ 103 ≤ x ∧ x ≤ 108 ∨ 700 ≤ x ∧ x ≤ 703)
theorem tc_zero {W : zWd} : tc W 0 = 0 := rfl
theorem tE2_re {b f0 rf m : Nat} (x y k : Nat) (h : tE2 b f0 rf m x y k = true) : tRe b x y k := by
  simp [tE2, tEn, tSp] at h
  unfold tRe
  omega
theorem tSt_re {b f0 rf m n : Nat} (x y k : Nat) (h : tSt b f0 rf m n x y k = true) : tRe b x y k := by
  simp [tSt, tE2, tEn, tSp] at h
  unfold tRe
  omega
theorem tLt_re {b n f0 : Nat} (x y k : Nat) (h : tLt b n f0 x y k) : tRe b x y k := by
  unfold tLt at h
  unfold tRe
  omega
theorem HE_of {W : zWd} (hW : Wok W) {mk : Nat → Nat → Nat} {rl : Nat → Nat → Nat → Nat} {n : Nat} {mk0 mk1 : Nat → Nat} {r0 r1 : Nat → Nat → Nat} (hI : EnI W mk rl n mk0 r0 (tl W n).length) (h : ∀ u, Rw (tl W n) (mkb mk0) (RC r0) u → Sp (wP W) (Rw (tl W n) (mkb mk1) (RC r1)) u) : HE W (up1 mk n mk1) (up2 rl n r1) n := by
  have hE := hW.2.1
  intro a us1 us2 m k ha hl h1 h2 hn hk hm hN
  have g1 := lvs_flat_ge hE h1
  have g2 := lvs_flat_ge hE h2
  have he := hE.two a ha
  have hmn : m ≠ n := by omega
  rw [up1_x hmn] at hm
  unfold RwC
  rw [up1_n, up2_n, up2_x hmn]
  obtain ⟨s, hs, es⟩ := mem_idx ((tl_mem hE).mpr (cx_tr ha hl h1 h2 hn (tl_tr hE hk)))
  refine Sp.le (hI a us1 us2 m k ha hl h1 h2 hn hk hm (fun u hu => ?_) s hs es) h
  have := (g1.2 u hu).2
  have := ((tl_tr hE hk).len hE).2
  have hq : 1 ≤ us1.length := List.length_pos_of_mem hu
  exact (Nm.up (by omega)).mp (hN u hu)
/-- all that was done for a level makes it -/
theorem lv_made {W : zWd} (hW : Wok W) {mk : Nat → Nat → Nat} {rl : Nat → Nat → Nat → Nat} {n : Nat} {mk0 mk1 mk2 : Nat → Nat} {r0 r1 r2 r3 : Nat → Nat → Nat} {S : zS} {b : Nat} (hl : Lvl S b W n mk2 r3) (hL : ∀ m, 1 ≤ m → m < n → LvC W mk rl m)
    (h0 : ∀ s, s < (tl W n).length → mk0 s ≠ 0 → mk0 s = 1 ∧ Sp (wP W) (UR W n) (V (tl W n) (RC r0 s))) (hI : EnI W mk rl n mk0 r0 (tl W n).length) (e1 : Ext W n mk0 r0 mk1 r1) (hlaw : ∀ l, 0 ≤ l → l < wL W → (lw W l).1 = n → Sp (wP W) (Rw (tl W n) (mkb mk1) (RC r1)) (lz (lw W l).2)) (e2 : Ext W n mk1 r1 mk2 r2)
    (hpl : ∀ a' m' i t, 0 ≤ a' → a' < wA W → m' + we W a' = n + 1 → i < m' → 2 ≤ m' → t < (tl W m').length → mk m' t = 2 → Sp (wP W) (Rw (tl W n) (mkb mk2) (RC r2)) (mp (fun s => gr s i (acT a' (we W a'))) (V (tl W m') (RC (rl m') t)))) (hst : St W n mk2 r2 r3 (tl W n).length) : LvC W (up1 mk n mk2) (up2 rl n r3) n := by
  have hE := hW.2.1
  obtain ⟨s1, s2, s3, s4⟩ := hst
  refine LvC.of hW (HE_of hW hI fun u hu => s2 u (e2.1 u (e1.1 u hu))) (fun m m1 m2 => (hL m m1 m2).cong (up1_x (by omega)) (up2_x (by omega))) ?_ (fun L hL' hn => ?_) (fun a m i t ha hme hi hm2 ht hmk => ?_) (fun t ht hmt => ?_)
  · intro t ht hm
    rw [up1_n] at hm
    rw [up1_n, up2_n]
    exact ⟨fun j hj => (hl.2.2.2.2.2 t ht hm j hj).2, s3 t ht hm, fun j hj hmj => s1 t ht ht hm j hj hmj⟩
  · unfold RwC
    rw [up1_n, up2_n]
    exact Sp.le ((hlaw L (Nat.zero_le _) hL' hn).mono e2.1) s2
  · have he := hE.two a ha
    have hmn : m ≠ n := by omega
    rw [up1_x hmn] at hmk
    unfold RwC
    rw [up1_n, up2_n, up2_x hmn]
    exact Sp.le (hpl a m i t (Nat.zero_le _) ha hme hi hm2 ht hmk) s2
  · rw [up1_n] at hmt
    rw [up1_n, up2_n]
    by_cases q : mk2 t = 2
    · exact Or.inl q
    · right
      have := (hl.2.1 t ht).2
      refine (s4 t ht (by omega)).mono fun u hu => ?_
      rcases hu with z | ⟨s, _, z1, z2, z3⟩
      · exact Or.inl z
      · exact Or.inr ⟨s, z1, z2, z3⟩
theorem e1_u {W : zWd} {n : Nat} {mk0 mk1 : Nat → Nat} {r0 r1 : Nat → Nat → Nat} (e : Ext W n mk0 r0 mk1 r1) (h0 : ∀ s, s < (tl W n).length → mk0 s ≠ 0 → mk0 s = 1 ∧ Sp (wP W) (UR W n) (V (tl W n) (RC r0 s))) : ∀ s, s < (tl W n).length → mk1 s = 1 → Sp (wP W) (UR W n) (V (tl W n) (RC r1 s)) := fun s hs h1 => by
  rcases e.2 s hs (by omega) with ⟨a, b, c⟩ | ⟨a, b⟩
  · rw [V_cong fun j _ => RC_cong c j]; exact (h0 s hs a).2
  · omega

set_option maxRecDepth 100000 in
theorem lp_level {S : zS} {W : zWd} (hW : Wok W) {b n : Nat} (hb4 : b < 4) (hs : Sd S) (hc : WC S b W) {mk : Nat → Nat → Nat} {rl : Nat → Nat → Nat → Nat} (hB : CB S b W n mk rl) (hn7 : n + 1 ≤ 7) (h3 : tc W (n + 1) ≤ 300) {N : Nat} {Po : Option zV → zS → Prop} (K : ∀ S1 mk1 rl1, Fg (tRe b) S S1 → WC S1 b W → CB S1 b W (n + 1) mk1 rl1 → Ok mX0_reach 73 [some (zr 0 b), some (zi (nI N)), some (zi (nI (n + 1)))] [] S1 Po) : Ok mX0_reach 43 [some (zr 0 b), some (zi (nI N)), some (zi (nI (n + 1)))] [] S Po := by
  have hE := hW.2.1
  have hP2 := hW.1.1
  obtain ⟨c1, c2, c3, c4, c5, c6, c7, c8, c9, c10⟩ := hB
  have hall : ∀ k, k ≤ n + 1 → tc W k ≤ 300 := fun k hk => if e : k = n + 1 then by rw [e]; exact h3 else c3 k (by omega)
  obtain ⟨t1, t2, _⟩ := tc_sums hE hn7 hall
  have t1 : tfr W (n + 1) + tc W (n + 1) ≤ 400 := t1
  have t2 : rfr W (n + 1) + tri (tc W (n + 1)) ≤ 35261 := t2
  have hlen : (tl W (n + 1)).length = tc W (n + 1) := tl_len hE
  have hid : ∀ m k, 1 ≤ m → m < n + 1 → k < (tl W m).length → mk m k ≠ 0 → Id W m (V (tl W m) (RC (rl m) k)) := fun m k m1 m2 hk hm => ((c10 m m1 (by omega)).2.1 k hk hm).2.1
  refine r_aload_n (q := 44) dX0_reach_43 rfl rfl rfl ?_
  refine r_iload_n (q := 45) dX0_reach_44 rfl rfl rfl ?_
  refine r_callV (Mc := mX0_listTrees) (q := 48) (As := [zi (nI (n + 1))]) (st := []) ck0 dX0_reach_45 rfl rfl mkX0_listTrees wt775 wt777 wp28 rfl (Nat.le_of_ble_eq_true rfl) (Nat.le_of_ble_eq_true rfl) (by decide) (by decide) (by decide) (Or.inr ⟨Nat.le_of_ble_eq_true rfl, rfl, rfl⟩) (hs.e (show b < 4 by omega)) (ok_listTrees hE hb4 hn7 (by omega) h3 t1 t2 rfl hs hc.wa c5 (fun m m1 m2 => (c4 m m1 (by omega)).1) c6 c8 c9 c7) (fun r45 S45 hp45 => ?_)
  obtain ⟨rfl, q1, q2, q3, q4, q5, q6, q7, q8, q9⟩ := hp45
  have kc : WC S45 b W := hc.fg q1 (fun a k ha => by unfold tLt; omega)
  have kB : BS S45 b W (n + 1 - 1) mk rl := BS.fg hE c4 q1 q9 (by omega) q8
  have kw : Wk S45 b W (n + 1) mk rl := ⟨q1.sd, kB, kc.wa, kc.1⟩
  have kl : Lvl S45 b W (n + 1) (fun _ => 0) (fun _ _ => 0) := ⟨q2, q3, q4, q6, q8, fun t _ hm => absurd rfl hm⟩
  show Ok _ _ _ [] _ _
  refine r_aload_n (q := 49) dX0_reach_48 rfl rfl rfl ?_
  refine r_iload_n (q := 50) dX0_reach_49 rfl rfl rfl ?_
  refine r_callV (Mc := mX0_addRulesByEntries) (q := 53) (As := [zi (nI (n + 1))]) (st := []) ck0 dX0_reach_50 rfl rfl mkX0_addRulesByEntries wt828 wt830 wp34 rfl (Nat.le_of_ble_eq_true rfl) (Nat.le_of_ble_eq_true rfl) (by decide) (by decide) (by decide) (Or.inl rfl) (q1.sd.e (show b < 4 by omega)) (ok_addRules hW hb4 hn7 (by omega) hid kw kl) (fun r50 S50 hp50 => ?_)
  obtain ⟨rfl, f1, mk0, r0, l0, u0, i0⟩ := hp50
  have kw1 := kw.fr hE f1
  have kc1 := kc.e2 f1
  have ri0 : RId W (n + 1) mk0 r0 := fun s a b => Sp.le (u0 s a b).2 fun u hu => hu.id
  show Ok _ _ _ [] _ _
  refine r_aload_n (q := 54) dX0_reach_53 rfl rfl rfl ?_
  refine r_iload_n (q := 55) dX0_reach_54 rfl rfl rfl ?_
  refine r_callV (Mc := mX0_addLaws) (q := 58) (As := [zi (nI (n + 1))]) (st := []) ck0 dX0_reach_55 rfl rfl mkX0_addLaws wt873 wt875 wp41 rfl (Nat.le_of_ble_eq_true rfl) (Nat.le_of_ble_eq_true rfl) (by decide) (by decide) (by decide) (Or.inl rfl) (kw1.1.e (show b < 4 by omega)) (ok_addLaws hW hb4 hn7 (by omega) kw1 kc1 l0 ri0) (fun r55 S55 hp55 => ?_)
  obtain ⟨rfl, f2, mk1, r1, l1, e1, hlaw⟩ := hp55
  have kw2 := kw1.fr hE f2
  have kc2 := kc1.e2 f2
  show Ok _ _ _ [] _ _
  refine r_aload_n (q := 59) dX0_reach_58 rfl rfl rfl ?_
  refine r_iload_n (q := 60) dX0_reach_59 rfl rfl rfl ?_
  refine r_callV (Mc := mX0_addPluggedLaws) (q := 63) (As := [zi (nI (n + 1))]) (st := []) ck0 dX0_reach_60 rfl rfl mkX0_addPluggedLaws wt885 wt887 wp43 rfl (Nat.le_of_ble_eq_true rfl) (Nat.le_of_ble_eq_true rfl) (by decide) (by decide) (by decide) (Or.inl rfl) (kw2.1.e (show b < 4 by omega)) (ok_addPlugged hW hb4 hn7 (by omega) hid kw2 kc2 l1 (e1.id ri0)) (fun r60 S60 hp60 => ?_)
  obtain ⟨rfl, f3, mk2, r2, l2, e2, hpl⟩ := hp60
  have kw3 := kw2.fr hE f3
  have kc3 := kc2.e2 f3
  show Ok _ _ _ [] _ _
  refine r_aload_n (q := 64) dX0_reach_63 rfl rfl rfl ?_
  refine r_iload_n (q := 65) dX0_reach_64 rfl rfl rfl ?_
  refine r_callV (Mc := mX0_settleRules) (q := 68) (As := [zi (nI (n + 1))]) (st := []) ck0 dX0_reach_65 rfl rfl mkX0_settleRules wt893 wt895 wp45 rfl (Nat.le_of_ble_eq_true rfl) (Nat.le_of_ble_eq_true rfl) (by decide) (by decide) (by decide) (Or.inl rfl) (kw3.1.e (show b < 4 by omega)) (ok_settleRules hW hb4 hn7 (by omega) kw3 l2 ((e1.tr e2).id ri0) (e1_u (e1.tr e2) u0)) (fun r65 S65 hp65 => ?_)
  obtain ⟨rfl, f4, h8, r3, l3, hst⟩ := hp65
  show Ok _ _ _ [] _ _
  refine r_aload_n (q := 69) dX0_reach_68 rfl rfl rfl ?_
  refine r_iload_n (q := 70) dX0_reach_69 rfl rfl rfl ?_
  refine r_puti (q := 73) ck0 dX0_reach_70 rfl (k := 2) (by decide) wt379 (Or.inl rfl) rfl ((kw3.1.fr f4).e (show b < 4 by omega)) ?_
  have F1 : Fg (tRe b) S S65 := (((q1.mono tLt_re).tr (f1.fg q1.sd tE2_re)).tr (f2.fg kw1.1 tE2_re)).tr (f3.fg kw2.1 tE2_re) |>.tr (f4.fg kw3.1 tSt_re)
  have F2 : Fg (tRe b) S (sI S65 0 b 2 (nI (n + 1))) := F1.tr (Fg.of22 F1.sd rfl (fun x y k _ hz => by rw [gI_sI, if_neg (fun z => hz (by unfold tRe; omega))]) (fun _ _ _ _ _ => rfl))
  have g0 : Fr (fun x y k => x == 0 && y == b) S65 (sI S65 0 b 2 (nI (n + 1))) := (Fr.rf).i (by simp)
  have lvn := lv_made hW l3 (fun m m1 m2 => (c10 m m1 (by omega)).2) u0 i0 e1 hlaw e2 hpl hst
  have hB4 : BS S65 b W (n + 1 - 1) mk rl := fun k k1 k2 => by
    have := kw3.2.1 k k1 k2
    have sk1 : tfr W k + tc W k ≤ tfr W (n + 1) := sm_le (f := tc W) (show k < n + 1 by omega)
    have sk2 : rfr W k + tri (tc W k) ≤ rfr W (n + 1) := sm_le (f := fun i => tri (tc W i)) (show k < n + 1 by omega)
    have hlk : (tl W k).length = tc W k := tl_len hE
    refine ⟨⟨(f4.st (tE2_n (by omega)) (by omega)).trans this.1.1, (f4.st (tE2_n (by omega)) (by omega)).trans this.1.2.1, this.1.2.2.1, this.1.2.2.2.1, fun i hi => (f4.st (tE2_n (by omega)) (by omega)).trans (this.1.2.2.2.2 i hi)⟩, fun i hi => ⟨(f4.st (tE2_105 (by omega)) (by omega)).trans (this.2.1 i hi).1, (this.2.1 i hi).2⟩, (f4.st (tE2_n (by omega)) (by omega)).trans this.2.2.1, by rw [gN_22 f4.2.2]; exact this.2.2.2.1, by rw [gN_22 f4.2.2]; exact this.2.2.2.2.1, fun t ht hm j hj => ⟨(f4.st (tE2_107 (by have := tri_lt ht hj; rw [hlk] at this; omega)) (by omega)).trans (this.2.2.2.2.2 t ht hm j hj).1, (this.2.2.2.2.2 t ht hm j hj).2⟩⟩
  have hN3 : gN S65 107 b = gN S45 107 b := by rw [gN_22 f4.2.2, gN_22 f3.2.2, gN_22 f2.2.2, gN_22 f1.2.2]
  have k106 : ∀ k, gI S65 106 b k = gI S45 106 b k := fun k => by rw [f4.st (tE2_n (by omega)) (by omega), f3.1 _ _ _ (tE2_n (by omega)), f2.1 _ _ _ (tE2_n (by omega)), f1.1 _ _ _ (tE2_n (by omega))]
  have k108 : ∀ k, k ≠ n + 1 → gI S65 108 b k = gI S 108 b k := fun k hk => by rw [f4.1 _ _ _ (by simp [tSt, tE2, tEn, tSp]; omega), f3.1 _ _ _ (tE2_n (by omega)), f2.1 _ _ _ (tE2_n (by omega)), f1.1 _ _ _ (tE2_n (by omega)), q1.I (by omega) (by unfold tLt; omega)]
  refine K _ (up1 mk (n + 1) mk2) (up2 rl (n + 1) r3) F2 (hc.fg F2 (fun a k ha => by unfold tRe; omega)) ⟨by rw [gI_sI, if_pos ⟨rfl, rfl, rfl⟩], hn7, hall, (hB4.up l3).fr g0 (fun x k h1 h2 => by simp; omega), ?_, ?_, ?_, ?_, ?_, fun k k1 k2 => ?_⟩
  · rw [g0.1 _ _ _ (by simp), l3.1.2.1, hlen]; rfl
  · rw [g0.1 _ _ _ (by simp), k106, q5, hlen]; rfl
  · rw [gN_22 g0.2.2, hN3]; have := q6; rw [hlen] at this; exact this
  · rw [gN_22 g0.2.2, hN3]; exact q7
  · rw [gN_22 g0.2.2, hN3]; exact q8
  · rw [g0.1 _ _ _ (by simp)]
    by_cases e : k = n + 1
    · subst e
      rw [up1_n]
      exact ⟨h8, lvn⟩
    · rw [up1_x e, k108 k e]
      exact ⟨(c10 k k1 (by omega)).1, (c10 k k1 (by omega)).2.cong (up1_x e) (up2_x e)⟩

