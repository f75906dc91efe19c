/-! whether there are too many trees; the caches of the reference -/
/-- the inverses that are kept are those by the prime that is kept with them -/
def IvI (S : zS) : Prop := ∀ P, 2 ≤ P → P ≤ 97 → gI S 12 0 43 = nI P → Iv S P
theorem IvI.of {S : zS} {P : Nat} (hP : P ≤ 97) (h1 : gI S 12 0 43 = nI P) (h2 : Iv S P) : IvI S := fun Q _ b c => by
  have : Q = P := (nI_eq (by omega) (by omega)).mp (c.symm.trans h1)
  rw [this]; exact h2
theorem IvI.fr {S S1 : zS} (h : IvI S) {U : Nat → Nat → Nat → Bool} (f : Fr U S S1) (t : U 12 0 43 = false ∧ ∀ k, U 1342 0 k = false) : IvI S1 := fun P a b c => (h P a b ((f.1 _ _ _ t.1).symm.trans c)).fr f t.2
theorem RB.fr {S S1 : zS} {W : zWd} (hE : Eok (wA W) (we W)) {q L : Nat} (hq : q ≤ 1) {pvs : Nat → Nat → Bool} {bss : Nat → Nat → Nat → Nat} (h : RB S W q L pvs bss) {U : Nat → Nat → Nat → Bool} (f : Fr U S S1) (t0 : U 1323 0 q = false) (t1 : U 1322 0 (1173 * q) = false) (t2 : ∀ s, 1 ≤ s → s < 8 → U 1324 0 (8 * q + s) = false ∧ U 1325 0 (8 * q + s) = false ∧ U 1326 0 (8 * q + s) = false ∧ U 1327 0 (8 * q + s) = false) (t3 : ∀ k, 2200 * q ≤ k → k < 2200 * q + 2200 → U 1328 0 k = false ∧ U 1330 0 k = false ∧ U 1332 0 k = false) (t4 : ∀ k, 200000 * q ≤ k → k < 200000 * q + 200000 → U 1331 0 k = false) (t5 : ∀ i, 1 ≤ i → i < 11 → U 1334 0 (11 * q + i) = false) : RB S1 W q L pvs bss := by
  obtain ⟨h1, h2, h3, h4, h5⟩ := h
  have hts := tc_sums hE h2 h3
  refine ⟨(f.1 _ _ _ t0).trans h1, h2, h3, fun z i a b => (f.2.1 _ _ _ (t5 i a b)).trans (h4 z i a b), h5.fr hE f t1 (fun s a b => t2 s a (by omega)) (fun k k1 k2 => t3 k k1 (by have : k < 2200 * q + sm (tc W) (L + 1) := k2; omega)) (fun k k1 k2 => t4 k k1 (by have : k < 200000 * q + sm (fun k => tc W k * tc W k) (L + 1) := k2; omega))⟩
theorem RB.zero {S : zS} {W : zWd} {q : Nat} (h : gI S 1323 0 q = nI 0) : RB S W q 0 (fun _ _ => false) (fun _ _ _ => 0) := ⟨h, by omega, fun k hk => by rw [show k = 0 by omega]; exact (Nat.zero_le _ : tc W 0 ≤ 300), fun z => absurd z (by omega), fun s a b => absurd a (by omega)⟩
theorem RB.q1 {S S1 : zS} {W : zWd} (hE : Eok (wA W) (we W)) {L : Nat} {pvs : Nat → Nat → Bool} {bss : Nat → Nat → Nat → Nat} (h : RB S W 0 L pvs bss) (f : Fr (tSe 1) S S1) : RB S1 W 0 L pvs bss := h.fr hE (by omega) f rfl rfl (fun s a b => ⟨bfalse fun z => by simp [tSe, tTq, tPt, tPa, tIv] at z; omega, bfalse fun z => by simp [tSe, tTq, tPt, tPa, tIv] at z; omega, bfalse fun z => by simp [tSe, tTq, tPt, tPa, tIv] at z; omega, bfalse fun z => by simp [tSe, tTq, tPt, tPa, tIv] at z; omega⟩) (fun k a b => ⟨bfalse fun z => by simp [tSe, tTq, tPt, tPa, tIv] at z; omega, bfalse fun z => by simp [tSe, tTq, tPt, tPa, tIv] at z; omega, bfalse fun z => by simp [tSe, tTq, tPt, tPa, tIv] at z; omega⟩) (fun k a b => bfalse fun z => by simp [tSe, tTq, tPt, tPa, tIv] at z; omega) (fun i a b => bfalse fun z => by simp [tSe, tTq, tPt, tPa, tIv] at z; omega)
/-- the own world's cache -/
def CR (S : zS) (W : zWd) : Prop := gI S 12 0 33 = nI 1 → ∃ L pvs bss, RB S W 0 L pvs bss
theorem WS.of {S : zS} {W : zWd} (hW : Wok W) {q : Nat} {n : Nat → Int64} (h : wqR W (fun k => gI S 1322 0 (1173 * q + k)) n) : WS S W q := by
  obtain ⟨h1, h2, h3, h4, h5, h6, h7⟩ := h
  refine ⟨⟨h2, fun a ha => ?_⟩, ⟨h3, fun L hL => ?_, fun L hL => ?_, fun L k hL hk => ?_⟩, h1⟩
  · rw [Nat.add_assoc]; exact (h4 a ha).1
  · rw [Nat.add_assoc]; exact h5 L hL
  · rw [Nat.add_assoc]; exact h6 L hL
  · rw [Nat.add_assoc, Nat.add_assoc]; exact h7 L k hL hk
theorem wqR.own {S : zS} {W : zWd} (hW : Wok W) {n : Nat → Int64} (h : wqR W (fun k => gI S 1306 0 k) n) (he : ∀ k, k < 444 → k ≠ 3 → gI S 1322 0 k = gI S 1306 0 k) : WS S W 0 := WS.of hW (n := n) (wqR.cong hW (fun k k1 k2 => by show gI S 1306 0 k = gI S 1322 0 (1173 * 0 + k); rw [Nat.mul_zero, Nat.zero_add]; exact (he k k1 k2).symm) (fun _ _ => rfl) h)
def tBy (x y k : Nat) : Bool := tSe 0 x y k || tOw x y k
theorem tBy_se (x y k : Nat) (h : tSe 0 x y k = true) : tBy x y k = true := by simp [tBy, h]
theorem tBy_ow (x y k : Nat) (h : tOw x y k = true) : tBy x y k = true := by simp [tBy, h]

theorem ok_own {S : zS} (hs : Sd S) {W : zWd} (hW : Wok W) {n9 : Nat → Int64} (hR : wqR W (fun k => gI S 1306 0 k) n9) (hO : Cw S) (hcr : CR S W) (hI : IvI S) : Ok mX12_ownWorld 0 (ent 2 [zr 12 0]) [] S (fun r S1 => r = none ∧ Fr tOw S S1 ∧ OwS S S1 ∧ WS S1 W 0 ∧ IvI S1 ∧ gI S1 12 0 33 = nI 1 ∧ Cw S1 ∧ ∃ L pvs bss, RB S1 W 0 L pvs bss) := by
  have key : ∀ S1, Fr tOw S S1 → (∀ k, k < 444 → k ≠ 3 → gI S1 1322 0 k = gI S1 1306 0 k) → WS S1 W 0 := fun S1 f h => wqR.own hW (wqR.cong hW (fun k _ _ => (f.1 _ _ _ rfl).symm) (fun _ _ => rfl) hR) h
  by_cases h : gI S 12 0 33 = nI 1
  · exact Ok.mono (ok_X12_ownWorld_y hs h) fun r S1 z => by
      rw [z.2]
      exact ⟨z.1, Fr.rf, Or.inl ⟨h, h, fun _ _ => rfl, rfl⟩, key S Fr.rf (hO h), hI, h, hO, hcr h⟩
  · exact Ok.mono (ok_X12_ownWorld_n hs h) fun r S1 z => by
      have f : Fr tOw S S1 := by rw [z.2]; exact fr_owS
      have e1 : gI S1 12 0 33 = nI 1 := by
        rw [z.2]; unfold owS
        rw [gI_sI, if_neg (by omega), cpR_get, if_neg (by omega), gI_sI, if_pos ⟨rfl, rfl, rfl⟩]
      have e2 : gI S1 1323 0 0 = nI 0 := by
        rw [z.2]; unfold owS
        rw [gI_sI, if_pos ⟨rfl, rfl, rfl⟩]
      have e3 : ∀ k, k < 1173 → gI S1 1322 0 k = gI S 1306 0 k := fun k hk => by rw [z.2]; exact owS_w hk
      have e4 : ∀ k, k < 444 → k ≠ 3 → gI S1 1322 0 k = gI S1 1306 0 k := fun k hk _ => by rw [e3 k (by omega)]; exact (f.1 _ _ _ rfl).symm
      exact ⟨z.1, f, Or.inr ⟨h, e1, e2, e3⟩, key S1 f e4, hI.fr f ⟨rfl, fun _ => rfl⟩, e1, fun _ => e4, 0, _, _, RB.zero e2⟩

set_option maxRecDepth 100000 in
theorem ok_beyond0_y {S : zS} (hs : Sd S) {W : zWd} (hW : Wok W) {n : Nat} (hn1 : 1 ≤ n) (hn7 : n ≤ 7) {n9 : Nat → Int64} (hR : wqR W (fun k => gI S 1306 0 k) n9) (hO : Cw S) (hcr : CR S W) (hI : IvI S) (h3 : ¬ tc W n ≤ 300) : Ok mX12_isBeyond 0 (ent 3 [zr 12 0, zi (nI 0), zi (nI n)]) [] S (fun r S1 => Fr tBy S S1 ∧ gI S1 12 0 33 = nI 1 ∧ Cw S1 ∧ IvI S1 ∧ WS S1 W 0 ∧ ∃ L pvs bss, RB S1 W 0 L pvs bss ∧ (r = some (zi (nI 1)) ∧ 300 < tc W n ∨ r = some (zi (nI 0)) ∧ tc W n ≤ 300 ∧ n ≤ L)) := by
  have htb := tc_small hW.2.1 hn7
  show Ok mX12_isBeyond 0 [some (zr 12 0), some (zi (nI 0)), some (zi (nI n))] [] S _
  refine r_iload_n (q := 1) dX12_isBeyond_0 rfl rfl rfl ?_
  refine r_if_neN (q := 4) (t := 8) (by omega) dX12_isBeyond_1 (by decide) rfl (fun h1 => absurd h1 (by omega)) (fun h1 => ?_)
  refine r_aload_n (q := 5) dX12_isBeyond_4 rfl rfl rfl ?_
  refine r_callV (Mc := mX12_ownWorld) (q := 8) (As := []) (st := []) ck12 dX12_isBeyond_5 rfl rfl mkX12_ownWorld wt1686 wt1688 wp90 rfl (Nat.le_of_ble_eq_true rfl) (Nat.le_of_ble_eq_true rfl) (by decide) (by decide) (by decide) (Or.inl rfl) (hs.e (by decide)) (ok_own hs hW hR hO hcr hI) (fun r5 S5 hp5 => ?_)
  obtain ⟨rfl, f0, how, hws0, hiv0, hon, hcw0, L, pvs, bss, hB0⟩ := hp5
  have hs0 : Sd S5 := hs.fr f0
  show Ok _ _ _ [] _ _
  refine r_aload_n (q := 9) dX12_isBeyond_8 rfl rfl rfl ?_
  refine r_iload_n (q := 10) dX12_isBeyond_9 rfl rfl rfl ?_
  refine r_callV (Mc := mX12_totals) (q := 13) (As := [zi (nI 0)]) (st := []) ck12 dX12_isBeyond_10 rfl rfl mkX12_totals wt1690 wt1692 wp91 rfl (Nat.le_of_ble_eq_true rfl) (Nat.le_of_ble_eq_true rfl) (by decide) (by decide) (by decide) (Or.inl rfl) (hs0.e (by decide)) (ok_totals_q hs0 (by omega) hW.2.1 ⟨hws0.1.1, hws0.1.2⟩) (fun r10 S10 hp10 => ?_)
  obtain ⟨rfl, f1, htt1⟩ := hp10
  have hs1 : Sd S10 := hs0.fr f1
  have hws1 : WS S10 W 0 := hws0.fr f1 (fun _ => rfl)
  have hB1 : RB S10 W 0 L pvs bss := ⟨(f1.1 _ _ _ rfl).trans hB0.1, hB0.2.1, hB0.2.2.1, fun _ => htt1, hB0.2.2.2.2.fr hW.2.1 f1 rfl (fun _ _ _ => ⟨rfl, rfl, rfl, rfl⟩) (fun _ _ _ => ⟨rfl, rfl, rfl⟩) (fun _ _ _ => rfl)⟩
  have hiv1 : IvI S10 := hiv0.fr f1 ⟨rfl, fun _ => rfl⟩
  have htn := htt1 n hn1 (by omega)
  show Ok _ _ _ [] _ _
  refine r_aload_n (q := 14) dX12_isBeyond_13 rfl rfl rfl ?_
  refine r_getr (q := 17) (some (1334, 0)) ck12 dX12_isBeyond_14 rfl (k := 34) (by decide) wt1312 rfl (hs1.e (by decide)) (hs1.r (by decide) (by decide)) ?_
  refine r_bipush (q := 19) (nI 11) dX12_isBeyond_17 rfl (by decide) ?_
  refine r_iload_n (q := 20) dX12_isBeyond_19 rfl rfl rfl ?_
  refine r_imulN (q := 21) dX12_isBeyond_20 rfl ?_
  refine r_iload_n (q := 22) dX12_isBeyond_21 rfl rfl rfl ?_
  refine r_iaddN (q := 23) dX12_isBeyond_22 rfl ?_
  refine r_topi (y := nI (11 * 0 + n)) rfl ?_
  refine r_laldN (q := 24) 22 (by decide) rfl dX12_isBeyond_23 rfl (hs1.e (by decide)) (hs1.n rfl (by decide)) (by omega) (by decide) ?_
  refine r_topl (y := lN (tc W n)) htn ?_
  refine r_ldc2 (q := 27) (300 : Int64) dX12_isBeyond_24 rfl wt1755 ?_
  refine r_topl (y := lN 300) rfl ?_
  refine r_lcmp (q := 28) dX12_isBeyond_27 rfl ?_
  refine r_if_le (q := 31) (t := 33) dX12_isBeyond_28 (by decide) rfl (fun h28 => absurd h28 (fun z => h3 ((lcmp_le (by omega) (by omega)).mp z))) (fun h28 => ?_)
  refine r_iconst (q := 32) (nI 1) dX12_isBeyond_31 rfl (by decide) ?_
  refine r_zreturn (by decide) dX12_isBeyond_32 rfl ?_
  have g1 : Fr (tSe 0) S5 S10 := f1.mono (fun x y k h => by simp [tSe, h])
  exact ⟨(f0.mono tBy_ow).tr (g1.mono tBy_se), (f1.1 _ _ _ rfl).trans hon, fun _ k hk h3 => by rw [f1.1 1322 0 k rfl, f1.1 1306 0 k rfl]; exact hcw0 hon k hk h3, hiv1, hws1, L, pvs, bss, hB1, Or.inl ⟨rfl, by omega⟩⟩

set_option maxRecDepth 100000 in
theorem ok_beyond0_n {S : zS} (hs : Sd S) {W : zWd} (hW : Wok W) {n : Nat} (hn1 : 1 ≤ n) (hn7 : n ≤ 7) {n9 : Nat → Int64} (hR : wqR W (fun k => gI S 1306 0 k) n9) (hO : Cw S) (hcr : CR S W) (hI : IvI S) (h3 : tc W n ≤ 300) : Ok mX12_isBeyond 0 (ent 3 [zr 12 0, zi (nI 0), zi (nI n)]) [] S (fun r S1 => Fr tBy S S1 ∧ gI S1 12 0 33 = nI 1 ∧ Cw S1 ∧ IvI S1 ∧ WS S1 W 0 ∧ ∃ L pvs bss, RB S1 W 0 L pvs bss ∧ (r = some (zi (nI 1)) ∧ 300 < tc W n ∨ r = some (zi (nI 0)) ∧ tc W n ≤ 300 ∧ n ≤ L)) := by
  show Ok mX12_isBeyond 0 [some (zr 12 0), some (zi (nI 0)), some (zi (nI n))] [] S _
  refine r_iload_n (q := 1) dX12_isBeyond_0 rfl rfl rfl ?_
  refine r_if_neN (q := 4) (t := 8) (by omega) dX12_isBeyond_1 (by decide) rfl (fun h1 => absurd h1 (by omega)) (fun h1 => ?_)
  refine r_aload_n (q := 5) dX12_isBeyond_4 rfl rfl rfl ?_
  refine r_callV (Mc := mX12_ownWorld) (q := 8) (As := []) (st := []) ck12 dX12_isBeyond_5 rfl rfl mkX12_ownWorld wt1686 wt1688 wp90 rfl (Nat.le_of_ble_eq_true rfl) (Nat.le_of_ble_eq_true rfl) (by decide) (by decide) (by decide) (Or.inl rfl) (hs.e (by decide)) (ok_own hs hW hR hO hcr hI) (fun r5 S5 hp5 => ?_)
  obtain ⟨rfl, f0, how, hws0, hiv0, hon, hcw0, L, pvs, bss, hB0⟩ := hp5
  have hs0 : Sd S5 := hs.fr f0
  show Ok _ _ _ [] _ _
  refine r_aload_n (q := 9) dX12_isBeyond_8 rfl rfl rfl ?_
  refine r_iload_n (q := 10) dX12_isBeyond_9 rfl rfl rfl ?_
  refine r_callV (Mc := mX12_totals) (q := 13) (As := [zi (nI 0)]) (st := []) ck12 dX12_isBeyond_10 rfl rfl mkX12_totals wt1690 wt1692 wp91 rfl (Nat.le_of_ble_eq_true rfl) (Nat.le_of_ble_eq_true rfl) (by decide) (by decide) (by decide) (Or.inl rfl) (hs0.e (by decide)) (ok_totals_q hs0 (by omega) hW.2.1 ⟨hws0.1.1, hws0.1.2⟩) (fun r10 S10 hp10 => ?_)
  obtain ⟨rfl, f1, htt1⟩ := hp10
  have hs1 : Sd S10 := hs0.fr f1
  have hws1 : WS S10 W 0 := hws0.fr f1 (fun _ => rfl)
  have hB1 : RB S10 W 0 L pvs bss := ⟨(f1.1 _ _ _ rfl).trans hB0.1, hB0.2.1, hB0.2.2.1, fun _ => htt1, hB0.2.2.2.2.fr hW.2.1 f1 rfl (fun _ _ _ => ⟨rfl, rfl, rfl, rfl⟩) (fun _ _ _ => ⟨rfl, rfl, rfl⟩) (fun _ _ _ => rfl)⟩
  have hiv1 : IvI S10 := hiv0.fr f1 ⟨rfl, fun _ => rfl⟩
  have htn := htt1 n hn1 (by omega)
  show Ok _ _ _ [] _ _
  refine r_aload_n (q := 14) dX12_isBeyond_13 rfl rfl rfl ?_
  refine r_getr (q := 17) (some (1334, 0)) ck12 dX12_isBeyond_14 rfl (k := 34) (by decide) wt1312 rfl (hs1.e (by decide)) (hs1.r (by decide) (by decide)) ?_
  refine r_bipush (q := 19) (nI 11) dX12_isBeyond_17 rfl (by decide) ?_
  refine r_iload_n (q := 20) dX12_isBeyond_19 rfl rfl rfl ?_
  refine r_imulN (q := 21) dX12_isBeyond_20 rfl ?_
  refine r_iload_n (q := 22) dX12_isBeyond_21 rfl rfl rfl ?_
  refine r_iaddN (q := 23) dX12_isBeyond_22 rfl ?_
  refine r_topi (y := nI (11 * 0 + n)) rfl ?_
  refine r_laldN (q := 24) 22 (by decide) rfl dX12_isBeyond_23 rfl (hs1.e (by decide)) (hs1.n rfl (by decide)) (by omega) (by decide) ?_
  refine r_topl (y := lN (tc W n)) htn ?_
  refine r_ldc2 (q := 27) (300 : Int64) dX12_isBeyond_24 rfl wt1755 ?_
  refine r_topl (y := lN 300) rfl ?_
  refine r_lcmp (q := 28) dX12_isBeyond_27 rfl ?_
  refine r_if_le (q := 31) (t := 33) dX12_isBeyond_28 (by decide) rfl (fun h28 => ?_) (fun h28 => absurd h28 (fun z => z ((lcmp_le (by omega) (by omega)).mpr h3)))
  refine r_aload_n (q := 34) dX12_isBeyond_33 rfl rfl rfl ?_
  refine r_iload_n (q := 35) dX12_isBeyond_34 rfl rfl rfl ?_
  refine r_iload_n (q := 36) dX12_isBeyond_35 rfl rfl rfl ?_
  refine r_callV (Mc := mX12_settle) (q := 39) (As := [zi (nI 0), zi (nI n)]) (st := []) ck12 dX12_isBeyond_36 rfl rfl mkX12_settle wt1756 wt1758 wp100 rfl (Nat.le_of_ble_eq_true rfl) (Nat.le_of_ble_eq_true rfl) (by decide) (by decide) (by decide) (Or.inl rfl) (hs1.e (by decide)) (ok_settle hW (by omega) hn7 (fun k hk => tc_down hW.2.1 hn7 h3 hk) hs1 hws1 (hiv1 _ hW.1.1 hW.1.2.1) hB1) (fun r36 S36 hp36 => ?_)
  obtain ⟨rfl, f2, ⟨z3, z4⟩, L', pvs', bss', z5, z6, z7⟩ := hp36
  have hs2 : Sd S36 := hs1.fr f2
  show Ok _ _ _ [] _ _
  refine r_iconst (q := 40) (nI 0) dX12_isBeyond_39 rfl (by decide) ?_
  refine r_zreturn (by decide) dX12_isBeyond_40 rfl ?_
  have g1 : Fr (tSe 0) S5 S10 := f1.mono (fun x y k h => by simp [tSe, h])
  have g2 : Fr (tSe 0) S5 S36 := g1.tr f2
  exact ⟨(f0.mono tBy_ow).tr (g2.mono tBy_se), (g2.1 _ _ _ rfl).trans hon, fun _ k hk h3 => by rw [g2.1 1322 0 k rfl, g2.1 1306 0 k rfl]; exact hcw0 hon k hk h3, IvI.of hW.1.2.1 z3 z4, hws1.fr f2 (fun _ => rfl), L', pvs', bss', z5, Or.inr ⟨rfl, h3, z6⟩⟩

theorem ok_beyond0 {S : zS} (hs : Sd S) {W : zWd} (hW : Wok W) {n : Nat} (hn1 : 1 ≤ n) (hn7 : n ≤ 7) {n9 : Nat → Int64} (hR : wqR W (fun k => gI S 1306 0 k) n9) (hO : Cw S) (hcr : CR S W) (hI : IvI S) : Ok mX12_isBeyond 0 (ent 3 [zr 12 0, zi (nI 0), zi (nI n)]) [] S (fun r S1 => Fr tBy S S1 ∧ gI S1 12 0 33 = nI 1 ∧ Cw S1 ∧ IvI S1 ∧ WS S1 W 0 ∧ ∃ L pvs bss, RB S1 W 0 L pvs bss ∧ (r = some (zi (nI 1)) ∧ 300 < tc W n ∨ r = some (zi (nI 0)) ∧ tc W n ≤ 300 ∧ n ≤ L)) := by
  by_cases h3 : tc W n ≤ 300
  · exact ok_beyond0_n hs hW hn1 hn7 hR hO hcr hI h3
  · exact ok_beyond0_y hs hW hn1 hn7 hR hO hcr hI h3

set_option maxRecDepth 100000 in
theorem ok_beyond1_y {S : zS} (hs : Sd S) {W : zWd} (hW : Wok W) {n : Nat} (hn1 : 1 ≤ n) (hn7 : n ≤ 7) (hws : WS S W 1) {L : Nat} {pvs : Nat → Nat → Bool} {bss : Nat → Nat → Nat → Nat} (hB : RB S W 1 L pvs bss) (hI : IvI S) (h3 : ¬ tc W n ≤ 300) : Ok mX12_isBeyond 0 (ent 3 [zr 12 0, zi (nI 1), zi (nI n)]) [] S (fun r S1 => Fr (tSe 1) S S1 ∧ IvI S1 ∧ WS S1 W 1 ∧ ∃ L pvs bss, RB S1 W 1 L pvs bss ∧ (r = some (zi (nI 1)) ∧ 300 < tc W n ∨ r = some (zi (nI 0)) ∧ tc W n ≤ 300 ∧ n ≤ L)) := by
  have htb := tc_small hW.2.1 hn7
  show Ok mX12_isBeyond 0 [some (zr 12 0), some (zi (nI 1)), some (zi (nI n))] [] S _
  refine r_iload_n (q := 1) dX12_isBeyond_0 rfl rfl rfl ?_
  refine r_if_neN (q := 4) (t := 8) (by omega) dX12_isBeyond_1 (by decide) rfl (fun h1 => ?_) (fun h1 => absurd h1 (by omega))
  refine r_aload_n (q := 9) dX12_isBeyond_8 rfl rfl rfl ?_
  refine r_iload_n (q := 10) dX12_isBeyond_9 rfl rfl rfl ?_
  refine r_callV (Mc := mX12_totals) (q := 13) (As := [zi (nI 1)]) (st := []) ck12 dX12_isBeyond_10 rfl rfl mkX12_totals wt1690 wt1692 wp91 rfl (Nat.le_of_ble_eq_true rfl) (Nat.le_of_ble_eq_true rfl) (by decide) (by decide) (by decide) (Or.inl rfl) (hs.e (by decide)) (ok_totals_q hs (by omega) hW.2.1 ⟨hws.1.1, hws.1.2⟩) (fun r10 S10 hp10 => ?_)
  obtain ⟨rfl, f1, htt1⟩ := hp10
  have hs1 : Sd S10 := hs.fr f1
  have hws1 : WS S10 W 1 := hws.fr f1 (fun _ => rfl)
  have hB1 : RB S10 W 1 L pvs bss := ⟨(f1.1 _ _ _ rfl).trans hB.1, hB.2.1, hB.2.2.1, fun _ => htt1, hB.2.2.2.2.fr hW.2.1 f1 rfl (fun _ _ _ => ⟨rfl, rfl, rfl, rfl⟩) (fun _ _ _ => ⟨rfl, rfl, rfl⟩) (fun _ _ _ => rfl)⟩
  have hiv1 : IvI S10 := hI.fr f1 ⟨rfl, fun _ => rfl⟩
  have htn := htt1 n hn1 (by omega)
  show Ok _ _ _ [] _ _
  refine r_aload_n (q := 14) dX12_isBeyond_13 rfl rfl rfl ?_
  refine r_getr (q := 17) (some (1334, 0)) ck12 dX12_isBeyond_14 rfl (k := 34) (by decide) wt1312 rfl (hs1.e (by decide)) (hs1.r (by decide) (by decide)) ?_
  refine r_bipush (q := 19) (nI 11) dX12_isBeyond_17 rfl (by decide) ?_
  refine r_iload_n (q := 20) dX12_isBeyond_19 rfl rfl rfl ?_
  refine r_imulN (q := 21) dX12_isBeyond_20 rfl ?_
  refine r_iload_n (q := 22) dX12_isBeyond_21 rfl rfl rfl ?_
  refine r_iaddN (q := 23) dX12_isBeyond_22 rfl ?_
  refine r_topi (y := nI (11 * 1 + n)) rfl ?_
  refine r_laldN (q := 24) 22 (by decide) rfl dX12_isBeyond_23 rfl (hs1.e (by decide)) (hs1.n rfl (by decide)) (by omega) (by decide) ?_
  refine r_topl (y := lN (tc W n)) htn ?_
  refine r_ldc2 (q := 27) (300 : Int64) dX12_isBeyond_24 rfl wt1755 ?_
  refine r_topl (y := lN 300) rfl ?_
  refine r_lcmp (q := 28) dX12_isBeyond_27 rfl ?_
  refine r_if_le (q := 31) (t := 33) dX12_isBeyond_28 (by decide) rfl (fun h28 => absurd h28 (fun z => h3 ((lcmp_le (by omega) (by omega)).mp z))) (fun h28 => ?_)
  refine r_iconst (q := 32) (nI 1) dX12_isBeyond_31 rfl (by decide) ?_
  refine r_zreturn (by decide) dX12_isBeyond_32 rfl ?_
  have g1 : Fr (tSe 1) S S10 := f1.mono (fun x y k h => by simp [tSe, h])
  exact ⟨g1, hiv1, hws1, L, pvs, bss, hB1, Or.inl ⟨rfl, by omega⟩⟩

set_option maxRecDepth 100000 in
theorem ok_beyond1_n {S : zS} (hs : Sd S) {W : zWd} (hW : Wok W) {n : Nat} (hn1 : 1 ≤ n) (hn7 : n ≤ 7) (hws : WS S W 1) {L : Nat} {pvs : Nat → Nat → Bool} {bss : Nat → Nat → Nat → Nat} (hB : RB S W 1 L pvs bss) (hI : IvI S) (h3 : tc W n ≤ 300) : Ok mX12_isBeyond 0 (ent 3 [zr 12 0, zi (nI 1), zi (nI n)]) [] S (fun r S1 => Fr (tSe 1) S S1 ∧ IvI S1 ∧ WS S1 W 1 ∧ ∃ L pvs bss, RB S1 W 1 L pvs bss ∧ (r = some (zi (nI 1)) ∧ 300 < tc W n ∨ r = some (zi (nI 0)) ∧ tc W n ≤ 300 ∧ n ≤ L)) := by
  show Ok mX12_isBeyond 0 [some (zr 12 0), some (zi (nI 1)), some (zi (nI n))] [] S _
  refine r_iload_n (q := 1) dX12_isBeyond_0 rfl rfl rfl ?_
  refine r_if_neN (q := 4) (t := 8) (by omega) dX12_isBeyond_1 (by decide) rfl (fun h1 => ?_) (fun h1 => absurd h1 (by omega))
  refine r_aload_n (q := 9) dX12_isBeyond_8 rfl rfl rfl ?_
  refine r_iload_n (q := 10) dX12_isBeyond_9 rfl rfl rfl ?_
  refine r_callV (Mc := mX12_totals) (q := 13) (As := [zi (nI 1)]) (st := []) ck12 dX12_isBeyond_10 rfl rfl mkX12_totals wt1690 wt1692 wp91 rfl (Nat.le_of_ble_eq_true rfl) (Nat.le_of_ble_eq_true rfl) (by decide) (by decide) (by decide) (Or.inl rfl) (hs.e (by decide)) (ok_totals_q hs (by omega) hW.2.1 ⟨hws.1.1, hws.1.2⟩) (fun r10 S10 hp10 => ?_)
  obtain ⟨rfl, f1, htt1⟩ := hp10
  have hs1 : Sd S10 := hs.fr f1
  have hws1 : WS S10 W 1 := hws.fr f1 (fun _ => rfl)
  have hB1 : RB S10 W 1 L pvs bss := ⟨(f1.1 _ _ _ rfl).trans hB.1, hB.2.1, hB.2.2.1, fun _ => htt1, hB.2.2.2.2.fr hW.2.1 f1 rfl (fun _ _ _ => ⟨rfl, rfl, rfl, rfl⟩) (fun _ _ _ => ⟨rfl, rfl, rfl⟩) (fun _ _ _ => rfl)⟩
  have hiv1 : IvI S10 := hI.fr f1 ⟨rfl, fun _ => rfl⟩
  have htn := htt1 n hn1 (by omega)
  show Ok _ _ _ [] _ _
  refine r_aload_n (q := 14) dX12_isBeyond_13 rfl rfl rfl ?_
  refine r_getr (q := 17) (some (1334, 0)) ck12 dX12_isBeyond_14 rfl (k := 34) (by decide) wt1312 rfl (hs1.e (by decide)) (hs1.r (by decide) (by decide)) ?_
  refine r_bipush (q := 19) (nI 11) dX12_isBeyond_17 rfl (by decide) ?_
  refine r_iload_n (q := 20) dX12_isBeyond_19 rfl rfl rfl ?_
  refine r_imulN (q := 21) dX12_isBeyond_20 rfl ?_
  refine r_iload_n (q := 22) dX12_isBeyond_21 rfl rfl rfl ?_
  refine r_iaddN (q := 23) dX12_isBeyond_22 rfl ?_
  refine r_topi (y := nI (11 * 1 + n)) rfl ?_
  refine r_laldN (q := 24) 22 (by decide) rfl dX12_isBeyond_23 rfl (hs1.e (by decide)) (hs1.n rfl (by decide)) (by omega) (by decide) ?_
  refine r_topl (y := lN (tc W n)) htn ?_
  refine r_ldc2 (q := 27) (300 : Int64) dX12_isBeyond_24 rfl wt1755 ?_
  refine r_topl (y := lN 300) rfl ?_
  refine r_lcmp (q := 28) dX12_isBeyond_27 rfl ?_
  refine r_if_le (q := 31) (t := 33) dX12_isBeyond_28 (by decide) rfl (fun h28 => ?_) (fun h28 => absurd h28 (fun z => z ((lcmp_le (by omega) (by omega)).mpr h3)))
  refine r_aload_n (q := 34) dX12_isBeyond_33 rfl rfl rfl ?_
  refine r_iload_n (q := 35) dX12_isBeyond_34 rfl rfl rfl ?_
  refine r_iload_n (q := 36) dX12_isBeyond_35 rfl rfl rfl ?_
  refine r_callV (Mc := mX12_settle) (q := 39) (As := [zi (nI 1), zi (nI n)]) (st := []) ck12 dX12_isBeyond_36 rfl rfl mkX12_settle wt1756 wt1758 wp100 rfl (Nat.le_of_ble_eq_true rfl) (Nat.le_of_ble_eq_true rfl) (by decide) (by decide) (by decide) (Or.inl rfl) (hs1.e (by decide)) (ok_settle hW (by omega) hn7 (fun k hk => tc_down hW.2.1 hn7 h3 hk) hs1 hws1 (hiv1 _ hW.1.1 hW.1.2.1) hB1) (fun r36 S36 hp36 => ?_)
  obtain ⟨rfl, f2, ⟨z3, z4⟩, L', pvs', bss', z5, z6, z7⟩ := hp36
  have hs2 : Sd S36 := hs1.fr f2
  show Ok _ _ _ [] _ _
  refine r_iconst (q := 40) (nI 0) dX12_isBeyond_39 rfl (by decide) ?_
  refine r_zreturn (by decide) dX12_isBeyond_40 rfl ?_
  have g1 : Fr (tSe 1) S S10 := f1.mono (fun x y k h => by simp [tSe, h])
  exact ⟨g1.tr f2, IvI.of hW.1.2.1 z3 z4, hws1.fr f2 (fun _ => rfl), L', pvs', bss', z5, Or.inr ⟨rfl, h3, z6⟩⟩

theorem ok_beyond1 {S : zS} (hs : Sd S) {W : zWd} (hW : Wok W) {n : Nat} (hn1 : 1 ≤ n) (hn7 : n ≤ 7) (hws : WS S W 1) {L : Nat} {pvs : Nat → Nat → Bool} {bss : Nat → Nat → Nat → Nat} (hB : RB S W 1 L pvs bss) (hI : IvI S) : Ok mX12_isBeyond 0 (ent 3 [zr 12 0, zi (nI 1), zi (nI n)]) [] S (fun r S1 => Fr (tSe 1) S S1 ∧ IvI S1 ∧ WS S1 W 1 ∧ ∃ L pvs bss, RB S1 W 1 L pvs bss ∧ (r = some (zi (nI 1)) ∧ 300 < tc W n ∨ r = some (zi (nI 0)) ∧ tc W n ≤ 300 ∧ n ≤ L)) := by
  by_cases h3 : tc W n ≤ 300
  · exact ok_beyond1_n hs hW hn1 hn7 hws hB hI h3
  · exact ok_beyond1_y hs hW hn1 hn7 hws hB hI h3

set_option maxRecDepth 100000 in
theorem ok_sizeOf {S : zS} (hs : Sd S) {q n rk m : Nat} (hq : q ≤ 1) (hn7 : n ≤ 7) (hrk : rk ≤ m) (h6 : gI S 1326 0 (8 * q + n) = nI rk) (h4 : gI S 1324 0 (8 * q + n) = nI m) : Ok mX12_sizeOf 0 (ent 3 [zr 12 0, zi (nI q), zi (nI n)]) [] S (fun r S1 => r = some (zi (nI (m - rk))) ∧ S1 = S) := by
  show Ok mX12_sizeOf 0 [some (zr 12 0), some (zi (nI q)), some (zi (nI n))] [] S _
  refine r_aload_n (q := 1) dX12_sizeOf_0 rfl rfl rfl ?_
  refine r_getr (q := 4) (some (1324, 0)) ck12 dX12_sizeOf_1 rfl (k := 24) (by decide) wt1302 rfl (hs.e (by decide)) (hs.r (by decide) (by decide)) ?_
  refine r_bipush (q := 6) (nI 8) dX12_sizeOf_4 rfl (by decide) ?_
  refine r_iload_n (q := 7) dX12_sizeOf_6 rfl rfl rfl ?_
  refine r_imulN (q := 8) dX12_sizeOf_7 rfl ?_
  refine r_iload_n (q := 9) dX12_sizeOf_8 rfl rfl rfl ?_
  refine r_iaddN (q := 10) dX12_sizeOf_9 rfl ?_
  refine r_ialdN (q := 11) 16 (by decide) rfl dX12_sizeOf_10 rfl (hs.e (by decide)) (hs.n rfl (by decide)) (by omega) (by decide) ?_
  refine r_topi (y := nI m) h4 ?_
  refine r_aload_n (q := 12) dX12_sizeOf_11 rfl rfl rfl ?_
  refine r_getr (q := 15) (some (1326, 0)) ck12 dX12_sizeOf_12 rfl (k := 26) (by decide) wt1304 rfl (hs.e (by decide)) (hs.r (by decide) (by decide)) ?_
  refine r_bipush (q := 17) (nI 8) dX12_sizeOf_15 rfl (by decide) ?_
  refine r_iload_n (q := 18) dX12_sizeOf_17 rfl rfl rfl ?_
  refine r_imulN (q := 19) dX12_sizeOf_18 rfl ?_
  refine r_iload_n (q := 20) dX12_sizeOf_19 rfl rfl rfl ?_
  refine r_iaddN (q := 21) dX12_sizeOf_20 rfl ?_
  refine r_ialdN (q := 22) 16 (by decide) rfl dX12_sizeOf_21 rfl (hs.e (by decide)) (hs.n rfl (by decide)) (by omega) (by decide) ?_
  refine r_topi (y := nI rk) h6 ?_
  refine r_isubN (q := 23) (by omega) dX12_sizeOf_22 rfl ?_
  refine r_ireturn dX12_sizeOf_23 rfl ?_
  exact ⟨rfl, rfl⟩

