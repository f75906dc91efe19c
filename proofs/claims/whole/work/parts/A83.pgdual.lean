/-! PAIR dual -/
def tDc (cc s a b k : Nat) : Prop := tRe cc a b k ∨ tMk s a b k ∨ tFo s a b k = true ∨ a = 11 ∧ b = 0 ∧ (k = 3 ∨ k = 10) ∨ a = 7 ∧ b = 0 ∧ k = 0 ∨ a = 801 ∧ b = 0
theorem tFo_n {s a b k : Nat} (h : tFo s a b k = true) : a = 1009 ∧ b = s ∨ a = 11010 ∨ b = s ∧ (a = 0 ∧ (k = 2 ∨ k = 12) ∨ a = 109) := by
  simp [tFo, tCt] at h
  omega
/-- what the class's dual leaves -/
def DcR (S S1 : zS) (cc s : Nat) (W : zWd) (mk : Nat → Bool) (R : Nat → Nat → Nat) : Prop := IsD W mk R ∧ Fg (tDc cc s) S S1 ∧ WC S1 s (dW W mk R) ∧ Tcs S1 s (dW W mk R) ∧ (gI S1 0 s 2 = nI 0 ∧ gI S1 0 s 12 = nI 0 ∧ ∀ k, k < 8 → gI S1 109 s k = -1) ∧ gI S1 11 0 3 = nI s ∧ (gI S1 7 0 0 = nI 1 ∧ ∀ k, k < 729 → gI S1 801 0 k = nI 0) ∧ gI S1 11 0 10 = nI 0 ∧ TL S1 11 ∧ ∃ n mk rl, CB S1 cc W n mk rl
theorem qd300 {W : zWd} (hW : Wok W) (hQ : Qd W) : tc W 3 ≤ 300 := by
  have hA := hW.2.1.1
  rw [tc_3 hQ]
  exact Nat.le_trans (Nat.mul_le_mul hA (Nat.mul_le_mul_left 2 hA)) (by omega)

set_option maxRecDepth 100000 in
theorem cm_dual_n {S : zS} (hs : Sd S) {W : zWd} (hW : Wok W) {cc : Nat} (hcc : gI S 11 0 3 = nI cc) (hc4 : cc < 4) (hc : WC S cc W) (hQ : ¬ Qd W) : Ok mX11_dual 0 (ent 3 [zr 11 0]) [] S (fun r S1 => r = some (zi (-1)) ∧ S1 = S) := by
  show Ok mX11_dual 0 [some (zr 11 0), none, none] [] S _
  refine r_aload_n (q := 1) dX11_dual_0 rfl rfl rfl ?_
  refine r_callV (Mc := mX11_basisHere) (q := 4) (As := []) (st := []) ck11 dX11_dual_1 rfl rfl mkX11_basisHere wt766 wt768 wp27 rfl (Nat.le_of_ble_eq_true rfl) (Nat.le_of_ble_eq_true rfl) (by decide) (by decide) (by decide) (Or.inl rfl) (hs.e (by decide)) (ok_basisHere hs hcc hc4) (fun r1 S1 hp1 => ?_)
  obtain ⟨rfl, hq1⟩ := hp1
  rw [hq1]
  show Ok _ _ _ [zr 0 cc] _ _
  refine r_astore_n (q := 5) (L' := [some (zr 11 0), some (zr 0 cc), none]) dX11_dual_4 rfl rfl (by decide) rfl ?_
  refine r_aload_n (q := 6) dX11_dual_5 rfl rfl rfl ?_
  refine r_getr (q := 9) (some (9, cc)) ck0 dX11_dual_6 rfl (k := 0) (by decide) wt377 rfl (hs.e (show cc < 4 by omega)) (hs.r (show cc < 4 by omega) (by decide)) ?_
  refine r_callV (Mc := mX9_hasDual) (q := 12) (As := []) (st := []) ck9 dX11_dual_9 rfl rfl mkX9_hasDual wt975 wt976 wt977 rfl (Nat.le_of_ble_eq_true rfl) (Nat.le_of_ble_eq_true rfl) (by decide) (by decide) (by decide) (Or.inl rfl) (hs.e (show cc < 4 by omega)) (ok_X9_hasDual hs hW hc4 hc) (fun r9 S9 hp9 => ?_)
  obtain ⟨hq9, v, v1, rfl, v2⟩ := hp9
  rw [hq9]
  obtain rfl : v = 0 := by have hv1 : v ≠ 1 := fun z => hQ (v2.mp z); omega
  show Ok _ _ _ [zi (nI 0)] _ _
  refine r_if_eqN (q := 15) (t := 23) (by omega) dX11_dual_12 (by decide) rfl (fun h12 => ?_) (fun h12 => absurd h12 (by omega))
  refine r_iconst (q := 24) ((-1 : Int32)) dX11_dual_23 rfl (by decide) ?_
  refine r_ireturn dX11_dual_24 rfl ?_
  exact ⟨rfl, rfl⟩

set_option maxRecDepth 100000 in
theorem cm_dual_y {S : zS} (hs : Sd S) {W : zWd} (hW : Wok W) {cc : Nat} (hcc : gI S 11 0 3 = nI cc) (hc4 : cc < 4) (hc : WC S cc W) (hQ : Qd W) (hT : Tcs S cc W) {n0 : Nat} {mk0 : Nat → Nat → Nat} {rl0 : Nat → Nat → Nat → Nat} (hB : CB S cc W n0 mk0 rl0) (hTL : TL S 11) (h6 : ∀ s, s < 4 → gI S 1006 s 0 = nI 0) : Ok mX11_dual 0 (ent 3 [zr 11 0]) [] S (fun r S1 => ∃ s mk R, s < 4 ∧ s ≠ cc ∧ nI s ≠ gI S 1204 0 0 ∧ nI s ≠ gI S 1204 0 1 ∧ r = some (zi (nI (wL (dW W mk R)))) ∧ DcR S S1 cc s W mk R) := by
  show Ok mX11_dual 0 [some (zr 11 0), none, none] [] S _
  refine r_aload_n (q := 1) dX11_dual_0 rfl rfl rfl ?_
  refine r_callV (Mc := mX11_basisHere) (q := 4) (As := []) (st := []) ck11 dX11_dual_1 rfl rfl mkX11_basisHere wt766 wt768 wp27 rfl (Nat.le_of_ble_eq_true rfl) (Nat.le_of_ble_eq_true rfl) (by decide) (by decide) (by decide) (Or.inl rfl) (hs.e (by decide)) (ok_basisHere hs hcc hc4) (fun r1 S1 hp1 => ?_)
  obtain ⟨rfl, hq1⟩ := hp1
  rw [hq1]
  show Ok _ _ _ [zr 0 cc] _ _
  refine r_astore_n (q := 5) (L' := [some (zr 11 0), some (zr 0 cc), none]) dX11_dual_4 rfl rfl (by decide) rfl ?_
  refine r_aload_n (q := 6) dX11_dual_5 rfl rfl rfl ?_
  refine r_getr (q := 9) (some (9, cc)) ck0 dX11_dual_6 rfl (k := 0) (by decide) wt377 rfl (hs.e (show cc < 4 by omega)) (hs.r (show cc < 4 by omega) (by decide)) ?_
  refine r_callV (Mc := mX9_hasDual) (q := 12) (As := []) (st := []) ck9 dX11_dual_9 rfl rfl mkX9_hasDual wt975 wt976 wt977 rfl (Nat.le_of_ble_eq_true rfl) (Nat.le_of_ble_eq_true rfl) (by decide) (by decide) (by decide) (Or.inl rfl) (hs.e (show cc < 4 by omega)) (ok_X9_hasDual hs hW hc4 hc) (fun r9 S9 hp9 => ?_)
  obtain ⟨hq9, v, v1, rfl, v2⟩ := hp9
  rw [hq9]
  obtain rfl : v = 1 := by exact v2.mpr hQ
  show Ok _ _ _ [zi (nI 1)] _ _
  refine r_if_eqN (q := 15) (t := 23) (by omega) dX11_dual_12 (by decide) rfl (fun h12 => absurd h12 (by omega)) (fun h12 => ?_)
  refine r_aload_n (q := 16) dX11_dual_15 rfl rfl rfl ?_
  refine r_iconst (q := 17) (nI 3) dX11_dual_16 rfl (by decide) ?_
  refine r_callV (Mc := mX0_reach) (q := 20) (As := [zi (nI 3)]) (st := []) ck0 dX11_dual_17 rfl rfl mkX0_reach wt770 wt771 wt772 rfl (Nat.le_of_ble_eq_true rfl) (Nat.le_of_ble_eq_true rfl) (by decide) (by decide) (by decide) (Or.inr ⟨Nat.le_of_ble_eq_true rfl, rfl, rfl⟩) (hs.e (show cc < 4 by omega)) (ok_reach_y hs hW hc4 (by omega) (by omega) hc hT hB (qd300 hW hQ)) (fun r17 S17 hp17 => ?_)
  obtain ⟨rfl, f1, hc1, n1, mk1, rl1, hB1, hn1⟩ := hp17
  have hs1 := f1.sd
  have hcc1 : gI S17 11 0 3 = nI cc := (f1.I (by omega) (by unfold tRe; omega)).trans hcc
  have hTL1 : TL S17 11 := hTL.cong (f1.N (by omega) (by unfold tRe; omega)) (f1.N (by omega) (by unfold tRe; omega)) (f1.I (by omega) (by unfold tRe; omega))
  have hLx := (hB1.2.2.2.1 3 (by omega) hn1).1
  show Ok _ _ _ [zi (nI 1)] _ _
  refine r_if_neN (q := 23) (t := 25) (by omega) dX11_dual_20 (by decide) rfl (fun h20 => ?_) (fun h20 => absurd h20 (by omega))
  refine r_aload_n (q := 26) dX11_dual_25 rfl rfl rfl ?_
  refine r_callV (Mc := mX11_freeSlot) (q := 29) (As := []) (st := []) ck11 dX11_dual_26 rfl rfl mkX11_freeSlot wt499 wt501 wp1 rfl (Nat.le_of_ble_eq_true rfl) (Nat.le_of_ble_eq_true rfl) (by decide) (by decide) (by decide) (Or.inl rfl) (hs1.e (by decide)) (ok_freeSlot hs1 hcc1 hc4) (fun r26 S26 hp26 => ?_)
  obtain ⟨⟨s, hs4, rfl, hsc, hk0, hk1⟩, hq26⟩ := hp26
  rw [hq26]
  have e0 : gI S17 1204 0 0 = gI S 1204 0 0 := f1.I (by omega) (by unfold tRe; omega)
  have e1 : gI S17 1204 0 1 = gI S 1204 0 1 := f1.I (by omega) (by unfold tRe; omega)
  rw [e0] at hk0
  rw [e1] at hk1
  have h61 : gI S17 1006 s 0 = nI 0 := (f1.I (by omega) (by unfold tRe; omega)).trans (h6 s hs4)
  show Ok _ _ _ [zi (nI s)] _ _
  refine r_istore_n (q := 30) (L' := [some (zr 11 0), some (zr 0 cc), some (zi (nI s))]) dX11_dual_29 rfl rfl (by decide) rfl ?_
  refine r_aload_n (q := 31) dX11_dual_30 rfl rfl rfl ?_
  refine r_getr (q := 34) (some (2, 0)) ck11 dX11_dual_31 rfl (k := 19) (by decide) wt441 rfl (hs1.e (by decide)) (hs1.r (by decide) (by decide)) ?_
  refine r_aload_n (q := 35) dX11_dual_34 rfl rfl rfl ?_
  refine r_aload_n (q := 36) dX11_dual_35 rfl rfl rfl ?_
  refine r_getr (q := 39) (some (1202, 0)) ck11 dX11_dual_36 rfl (k := 2) (by decide) wt424 rfl (hs1.e (by decide)) (hs1.r (by decide) (by decide)) ?_
  refine r_iload_n (q := 40) dX11_dual_39 rfl rfl rfl ?_
  refine r_aaldN (q := 41) (some (0, s)) 4 (by decide) (by decide) (by decide) dX11_dual_40 rfl (hs1.e (by decide)) (hs1.n rfl (by decide)) (show s < 4 by omega) (by decide) ((hs1.r (by decide) (show s < 4 by omega)).trans (if_pos (show s < 4 by omega))) ?_
  refine r_getr (q := 44) (some (9, s)) ck0 dX11_dual_41 rfl (k := 0) (by decide) wt377 rfl (hs1.e (show s < 4 by omega)) (hs1.r (show s < 4 by omega) (by decide)) ?_
  refine r_aload_n (q := 45) dX11_dual_44 rfl rfl rfl ?_
  refine r_getr (q := 48) (some (8, 11)) ck11 dX11_dual_45 rfl (k := 12) (by decide) wt434 rfl (hs1.e (by decide)) (hs1.r (by decide) (by decide)) ?_
  refine r_callV (Mc := mX2_make) (q := 51) (As := [zr 0 cc, zr 9 s, zr 8 11]) (st := []) ck2 dX11_dual_48 rfl rfl mkX2_make wt979 wt980 wt981 rfl (Nat.le_of_ble_eq_true rfl) (Nat.le_of_ble_eq_true rfl) (by decide) (by decide) (by decide) (Or.inr ⟨Nat.le_of_ble_eq_true rfl, rfl, rfl⟩) (hs1.e (by decide)) (ok_make hs1 hW hQ hc4 hs4 (fun z => hsc z.symm) hc1 hLx h61 hTL1) (fun r48 S48 hp48 => ?_)
  obtain ⟨rfl, mk, R, hD, f2, hw2, hTL2⟩ := hp48
  have hs2 := f2.sd
  have hWd := dW_ok hW hQ hD
  show Ok _ _ _ [] _ _
  refine r_aload_n (q := 52) dX11_dual_51 rfl rfl rfl ?_
  refine r_getr (q := 55) (some (1202, 0)) ck11 dX11_dual_52 rfl (k := 2) (by decide) wt424 rfl (f2.sd.e (by decide)) (f2.sd.r (by decide) (by decide)) ?_
  refine r_iload_n (q := 56) dX11_dual_55 rfl rfl rfl ?_
  refine r_aaldN (q := 57) (some (0, s)) 4 (by decide) (by decide) (by decide) dX11_dual_56 rfl (f2.sd.e (by decide)) (f2.sd.n rfl (by decide)) (show s < 4 by omega) (by decide) ((f2.sd.r (by decide) (show s < 4 by omega)).trans (if_pos (show s < 4 by omega))) ?_
  refine r_callV (Mc := mX0_forget) (q := 60) (As := []) (st := []) ck0 dX11_dual_57 rfl rfl mkX0_forget wt656 wt657 wt658 rfl (Nat.le_of_ble_eq_true rfl) (Nat.le_of_ble_eq_true rfl) (by decide) (by decide) (by decide) (Or.inl rfl) (f2.sd.e (show s < 4 by omega)) (ok_forget (W := dW W mk R) hs2 hs4 hWd.2.1 hw2.2.1 (fun a ha => (hw2.2.2.2.1 a ha).1)) (fun r57 S57 hp57 => ?_)
  obtain ⟨rfl, f3, hCf, g1, g2, g3⟩ := hp57
  have hs3 : Sd S57 := hs2.fr f3
  show Ok _ _ _ [] _ _
  refine r_aload_n (q := 61) dX11_dual_60 rfl rfl rfl ?_
  refine r_iload_n (q := 62) dX11_dual_61 rfl rfl rfl ?_
  refine r_puti (q := 65) ck11 dX11_dual_62 rfl (k := 3) (by decide) wt425 (Or.inl rfl) rfl (hs3.e (by decide)) ?_
  refine r_aload_n (q := 66) dX11_dual_65 rfl rfl rfl ?_
  refine r_getr (q := 69) (some (7, 0)) ck11 dX11_dual_66 rfl (k := 5) (by decide) wt427 rfl (hs3.e (by decide)) (hs3.r (by decide) (by decide)) ?_
  refine r_iconst (q := 70) (nI 1) dX11_dual_69 rfl (by decide) ?_
  refine r_callV (Mc := mX7_clear) (q := 73) (As := [zi (nI 1)]) (st := []) ck7 dX11_dual_70 rfl rfl mkX7_clear wt664 wt665 wt666 rfl (Nat.le_of_ble_eq_true rfl) (Nat.le_of_ble_eq_true rfl) (by decide) (by decide) (by decide) (Or.inl rfl) (hs3.e (by decide)) (ok_X7_clear (S := sI S57 11 0 3 (nI s)) hs3 (j := 0) (by decide) (nI 1)) (fun r70 S70 hp70 => ?_)
  obtain ⟨rfl, hq70⟩ := hp70
  rw [hq70]
  show Ok _ _ _ [] _ _
  refine r_aload_n (q := 74) dX11_dual_73 rfl rfl rfl ?_
  refine r_iconst (q := 75) (nI 0) dX11_dual_74 rfl (by decide) ?_
  refine r_puti (q := 78) ck11 dX11_dual_75 rfl (k := 10) (by decide) wt432 (Or.inl rfl) rfl (hs3.e (by decide)) ?_
  refine r_aload_n (q := 79) dX11_dual_78 rfl rfl rfl ?_
  refine r_callV (Mc := mX11_worldHere) (q := 82) (As := []) (st := []) ck11 dX11_dual_79 rfl rfl mkX11_worldHere wt678 wt680 wp20 rfl (Nat.le_of_ble_eq_true rfl) (Nat.le_of_ble_eq_true rfl) (by decide) (by decide) (by decide) (Or.inl rfl) (hs3.e (by decide)) (ok_X11_worldHere (S := sI (flS (sI (sI S57 11 0 3 (nI s)) 7 0 0 (nI 1)) 801 0 0 729 (nI 0)) 11 0 10 (nI 0)) hs3 (c := s) (by rw [gI_sI, if_neg (by omega), gI_flS, if_neg (by omega), gI_sI, if_neg (by omega), gI_sI, if_pos ⟨rfl, rfl, rfl⟩]) hs4) (fun r79 S79 hp79 => ?_)
  obtain ⟨rfl, hq79⟩ := hp79
  rw [hq79]
  have gx : ∀ a b k, ¬ (a = 11 ∧ b = 0 ∧ (k = 3 ∨ k = 10)) → ¬ (a = 7 ∧ b = 0 ∧ k = 0) → ¬ (a = 801 ∧ b = 0) → gI (sI (flS (sI (sI S57 11 0 3 (nI s)) 7 0 0 (nI 1)) 801 0 0 729 (nI 0)) 11 0 10 (nI 0)) a b k = gI S57 a b k := fun a b k a1 a2 a3 => by rw [gI_sI, if_neg (by omega), gI_flS, if_neg (by omega), gI_sI, if_neg (by omega), gI_sI, if_neg (by omega)]
  have hw3 : WC S57 s (dW W mk R) := hw2.fr f3 (fun a k ha => by simp [tFo, tCt]; omega)
  have h94 : gI (sI (flS (sI (sI S57 11 0 3 (nI s)) 7 0 0 (nI 1)) 801 0 0 729 (nI 0)) 11 0 10 (nI 0)) 9 s 4 = nI (wL (dW W mk R)) := (gx _ _ _ (by omega) (by omega) (by omega)).trans hw3.2.2.1
  show Ok _ _ _ [zr 9 s] _ _
  refine r_geti (q := 85) ck9 dX11_dual_82 rfl (k := 4) (by decide) wt316 (Or.inl rfl) (hs3.e (show s < 4 by omega)) ?_
  refine r_topi (y := nI (wL (dW W mk R))) h94 ?_
  refine r_ireturn dX11_dual_85 rfl ?_
  have gf : Fg (fun a b k => a = 11 ∧ b = 0 ∧ (k = 3 ∨ k = 10) ∨ a = 7 ∧ b = 0 ∧ k = 0 ∨ a = 801 ∧ b = 0) S57 (sI (flS (sI (sI S57 11 0 3 (nI s)) 7 0 0 (nI 1)) 801 0 0 729 (nI 0)) 11 0 10 (nI 0)) := Fg.of22 hs3 rfl (fun a b k _ z => gx a b k (by omega) (by omega) (by omega)) (fun _ _ _ _ _ => rfl)
  have f3g : Fg (fun a b k => tFo s a b k = true) S48 S57 := f3.fg hs2 (fun _ _ _ z => z)
  have ga : Fg (tDc cc s) S (sI (flS (sI (sI S57 11 0 3 (nI s)) 7 0 0 (nI 1)) 801 0 0 729 (nI 0)) 11 0 10 (nI 0)) := (((f1.mono fun _ _ _ z => Or.inl z).tr (f2.mono fun _ _ _ z => Or.inr (Or.inl z))).tr (f3g.mono fun _ _ _ z => Or.inr (Or.inr (Or.inl z)))).tr (gf.mono fun _ _ _ z => Or.inr (Or.inr (Or.inr z)))
  have hBe : CB (sI (flS (sI (sI S57 11 0 3 (nI s)) 7 0 0 (nI 1)) 801 0 0 729 (nI 0)) 11 0 10 (nI 0)) cc W n1 mk1 rl1 := ((hB1.fg f2 ⟨by unfold tMk; omega, fun x k a b => by unfold tMk; omega⟩).fg f3g ⟨fun z => by have := tFo_n z; omega, fun x k a b z => by have := tFo_n z; omega⟩).fg gf ⟨by omega, fun x k a b => by omega⟩
  refine ⟨s, mk, R, hs4, hsc, hk0, hk1, rfl, hD, ga, hw3.fg gf (fun a k ha => by omega), fun m a b => (hCf m a (by omega)).1, ⟨(gx _ _ _ (by omega) (by omega) (by omega)).trans g1, (gx _ _ _ (by omega) (by omega) (by omega)).trans g2, fun k hk => (gx _ _ _ (by omega) (by omega) (by omega)).trans (g3 k hk)⟩, ?_, ⟨?_, fun k hk => ?_⟩, ?_, ?_, n1, mk1, rl1, hBe⟩
  · rw [gI_sI, if_neg (by omega), gI_flS, if_neg (by omega), gI_sI, if_neg (by omega), gI_sI, if_pos ⟨rfl, rfl, rfl⟩]
  · rw [gI_sI, if_neg (by omega), gI_flS, if_neg (by omega), gI_sI, if_pos ⟨rfl, rfl, rfl⟩]
  · rw [gI_sI, if_neg (by omega), gI_flS, if_pos ⟨rfl, rfl, Nat.zero_le _, hk⟩]
  · rw [gI_sI, if_pos ⟨rfl, rfl, rfl⟩]
  · exact hTL2.cong (gN_22 f3.2.2) (gN_22 f3.2.2) ((gx _ _ _ (by omega) (by omega) (by omega)).trans (f3.1 _ _ _ (by simp [tFo, tCt])))

def tDu (cc s a b k : Nat) : Prop := tDc cc s a b k ∨ tDv a b k = true
theorem tDv_n {a b k : Nat} (h : tDv a b k = true) : b = 0 ∧ (a = 12 ∨ a = 1306 ∧ k < 1173 ∨ a = 1307 ∨ 1316 ≤ a ∧ a ≤ 1366) := by
  simp [tDv, tMd2, tOw, tSe, tTq, tPt, tPa, tIv, t07, tEq, t06] at h
  omega
/-- what dual leaves -/
def DuP (S S2 : zS) (cc : Nat) (W : zWd) : Prop := ∃ s mk R, s < 4 ∧ s ≠ cc ∧ nI s ≠ gI S 1204 0 0 ∧ nI s ≠ gI S 1204 0 1 ∧ IsD W mk R ∧ Fg (tDu cc s) S S2 ∧ gI S2 11 0 3 = nI s ∧ WR wq S2 (dW W mk R) s 1306 0 1308 0 ∧ (gI S2 0 s 2 = nI 0 ∧ gI S2 0 s 12 = nI 0 ∧ ∀ k, k < 8 → gI S2 109 s k = -1) ∧ (gI S2 7 0 0 = nI 1 ∧ gI S2 1306 0 3 = nI 1 ∧ ∀ k, k < 729 → gI S2 801 0 k = nI 0 ∧ gI S2 1306 0 (444 + k) = nI 0) ∧ gI S2 11 0 10 = nI 0 ∧ gI S2 12 0 58 = nI 0 ∧ gI S2 12 0 33 = -1 ∧ IvI S2 ∧ TL S2 11 ∧ ∃ n mk rl, CB S2 cc W n mk rl
theorem pg_dual {S : zS} (hs : Sd S) {W : zWd} {cc : Nat} (hcc : gI S 11 0 3 = nI cc) (hc4 : cc < 4) (hw : WR wq S W cc 1306 0 1308 0) (hb : BsC S cc W) (hTL : TLs S) (h6 : ∀ s, s < 4 → gI S 1006 s 0 = nI 0) : Pg mX11_dual 3 [zr 11 0] mX12_dual 2 [zr 12 0] S (fun S2 => S2 = sI S 12 0 0 (nI 0) ∨ DuP S S2 cc W) := by
  obtain ⟨hW, hC, hR⟩ := hw.c
  obtain ⟨hc, hT⟩ := wq_WC hC
  obtain ⟨⟨n0, mk0, rl0, hB⟩, hcr, hO, hI⟩ := hb
  by_cases hQ : Qd W
  · refine Ok.mono (cm_dual_y hs hW hcc hc4 hc hQ hT hB (hTL 11 (by omega)) h6) fun r S1 z => ?_
    obtain ⟨s, mk, R, hs4, hsc, hk0, hk1, rfl, hD, f1, hw1, hT1, hfo, h3, htb, h10, hTL1, n1, mk1, rl1, hB1⟩ := z
    have e16 : ∀ a k, 12 ≤ a → a < 100 ∨ 1300 ≤ a ∧ a < 10000 → gI S1 a 0 k = gI S a 0 k := fun a k a1 a2 => f1.I (by omega) (fun z => by
      rcases z with z | z | z | z
      · unfold tRe at z; omega
      · unfold tMk at z; omega
      · have := tFo_n z; omega
      · omega)
    have eJ : ∀ k, gJ S1 1308 0 k = gJ S 1308 0 k := fun k => f1.J (by omega) (fun z => by
      rcases z with z | z | z | z
      · unfold tRe at z; omega
      · unfold tMk at z; omega
      · have := tFo_n z; omega
      · omega)
    have eJ4 : ∀ k, gJ S1 1334 0 k = gJ S 1334 0 k := fun k => f1.J (by omega) (fun z => by
      rcases z with z | z | z | z
      · unfold tRe at z; omega
      · unfold tMk at z; omega
      · have := tFo_n z; omega
      · omega)
    have rc : RcI S S1 := ⟨e16 _ _ (by omega) (by omega), e16 _ _ (by omega) (by omega), fun x k a b => e16 _ _ (by omega) (by omega), eJ4, fun k hk => e16 _ _ (by omega) (by omega)⟩
    have hR1 : wqR W (fun k => gI S1 1306 0 k) (fun i => gJ S 1308 0 i) := wqR.cong hW (fun k _ _ => (e16 _ _ (by omega) (by omega)).symm) (fun _ _ => rfl) hR
    refine ⟨_, rfl, f1.sd, Ok.mono (rm_dual_y f1.sd hW hR1 hQ ((rc.rc (W := W)).2.1 hO) (rc.rc.1 hcr) ((rc.rc (W := W)).2.2 hI)) fun r2 S2 y => ?_⟩
    obtain ⟨mk', R', hD', rfl, f2, hw2, y3, yz, y33, y58, yI⟩ := y
    have eW : dW W mk' R' = dW W mk R := hD'.uniq hW hD
    rw [eW] at hw2 ⊢
    have hWd := dW_ok hW hQ hD
    have f2g : Fg (fun a b k => tDv a b k = true) S1 S2 := f2.fg f1.sd (fun _ _ _ z => z)
    have e2 : ∀ a b k, ¬ (b = 0 ∧ (a = 12 ∨ a = 1306 ∨ a = 1307 ∨ 1316 ≤ a ∧ a ≤ 1366)) → a ≠ 99999 → gI S2 a b k = gI S1 a b k := fun a b k a1 a2 => f2g.I a2 (fun z => by have := tDv_n z; omega)
    have e2J : ∀ a b k, ¬ (b = 0 ∧ (a = 12 ∨ a = 1306 ∨ a = 1307 ∨ 1316 ≤ a ∧ a ≤ 1366)) → a ≠ 99999 → gJ S2 a b k = gJ S1 a b k := fun a b k a1 a2 => f2g.J a2 (fun z => by have := tDv_n z; omega)
    have hw3 : WC S2 s (dW W mk R) := hw1.fg f2g (fun a k ha z => by have := tDv_n z; omega)
    refine ⟨rfl, Or.inr ⟨s, mk, R, hs4, hsc, hk0, hk1, hD, (f1.mono fun _ _ _ z => Or.inl z).tr (f2g.mono fun _ _ _ z => Or.inr z), (e2 _ _ _ (by omega) (by omega)).trans h3, ⟨hWd, ⟨hw3.1, hw3.2.1, hw3.2.2.1, hw3.2.2.2.1, hw3.2.2.2.2.1, hw3.2.2.2.2.2.1, hw3.2.2.2.2.2.2, fun m a b => (e2J _ _ _ (by omega) (by omega)).trans (hT1 m a b)⟩, ?_⟩, ⟨(e2 _ _ _ (by omega) (by omega)).trans hfo.1, (e2 _ _ _ (by omega) (by omega)).trans hfo.2.1, fun k hk => (e2 _ _ _ (by omega) (by omega)).trans (hfo.2.2 k hk)⟩, ⟨(e2 _ _ _ (by omega) (by omega)).trans htb.1, y3, fun k hk => ⟨(e2 _ _ _ (by omega) (by omega)).trans (htb.2 k hk), yz k hk⟩⟩, (e2 _ _ _ (by omega) (by omega)).trans h10, y58, y33, yI, hTL1.cong (gN_22 f2.2.2) (gN_22 f2.2.2) (e2 _ _ _ (by omega) (by omega)), n1, mk1, rl1, hB1.fg f2g ⟨fun z => by have := tDv_n z; omega, fun x k a b z => by have := tDv_n z; omega⟩⟩⟩
    refine wqR.cong hWd (fun k _ _ => ?_) (fun i _ => ?_) hw2
    · show gI S2 1306 0 k = gI S2 1306 0 (0 + k)
      rw [Nat.zero_add]
    · show gJ S 1308 0 i = gJ S2 1308 0 (0 + i)
      rw [Nat.zero_add]
      exact ((e2J _ _ _ (by omega) (by omega)).trans (eJ i)).symm
  · refine Ok.mono (cm_dual_n hs hW hcc hc4 hc hQ) fun r S1 z => ?_
    obtain ⟨rfl, rfl⟩ := z
    refine ⟨_, rfl, hs, Ok.mono (rm_dual_n hs hW hR hQ) fun r2 S2 y => ?_⟩
    obtain ⟨rfl, rfl⟩ := y
    exact ⟨rfl, Or.inl rfl⟩

