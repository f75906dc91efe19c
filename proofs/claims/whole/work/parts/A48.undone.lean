/-! undone -/
def tUc (cc a b k : Nat) : Prop := tRe cc a b k ∨ a = 10600 ∨ a = 601 ∧ b = 0
def tUr (x y k : Nat) : Bool := tSr0 x y k || tBk x y k || x == 12 && y == 0 && k == 0

set_option maxRecDepth 100000 in
theorem ok_throwsIf0 {S : zS} (hs : Sd S) : Ok mX12_throwsIf 0 (ent 2 [zr 12 0, zi (nI 0)]) [] S (fun r S1 => r = some (zi (nI 0)) ∧ S1 = sI S 12 0 0 (nI 0)) := by
  show Ok mX12_throwsIf 0 [some (zr 12 0), some (zi (nI 0))] [] S _
  refine r_aload_n (q := 1) dX12_throwsIf_0 rfl rfl rfl ?_
  refine r_iload_n (q := 2) dX12_throwsIf_1 rfl rfl rfl ?_
  refine r_if_eqN (q := 5) (t := 9) (by omega) dX12_throwsIf_2 (by decide) rfl (fun h2 => ?_) (fun h2 => absurd h2 (by omega))
  refine r_iconst (q := 10) (nI 0) dX12_throwsIf_9 rfl (by decide) ?_
  refine r_puti (q := 13) ck12 dX12_throwsIf_10 rfl (k := 0) (by decide) wt1278 (Or.inl rfl) rfl (hs.e (by decide)) ?_
  refine r_iload_n (q := 14) dX12_throwsIf_13 rfl rfl rfl ?_
  refine r_zreturn (by decide) dX12_throwsIf_14 rfl ?_
  exact ⟨rfl, rfl⟩

set_option maxRecDepth 100000 in
theorem ok_throwsIf1 {S : zS} (hs : Sd S) : Ok mX12_throwsIf 0 (ent 2 [zr 12 0, zi (nI 1)]) [] S (fun r S1 => r = some (zi (nI 1)) ∧ S1 = sI S 12 0 0 (nI 1)) := by
  show Ok mX12_throwsIf 0 [some (zr 12 0), some (zi (nI 1))] [] S _
  refine r_aload_n (q := 1) dX12_throwsIf_0 rfl rfl rfl ?_
  refine r_iload_n (q := 2) dX12_throwsIf_1 rfl rfl rfl ?_
  refine r_if_eqN (q := 5) (t := 9) (by omega) dX12_throwsIf_2 (by decide) rfl (fun h2 => absurd h2 (by omega)) (fun h2 => ?_)
  refine r_iconst (q := 6) (nI 1) dX12_throwsIf_5 rfl (by decide) ?_
  refine r_goto (q := 10) dX12_throwsIf_6 (by decide) ?_
  refine r_puti (q := 13) ck12 dX12_throwsIf_10 rfl (k := 0) (by decide) wt1278 (Or.inl rfl) rfl (hs.e (by decide)) ?_
  refine r_iload_n (q := 14) dX12_throwsIf_13 rfl rfl rfl ?_
  refine r_zreturn (by decide) dX12_throwsIf_14 rfl ?_
  exact ⟨rfl, rfl⟩

set_option maxRecDepth 100000 in
theorem cm_und_y {S : zS} (hs : Sd S) {W : zWd} (hW : Wok W) {cc : Nat} (hcc : gI S 11 0 3 = nI cc) (hc4 : cc < 4) (hc : WC S cc W) (hT : Tcs S cc W) {n0 : Nat} {mk : Nat → Nat → Nat} {rl : Nat → Nat → Nat → Nat} (hB : CB S cc W n0 mk rl) {n : Nat} (hn1 : 1 ≤ n) (hn7 : n ≤ 7) (h3 : tc W n ≤ 300) : Ok mX11_undone 0 (ent 3 [zr 11 0, zi (nI n)]) [] S (fun r S1 => (∃ g : Nat → Int64, r = some (zl (g n)) ∧ g n = accJ g (szW W) n (n - 1) ∧ IvS g (szW W) n) ∧ Fg (tUc cc) S S1 ∧ ∃ n1 mk1 rl1, CB S1 cc W n1 mk1 rl1) := by
  show Ok mX11_undone 0 [some (zr 11 0), some (zi (nI n)), none] [] S _
  refine r_aload_n (q := 1) dX11_undone_0 rfl rfl rfl ?_
  refine r_callV (Mc := mX11_basisHere) (q := 4) (As := []) (st := []) ck11 dX11_undone_1 rfl rfl mkX11_basisHere wt766 wt768 wp27 rfl (Nat.le_of_ble_eq_true rfl) (Nat.le_of_ble_eq_true rfl) (by decide) (by decide) (by decide) (Or.inl rfl) (hs.e (by decide)) (ok_basisHere hs hcc hc4) (fun r1 S1 hp1 => ?_)
  obtain ⟨rfl, hq1⟩ := hp1
  rw [hq1]
  show Ok _ _ _ [zr 0 cc] _ _
  refine r_astore_n (q := 5) (L' := [some (zr 11 0), some (zi (nI n)), some (zr 0 cc)]) dX11_undone_4 rfl rfl (by decide) rfl ?_
  refine r_aload_n (q := 6) dX11_undone_5 rfl rfl rfl ?_
  refine r_iload_n (q := 7) dX11_undone_6 rfl rfl rfl ?_
  refine r_callV (Mc := mX0_reach) (q := 10) (As := [zi (nI n)]) (st := []) ck0 dX11_undone_7 rfl rfl mkX0_reach wt770 wt771 wt772 rfl (Nat.le_of_ble_eq_true rfl) (Nat.le_of_ble_eq_true rfl) (by decide) (by decide) (by decide) (Or.inr ⟨Nat.le_of_ble_eq_true rfl, rfl, rfl⟩) (hs.e (show cc < 4 by omega)) (ok_reach_y hs hW hc4 hn1 hn7 hc hT hB h3) (fun r7 S7 hp7 => ?_)
  obtain ⟨rfl, f1, hc1, n1, mk1, rl1, hB1, hn⟩ := hp7
  have hz := hB1.szs hW hn
  show Ok _ _ _ [zi (nI 1)] _ _
  refine r_if_neN (q := 13) (t := 24) (by omega) dX11_undone_10 (by decide) rfl (fun h10 => ?_) (fun h10 => absurd h10 (by omega))
  refine r_aload_n (q := 25) dX11_undone_24 rfl rfl rfl ?_
  refine r_getr (q := 28) (some (5, 0)) ck11 dX11_undone_25 rfl (k := 18) (by decide) wt440 rfl (f1.sd.e (by decide)) (f1.sd.r (by decide) (by decide)) ?_
  refine r_aload_n (q := 29) dX11_undone_28 rfl rfl rfl ?_
  refine r_getr (q := 32) (some (108, cc)) ck0 dX11_undone_29 rfl (k := 8) (by decide) wt386 rfl (f1.sd.e (show cc < 4 by omega)) (f1.sd.r (show cc < 4 by omega) (by decide)) ?_
  refine r_iload_n (q := 33) dX11_undone_32 rfl rfl rfl ?_
  refine r_callV (Mc := mX5_raise) (q := 36) (As := [zr 108 cc, zi (nI n)]) (st := []) ck5 dX11_undone_33 rfl rfl mkX5_raise wt1025 wt1026 wt1027 rfl (Nat.le_of_ble_eq_true rfl) (Nat.le_of_ble_eq_true rfl) (by decide) (by decide) (by decide) (Or.inl rfl) (f1.sd.e (by decide)) (ok_raise (S := S7) f1.sd hc4 hn1 hn7 hz) (fun r33 S33 hp33 => ?_)
  obtain ⟨rfl, f2, hpw⟩ := hp33
  have hs2 : Sd S33 := f1.sd.fr f2
  show Ok _ _ _ [] _ _
  refine r_aload_n (q := 37) dX11_undone_36 rfl rfl rfl ?_
  refine r_getr (q := 40) (some (5, 0)) ck11 dX11_undone_37 rfl (k := 18) (by decide) wt440 rfl (hs2.e (by decide)) (hs2.r (by decide) (by decide)) ?_
  refine r_iload_n (q := 41) dX11_undone_40 rfl rfl rfl ?_
  refine r_callV (Mc := mX5_invert) (q := 44) (As := [zi (nI n)]) (st := []) ck5 dX11_undone_41 rfl rfl mkX5_invert wt1029 wt1030 wt1031 rfl (Nat.le_of_ble_eq_true rfl) (Nat.le_of_ble_eq_true rfl) (by decide) (by decide) (by decide) (Or.inl rfl) (hs2.e (by decide)) (ok_invert (S := S33) hs2 hn1 hn7 hpw) (fun r41 S41 hp41 => ?_)
  obtain ⟨rfl, f3, hiv⟩ := hp41
  have hs3 : Sd S41 := hs2.fr f3
  show Ok _ _ _ [] _ _
  refine r_aload_n (q := 45) dX11_undone_44 rfl rfl rfl ?_
  refine r_getr (q := 48) (some (5, 0)) ck11 dX11_undone_45 rfl (k := 18) (by decide) wt440 rfl (hs3.e (by decide)) (hs3.r (by decide) (by decide)) ?_
  refine r_getr (q := 51) (some (601, 0)) ck5 dX11_undone_48 rfl (k := 1) (by decide) wt257 rfl (hs3.e (by decide)) (hs3.r (by decide) (by decide)) ?_
  refine r_iload_n (q := 52) dX11_undone_51 rfl rfl rfl ?_
  refine r_laldN (q := 53) 8 (by decide) rfl dX11_undone_52 rfl (hs3.e (by decide)) (hs3.n rfl (by decide)) (by omega) (by decide) ?_
  refine r_lreturn dX11_undone_53 rfl ?_
  have g2 : Fg (fun a b _ => a = 10600 ∨ a = 601 ∧ b = 0) S7 S41 := (f2.fg f1.sd (fun a b k h => Or.inl (by simpa [tRa] using h))).tr (f3.fg hs2 (fun a b k h => Or.inr (by simpa [tIn5] using h)))
  exact ⟨⟨_, rfl, hiv n hn1 (Nat.le_refl _), hiv⟩, (f1.mono (fun a b k h => Or.inl h)).tr (g2.mono (fun a b k h => Or.inr h)), n1, mk1, rl1, hB1.fg g2 ⟨by omega, fun x k a b => by omega⟩⟩

set_option maxRecDepth 100000 in
theorem rm_und_y {S : zS} (hs : Sd S) {W : zWd} (hW : Wok W) {n9 : Nat → Int64} (hR : wqR W (fun k => gI S 1306 0 k) n9) (hO : Cw S) (hcr : CR S W) (hI : IvI S) {n : Nat} (hn1 : 1 ≤ n) (hn7 : n ≤ 7) (h3 : tc W n ≤ 300) : Ok mX12_undone 0 (ent 2 [zr 12 0, zi (nI n)]) [] S (fun r S1 => (∃ g : Nat → Int64, r = some (zl (g n)) ∧ IvS g (szW W) n) ∧ Fr tUr S S1 ∧ Cw S1 ∧ CR S1 W ∧ IvI S1 ∧ gI S1 12 0 0 = nI 0) := by
  show Ok mX12_undone 0 [some (zr 12 0), some (zi (nI n))] [] S _
  refine r_aload_n (q := 1) dX12_undone_0 rfl rfl rfl ?_
  refine r_iload_n (q := 2) dX12_undone_1 rfl rfl rfl ?_
  refine r_iconst (q := 3) (nI 1) dX12_undone_2 rfl (by decide) ?_
  refine r_bipush (q := 5) (nI 7) dX12_undone_3 rfl (by decide) ?_
  refine r_callS (Mc := mX12_isIn) (q := 8) (As := [zi (nI n), zi (nI 1), zi (nI 7)]) (st := [zr 12 0]) dX12_undone_5 rfl rfl mkX12_isIn wt1614 wt1615 rfl (Nat.le_of_ble_eq_true rfl) (Nat.le_of_ble_eq_true rfl) (by decide) (by decide) (by decide) (Or.inl rfl) hs.some (ok_X12_isIn_in (by omega) (by omega) (by omega)) (fun r5 S5 hp5 => ?_)
  obtain ⟨rfl, hq5⟩ := hp5
  rw [hq5]
  show Ok _ _ _ [zi (nI 1), zr 12 0] _ _
  refine r_if_eqN (q := 11) (t := 20) (by omega) dX12_undone_8 (by decide) rfl (fun h8 => absurd h8 (by omega)) (fun h8 => ?_)
  refine r_aload_n (q := 12) dX12_undone_11 rfl rfl rfl ?_
  refine r_iconst (q := 13) (nI 0) dX12_undone_12 rfl (by decide) ?_
  refine r_iload_n (q := 14) dX12_undone_13 rfl rfl rfl ?_
  refine r_callV (Mc := mX12_series) (q := 17) (As := [zi (nI 0), zi (nI n)]) (st := [zr 12 0]) ck12 dX12_undone_14 rfl rfl mkX12_series wt1916 wt1918 wp130 rfl (Nat.le_of_ble_eq_true rfl) (Nat.le_of_ble_eq_true rfl) (by decide) (by decide) (by decide) (Or.inl rfl) (hs.e (by decide)) (ok_series0_y hs hW hn7 h3 hR hO hcr hI) (fun r14 S14 hp14 => ?_)
  obtain ⟨rfl, hf, f1, hcw1, hcr1, hI1⟩ := hp14
  have hs1 : Sd S14 := hs.fr f1
  show Ok _ _ _ [zi (nI 1), zr 12 0] _ _
  refine r_if_neN (q := 20) (t := 24) (by omega) dX12_undone_17 (by decide) rfl (fun h17 => ?_) (fun h17 => absurd h17 (by omega))
  refine r_iconst (q := 25) (nI 0) dX12_undone_24 rfl (by decide) ?_
  refine r_callV (Mc := mX12_throwsIf) (q := 28) (As := [zi (nI 0)]) (st := []) ck12 dX12_undone_25 rfl rfl mkX12_throwsIf wt1734 wt1736 wp97 rfl (Nat.le_of_ble_eq_true rfl) (Nat.le_of_ble_eq_true rfl) (by decide) (by decide) (by decide) (Or.inl rfl) (hs1.e (by decide)) (ok_throwsIf0 (S := S14) hs1) (fun r25 S25 hp25 => ?_)
  obtain ⟨rfl, hq25⟩ := hp25
  rw [hq25]
  show Ok _ _ _ [zi (nI 0)] _ _
  refine r_if_eqN (q := 31) (t := 33) (by omega) dX12_undone_28 (by decide) rfl (fun h28 => ?_) (fun h28 => absurd h28 (by omega))
  refine r_aload_n (q := 34) dX12_undone_33 rfl rfl rfl ?_
  refine r_iload_n (q := 35) dX12_undone_34 rfl rfl rfl ?_
  refine r_callV (Mc := mX12_back) (q := 38) (As := [zi (nI n)]) (st := []) ck12 dX12_undone_35 rfl rfl mkX12_back wt1920 wt1922 wp131 rfl (Nat.le_of_ble_eq_true rfl) (Nat.le_of_ble_eq_true rfl) (by decide) (by decide) (by decide) (Or.inl rfl) (hs1.e (by decide)) (ok_back (S := sI S14 12 0 0 (nI 0)) hs1 hn1 hn7 (fun i a b => hf i a b)) (fun r35 S35 hp35 => ?_)
  obtain ⟨rfl, f2, hiv⟩ := hp35
  have hs2 : Sd S35 := Sd.fr (S := sI S14 12 0 0 (nI 0)) hs1 f2
  show Ok _ _ _ [] _ _
  refine r_aload_n (q := 39) dX12_undone_38 rfl rfl rfl ?_
  refine r_getr (q := 42) (some (1369, 0)) ck12 dX12_undone_39 rfl (k := 69) (by decide) wt1347 rfl (hs2.e (by decide)) (hs2.r (by decide) (by decide)) ?_
  refine r_iload_n (q := 43) dX12_undone_42 rfl rfl rfl ?_
  refine r_laldN (q := 44) 8 (by decide) rfl dX12_undone_43 rfl (hs2.e (by decide)) (hs2.n rfl (by decide)) (by omega) (by decide) ?_
  refine r_lreturn dX12_undone_44 rfl ?_
  have rc := (rc_thr (S := S14)).rc (W := W)
  have rg : Fr tUr (sI S14 12 0 0 (nI 0)) S35 := (f2.mono (fun x y k h => by simp [tUr, h]))
  have g2 : RcI (sI S14 12 0 0 (nI 0)) S35 := RcI.of (f2.fg (S := sI S14 12 0 0 (nI 0)) hs1 (U := fun a _ _ => a = 1368 ∨ a = 1369) (fun a b k h => by simp [tBk] at h; exact h.1)) ⟨by omega, by omega, fun x k a b => by omega, fun k _ => by omega⟩
  exact ⟨⟨_, rfl, hiv⟩, ((f1.mono (fun x y k h => by simp [tUr, h])).tr (((Fr.rf).i (by simp [tUr])) : Fr tUr S14 (sI S14 12 0 0 (nI 0)))).tr rg, (g2.rc (W := W)).2.1 (rc.2.1 hcw1), g2.rc.1 (rc.1 hcr1), (g2.rc (W := W)).2.2 (rc.2.2 hI1), (f2.1 12 0 0 rfl).trans (by rw [gI_sI, if_pos ⟨rfl, rfl, rfl⟩])⟩

theorem rc_thr1 {S : zS} : RcI S (sI S 12 0 0 (nI 1)) := ⟨by rw [gI_sI, if_neg (by omega)], by rw [gI_sI, if_neg (by omega)], fun x k a b => by rw [gI_sI, if_neg (by omega)], fun k => rfl, fun k hk => by rw [gI_sI, if_neg (by omega)]⟩

set_option maxRecDepth 100000 in
theorem rm_und_n {S : zS} (hs : Sd S) {W : zWd} (hW : Wok W) {n9 : Nat → Int64} (hR : wqR W (fun k => gI S 1306 0 k) n9) (hO : Cw S) (hcr : CR S W) (hI : IvI S) {n : Nat} (hn1 : 1 ≤ n) (hn7 : n ≤ 7) (h3 : ¬ tc W n ≤ 300) : Ok mX12_undone 0 (ent 2 [zr 12 0, zi (nI n)]) [] S (fun r S1 => r = some (zl (lN 0)) ∧ Fr tUr S S1 ∧ Cw S1 ∧ CR S1 W ∧ IvI S1 ∧ gI S1 12 0 0 = nI 1) := by
  show Ok mX12_undone 0 [some (zr 12 0), some (zi (nI n))] [] S _
  refine r_aload_n (q := 1) dX12_undone_0 rfl rfl rfl ?_
  refine r_iload_n (q := 2) dX12_undone_1 rfl rfl rfl ?_
  refine r_iconst (q := 3) (nI 1) dX12_undone_2 rfl (by decide) ?_
  refine r_bipush (q := 5) (nI 7) dX12_undone_3 rfl (by decide) ?_
  refine r_callS (Mc := mX12_isIn) (q := 8) (As := [zi (nI n), zi (nI 1), zi (nI 7)]) (st := [zr 12 0]) dX12_undone_5 rfl rfl mkX12_isIn wt1614 wt1615 rfl (Nat.le_of_ble_eq_true rfl) (Nat.le_of_ble_eq_true rfl) (by decide) (by decide) (by decide) (Or.inl rfl) hs.some (ok_X12_isIn_in (by omega) (by omega) (by omega)) (fun r5 S5 hp5 => ?_)
  obtain ⟨rfl, hq5⟩ := hp5
  rw [hq5]
  show Ok _ _ _ [zi (nI 1), zr 12 0] _ _
  refine r_if_eqN (q := 11) (t := 20) (by omega) dX12_undone_8 (by decide) rfl (fun h8 => absurd h8 (by omega)) (fun h8 => ?_)
  refine r_aload_n (q := 12) dX12_undone_11 rfl rfl rfl ?_
  refine r_iconst (q := 13) (nI 0) dX12_undone_12 rfl (by decide) ?_
  refine r_iload_n (q := 14) dX12_undone_13 rfl rfl rfl ?_
  refine r_callV (Mc := mX12_series) (q := 17) (As := [zi (nI 0), zi (nI n)]) (st := [zr 12 0]) ck12 dX12_undone_14 rfl rfl mkX12_series wt1916 wt1918 wp130 rfl (Nat.le_of_ble_eq_true rfl) (Nat.le_of_ble_eq_true rfl) (by decide) (by decide) (by decide) (Or.inl rfl) (hs.e (by decide)) (ok_series0_n hs hW hn7 h3 hR hO hcr hI) (fun r14 S14 hp14 => ?_)
  obtain ⟨rfl, f1, hcw1, hcr1, hI1⟩ := hp14
  have hs1 : Sd S14 := hs.fr f1
  show Ok _ _ _ [zi (nI 0), zr 12 0] _ _
  refine r_if_neN (q := 20) (t := 24) (by omega) dX12_undone_17 (by decide) rfl (fun h17 => absurd h17 (by omega)) (fun h17 => ?_)
  refine r_iconst (q := 21) (nI 1) dX12_undone_20 rfl (by decide) ?_
  refine r_goto (q := 25) dX12_undone_21 (by decide) ?_
  refine r_callV (Mc := mX12_throwsIf) (q := 28) (As := [zi (nI 1)]) (st := []) ck12 dX12_undone_25 rfl rfl mkX12_throwsIf wt1734 wt1736 wp97 rfl (Nat.le_of_ble_eq_true rfl) (Nat.le_of_ble_eq_true rfl) (by decide) (by decide) (by decide) (Or.inl rfl) (hs1.e (by decide)) (ok_throwsIf1 (S := S14) hs1) (fun r25 S25 hp25 => ?_)
  obtain ⟨rfl, hq25⟩ := hp25
  rw [hq25]
  show Ok _ _ _ [zi (nI 1)] _ _
  refine r_if_eqN (q := 31) (t := 33) (by omega) dX12_undone_28 (by decide) rfl (fun h28 => absurd h28 (by omega)) (fun h28 => ?_)
  refine r_lconst (q := 32) (0 : Int64) dX12_undone_31 rfl rfl ?_
  refine r_topl (y := lN 0) rfl ?_
  refine r_lreturn dX12_undone_32 rfl ?_
  have rc := (rc_thr1 (S := S14)).rc (W := W)
  exact ⟨rfl, (f1.mono (fun x y k h => by simp [tUr, h])).tr (((Fr.rf).i (by simp [tUr])) : Fr tUr S14 (sI S14 12 0 0 (nI 1))), rc.2.1 hcw1, rc.1 hcr1, rc.2.2 hI1, by rw [gI_sI, if_pos ⟨rfl, rfl, rfl⟩]⟩

set_option maxRecDepth 100000 in
theorem rm_und_x {S : zS} (hs : Sd S) {x : Int32} (hx : ¬ (nI 1 ≤ x ∧ x ≤ nI 7)) : Ok mX12_undone 0 (ent 2 [zr 12 0, zi x]) [] S (fun r S1 => r = some (zl (lN 0)) ∧ S1 = sI S 12 0 0 (nI 1)) := by
  show Ok mX12_undone 0 [some (zr 12 0), some (zi x)] [] S _
  refine r_aload_n (q := 1) dX12_undone_0 rfl rfl rfl ?_
  refine r_iload_n (q := 2) dX12_undone_1 rfl rfl rfl ?_
  refine r_iconst (q := 3) (nI 1) dX12_undone_2 rfl (by decide) ?_
  refine r_bipush (q := 5) (nI 7) dX12_undone_3 rfl (by decide) ?_
  refine r_callS (Mc := mX12_isIn) (q := 8) (As := [zi x, zi (nI 1), zi (nI 7)]) (st := [zr 12 0]) dX12_undone_5 rfl rfl mkX12_isIn wt1614 wt1615 rfl (Nat.le_of_ble_eq_true rfl) (Nat.le_of_ble_eq_true rfl) (by decide) (by decide) (by decide) (Or.inl rfl) hs.some (ok_X12_isIn_out hx) (fun r5 S5 hp5 => ?_)
  obtain ⟨rfl, hq5⟩ := hp5
  rw [hq5]
  show Ok _ _ _ [zi (nI 0), zr 12 0] _ _
  refine r_if_eqN (q := 11) (t := 20) (by omega) dX12_undone_8 (by decide) rfl (fun h8 => ?_) (fun h8 => absurd h8 (by omega))
  refine r_iconst (q := 21) (nI 1) dX12_undone_20 rfl (by decide) ?_
  refine r_goto (q := 25) dX12_undone_21 (by decide) ?_
  refine r_callV (Mc := mX12_throwsIf) (q := 28) (As := [zi (nI 1)]) (st := []) ck12 dX12_undone_25 rfl rfl mkX12_throwsIf wt1734 wt1736 wp97 rfl (Nat.le_of_ble_eq_true rfl) (Nat.le_of_ble_eq_true rfl) (by decide) (by decide) (by decide) (Or.inl rfl) (hs.e (by decide)) (ok_throwsIf1 (S := S) hs) (fun r25 S25 hp25 => ?_)
  obtain ⟨rfl, hq25⟩ := hp25
  rw [hq25]
  show Ok _ _ _ [zi (nI 1)] _ _
  refine r_if_eqN (q := 31) (t := 33) (by omega) dX12_undone_28 (by decide) rfl (fun h28 => absurd h28 (by omega)) (fun h28 => ?_)
  refine r_lconst (q := 32) (0 : Int64) dX12_undone_31 rfl rfl ?_
  refine r_topl (y := lN 0) rfl ?_
  refine r_lreturn dX12_undone_32 rfl ?_
  exact ⟨rfl, rfl⟩

set_option maxRecDepth 100000 in
theorem ok_thrown {S : zS} (hs : Sd S) {v : Nat} (hv : gI S 12 0 0 = nI v) : Ok mX12_thrown 0 (ent 1 [zr 12 0]) [] S (fun r S1 => r = some (zi (nI v)) ∧ S1 = S) := by
  show Ok mX12_thrown 0 [some (zr 12 0)] [] S _
  refine r_aload_n (q := 1) dX12_thrown_0 rfl rfl rfl ?_
  refine r_geti (q := 4) ck12 dX12_thrown_1 rfl (k := 0) (by decide) wt1278 (Or.inl rfl) (hs.e (by decide)) ?_
  refine r_topi (y := nI v) hv ?_
  refine r_ireturn dX12_thrown_4 rfl ?_
  exact ⟨rfl, rfl⟩

set_option maxRecDepth 100000 in
theorem cm_term_y {S : zS} (hs : Sd S) {a e l : Nat} (hae : a < e) (he12 : e ≤ 1200) (he : gI S 8 0 1 = nI e) (hl : gN S 903 0 = l) (hel : e ≤ l) (hl12 : l ≤ 1200) : Ok mX11_term 0 (ent 2 [zr 11 0, zi (nI a)]) [] S (fun r S1 => r = some (zi (gI S 903 0 a)) ∧ S1 = S) := by
  show Ok mX11_term 0 [some (zr 11 0), some (zi (nI a))] [] S _
  refine r_iload_n (q := 1) dX11_term_0 rfl rfl rfl ?_
  refine r_if_ltN (q := 4) (t := 15) (by omega) dX11_term_1 (by decide) rfl ?_
  refine r_iload_n (q := 5) dX11_term_4 rfl rfl rfl ?_
  refine r_aload_n (q := 6) dX11_term_5 rfl rfl rfl ?_
  refine r_getr (q := 9) (some (8, 0)) ck11 dX11_term_6 rfl (k := 7) (by decide) wt429 rfl (hs.e (by decide)) (hs.r (by decide) (by decide)) ?_
  refine r_geti (q := 12) ck8 dX11_term_9 rfl (k := 1) (by decide) wt67 (Or.inl rfl) (hs.e (by decide)) ?_
  refine r_topi (y := nI e) he ?_
  refine r_icmp_ltN (q := 15) (t := 25) (by omega) (by omega) dX11_term_12 (by decide) rfl (fun h12 => ?_) (fun h12 => absurd h12 (by omega))
  refine r_aload_n (q := 26) dX11_term_25 rfl rfl rfl ?_
  refine r_getr (q := 29) (some (8, 0)) ck11 dX11_term_26 rfl (k := 7) (by decide) wt429 rfl (hs.e (by decide)) (hs.r (by decide) (by decide)) ?_
  refine r_getr (q := 32) (some (903, 0)) ck8 dX11_term_29 rfl (k := 3) (by decide) wt79 rfl (hs.e (by decide)) (hs.r (by decide) (by decide)) ?_
  refine r_iload_n (q := 33) dX11_term_32 rfl rfl rfl ?_
  refine r_ialdN (q := 34) l (by decide) rfl dX11_term_33 rfl (hs.e (by decide)) hl (by omega) (by omega) ?_
  refine r_ireturn dX11_term_34 rfl ?_
  exact ⟨rfl, rfl⟩

set_option maxRecDepth 100000 in
theorem rm_term_y {S : zS} (hs : Sd S) {a e : Nat} (hae : a < e) (he12 : e ≤ 1200) (he : gI S 1306 0 1174 = nI e) : Ok mX12_term 0 (ent 2 [zr 12 0, zi (nI a)]) [] S (fun r S1 => r = some (zi (gI S 1306 0 (2475 + a))) ∧ S1 = sI S 12 0 0 (nI 0)) := by
  show Ok mX12_term 0 [some (zr 12 0), some (zi (nI a))] [] S _
  refine r_aload_n (q := 1) dX12_term_0 rfl rfl rfl ?_
  refine r_iload_n (q := 2) dX12_term_1 rfl rfl rfl ?_
  refine r_iconst (q := 3) (nI 0) dX12_term_2 rfl (by decide) ?_
  refine r_aload_n (q := 4) dX12_term_3 rfl rfl rfl ?_
  refine r_getr (q := 7) (some (1306, 0)) ck12 dX12_term_4 rfl (k := 6) (by decide) wt1284 rfl (hs.e (by decide)) (hs.r (by decide) (by decide)) ?_
  refine r_sipush (q := 10) (nI 1174) dX12_term_7 rfl (by decide) ?_
  refine r_ialdN (q := 11) 3775 (by decide) rfl dX12_term_10 rfl (hs.e (by decide)) (hs.n rfl (by decide)) (by omega) (by decide) ?_
  refine r_topi (y := nI e) he ?_
  refine r_iconst (q := 12) (nI 1) dX12_term_11 rfl (by decide) ?_
  refine r_isubN (q := 13) (by omega) dX12_term_12 rfl ?_
  refine r_callS (Mc := mX12_isIn) (q := 16) (As := [zi (nI a), zi (nI 0), zi (nI (e - 1))]) (st := [zr 12 0]) dX12_term_13 rfl rfl mkX12_isIn wt1614 wt1615 rfl (Nat.le_of_ble_eq_true rfl) (Nat.le_of_ble_eq_true rfl) (by decide) (by decide) (by decide) (Or.inl rfl) hs.some (ok_X12_isIn_in (S := S) (Nat.zero_le _) (show a ≤ e - 1 by omega) (by omega)) (fun r13 S13 hp13 => ?_)
  obtain ⟨rfl, hq13⟩ := hp13
  rw [hq13]
  show Ok _ _ _ [zi (nI 1), zr 12 0] _ _
  refine r_if_neN (q := 19) (t := 23) (by omega) dX12_term_16 (by decide) rfl (fun h16 => ?_) (fun h16 => absurd h16 (by omega))
  refine r_iconst (q := 24) (nI 0) dX12_term_23 rfl (by decide) ?_
  refine r_callV (Mc := mX12_throwsIf) (q := 27) (As := [zi (nI 0)]) (st := []) ck12 dX12_term_24 rfl rfl mkX12_throwsIf wt1734 wt1736 wp97 rfl (Nat.le_of_ble_eq_true rfl) (Nat.le_of_ble_eq_true rfl) (by decide) (by decide) (by decide) (Or.inl rfl) (hs.e (by decide)) (ok_throwsIf0 (S := S) hs) (fun r24 S24 hp24 => ?_)
  obtain ⟨rfl, hq24⟩ := hp24
  rw [hq24]
  show Ok _ _ _ [zi (nI 0)] _ _
  refine r_if_eqN (q := 30) (t := 34) (by omega) dX12_term_27 (by decide) rfl (fun h27 => ?_) (fun h27 => absurd h27 (by omega))
  refine r_aload_n (q := 35) dX12_term_34 rfl rfl rfl ?_
  refine r_getr (q := 38) (some (1306, 0)) ck12 dX12_term_35 rfl (k := 6) (by decide) wt1284 rfl (hs.e (by decide)) (hs.r (by decide) (by decide)) ?_
  refine r_sipush (q := 41) (nI 2475) dX12_term_38 rfl (by decide) ?_
  refine r_iload_n (q := 42) dX12_term_41 rfl rfl rfl ?_
  refine r_iaddN (q := 43) dX12_term_42 rfl ?_
  refine r_ialdN (q := 44) 3775 (by decide) rfl dX12_term_43 rfl (hs.e (by decide)) (hs.n rfl (by decide)) (by omega) (by decide) ?_
  refine r_topi (y := gI S 1306 0 (2475 + a)) (by simp [gI_sI, gJ_sJ, gI_sJ, gJ_sI]) ?_
  refine r_ireturn dX12_term_44 rfl ?_
  exact ⟨rfl, rfl⟩

