/-! layered -/
theorem two_cb {S1 S2 : zS} {W Wk : zWd} {cc s N : Nat} (he : s = cc → Wk = W) (f : Fg (tRe s) S1 S2) (h1 : ∃ n mk rl, CB S1 cc W n mk rl ∧ N ≤ n) (h2 : ∃ n mk rl, CB S2 s Wk n mk rl ∧ N ≤ n) : ∃ n mk rl, CB S2 cc W n mk rl ∧ N ≤ n := by
  by_cases e : s = cc
  · rw [he e, e] at h2; exact h2
  · obtain ⟨n, mk, rl, hB, hn⟩ := h1
    exact ⟨n, mk, rl, hB.fg f ⟨by unfold tRe; omega, fun x k a b => by unfold tRe; omega⟩, hn⟩
theorem Tcs.re {S S1 : zS} {b c : Nat} {W : zWd} (h : Tcs S b W) (f : Fg (tRe c) S S1) : Tcs S1 b W := fun m h1 h2 => (f.J (by omega) (by unfold tRe; omega)).trans (h m h1 h2)
theorem WC.re {S S1 : zS} {b c : Nat} {W : zWd} (h : WC S b W) (f : Fg (tRe c) S S1) : WC S1 b W := h.fg f (fun a k ha => by unfold tRe; omega)
def tLc (cc s a b k : Nat) : Prop := tRe cc a b k ∨ tRe s a b k ∨ a = 10600

set_option maxRecDepth 100000 in
theorem cm_ly_y {S : zS} (hs : Sd S) {W Wk : zWd} (hW : Wok W) (hWk : Wok Wk) {cc s m : Nat} (hcc : gI S 11 0 3 = nI cc) (hc4 : cc < 4) (hm : m < 2) (hk : gI S 1204 0 m = nI s) (hs4 : s < 4) (he : s = cc → Wk = W) (hc : WC S cc W) (hT : Tcs S cc W) (hck : WC S s Wk) (hTk : Tcs S s Wk) (hB : ∃ n mk rl, CB S cc W n mk rl) (hBk : ∃ n mk rl, CB S s Wk n mk rl) {n : Nat} (hn1 : 1 ≤ n) (hn7 : n ≤ 7) (h3 : tc W n ≤ 300) (h3k : tc Wk n ≤ 300) : Ok mX11_layered 0 (ent 5 [zr 11 0, zi (nI m), zi (nI n)]) [] S (fun r S1 => r = some (zl (lN (sm (fun i => szW W (i + 1) * pwS (szW Wk) (i + 1) n) n))) ∧ Fg (tLc cc s) S S1 ∧ (∃ n mk rl, CB S1 cc W n mk rl) ∧ ∃ n mk rl, CB S1 s Wk n mk rl) := by
  obtain ⟨n0, mk0, rl0, hB0⟩ := hB
  show Ok mX11_layered 0 [some (zr 11 0), some (zi (nI m)), some (zi (nI n)), none, none] [] S _
  refine r_aload_n (q := 1) dX11_layered_0 rfl rfl rfl ?_
  refine r_iload_n (q := 2) dX11_layered_1 rfl rfl rfl ?_
  refine r_callV (Mc := mX11_basisKept) (q := 5) (As := [zi (nI m)]) (st := []) ck11 dX11_layered_2 rfl rfl mkX11_basisKept wt1037 wt1039 wp55 rfl (Nat.le_of_ble_eq_true rfl) (Nat.le_of_ble_eq_true rfl) (by decide) (by decide) (by decide) (Or.inl rfl) (hs.e (by decide)) (ok_X11_basisKept_in (S := S) hs hm hk hs4) (fun r2 S2 hp2 => ?_)
  obtain ⟨rfl, hq2⟩ := hp2
  rw [hq2]
  show Ok _ _ _ [zr 0 s] _ _
  refine r_astore_n (q := 6) (L' := [some (zr 11 0), some (zi (nI m)), some (zi (nI n)), some (zr 0 s), none]) dX11_layered_5 rfl rfl (by decide) rfl ?_
  refine r_aload_n (q := 7) dX11_layered_6 rfl rfl rfl ?_
  refine r_callV (Mc := mX11_basisHere) (q := 10) (As := []) (st := []) ck11 dX11_layered_7 rfl rfl mkX11_basisHere wt766 wt768 wp27 rfl (Nat.le_of_ble_eq_true rfl) (Nat.le_of_ble_eq_true rfl) (by decide) (by decide) (by decide) (Or.inl rfl) (hs.e (by decide)) (ok_basisHere hs hcc hc4) (fun r7 S7 hp7 => ?_)
  obtain ⟨rfl, hq7⟩ := hp7
  rw [hq7]
  show Ok _ _ _ [zr 0 cc] _ _
  refine r_astore (q := 12) (L' := [some (zr 11 0), some (zi (nI m)), some (zi (nI n)), some (zr 0 s), some (zr 0 cc)]) dX11_layered_10 rfl (by decide) rfl ?_
  refine r_aload_n (q := 13) dX11_layered_12 rfl rfl rfl ?_
  refine r_ifnull (q := 16) (t := 33) (r := some (0, s)) dX11_layered_13 (by decide) rfl (fun z => by cases z) (fun _ => ?_)
  refine r_aload (q := 18) dX11_layered_16 rfl rfl ?_
  refine r_iload_n (q := 19) dX11_layered_18 rfl rfl rfl ?_
  refine r_callV (Mc := mX0_reach) (q := 22) (As := [zi (nI n)]) (st := []) ck0 dX11_layered_19 rfl rfl mkX0_reach wt770 wt771 wt772 rfl (Nat.le_of_ble_eq_true rfl) (Nat.le_of_ble_eq_true rfl) (by decide) (by decide) (by decide) (Or.inr ⟨Nat.le_of_ble_eq_true rfl, rfl, rfl⟩) (hs.e (show cc < 4 by omega)) (ok_reach_y hs hW hc4 hn1 hn7 hc hT hB0 h3) (fun r19 S19 hp19 => ?_)
  obtain ⟨rfl, f1, hc1, n1, mk1, rl1, hB1, hnn⟩ := hp19
  have hck1 : WC S19 s Wk := hck.re f1
  have hTk1 : Tcs S19 s Wk := hTk.re f1
  obtain ⟨n2, mk2, rl2, hB2, _⟩ := two_cb (N := 0) (fun e => (he e.symm).symm) f1 (hBk.imp fun n h => h.imp fun mk h => h.imp fun rl h => ⟨h, Nat.zero_le _⟩) ⟨n1, mk1, rl1, hB1, Nat.zero_le _⟩
  show Ok _ _ _ [zi (nI 1)] _ _
  refine r_if_eqN (q := 25) (t := 33) (by omega) dX11_layered_22 (by decide) rfl (fun h22 => absurd h22 (by omega)) (fun h22 => ?_)
  refine r_aload_n (q := 26) dX11_layered_25 rfl rfl rfl ?_
  refine r_iload_n (q := 27) dX11_layered_26 rfl rfl rfl ?_
  refine r_callV (Mc := mX0_reach) (q := 30) (As := [zi (nI n)]) (st := []) ck0 dX11_layered_27 rfl rfl mkX0_reach wt770 wt771 wt772 rfl (Nat.le_of_ble_eq_true rfl) (Nat.le_of_ble_eq_true rfl) (by decide) (by decide) (by decide) (Or.inr ⟨Nat.le_of_ble_eq_true rfl, rfl, rfl⟩) (f1.sd.e (show s < 4 by omega)) (ok_reach_y f1.sd hWk hs4 hn1 hn7 hck1 hTk1 hB2 h3k) (fun r27 S27 hp27 => ?_)
  obtain ⟨rfl, f2, hc2, n3, mk3, rl3, hB3, hnk⟩ := hp27
  obtain ⟨n4, mk4, rl4, hB4, hn4⟩ := two_cb he f2 ⟨n1, mk1, rl1, hB1, hnn⟩ ⟨n3, mk3, rl3, hB3, hnk⟩
  have hz1 := hB4.szs hW hn4
  have hz2 := hB3.szs hWk hnk
  show Ok _ _ _ [zi (nI 1)] _ _
  refine r_if_neN (q := 33) (t := 37) (by omega) dX11_layered_30 (by decide) rfl (fun h30 => ?_) (fun h30 => absurd h30 (by omega))
  refine r_aload_n (q := 38) dX11_layered_37 rfl rfl rfl ?_
  refine r_getr (q := 41) (some (5, 0)) ck11 dX11_layered_38 rfl (k := 18) (by decide) wt440 rfl (f2.sd.e (by decide)) (f2.sd.r (by decide) (by decide)) ?_
  refine r_aload_n (q := 42) dX11_layered_41 rfl rfl rfl ?_
  refine r_getr (q := 45) (some (108, s)) ck0 dX11_layered_42 rfl (k := 8) (by decide) wt386 rfl (f2.sd.e (show s < 4 by omega)) (f2.sd.r (show s < 4 by omega) (by decide)) ?_
  refine r_iload_n (q := 46) dX11_layered_45 rfl rfl rfl ?_
  refine r_callV (Mc := mX5_raise) (q := 49) (As := [zr 108 s, zi (nI n)]) (st := []) ck5 dX11_layered_46 rfl rfl mkX5_raise wt1025 wt1026 wt1027 rfl (Nat.le_of_ble_eq_true rfl) (Nat.le_of_ble_eq_true rfl) (by decide) (by decide) (by decide) (Or.inl rfl) (f2.sd.e (by decide)) (ok_raise (S := S27) f2.sd hs4 hn1 hn7 hz2) (fun r46 S46 hp46 => ?_)
  obtain ⟨rfl, f3, hpw⟩ := hp46
  have hs3 : Sd S46 := f2.sd.fr f3
  show Ok _ _ _ [] _ _
  refine r_aload_n (q := 50) dX11_layered_49 rfl rfl rfl ?_
  refine r_getr (q := 53) (some (5, 0)) ck11 dX11_layered_50 rfl (k := 18) (by decide) wt440 rfl (hs3.e (by decide)) (hs3.r (by decide) (by decide)) ?_
  refine r_aload (q := 55) dX11_layered_53 rfl rfl ?_
  refine r_getr (q := 58) (some (108, cc)) ck0 dX11_layered_55 rfl (k := 8) (by decide) wt386 rfl (hs3.e (show cc < 4 by omega)) (hs3.r (show cc < 4 by omega) (by decide)) ?_
  refine r_iload_n (q := 59) dX11_layered_58 rfl rfl rfl ?_
  refine r_callV (Mc := mX5_over) (q := 62) (As := [zr 108 cc, zi (nI n)]) (st := []) ck5 dX11_layered_59 rfl rfl mkX5_over wt1041 wt1042 wt1043 rfl (Nat.le_of_ble_eq_true rfl) (Nat.le_of_ble_eq_true rfl) (by decide) (by decide) (by decide) (Or.inl rfl) (hs3.e (by decide)) (ok_over (S := S46) (b := cc) hs3 hc4 hn1 hn7 (hz1.fr f3 (fun _ => rfl)) (fun k' a b => hpw k' n a b hn1 (Nat.le_refl _))) (fun r59 S59 hp59 => ?_)
  obtain ⟨rfl, hq59⟩ := hp59
  rw [hq59]
  show Ok _ _ _ [zl (lN (sm (fun i => szW W (i + 1) * pwS (szW Wk) (i + 1) n) n))] _ _
  refine r_lreturn dX11_layered_62 rfl ?_
  have g3 : Fg (fun a _ _ => a = 10600) S27 S46 := f3.fg f2.sd (fun a b k h => by simpa [tRa] using h)
  exact ⟨rfl, ((f1.mono (fun a b k h => Or.inl h)).tr (f2.mono (fun a b k h => Or.inr (Or.inl h)))).tr ((f3.fg f2.sd (U := tLc cc s) (fun a b k h => Or.inr (Or.inr (by simpa [tRa] using h))))), ⟨n4, mk4, rl4, hB4.fg g3 ⟨by omega, fun x k a b => by omega⟩⟩, n3, mk3, rl3, hB3.fg g3 ⟨by omega, fun x k a b => by omega⟩⟩

set_option maxRecDepth 100000 in
theorem cm_ly_k {S : zS} (hs : Sd S) {W Wk : zWd} (hW : Wok W) (hWk : Wok Wk) {cc s m : Nat} (hcc : gI S 11 0 3 = nI cc) (hc4 : cc < 4) (hm : m < 2) (hk : gI S 1204 0 m = nI s) (hs4 : s < 4) (he : s = cc → Wk = W) (hc : WC S cc W) (hT : Tcs S cc W) (hck : WC S s Wk) (hTk : Tcs S s Wk) (hB : ∃ n mk rl, CB S cc W n mk rl) (hBk : ∃ n mk rl, CB S s Wk n mk rl) {n : Nat} (hn1 : 1 ≤ n) (hn7 : n ≤ 7) (h3 : tc W n ≤ 300) (h3k : ¬ tc Wk n ≤ 300) : Ok mX11_layered 0 (ent 5 [zr 11 0, zi (nI m), zi (nI n)]) [] S (fun r S1 => r = some (zl (-1)) ∧ Fg (tLc cc s) S S1 ∧ (∃ n mk rl, CB S1 cc W n mk rl) ∧ ∃ n mk rl, CB S1 s Wk n mk rl) := by
  obtain ⟨n0, mk0, rl0, hB0⟩ := hB
  show Ok mX11_layered 0 [some (zr 11 0), some (zi (nI m)), some (zi (nI n)), none, none] [] S _
  refine r_aload_n (q := 1) dX11_layered_0 rfl rfl rfl ?_
  refine r_iload_n (q := 2) dX11_layered_1 rfl rfl rfl ?_
  refine r_callV (Mc := mX11_basisKept) (q := 5) (As := [zi (nI m)]) (st := []) ck11 dX11_layered_2 rfl rfl mkX11_basisKept wt1037 wt1039 wp55 rfl (Nat.le_of_ble_eq_true rfl) (Nat.le_of_ble_eq_true rfl) (by decide) (by decide) (by decide) (Or.inl rfl) (hs.e (by decide)) (ok_X11_basisKept_in (S := S) hs hm hk hs4) (fun r2 S2 hp2 => ?_)
  obtain ⟨rfl, hq2⟩ := hp2
  rw [hq2]
  show Ok _ _ _ [zr 0 s] _ _
  refine r_astore_n (q := 6) (L' := [some (zr 11 0), some (zi (nI m)), some (zi (nI n)), some (zr 0 s), none]) dX11_layered_5 rfl rfl (by decide) rfl ?_
  refine r_aload_n (q := 7) dX11_layered_6 rfl rfl rfl ?_
  refine r_callV (Mc := mX11_basisHere) (q := 10) (As := []) (st := []) ck11 dX11_layered_7 rfl rfl mkX11_basisHere wt766 wt768 wp27 rfl (Nat.le_of_ble_eq_true rfl) (Nat.le_of_ble_eq_true rfl) (by decide) (by decide) (by decide) (Or.inl rfl) (hs.e (by decide)) (ok_basisHere hs hcc hc4) (fun r7 S7 hp7 => ?_)
  obtain ⟨rfl, hq7⟩ := hp7
  rw [hq7]
  show Ok _ _ _ [zr 0 cc] _ _
  refine r_astore (q := 12) (L' := [some (zr 11 0), some (zi (nI m)), some (zi (nI n)), some (zr 0 s), some (zr 0 cc)]) dX11_layered_10 rfl (by decide) rfl ?_
  refine r_aload_n (q := 13) dX11_layered_12 rfl rfl rfl ?_
  refine r_ifnull (q := 16) (t := 33) (r := some (0, s)) dX11_layered_13 (by decide) rfl (fun z => by cases z) (fun _ => ?_)
  refine r_aload (q := 18) dX11_layered_16 rfl rfl ?_
  refine r_iload_n (q := 19) dX11_layered_18 rfl rfl rfl ?_
  refine r_callV (Mc := mX0_reach) (q := 22) (As := [zi (nI n)]) (st := []) ck0 dX11_layered_19 rfl rfl mkX0_reach wt770 wt771 wt772 rfl (Nat.le_of_ble_eq_true rfl) (Nat.le_of_ble_eq_true rfl) (by decide) (by decide) (by decide) (Or.inr ⟨Nat.le_of_ble_eq_true rfl, rfl, rfl⟩) (hs.e (show cc < 4 by omega)) (ok_reach_y hs hW hc4 hn1 hn7 hc hT hB0 h3) (fun r19 S19 hp19 => ?_)
  obtain ⟨rfl, f1, hc1, n1, mk1, rl1, hB1, hnn⟩ := hp19
  have hck1 : WC S19 s Wk := hck.re f1
  have hTk1 : Tcs S19 s Wk := hTk.re f1
  obtain ⟨n2, mk2, rl2, hB2, _⟩ := two_cb (N := 0) (fun e => (he e.symm).symm) f1 (hBk.imp fun n h => h.imp fun mk h => h.imp fun rl h => ⟨h, Nat.zero_le _⟩) ⟨n1, mk1, rl1, hB1, Nat.zero_le _⟩
  show Ok _ _ _ [zi (nI 1)] _ _
  refine r_if_eqN (q := 25) (t := 33) (by omega) dX11_layered_22 (by decide) rfl (fun h22 => absurd h22 (by omega)) (fun h22 => ?_)
  refine r_aload_n (q := 26) dX11_layered_25 rfl rfl rfl ?_
  refine r_iload_n (q := 27) dX11_layered_26 rfl rfl rfl ?_
  refine r_callV (Mc := mX0_reach) (q := 30) (As := [zi (nI n)]) (st := []) ck0 dX11_layered_27 rfl rfl mkX0_reach wt770 wt771 wt772 rfl (Nat.le_of_ble_eq_true rfl) (Nat.le_of_ble_eq_true rfl) (by decide) (by decide) (by decide) (Or.inr ⟨Nat.le_of_ble_eq_true rfl, rfl, rfl⟩) (f1.sd.e (show s < 4 by omega)) (ok_reach_n f1.sd hWk hs4 hn1 hn7 hck1 hTk1 hB2 h3k) (fun r27 S27 hp27 => ?_)
  obtain ⟨rfl, f2, hc2, n3, mk3, rl3, hB3⟩ := hp27
  obtain ⟨n4, mk4, rl4, hB4, _⟩ := two_cb (N := 0) he f2 ⟨n1, mk1, rl1, hB1, Nat.zero_le _⟩ ⟨n3, mk3, rl3, hB3, Nat.zero_le _⟩
  show Ok _ _ _ [zi (nI 0)] _ _
  refine r_if_neN (q := 33) (t := 37) (by omega) dX11_layered_30 (by decide) rfl (fun h30 => absurd h30 (by omega)) (fun h30 => ?_)
  refine r_ldc2 (q := 36) (-1 : Int64) dX11_layered_33 rfl wt716 ?_
  refine r_lreturn dX11_layered_36 rfl ?_
  exact ⟨rfl, ((f1.mono (fun a b k h => Or.inl h)).tr (f2.mono (fun a b k h => Or.inr (Or.inl h)))), ⟨n4, mk4, rl4, hB4⟩, n3, mk3, rl3, hB3⟩

set_option maxRecDepth 100000 in
theorem cm_ly_n {S : zS} (hs : Sd S) {W Wk : zWd} (hW : Wok W) (hWk : Wok Wk) {cc s m : Nat} (hcc : gI S 11 0 3 = nI cc) (hc4 : cc < 4) (hm : m < 2) (hk : gI S 1204 0 m = nI s) (hs4 : s < 4) (he : s = cc → Wk = W) (hc : WC S cc W) (hT : Tcs S cc W) (hck : WC S s Wk) (hTk : Tcs S s Wk) (hB : ∃ n mk rl, CB S cc W n mk rl) (hBk : ∃ n mk rl, CB S s Wk n mk rl) {n : Nat} (hn1 : 1 ≤ n) (hn7 : n ≤ 7) (h3 : ¬ tc W n ≤ 300) : Ok mX11_layered 0 (ent 5 [zr 11 0, zi (nI m), zi (nI n)]) [] S (fun r S1 => r = some (zl (-1)) ∧ Fg (tLc cc s) S S1 ∧ (∃ n mk rl, CB S1 cc W n mk rl) ∧ ∃ n mk rl, CB S1 s Wk n mk rl) := by
  obtain ⟨n0, mk0, rl0, hB0⟩ := hB
  show Ok mX11_layered 0 [some (zr 11 0), some (zi (nI m)), some (zi (nI n)), none, none] [] S _
  refine r_aload_n (q := 1) dX11_layered_0 rfl rfl rfl ?_
  refine r_iload_n (q := 2) dX11_layered_1 rfl rfl rfl ?_
  refine r_callV (Mc := mX11_basisKept) (q := 5) (As := [zi (nI m)]) (st := []) ck11 dX11_layered_2 rfl rfl mkX11_basisKept wt1037 wt1039 wp55 rfl (Nat.le_of_ble_eq_true rfl) (Nat.le_of_ble_eq_true rfl) (by decide) (by decide) (by decide) (Or.inl rfl) (hs.e (by decide)) (ok_X11_basisKept_in (S := S) hs hm hk hs4) (fun r2 S2 hp2 => ?_)
  obtain ⟨rfl, hq2⟩ := hp2
  rw [hq2]
  show Ok _ _ _ [zr 0 s] _ _
  refine r_astore_n (q := 6) (L' := [some (zr 11 0), some (zi (nI m)), some (zi (nI n)), some (zr 0 s), none]) dX11_layered_5 rfl rfl (by decide) rfl ?_
  refine r_aload_n (q := 7) dX11_layered_6 rfl rfl rfl ?_
  refine r_callV (Mc := mX11_basisHere) (q := 10) (As := []) (st := []) ck11 dX11_layered_7 rfl rfl mkX11_basisHere wt766 wt768 wp27 rfl (Nat.le_of_ble_eq_true rfl) (Nat.le_of_ble_eq_true rfl) (by decide) (by decide) (by decide) (Or.inl rfl) (hs.e (by decide)) (ok_basisHere hs hcc hc4) (fun r7 S7 hp7 => ?_)
  obtain ⟨rfl, hq7⟩ := hp7
  rw [hq7]
  show Ok _ _ _ [zr 0 cc] _ _
  refine r_astore (q := 12) (L' := [some (zr 11 0), some (zi (nI m)), some (zi (nI n)), some (zr 0 s), some (zr 0 cc)]) dX11_layered_10 rfl (by decide) rfl ?_
  refine r_aload_n (q := 13) dX11_layered_12 rfl rfl rfl ?_
  refine r_ifnull (q := 16) (t := 33) (r := some (0, s)) dX11_layered_13 (by decide) rfl (fun z => by cases z) (fun _ => ?_)
  refine r_aload (q := 18) dX11_layered_16 rfl rfl ?_
  refine r_iload_n (q := 19) dX11_layered_18 rfl rfl rfl ?_
  refine r_callV (Mc := mX0_reach) (q := 22) (As := [zi (nI n)]) (st := []) ck0 dX11_layered_19 rfl rfl mkX0_reach wt770 wt771 wt772 rfl (Nat.le_of_ble_eq_true rfl) (Nat.le_of_ble_eq_true rfl) (by decide) (by decide) (by decide) (Or.inr ⟨Nat.le_of_ble_eq_true rfl, rfl, rfl⟩) (hs.e (show cc < 4 by omega)) (ok_reach_n hs hW hc4 hn1 hn7 hc hT hB0 h3) (fun r19 S19 hp19 => ?_)
  obtain ⟨rfl, f1, hc1, n1, mk1, rl1, hB1⟩ := hp19
  obtain ⟨n2, mk2, rl2, hB2, _⟩ := two_cb (N := 0) (fun e => (he e.symm).symm) f1 (hBk.imp fun n h => h.imp fun mk h => h.imp fun rl h => ⟨h, Nat.zero_le _⟩) ⟨n1, mk1, rl1, hB1, Nat.zero_le _⟩
  show Ok _ _ _ [zi (nI 0)] _ _
  refine r_if_eqN (q := 25) (t := 33) (by omega) dX11_layered_22 (by decide) rfl (fun h22 => ?_) (fun h22 => absurd h22 (by omega))
  refine r_ldc2 (q := 36) (-1 : Int64) dX11_layered_33 rfl wt716 ?_
  refine r_lreturn dX11_layered_36 rfl ?_
  exact ⟨rfl, f1.mono (fun a b k h => Or.inl h), ⟨n1, mk1, rl1, hB1⟩, n2, mk2, rl2, hB2⟩

set_option maxRecDepth 100000 in
theorem cm_ly_x {S : zS} (hs : Sd S) {cc : Nat} (hcc : gI S 11 0 3 = nI cc) (hc4 : cc < 4) {s m : Nat} (hm : m < 2) (hk : gI S 1204 0 m = nI s) (hs4 : s < 4) {x : Int32} (hx : ¬ (nI 1 ≤ x ∧ x ≤ nI 7)) : Ok mX11_layered 0 (ent 5 [zr 11 0, zi (nI m), zi x]) [] S (fun r S1 => r = some (zl (-1)) ∧ S1 = S) := by
  show Ok mX11_layered 0 [some (zr 11 0), some (zi (nI m)), some (zi x), none, none] [] S _
  refine r_aload_n (q := 1) dX11_layered_0 rfl rfl rfl ?_
  refine r_iload_n (q := 2) dX11_layered_1 rfl rfl rfl ?_
  refine r_callV (Mc := mX11_basisKept) (q := 5) (As := [zi (nI m)]) (st := []) ck11 dX11_layered_2 rfl rfl mkX11_basisKept wt1037 wt1039 wp55 rfl (Nat.le_of_ble_eq_true rfl) (Nat.le_of_ble_eq_true rfl) (by decide) (by decide) (by decide) (Or.inl rfl) (hs.e (by decide)) (ok_X11_basisKept_in (S := S) hs hm hk hs4) (fun r2 S2 hp2 => ?_)
  obtain ⟨rfl, hq2⟩ := hp2
  rw [hq2]
  show Ok _ _ _ [zr 0 s] _ _
  refine r_astore_n (q := 6) (L' := [some (zr 11 0), some (zi (nI m)), some (zi x), some (zr 0 s), none]) dX11_layered_5 rfl rfl (by decide) rfl ?_
  refine r_aload_n (q := 7) dX11_layered_6 rfl rfl rfl ?_
  refine r_callV (Mc := mX11_basisHere) (q := 10) (As := []) (st := []) ck11 dX11_layered_7 rfl rfl mkX11_basisHere wt766 wt768 wp27 rfl (Nat.le_of_ble_eq_true rfl) (Nat.le_of_ble_eq_true rfl) (by decide) (by decide) (by decide) (Or.inl rfl) (hs.e (by decide)) (ok_basisHere hs hcc hc4) (fun r7 S7 hp7 => ?_)
  obtain ⟨rfl, hq7⟩ := hp7
  rw [hq7]
  show Ok _ _ _ [zr 0 cc] _ _
  refine r_astore (q := 12) (L' := [some (zr 11 0), some (zi (nI m)), some (zi x), some (zr 0 s), some (zr 0 cc)]) dX11_layered_10 rfl (by decide) rfl ?_
  refine r_aload_n (q := 13) dX11_layered_12 rfl rfl rfl ?_
  refine r_ifnull (q := 16) (t := 33) (r := some (0, s)) dX11_layered_13 (by decide) rfl (fun z => by cases z) (fun _ => ?_)
  refine r_aload (q := 18) dX11_layered_16 rfl rfl ?_
  refine r_iload_n (q := 19) dX11_layered_18 rfl rfl rfl ?_
  refine r_callV (Mc := mX0_reach) (q := 22) (As := [zi x]) (st := []) ck0 dX11_layered_19 rfl rfl mkX0_reach wt770 wt771 wt772 rfl (Nat.le_of_ble_eq_true rfl) (Nat.le_of_ble_eq_true rfl) (by decide) (by decide) (by decide) (Or.inr ⟨Nat.le_of_ble_eq_true rfl, rfl, rfl⟩) (hs.e (show cc < 4 by omega)) (ok_reach_out hs hc4 hx) (fun r19 S19 hp19 => ?_)
  obtain ⟨rfl, hq19⟩ := hp19
  rw [hq19]
  show Ok _ _ _ [zi (nI 0)] _ _
  refine r_if_eqN (q := 25) (t := 33) (by omega) dX11_layered_22 (by decide) rfl (fun h22 => ?_) (fun h22 => absurd h22 (by omega))
  refine r_ldc2 (q := 36) (-1 : Int64) dX11_layered_33 rfl wt716 ?_
  refine r_lreturn dX11_layered_36 rfl ?_
  exact ⟨rfl, rfl⟩

set_option maxRecDepth 100000 in
theorem cm_ly_no {S : zS} (hs : Sd S) {cc : Nat} (hcc : gI S 11 0 3 = nI cc) (hc4 : cc < 4) {m : Nat} (hm : m < 2) (hk : gI S 1204 0 m = -1) {x : Int32} : Ok mX11_layered 0 (ent 5 [zr 11 0, zi (nI m), zi x]) [] S (fun r S1 => r = some (zl (-1)) ∧ S1 = S) := by
  show Ok mX11_layered 0 [some (zr 11 0), some (zi (nI m)), some (zi x), none, none] [] S _
  refine r_aload_n (q := 1) dX11_layered_0 rfl rfl rfl ?_
  refine r_iload_n (q := 2) dX11_layered_1 rfl rfl rfl ?_
  refine r_callV (Mc := mX11_basisKept) (q := 5) (As := [zi (nI m)]) (st := []) ck11 dX11_layered_2 rfl rfl mkX11_basisKept wt1037 wt1039 wp55 rfl (Nat.le_of_ble_eq_true rfl) (Nat.le_of_ble_eq_true rfl) (by decide) (by decide) (by decide) (Or.inl rfl) (hs.e (by decide)) (ok_X11_basisKept_no (S := S) hs hm hk) (fun r2 S2 hp2 => ?_)
  obtain ⟨rfl, hq2⟩ := hp2
  rw [hq2]
  show Ok _ _ _ [zn] _ _
  refine r_astore_n (q := 6) (L' := [some (zr 11 0), some (zi (nI m)), some (zi x), some (zn), none]) dX11_layered_5 rfl rfl (by decide) rfl ?_
  refine r_aload_n (q := 7) dX11_layered_6 rfl rfl rfl ?_
  refine r_callV (Mc := mX11_basisHere) (q := 10) (As := []) (st := []) ck11 dX11_layered_7 rfl rfl mkX11_basisHere wt766 wt768 wp27 rfl (Nat.le_of_ble_eq_true rfl) (Nat.le_of_ble_eq_true rfl) (by decide) (by decide) (by decide) (Or.inl rfl) (hs.e (by decide)) (ok_basisHere hs hcc hc4) (fun r7 S7 hp7 => ?_)
  obtain ⟨rfl, hq7⟩ := hp7
  rw [hq7]
  show Ok _ _ _ [zr 0 cc] _ _
  refine r_astore (q := 12) (L' := [some (zr 11 0), some (zi (nI m)), some (zi x), some (zn), some (zr 0 cc)]) dX11_layered_10 rfl (by decide) rfl ?_
  refine r_aload_n (q := 13) dX11_layered_12 rfl rfl rfl ?_
  refine r_ifnull (q := 16) (t := 33) (r := none) dX11_layered_13 (by decide) rfl (fun _ => ?_) (fun z => absurd rfl z)
  refine r_ldc2 (q := 36) (-1 : Int64) dX11_layered_33 rfl wt716 ?_
  refine r_lreturn dX11_layered_36 rfl ?_
  exact ⟨rfl, rfl⟩

set_option maxRecDepth 100000 in
theorem cm_ly_out {S : zS} (hs : Sd S) {cc : Nat} (hcc : gI S 11 0 3 = nI cc) (hc4 : cc < 4) {a : Int32} (ha : ¬ (0 ≤ a ∧ a < nI 2)) {x : Int32} : Ok mX11_layered 0 (ent 5 [zr 11 0, zi a, zi x]) [] S (fun r S1 => r = some (zl (-1)) ∧ S1 = S) := by
  show Ok mX11_layered 0 [some (zr 11 0), some (zi a), some (zi x), none, none] [] S _
  refine r_aload_n (q := 1) dX11_layered_0 rfl rfl rfl ?_
  refine r_iload_n (q := 2) dX11_layered_1 rfl rfl rfl ?_
  refine r_callV (Mc := mX11_basisKept) (q := 5) (As := [zi a]) (st := []) ck11 dX11_layered_2 rfl rfl mkX11_basisKept wt1037 wt1039 wp55 rfl (Nat.le_of_ble_eq_true rfl) (Nat.le_of_ble_eq_true rfl) (by decide) (by decide) (by decide) (Or.inl rfl) (hs.e (by decide)) (ok_X11_basisKept_out (S := S) hs ha) (fun r2 S2 hp2 => ?_)
  obtain ⟨rfl, hq2⟩ := hp2
  rw [hq2]
  show Ok _ _ _ [zn] _ _
  refine r_astore_n (q := 6) (L' := [some (zr 11 0), some (zi a), some (zi x), some (zn), none]) dX11_layered_5 rfl rfl (by decide) rfl ?_
  refine r_aload_n (q := 7) dX11_layered_6 rfl rfl rfl ?_
  refine r_callV (Mc := mX11_basisHere) (q := 10) (As := []) (st := []) ck11 dX11_layered_7 rfl rfl mkX11_basisHere wt766 wt768 wp27 rfl (Nat.le_of_ble_eq_true rfl) (Nat.le_of_ble_eq_true rfl) (by decide) (by decide) (by decide) (Or.inl rfl) (hs.e (by decide)) (ok_basisHere hs hcc hc4) (fun r7 S7 hp7 => ?_)
  obtain ⟨rfl, hq7⟩ := hp7
  rw [hq7]
  show Ok _ _ _ [zr 0 cc] _ _
  refine r_astore (q := 12) (L' := [some (zr 11 0), some (zi a), some (zi x), some (zn), some (zr 0 cc)]) dX11_layered_10 rfl (by decide) rfl ?_
  refine r_aload_n (q := 13) dX11_layered_12 rfl rfl rfl ?_
  refine r_ifnull (q := 16) (t := 33) (r := none) dX11_layered_13 (by decide) rfl (fun _ => ?_) (fun z => absurd rfl z)
  refine r_ldc2 (q := 36) (-1 : Int64) dX11_layered_33 rfl wt716 ?_
  refine r_lreturn dX11_layered_36 rfl ?_
  exact ⟨rfl, rfl⟩

theorem Cw.f3 {S S1 : zS} (h : Cw S) {U : Nat → Nat → Nat → Bool} (f : Fr U S S1) (t : U 12 0 33 = false ∧ (∀ k, k < 444 → U 1322 0 k = false) ∧ ∀ k, U 1306 0 k = false) : Cw S1 := fun z k hk h3 => by
  rw [f.1 1322 0 k (t.2.1 k hk), f.1 1306 0 k (t.2.2 k)]
  exact h ((f.1 _ _ _ t.1).symm.trans z) k hk h3
def tLq (x y k : Nat) : Bool := tSr1 x y k || tPo x y k
def tLr (x y k : Nat) : Bool := tBy x y k || tLd x y k || tLq x y k || x == 12 && y == 0 && k == 0
theorem RB.sr1 {S S1 : zS} {W : zWd} (hE : Eok (wA W) (we W)) {L : Nat} {pvs : Nat → Nat → Bool} {bss : Nat → Nat → Nat → Nat} (h : RB S W 0 L pvs bss) (f : Fr tSr1 S S1) : RB S1 W 0 L pvs bss := h.fr hE (by omega) f rfl rfl (fun s a b => ⟨bfalse fun z => by simp [tSr1, tSe, tTq, tPt, tPa, tIv] at z; omega, bfalse fun z => by simp [tSr1, tSe, tTq, tPt, tPa, tIv] at z; omega, bfalse fun z => by simp [tSr1, tSe, tTq, tPt, tPa, tIv] at z; omega, bfalse fun z => by simp [tSr1, tSe, tTq, tPt, tPa, tIv] at z; omega⟩) (fun k a b => ⟨bfalse fun z => by simp [tSr1, tSe, tTq, tPt, tPa, tIv] at z; omega, bfalse fun z => by simp [tSr1, tSe, tTq, tPt, tPa, tIv] at z; omega, bfalse fun z => by simp [tSr1, tSe, tTq, tPt, tPa, tIv] at z; omega⟩) (fun k a b => bfalse fun z => by simp [tSr1, tSe, tTq, tPt, tPa, tIv] at z; omega) (fun i a b => bfalse fun z => by simp [tSr1, tSe, tTq, tPt, tPa, tIv] at z; omega)
theorem RB.po {S S1 : zS} {W : zWd} {q L : Nat} {pvs : Nat → Nat → Bool} {bss : Nat → Nat → Nat → Nat} (h : RB S W q L pvs bss) (f : Fr tPo S S1) : RB S1 W q L pvs bss := h.fg (fun x k a b => f.1 _ _ _ (bfalse fun z => by simp [tPo] at z; omega)) (fun k => f.2.1 _ _ _ rfl)

set_option maxRecDepth 100000 in
theorem lp_ly76 {W : zWd} (hW : Wok W) {m n L : Nat} (hn1 : 1 ≤ n) (hn7 : n ≤ 7) (hnL : n ≤ L) {f : Nat → Nat} {pvs : Nat → Nat → Bool} {bss : Nat → Nat → Nat → Nat} : ∀ (d j : Nat) (S : zS), j + d = n → Sd S → Fst S f n → RB S W 0 L pvs bss → Ok mX12_layered 76 [some (zr 12 0), some (zi (nI m)), some (zi (nI n)), some (zl (lN (sm (fun i => szW W (i + 1) * pwS f (i + 1) n) j))), none, some (zi (nI (j + 1)))] [] S (fun r S1 => r = some (zl (lN (sm (fun i => szW W (i + 1) * pwS f (i + 1) n) n))) ∧ Fr tPo S S1 ∧ RB S1 W 0 L pvs bss) := by
  intro d
  induction d with
  | zero =>
    intro j S hj hs hf hB
    obtain rfl : j = n := by omega
    refine r_iload (q := 78) dX12_layered_76 rfl rfl ?_
    refine r_iload_n (q := 79) dX12_layered_78 rfl rfl rfl ?_
    refine r_icmp_gtN (q := 82) (t := 113) (by omega) (by omega) dX12_layered_79 (by decide) rfl (fun h79 => ?_) (fun h79 => absurd h79 (by omega))
    refine r_lload_n (q := 114) dX12_layered_113 rfl rfl rfl ?_
    refine r_lreturn dX12_layered_114 rfl ?_
    exact ⟨rfl, Fr.rf, hB⟩
  | succ d ih =>
    intro j S hj hs hf hB
    refine r_iload (q := 78) dX12_layered_76 rfl rfl ?_
    refine r_iload_n (q := 79) dX12_layered_78 rfl rfl rfl ?_
    refine r_icmp_gtN (q := 82) (t := 113) (by omega) (by omega) dX12_layered_79 (by decide) rfl (fun h79 => absurd h79 (by omega)) (fun h79 => ?_)
    refine r_aload_n (q := 83) dX12_layered_82 rfl rfl rfl ?_
    refine r_iload (q := 85) dX12_layered_83 rfl rfl ?_
    refine r_iload_n (q := 86) dX12_layered_85 rfl rfl rfl ?_
    refine r_callV (Mc := mX12_powers) (q := 89) (As := [zi (nI (j + 1)), zi (nI n)]) (st := []) ck12 dX12_layered_86 rfl rfl mkX12_powers wt1924 wt1926 wp132 rfl (Nat.le_of_ble_eq_true rfl) (Nat.le_of_ble_eq_true rfl) (by decide) (by decide) (by decide) (Or.inl rfl) (hs.e (by decide)) (ok_powers hs (m := j + 1) (by omega) hn7 hf) (fun r86 S86 hp86 => ?_)
    obtain ⟨rfl, f1, hpw⟩ := hp86
    have hs1 : Sd S86 := hs.fr f1
    have hB1 := hB.po f1
    have hpn := hpw n (Nat.le_refl _)
    obtain ⟨hLr, hAc, hLv⟩ := hB1.2.2.2.2 (j + 1) (by omega) (by omega)
    have hcl := cntp_le (pv := pvs (j + 1)) (tl W (j + 1)).length
    have hb300 := hAc.1.2.2.2.2.1
    have hszr := sz_R hW hLv
    have hszl := sz_le (W := W) (n := j + 1)
    show Ok _ _ _ [] _ _
    refine r_lload_n (q := 90) dX12_layered_89 rfl rfl rfl ?_
    refine r_aload_n (q := 91) dX12_layered_90 rfl rfl rfl ?_
    refine r_iconst (q := 92) (nI 0) dX12_layered_91 rfl (by decide) ?_
    refine r_iload (q := 94) dX12_layered_92 rfl rfl ?_
    refine r_callV (Mc := mX12_sizeOf) (q := 97) (As := [zi (nI 0), zi (nI (j + 1))]) (st := [zl (lN (sm (fun i => szW W (i + 1) * pwS f (i + 1) n) j))]) ck12 dX12_layered_94 rfl rfl mkX12_sizeOf wt1844 wt1846 wp120 rfl (Nat.le_of_ble_eq_true rfl) (Nat.le_of_ble_eq_true rfl) (by decide) (by decide) (by decide) (Or.inl rfl) (hs1.e (by decide)) (ok_sizeOf (S := S86) hs1 (by omega) (by omega) hcl hAc.2.2.1 hLr.2.1) (fun r94 S94 hp94 => ?_)
    rw [hszr] at hp94
    obtain ⟨rfl, hq94⟩ := hp94
    rw [hq94]
    show Ok _ _ _ [zi (nI (szW W (j + 1))), zl (lN (sm (fun i => szW W (i + 1) * pwS f (i + 1) n) j))] _ _
    refine r_i2l (q := 98) dX12_layered_97 rfl ?_
    refine r_topl (y := lN (szW W (j + 1))) (nI_l (by omega)) ?_
    refine r_aload_n (q := 99) dX12_layered_98 rfl rfl rfl ?_
    refine r_getr (q := 102) (some (1368, 0)) ck12 dX12_layered_99 rfl (k := 68) (by decide) wt1346 rfl (hs1.e (by decide)) (hs1.r (by decide) (by decide)) ?_
    refine r_iload_n (q := 103) dX12_layered_102 rfl rfl rfl ?_
    refine r_laldN (q := 104) 8 (by decide) rfl dX12_layered_103 rfl (hs1.e (by decide)) (hs1.n rfl (by decide)) (by omega) (by decide) ?_
    refine r_topl (y := lN (pwS f (j + 1) n)) hpn ?_
    refine r_lmul (q := 105) dX12_layered_104 rfl ?_
    refine r_topl (y := lN ((szW W (j + 1)) * (pwS f (j + 1) n))) (lN_mul _ _) ?_
    refine r_ladd (q := 106) dX12_layered_105 rfl ?_
    refine r_topl (y := lN ((sm (fun i => szW W (i + 1) * pwS f (i + 1) n) j) + ((szW W (j + 1)) * (pwS f (j + 1) n)))) (lN_add _ _) ?_
    refine r_lstore_n (q := 107) (L' := [some (zr 12 0), some (zi (nI m)), some (zi (nI n)), some (zl (lN ((sm (fun i => szW W (i + 1) * pwS f (i + 1) n) j) + ((szW W (j + 1)) * (pwS f (j + 1) n))))), none, some (zi (nI (j + 1)))]) dX12_layered_106 rfl rfl (by decide) rfl ?_
    refine r_iincN (q := 110) (L' := [some (zr 12 0), some (zi (nI m)), some (zi (nI n)), some (zl (lN ((sm (fun i => szW W (i + 1) * pwS f (i + 1) n) j) + ((szW W (j + 1)) * (pwS f (j + 1) n))))), none, some (zi (nI (j + 1 + 1)))]) 1 rfl dX12_layered_107 rfl rfl (by decide) rfl ?_
    refine r_goto (q := 76) dX12_layered_110 (by decide) ?_
    refine Ok.mono (ih (j + 1) S86 (by omega) hs1 (hf.fr f1 (fun _ => rfl)) hB1) (fun r S2 z => ⟨z.1, f1.tr z.2.1, z.2.2⟩)

set_option maxRecDepth 100000 in
theorem ly58y {S : zS} (hs : Sd S) {W Wk : zWd} (hW : Wok W) (hWk : Wok Wk) {m n L : Nat} (hn1 : 1 ≤ n) (hn7 : n ≤ 7) (hnL : n ≤ L) {pvs : Nat → Nat → Bool} {bss : Nat → Nat → Nat → Nat} (hB : RB S W 0 L pvs bss) (hws : WS S Wk 1) (h0 : gI S 1323 0 1 = nI 0) (hI : IvI S) (h3k : tc Wk n ≤ 300) : Ok mX12_layered 58 [some (zr 12 0), some (zi (nI m)), some (zi (nI n)), some (zi (nI (n + 1))), none, none] [] S (fun r S1 => r = some (zl (lN (sm (fun i => szW W (i + 1) * pwS (szW Wk) (i + 1) n) n))) ∧ Fr tLq S S1 ∧ RB S1 W 0 L pvs bss ∧ IvI S1) := by
  refine r_aload_n (q := 59) dX12_layered_58 rfl rfl rfl ?_
  refine r_iconst (q := 60) (nI 1) dX12_layered_59 rfl (by decide) ?_
  refine r_iload_n (q := 61) dX12_layered_60 rfl rfl rfl ?_
  refine r_callV (Mc := mX12_series) (q := 64) (As := [zi (nI 1), zi (nI n)]) (st := []) ck12 dX12_layered_61 rfl rfl mkX12_series wt1916 wt1918 wp130 rfl (Nat.le_of_ble_eq_true rfl) (Nat.le_of_ble_eq_true rfl) (by decide) (by decide) (by decide) (Or.inl rfl) (hs.e (by decide)) (ok_series1_y hs hWk hn7 h3k hws ⟨0, _, _, RB.zero h0⟩ hI) (fun r61 S61 hp61 => ?_)
  obtain ⟨rfl, hf, f1, _, _, hI1⟩ := hp61
  have hs1 : Sd S61 := hs.fr f1
  have hB1 := hB.sr1 hW.2.1 f1
  show Ok _ _ _ [zi (nI 1)] _ _
  refine r_if_neN (q := 67) (t := 71) (by omega) dX12_layered_64 (by decide) rfl (fun h64 => ?_) (fun h64 => absurd h64 (by omega))
  refine r_lconst (q := 72) (0 : Int64) dX12_layered_71 rfl rfl ?_
  refine r_topl (y := lN 0) rfl ?_
  refine r_lstore_n (q := 73) (L' := [some (zr 12 0), some (zi (nI m)), some (zi (nI n)), some (zl (lN 0)), none, none]) dX12_layered_72 rfl rfl (by decide) rfl ?_
  refine r_iconst (q := 74) (nI 1) dX12_layered_73 rfl (by decide) ?_
  refine r_istore (q := 76) (L' := [some (zr 12 0), some (zi (nI m)), some (zi (nI n)), some (zl (lN 0)), none, some (zi (nI 1))]) dX12_layered_74 rfl (by decide) rfl ?_
  refine Ok.mono (lp_ly76 (S := S61) (m := m) (f := szW Wk) hW hn1 hn7 hnL n 0 (by omega) hs1 hf hB1) (fun r S2 z => ⟨z.1, (f1.mono (fun x y k h => by simp [tLq, h])).tr (z.2.1.mono (fun x y k h => by simp [tLq, h])), z.2.2, ?_⟩)
  exact hI1.fr z.2.1 ⟨rfl, fun _ => rfl⟩

set_option maxRecDepth 100000 in
theorem ly58n {S : zS} (hs : Sd S) {W Wk : zWd} (hW : Wok W) (hWk : Wok Wk) {m n L : Nat} (hn1 : 1 ≤ n) (hn7 : n ≤ 7) (hnL : n ≤ L) {pvs : Nat → Nat → Bool} {bss : Nat → Nat → Nat → Nat} (hB : RB S W 0 L pvs bss) (hws : WS S Wk 1) (h0 : gI S 1323 0 1 = nI 0) (hI : IvI S) (h3k : ¬ tc Wk n ≤ 300) : Ok mX12_layered 58 [some (zr 12 0), some (zi (nI m)), some (zi (nI n)), some (zi (nI (n + 1))), none, none] [] S (fun r S1 => r = some (zl (-1)) ∧ Fr tLq S S1 ∧ RB S1 W 0 L pvs bss ∧ IvI S1) := by
  refine r_aload_n (q := 59) dX12_layered_58 rfl rfl rfl ?_
  refine r_iconst (q := 60) (nI 1) dX12_layered_59 rfl (by decide) ?_
  refine r_iload_n (q := 61) dX12_layered_60 rfl rfl rfl ?_
  refine r_callV (Mc := mX12_series) (q := 64) (As := [zi (nI 1), zi (nI n)]) (st := []) ck12 dX12_layered_61 rfl rfl mkX12_series wt1916 wt1918 wp130 rfl (Nat.le_of_ble_eq_true rfl) (Nat.le_of_ble_eq_true rfl) (by decide) (by decide) (by decide) (Or.inl rfl) (hs.e (by decide)) (ok_series1_n hs hWk hn7 h3k hws ⟨0, _, _, RB.zero h0⟩ hI) (fun r61 S61 hp61 => ?_)
  obtain ⟨rfl, f1, _, _, hI1⟩ := hp61
  have hs1 : Sd S61 := hs.fr f1
  have hB1 := hB.sr1 hW.2.1 f1
  show Ok _ _ _ [zi (nI 0)] _ _
  refine r_if_neN (q := 67) (t := 71) (by omega) dX12_layered_64 (by decide) rfl (fun h64 => absurd h64 (by omega)) (fun h64 => ?_)
  refine r_ldc2 (q := 70) (-1 : Int64) dX12_layered_67 rfl wt1685 ?_
  refine r_lreturn dX12_layered_70 rfl ?_
  exact ⟨rfl, f1.mono (fun x y k h => by simp [tLq, h]), hB1, hI1⟩

set_option maxRecDepth 100000 in
theorem lp_ly34y {W : zWd} (hW : Wok W) {m n : Nat} (hn1 : 1 ≤ n) (hn7 : n ≤ 7) (h3n : tc W n ≤ 300) {n9 : Nat → Int64} {Po : Option zV → zS → Prop} : ∀ (d k : Nat) (S : zS), k + d = n + 1 → 1 ≤ k → Sd S → (∀ i, 1 ≤ i → i < k → tc W i ≤ 300) → wqR W (fun k => gI S 1306 0 k) n9 → Cw S → CR S W → IvI S → (2 ≤ k → ∃ L pvs bss, RB S W 0 L pvs bss ∧ k - 1 ≤ L) → (∀ S1, Fr tBy S S1 → Cw S1 → IvI S1 → (∃ L pvs bss, RB S1 W 0 L pvs bss ∧ n ≤ L) → Ok mX12_layered 58 [some (zr 12 0), some (zi (nI m)), some (zi (nI n)), some (zi (nI (n + 1))), none, none] [] S1 Po) → Ok mX12_layered 34 [some (zr 12 0), some (zi (nI m)), some (zi (nI n)), some (zi (nI k)), none, none] [] S Po := by
  intro d
  induction d with
  | zero =>
    intro k S hk h1 hs hlow hR hO hcr hI hl K
    obtain rfl : k = n + 1 := by omega
    refine r_iload_n (q := 35) dX12_layered_34 rfl rfl rfl ?_
    refine r_iload_n (q := 36) dX12_layered_35 rfl rfl rfl ?_
    refine r_icmp_gtN (q := 39) (t := 58) (by omega) (by omega) dX12_layered_36 (by decide) rfl (fun h36 => ?_) (fun h36 => absurd h36 (by omega))
    exact K S Fr.rf hO hI (hl (by omega))
  | succ d ih =>
    intro k S hk h1 hs hlow hR hO hcr hI hl K
    have hk7 : k ≤ 7 := by omega
    have h3 : tc W k ≤ 300 := tc_down hW.2.1 hn7 h3n (by omega)
    refine r_iload_n (q := 35) dX12_layered_34 rfl rfl rfl ?_
    refine r_iload_n (q := 36) dX12_layered_35 rfl rfl rfl ?_
    refine r_icmp_gtN (q := 39) (t := 58) (by omega) (by omega) dX12_layered_36 (by decide) rfl (fun h36 => absurd h36 (by omega)) (fun h36 => ?_)
    refine r_aload_n (q := 40) dX12_layered_39 rfl rfl rfl ?_
    refine r_iconst (q := 41) (nI 0) dX12_layered_40 rfl (by decide) ?_
    refine r_iload_n (q := 42) dX12_layered_41 rfl rfl rfl ?_
    refine r_callV (Mc := mX12_isBeyond) (q := 45) (As := [zi (nI 0), zi (nI k)]) (st := []) ck12 dX12_layered_42 rfl rfl mkX12_isBeyond wt1751 wt1753 wp99 rfl (Nat.le_of_ble_eq_true rfl) (Nat.le_of_ble_eq_true rfl) (by decide) (by decide) (by decide) (Or.inl rfl) (hs.e (by decide)) (ok_beyond0_n hs hW h1 hk7 hR hO hcr hI h3) (fun r42 S42 hp42 => ?_)
    obtain ⟨f1, hon, hcw, hiv, hws, L', pvs, bss, hB, hz⟩ := hp42
    have hs1 : Sd S42 := hs.fr f1
    have hR1 : wqR W (fun k => gI S42 1306 0 k) n9 := wqR.cong hW (fun k _ _ => (f1.1 1306 0 k rfl).symm) (fun _ _ => rfl) hR
    obtain ⟨rfl, _, hnL⟩ := hz.resolve_left (fun z => absurd z.2 (by omega))
    show Ok _ _ _ [zi (nI 0)] _ _
    refine r_if_eqN (q := 48) (t := 52) (by omega) dX12_layered_45 (by decide) rfl (fun h45 => ?_) (fun h45 => absurd h45 (by omega))
    refine r_iincN (q := 55) (L' := [some (zr 12 0), some (zi (nI m)), some (zi (nI n)), some (zi (nI (k + 1))), none, none]) 1 rfl dX12_layered_52 rfl rfl (by decide) rfl ?_
    refine r_goto (q := 34) dX12_layered_55 (by decide) ?_
    exact (ih (k + 1) S42 (by omega) (by omega) hs1 (fun i a b => if e : i = k then by rw [e]; exact h3 else hlow i a (by omega)) hR1 hcw (fun _ => ⟨L', pvs, bss, hB⟩) hiv (fun _ => ⟨L', pvs, bss, hB, by omega⟩) (fun S1 g => K S1 (f1.tr g)))

set_option maxRecDepth 100000 in
theorem lp_ly34n {W : zWd} (hW : Wok W) {m n : Nat} (hn1 : 1 ≤ n) (hn7 : n ≤ 7) (h3n : ¬ tc W n ≤ 300) {n9 : Nat → Int64}  : ∀ (d k : Nat) (S : zS), k + d = n + 1 → 1 ≤ k → Sd S → (∀ i, 1 ≤ i → i < k → tc W i ≤ 300) → wqR W (fun k => gI S 1306 0 k) n9 → Cw S → CR S W → IvI S → (2 ≤ k → ∃ L pvs bss, RB S W 0 L pvs bss ∧ k - 1 ≤ L) → Ok mX12_layered 34 [some (zr 12 0), some (zi (nI m)), some (zi (nI n)), some (zi (nI k)), none, none] [] S (fun r S1 => r = some (zl (-1)) ∧ Fr tBy S S1 ∧ Cw S1 ∧ CR S1 W ∧ IvI S1) := by
  intro d
  induction d with
  | zero =>
    intro k S hk h1 hs hlow hR hO hcr hI hl
    obtain rfl : k = n + 1 := by omega
    exact absurd (hlow n hn1 (by omega)) h3n
  | succ d ih =>
    intro k S hk h1 hs hlow hR hO hcr hI hl
    have hk7 : k ≤ 7 := by omega
    by_cases h3 : tc W k ≤ 300
    · skip
      refine r_iload_n (q := 35) dX12_layered_34 rfl rfl rfl ?_
      refine r_iload_n (q := 36) dX12_layered_35 rfl rfl rfl ?_
      refine r_icmp_gtN (q := 39) (t := 58) (by omega) (by omega) dX12_layered_36 (by decide) rfl (fun h36 => absurd h36 (by omega)) (fun h36 => ?_)
      refine r_aload_n (q := 40) dX12_layered_39 rfl rfl rfl ?_
      refine r_iconst (q := 41) (nI 0) dX12_layered_40 rfl (by decide) ?_
      refine r_iload_n (q := 42) dX12_layered_41 rfl rfl rfl ?_
      refine r_callV (Mc := mX12_isBeyond) (q := 45) (As := [zi (nI 0), zi (nI k)]) (st := []) ck12 dX12_layered_42 rfl rfl mkX12_isBeyond wt1751 wt1753 wp99 rfl (Nat.le_of_ble_eq_true rfl) (Nat.le_of_ble_eq_true rfl) (by decide) (by decide) (by decide) (Or.inl rfl) (hs.e (by decide)) (ok_beyond0_n hs hW h1 hk7 hR hO hcr hI h3) (fun r42 S42 hp42 => ?_)
      obtain ⟨f1, hon, hcw, hiv, hws, L', pvs, bss, hB, hz⟩ := hp42
      have hs1 : Sd S42 := hs.fr f1
      have hR1 : wqR W (fun k => gI S42 1306 0 k) n9 := wqR.cong hW (fun k _ _ => (f1.1 1306 0 k rfl).symm) (fun _ _ => rfl) hR
      obtain ⟨rfl, _, hnL⟩ := hz.resolve_left (fun z => absurd z.2 (by omega))
      show Ok _ _ _ [zi (nI 0)] _ _
      refine r_if_eqN (q := 48) (t := 52) (by omega) dX12_layered_45 (by decide) rfl (fun h45 => ?_) (fun h45 => absurd h45 (by omega))
      refine r_iincN (q := 55) (L' := [some (zr 12 0), some (zi (nI m)), some (zi (nI n)), some (zi (nI (k + 1))), none, none]) 1 rfl dX12_layered_52 rfl rfl (by decide) rfl ?_
      refine r_goto (q := 34) dX12_layered_55 (by decide) ?_
      exact Ok.mono (ih (k + 1) S42 (by omega) (by omega) hs1 (fun i a b => if e : i = k then by rw [e]; exact h3 else hlow i a (by omega)) hR1 hcw (fun _ => ⟨L', pvs, bss, hB⟩) hiv (fun _ => ⟨L', pvs, bss, hB, by omega⟩)) (fun r S1 z => ⟨z.1, f1.tr z.2.1, z.2.2⟩)
    · skip
      refine r_iload_n (q := 35) dX12_layered_34 rfl rfl rfl ?_
      refine r_iload_n (q := 36) dX12_layered_35 rfl rfl rfl ?_
      refine r_icmp_gtN (q := 39) (t := 58) (by omega) (by omega) dX12_layered_36 (by decide) rfl (fun h36 => absurd h36 (by omega)) (fun h36 => ?_)
      refine r_aload_n (q := 40) dX12_layered_39 rfl rfl rfl ?_
      refine r_iconst (q := 41) (nI 0) dX12_layered_40 rfl (by decide) ?_
      refine r_iload_n (q := 42) dX12_layered_41 rfl rfl rfl ?_
      refine r_callV (Mc := mX12_isBeyond) (q := 45) (As := [zi (nI 0), zi (nI k)]) (st := []) ck12 dX12_layered_42 rfl rfl mkX12_isBeyond wt1751 wt1753 wp99 rfl (Nat.le_of_ble_eq_true rfl) (Nat.le_of_ble_eq_true rfl) (by decide) (by decide) (by decide) (Or.inl rfl) (hs.e (by decide)) (ok_beyond0_y hs hW h1 hk7 hR hO hcr hI h3) (fun r42 S42 hp42 => ?_)
      obtain ⟨f1, hon, hcw, hiv, hws, L', pvs, bss, hB, hz⟩ := hp42
      have hs1 : Sd S42 := hs.fr f1
      have hR1 : wqR W (fun k => gI S42 1306 0 k) n9 := wqR.cong hW (fun k _ _ => (f1.1 1306 0 k rfl).symm) (fun _ _ => rfl) hR
      obtain ⟨rfl, _⟩ := hz.resolve_right (fun z => h3 z.2.1)
      show Ok _ _ _ [zi (nI 1)] _ _
      refine r_if_eqN (q := 48) (t := 52) (by omega) dX12_layered_45 (by decide) rfl (fun h45 => absurd h45 (by omega)) (fun h45 => ?_)
      refine r_ldc2 (q := 51) (-1 : Int64) dX12_layered_48 rfl wt1685 ?_
      refine r_lreturn dX12_layered_51 rfl ?_
      exact ⟨rfl, f1, hcw, fun _ => ⟨L', pvs, bss, hB⟩, hiv⟩

set_option maxRecDepth 100000 in
theorem rm_ly_y {S : zS} (hs : Sd S) {W Wk : zWd} (hW : Wok W) (hWk : Wok Wk) {n9 nk : Nat → Int64} (hR : wqR W (fun k => gI S 1306 0 k) n9) (hO : Cw S) (hcr : CR S W) (hI : IvI S) {m : Nat} (hm : m < 2) (hk : gI S 1393 0 m = nI 1) (hRk : wqR Wk (fun k => gI S 1391 0 (3775 * m + k)) nk) {n : Nat} (hn1 : 1 ≤ n) (hn7 : n ≤ 7) (h3 : tc W n ≤ 300) (h3k : tc Wk n ≤ 300) : Ok mX12_layered 0 (ent 6 [zr 12 0, zi (nI m), zi (nI n)]) [] S (fun r S1 => r = some (zl (lN (sm (fun i => szW W (i + 1) * pwS (szW Wk) (i + 1) n) n))) ∧ Fr tLr S S1 ∧ Cw S1 ∧ CR S1 W ∧ IvI S1) := by
  show Ok mX12_layered 0 [some (zr 12 0), some (zi (nI m)), some (zi (nI n)), none, none, none] [] S _
  refine r_aload_n (q := 1) dX12_layered_0 rfl rfl rfl ?_
  refine r_iconst (q := 2) (nI 0) dX12_layered_1 rfl (by decide) ?_
  refine r_puti (q := 5) ck12 dX12_layered_2 rfl (k := 0) (by decide) wt1278 (Or.inl rfl) rfl (hs.e (by decide)) ?_
  refine r_iload_n (q := 6) dX12_layered_5 rfl rfl rfl ?_
  refine r_iconst (q := 7) (nI 1) dX12_layered_6 rfl (by decide) ?_
  refine r_bipush (q := 9) (nI 7) dX12_layered_7 rfl (by decide) ?_
  refine r_callS (Mc := mX12_isIn) (q := 12) (As := [zi (nI n), zi (nI 1), zi (nI 7)]) (st := []) dX12_layered_9 rfl rfl mkX12_isIn wt1614 wt1615 rfl (Nat.le_of_ble_eq_true rfl) (Nat.le_of_ble_eq_true rfl) (by decide) (by decide) (by decide) (Or.inl rfl) hs.some (ok_X12_isIn_in (by omega) (by omega) (by omega)) (fun r9 S9 hp9 => ?_)
  obtain ⟨rfl, hq9⟩ := hp9
  rw [hq9]
  show Ok _ _ _ [zi (nI 1)] _ _
  refine r_if_eqN (q := 15) (t := 23) (by omega) dX12_layered_12 (by decide) rfl (fun h12 => absurd h12 (by omega)) (fun h12 => ?_)
  refine r_aload_n (q := 16) dX12_layered_15 rfl rfl rfl ?_
  refine r_iload_n (q := 17) dX12_layered_16 rfl rfl rfl ?_
  refine r_callV (Mc := mX12_isKeptAt) (q := 20) (As := [zi (nI m)]) (st := []) ck12 dX12_layered_17 rfl rfl mkX12_isKeptAt wt1936 wt1938 wp133 rfl (Nat.le_of_ble_eq_true rfl) (Nat.le_of_ble_eq_true rfl) (by decide) (by decide) (by decide) (Or.inl rfl) (hs.e (by decide)) (ok_isKeptAt_y (S := sI S 12 0 0 (nI 0)) hs hm (by rw [gI_sI, if_neg (by omega)]; exact hk)) (fun r17 S17 hp17 => ?_)
  obtain ⟨rfl, hq17⟩ := hp17
  rw [hq17]
  show Ok _ _ _ [zi (nI 1)] _ _
  refine r_if_neN (q := 23) (t := 27) (by omega) dX12_layered_20 (by decide) rfl (fun h20 => ?_) (fun h20 => absurd h20 (by omega))
  refine r_aload_n (q := 28) dX12_layered_27 rfl rfl rfl ?_
  refine r_iload_n (q := 29) dX12_layered_28 rfl rfl rfl ?_
  refine r_callV (Mc := mX12_loads) (q := 32) (As := [zi (nI m)]) (st := []) ck12 dX12_layered_29 rfl rfl mkX12_loads wt1940 wt1942 wp134 rfl (Nat.le_of_ble_eq_true rfl) (Nat.le_of_ble_eq_true rfl) (by decide) (by decide) (by decide) (Or.inl rfl) (hs.e (by decide)) (ok_loads (S := sI S 12 0 0 (nI 0)) hs hm) (fun r29 S29 hp29 => ?_)
  obtain ⟨rfl, f0, hld, hl0⟩ := hp29
  have hs0 : Sd S29 := Sd.fr (S := sI S 12 0 0 (nI 0)) hs f0
  have hR0 : wqR W (fun k => gI S29 1306 0 k) n9 := wqR.cong hW (fun k _ _ => (f0.1 1306 0 k rfl).symm) (fun _ _ => rfl) (wqR_thr hW hR)
  have hO0 : Cw S29 := Cw.f3 (rc_thr.rc (W := W).2.1 hO) f0 ⟨rfl, fun k hk => bfalse fun z => by simp [tLd] at z; omega, fun _ => rfl⟩
  have hI0 : IvI S29 := (rc_thr.rc (W := W).2.2 hI).fr f0 ⟨rfl, fun _ => rfl⟩
  have hcr0 : CR S29 W := fun z => by
    obtain ⟨L, pvs, bss, hB⟩ := rc_thr.rc.1 hcr ((f0.1 12 0 33 rfl).symm.trans z)
    exact ⟨L, pvs, bss, hB.fr hW.2.1 (by omega) f0 rfl rfl (fun s a b => ⟨rfl, rfl, rfl, rfl⟩) (fun k a b => ⟨rfl, rfl, rfl⟩) (fun k a b => rfl) (fun i a b => rfl)⟩
  have hRk0 : wqR Wk (fun k => gI S29 1322 0 (1173 * 1 + k)) nk := wqR.cong hWk (fun k k1 _ => by show gI S 1391 0 (3775 * m + k) = gI S29 1322 0 (1173 * 1 + k); rw [Nat.mul_one, hld k (by omega), gI_sI, if_neg (by omega)]) (fun _ _ => rfl) hRk
  show Ok _ _ _ [] _ _
  refine r_iconst (q := 33) (nI 1) dX12_layered_32 rfl (by decide) ?_
  refine r_istore_n (q := 34) (L' := [some (zr 12 0), some (zi (nI m)), some (zi (nI n)), some (zi (nI 1)), none, none]) dX12_layered_33 rfl rfl (by decide) rfl ?_
  exact lp_ly34y (S := S29) hW hn1 hn7 h3 n 1 (by omega) (by omega) hs0 (fun i a b => absurd b (by omega)) hR0 hO0 hcr0 hI0 (fun z => absurd z (by omega)) (fun S1 g1 hO1 hI1 ⟨L, pvs, bss, hB, hnL⟩ => by
    have hRk1 : wqR Wk (fun k => gI S1 1322 0 (1173 * 1 + k)) nk := wqR.cong hWk (fun k k1 _ => (g1.1 1322 0 (1173 * 1 + k) (bfalse fun z => by simp [tBy, tSe, tTq, tPt, tPa, tIv, tOw] at z; omega)).symm) (fun _ _ => rfl) hRk0
    have hl1 : gI S1 1323 0 1 = nI 0 := (g1.1 _ _ _ rfl).trans hl0
    refine Ok.mono (ly58y (S := S1) (m := m) (hs0.fr g1) hW hWk hn1 hn7 hnL hB (WS.of hWk hRk1) hl1 hI1 h3k) (fun r S2 z => ⟨z.1, ((fr_thr.mono (fun x y k h => by simp [tLr] at h ⊢; omega) : Fr tLr S (sI S 12 0 0 (nI 0))).tr (f0.mono (fun x y k h => by simp [tLr, h]))).tr ((g1.mono (fun x y k h => by simp [tLr, h])).tr (z.2.1.mono (fun x y k h => by simp [tLr, h]))), hO1.f3 z.2.1 ⟨rfl, fun k _ => rfl, fun k => rfl⟩, fun _ => ⟨L, pvs, bss, z.2.2.1⟩, z.2.2.2⟩))

set_option maxRecDepth 100000 in
theorem rm_ly_k {S : zS} (hs : Sd S) {W Wk : zWd} (hW : Wok W) (hWk : Wok Wk) {n9 nk : Nat → Int64} (hR : wqR W (fun k => gI S 1306 0 k) n9) (hO : Cw S) (hcr : CR S W) (hI : IvI S) {m : Nat} (hm : m < 2) (hk : gI S 1393 0 m = nI 1) (hRk : wqR Wk (fun k => gI S 1391 0 (3775 * m + k)) nk) {n : Nat} (hn1 : 1 ≤ n) (hn7 : n ≤ 7) (h3 : tc W n ≤ 300) (h3k : ¬ tc Wk n ≤ 300) : Ok mX12_layered 0 (ent 6 [zr 12 0, zi (nI m), zi (nI n)]) [] S (fun r S1 => r = some (zl (-1)) ∧ Fr tLr S S1 ∧ Cw S1 ∧ CR S1 W ∧ IvI S1) := by
  show Ok mX12_layered 0 [some (zr 12 0), some (zi (nI m)), some (zi (nI n)), none, none, none] [] S _
  refine r_aload_n (q := 1) dX12_layered_0 rfl rfl rfl ?_
  refine r_iconst (q := 2) (nI 0) dX12_layered_1 rfl (by decide) ?_
  refine r_puti (q := 5) ck12 dX12_layered_2 rfl (k := 0) (by decide) wt1278 (Or.inl rfl) rfl (hs.e (by decide)) ?_
  refine r_iload_n (q := 6) dX12_layered_5 rfl rfl rfl ?_
  refine r_iconst (q := 7) (nI 1) dX12_layered_6 rfl (by decide) ?_
  refine r_bipush (q := 9) (nI 7) dX12_layered_7 rfl (by decide) ?_
  refine r_callS (Mc := mX12_isIn) (q := 12) (As := [zi (nI n), zi (nI 1), zi (nI 7)]) (st := []) dX12_layered_9 rfl rfl mkX12_isIn wt1614 wt1615 rfl (Nat.le_of_ble_eq_true rfl) (Nat.le_of_ble_eq_true rfl) (by decide) (by decide) (by decide) (Or.inl rfl) hs.some (ok_X12_isIn_in (by omega) (by omega) (by omega)) (fun r9 S9 hp9 => ?_)
  obtain ⟨rfl, hq9⟩ := hp9
  rw [hq9]
  show Ok _ _ _ [zi (nI 1)] _ _
  refine r_if_eqN (q := 15) (t := 23) (by omega) dX12_layered_12 (by decide) rfl (fun h12 => absurd h12 (by omega)) (fun h12 => ?_)
  refine r_aload_n (q := 16) dX12_layered_15 rfl rfl rfl ?_
  refine r_iload_n (q := 17) dX12_layered_16 rfl rfl rfl ?_
  refine r_callV (Mc := mX12_isKeptAt) (q := 20) (As := [zi (nI m)]) (st := []) ck12 dX12_layered_17 rfl rfl mkX12_isKeptAt wt1936 wt1938 wp133 rfl (Nat.le_of_ble_eq_true rfl) (Nat.le_of_ble_eq_true rfl) (by decide) (by decide) (by decide) (Or.inl rfl) (hs.e (by decide)) (ok_isKeptAt_y (S := sI S 12 0 0 (nI 0)) hs hm (by rw [gI_sI, if_neg (by omega)]; exact hk)) (fun r17 S17 hp17 => ?_)
  obtain ⟨rfl, hq17⟩ := hp17
  rw [hq17]
  show Ok _ _ _ [zi (nI 1)] _ _
  refine r_if_neN (q := 23) (t := 27) (by omega) dX12_layered_20 (by decide) rfl (fun h20 => ?_) (fun h20 => absurd h20 (by omega))
  refine r_aload_n (q := 28) dX12_layered_27 rfl rfl rfl ?_
  refine r_iload_n (q := 29) dX12_layered_28 rfl rfl rfl ?_
  refine r_callV (Mc := mX12_loads) (q := 32) (As := [zi (nI m)]) (st := []) ck12 dX12_layered_29 rfl rfl mkX12_loads wt1940 wt1942 wp134 rfl (Nat.le_of_ble_eq_true rfl) (Nat.le_of_ble_eq_true rfl) (by decide) (by decide) (by decide) (Or.inl rfl) (hs.e (by decide)) (ok_loads (S := sI S 12 0 0 (nI 0)) hs hm) (fun r29 S29 hp29 => ?_)
  obtain ⟨rfl, f0, hld, hl0⟩ := hp29
  have hs0 : Sd S29 := Sd.fr (S := sI S 12 0 0 (nI 0)) hs f0
  have hR0 : wqR W (fun k => gI S29 1306 0 k) n9 := wqR.cong hW (fun k _ _ => (f0.1 1306 0 k rfl).symm) (fun _ _ => rfl) (wqR_thr hW hR)
  have hO0 : Cw S29 := Cw.f3 (rc_thr.rc (W := W).2.1 hO) f0 ⟨rfl, fun k hk => bfalse fun z => by simp [tLd] at z; omega, fun _ => rfl⟩
  have hI0 : IvI S29 := (rc_thr.rc (W := W).2.2 hI).fr f0 ⟨rfl, fun _ => rfl⟩
  have hcr0 : CR S29 W := fun z => by
    obtain ⟨L, pvs, bss, hB⟩ := rc_thr.rc.1 hcr ((f0.1 12 0 33 rfl).symm.trans z)
    exact ⟨L, pvs, bss, hB.fr hW.2.1 (by omega) f0 rfl rfl (fun s a b => ⟨rfl, rfl, rfl, rfl⟩) (fun k a b => ⟨rfl, rfl, rfl⟩) (fun k a b => rfl) (fun i a b => rfl)⟩
  have hRk0 : wqR Wk (fun k => gI S29 1322 0 (1173 * 1 + k)) nk := wqR.cong hWk (fun k k1 _ => by show gI S 1391 0 (3775 * m + k) = gI S29 1322 0 (1173 * 1 + k); rw [Nat.mul_one, hld k (by omega), gI_sI, if_neg (by omega)]) (fun _ _ => rfl) hRk
  show Ok _ _ _ [] _ _
  refine r_iconst (q := 33) (nI 1) dX12_layered_32 rfl (by decide) ?_
  refine r_istore_n (q := 34) (L' := [some (zr 12 0), some (zi (nI m)), some (zi (nI n)), some (zi (nI 1)), none, none]) dX12_layered_33 rfl rfl (by decide) rfl ?_
  exact lp_ly34y (S := S29) hW hn1 hn7 h3 n 1 (by omega) (by omega) hs0 (fun i a b => absurd b (by omega)) hR0 hO0 hcr0 hI0 (fun z => absurd z (by omega)) (fun S1 g1 hO1 hI1 ⟨L, pvs, bss, hB, hnL⟩ => by
    have hRk1 : wqR Wk (fun k => gI S1 1322 0 (1173 * 1 + k)) nk := wqR.cong hWk (fun k k1 _ => (g1.1 1322 0 (1173 * 1 + k) (bfalse fun z => by simp [tBy, tSe, tTq, tPt, tPa, tIv, tOw] at z; omega)).symm) (fun _ _ => rfl) hRk0
    have hl1 : gI S1 1323 0 1 = nI 0 := (g1.1 _ _ _ rfl).trans hl0
    refine Ok.mono (ly58n (S := S1) (m := m) (hs0.fr g1) hW hWk hn1 hn7 hnL hB (WS.of hWk hRk1) hl1 hI1 h3k) (fun r S2 z => ⟨z.1, ((fr_thr.mono (fun x y k h => by simp [tLr] at h ⊢; omega) : Fr tLr S (sI S 12 0 0 (nI 0))).tr (f0.mono (fun x y k h => by simp [tLr, h]))).tr ((g1.mono (fun x y k h => by simp [tLr, h])).tr (z.2.1.mono (fun x y k h => by simp [tLr, h]))), hO1.f3 z.2.1 ⟨rfl, fun k _ => rfl, fun k => rfl⟩, fun _ => ⟨L, pvs, bss, z.2.2.1⟩, z.2.2.2⟩))

set_option maxRecDepth 100000 in
theorem rm_ly_n {S : zS} (hs : Sd S) {W Wk : zWd} (hW : Wok W) (hWk : Wok Wk) {n9 nk : Nat → Int64} (hR : wqR W (fun k => gI S 1306 0 k) n9) (hO : Cw S) (hcr : CR S W) (hI : IvI S) {m : Nat} (hm : m < 2) (hk : gI S 1393 0 m = nI 1) (hRk : wqR Wk (fun k => gI S 1391 0 (3775 * m + k)) nk) {n : Nat} (hn1 : 1 ≤ n) (hn7 : n ≤ 7) (h3 : ¬ tc W n ≤ 300) : Ok mX12_layered 0 (ent 6 [zr 12 0, zi (nI m), zi (nI n)]) [] S (fun r S1 => r = some (zl (-1)) ∧ Fr tLr S S1 ∧ Cw S1 ∧ CR S1 W ∧ IvI S1) := by
  show Ok mX12_layered 0 [some (zr 12 0), some (zi (nI m)), some (zi (nI n)), none, none, none] [] S _
  refine r_aload_n (q := 1) dX12_layered_0 rfl rfl rfl ?_
  refine r_iconst (q := 2) (nI 0) dX12_layered_1 rfl (by decide) ?_
  refine r_puti (q := 5) ck12 dX12_layered_2 rfl (k := 0) (by decide) wt1278 (Or.inl rfl) rfl (hs.e (by decide)) ?_
  refine r_iload_n (q := 6) dX12_layered_5 rfl rfl rfl ?_
  refine r_iconst (q := 7) (nI 1) dX12_layered_6 rfl (by decide) ?_
  refine r_bipush (q := 9) (nI 7) dX12_layered_7 rfl (by decide) ?_
  refine r_callS (Mc := mX12_isIn) (q := 12) (As := [zi (nI n), zi (nI 1), zi (nI 7)]) (st := []) dX12_layered_9 rfl rfl mkX12_isIn wt1614 wt1615 rfl (Nat.le_of_ble_eq_true rfl) (Nat.le_of_ble_eq_true rfl) (by decide) (by decide) (by decide) (Or.inl rfl) hs.some (ok_X12_isIn_in (by omega) (by omega) (by omega)) (fun r9 S9 hp9 => ?_)
  obtain ⟨rfl, hq9⟩ := hp9
  rw [hq9]
  show Ok _ _ _ [zi (nI 1)] _ _
  refine r_if_eqN (q := 15) (t := 23) (by omega) dX12_layered_12 (by decide) rfl (fun h12 => absurd h12 (by omega)) (fun h12 => ?_)
  refine r_aload_n (q := 16) dX12_layered_15 rfl rfl rfl ?_
  refine r_iload_n (q := 17) dX12_layered_16 rfl rfl rfl ?_
  refine r_callV (Mc := mX12_isKeptAt) (q := 20) (As := [zi (nI m)]) (st := []) ck12 dX12_layered_17 rfl rfl mkX12_isKeptAt wt1936 wt1938 wp133 rfl (Nat.le_of_ble_eq_true rfl) (Nat.le_of_ble_eq_true rfl) (by decide) (by decide) (by decide) (Or.inl rfl) (hs.e (by decide)) (ok_isKeptAt_y (S := sI S 12 0 0 (nI 0)) hs hm (by rw [gI_sI, if_neg (by omega)]; exact hk)) (fun r17 S17 hp17 => ?_)
  obtain ⟨rfl, hq17⟩ := hp17
  rw [hq17]
  show Ok _ _ _ [zi (nI 1)] _ _
  refine r_if_neN (q := 23) (t := 27) (by omega) dX12_layered_20 (by decide) rfl (fun h20 => ?_) (fun h20 => absurd h20 (by omega))
  refine r_aload_n (q := 28) dX12_layered_27 rfl rfl rfl ?_
  refine r_iload_n (q := 29) dX12_layered_28 rfl rfl rfl ?_
  refine r_callV (Mc := mX12_loads) (q := 32) (As := [zi (nI m)]) (st := []) ck12 dX12_layered_29 rfl rfl mkX12_loads wt1940 wt1942 wp134 rfl (Nat.le_of_ble_eq_true rfl) (Nat.le_of_ble_eq_true rfl) (by decide) (by decide) (by decide) (Or.inl rfl) (hs.e (by decide)) (ok_loads (S := sI S 12 0 0 (nI 0)) hs hm) (fun r29 S29 hp29 => ?_)
  obtain ⟨rfl, f0, hld, hl0⟩ := hp29
  have hs0 : Sd S29 := Sd.fr (S := sI S 12 0 0 (nI 0)) hs f0
  have hR0 : wqR W (fun k => gI S29 1306 0 k) n9 := wqR.cong hW (fun k _ _ => (f0.1 1306 0 k rfl).symm) (fun _ _ => rfl) (wqR_thr hW hR)
  have hO0 : Cw S29 := Cw.f3 (rc_thr.rc (W := W).2.1 hO) f0 ⟨rfl, fun k hk => bfalse fun z => by simp [tLd] at z; omega, fun _ => rfl⟩
  have hI0 : IvI S29 := (rc_thr.rc (W := W).2.2 hI).fr f0 ⟨rfl, fun _ => rfl⟩
  have hcr0 : CR S29 W := fun z => by
    obtain ⟨L, pvs, bss, hB⟩ := rc_thr.rc.1 hcr ((f0.1 12 0 33 rfl).symm.trans z)
    exact ⟨L, pvs, bss, hB.fr hW.2.1 (by omega) f0 rfl rfl (fun s a b => ⟨rfl, rfl, rfl, rfl⟩) (fun k a b => ⟨rfl, rfl, rfl⟩) (fun k a b => rfl) (fun i a b => rfl)⟩
  have hRk0 : wqR Wk (fun k => gI S29 1322 0 (1173 * 1 + k)) nk := wqR.cong hWk (fun k k1 _ => by show gI S 1391 0 (3775 * m + k) = gI S29 1322 0 (1173 * 1 + k); rw [Nat.mul_one, hld k (by omega), gI_sI, if_neg (by omega)]) (fun _ _ => rfl) hRk
  show Ok _ _ _ [] _ _
  refine r_iconst (q := 33) (nI 1) dX12_layered_32 rfl (by decide) ?_
  refine r_istore_n (q := 34) (L' := [some (zr 12 0), some (zi (nI m)), some (zi (nI n)), some (zi (nI 1)), none, none]) dX12_layered_33 rfl rfl (by decide) rfl ?_
  exact Ok.mono (lp_ly34n (S := S29) hW hn1 hn7 h3 n 1 (by omega) (by omega) hs0 (fun i a b => absurd b (by omega)) hR0 hO0 hcr0 hI0 (fun z => absurd z (by omega))) (fun r S2 z => ⟨z.1, ((fr_thr.mono (fun x y k h => by simp [tLr] at h ⊢; omega) : Fr tLr S (sI S 12 0 0 (nI 0))).tr (f0.mono (fun x y k h => by simp [tLr, h]))).tr (z.2.1.mono (fun x y k h => by simp [tLr, h])), z.2.2⟩)

set_option maxRecDepth 100000 in
theorem rm_ly_x {S : zS} (hs : Sd S) {a x : Int32} (hx : ¬ (nI 1 ≤ x ∧ x ≤ nI 7)) : Ok mX12_layered 0 (ent 6 [zr 12 0, zi a, zi x]) [] S (fun r S1 => r = some (zl (-1)) ∧ S1 = sI S 12 0 0 (nI 0)) := by
  show Ok mX12_layered 0 [some (zr 12 0), some (zi a), some (zi x), none, none, none] [] S _
  refine r_aload_n (q := 1) dX12_layered_0 rfl rfl rfl ?_
  refine r_iconst (q := 2) (nI 0) dX12_layered_1 rfl (by decide) ?_
  refine r_puti (q := 5) ck12 dX12_layered_2 rfl (k := 0) (by decide) wt1278 (Or.inl rfl) rfl (hs.e (by decide)) ?_
  refine r_iload_n (q := 6) dX12_layered_5 rfl rfl rfl ?_
  refine r_iconst (q := 7) (nI 1) dX12_layered_6 rfl (by decide) ?_
  refine r_bipush (q := 9) (nI 7) dX12_layered_7 rfl (by decide) ?_
  refine r_callS (Mc := mX12_isIn) (q := 12) (As := [zi x, zi (nI 1), zi (nI 7)]) (st := []) dX12_layered_9 rfl rfl mkX12_isIn wt1614 wt1615 rfl (Nat.le_of_ble_eq_true rfl) (Nat.le_of_ble_eq_true rfl) (by decide) (by decide) (by decide) (Or.inl rfl) hs.some (ok_X12_isIn_out hx) (fun r9 S9 hp9 => ?_)
  obtain ⟨rfl, hq9⟩ := hp9
  rw [hq9]
  show Ok _ _ _ [zi (nI 0)] _ _
  refine r_if_eqN (q := 15) (t := 23) (by omega) dX12_layered_12 (by decide) rfl (fun h12 => ?_) (fun h12 => absurd h12 (by omega))
  refine r_ldc2 (q := 26) (-1 : Int64) dX12_layered_23 rfl wt1685 ?_
  refine r_lreturn dX12_layered_26 rfl ?_
  exact ⟨rfl, rfl⟩

set_option maxRecDepth 100000 in
theorem rm_ly_no {S : zS} (hs : Sd S) {m n : Nat} (hm : m < 2) (hk : gI S 1393 0 m = nI 0) (hn1 : 1 ≤ n) (hn7 : n ≤ 7) : Ok mX12_layered 0 (ent 6 [zr 12 0, zi (nI m), zi (nI n)]) [] S (fun r S1 => r = some (zl (-1)) ∧ S1 = sI S 12 0 0 (nI 0)) := by
  show Ok mX12_layered 0 [some (zr 12 0), some (zi (nI m)), some (zi (nI n)), none, none, none] [] S _
  refine r_aload_n (q := 1) dX12_layered_0 rfl rfl rfl ?_
  refine r_iconst (q := 2) (nI 0) dX12_layered_1 rfl (by decide) ?_
  refine r_puti (q := 5) ck12 dX12_layered_2 rfl (k := 0) (by decide) wt1278 (Or.inl rfl) rfl (hs.e (by decide)) ?_
  refine r_iload_n (q := 6) dX12_layered_5 rfl rfl rfl ?_
  refine r_iconst (q := 7) (nI 1) dX12_layered_6 rfl (by decide) ?_
  refine r_bipush (q := 9) (nI 7) dX12_layered_7 rfl (by decide) ?_
  refine r_callS (Mc := mX12_isIn) (q := 12) (As := [zi (nI n), zi (nI 1), zi (nI 7)]) (st := []) dX12_layered_9 rfl rfl mkX12_isIn wt1614 wt1615 rfl (Nat.le_of_ble_eq_true rfl) (Nat.le_of_ble_eq_true rfl) (by decide) (by decide) (by decide) (Or.inl rfl) hs.some (ok_X12_isIn_in (by omega) (by omega) (by omega)) (fun r9 S9 hp9 => ?_)
  obtain ⟨rfl, hq9⟩ := hp9
  rw [hq9]
  show Ok _ _ _ [zi (nI 1)] _ _
  refine r_if_eqN (q := 15) (t := 23) (by omega) dX12_layered_12 (by decide) rfl (fun h12 => absurd h12 (by omega)) (fun h12 => ?_)
  refine r_aload_n (q := 16) dX12_layered_15 rfl rfl rfl ?_
  refine r_iload_n (q := 17) dX12_layered_16 rfl rfl rfl ?_
  refine r_callV (Mc := mX12_isKeptAt) (q := 20) (As := [zi (nI m)]) (st := []) ck12 dX12_layered_17 rfl rfl mkX12_isKeptAt wt1936 wt1938 wp133 rfl (Nat.le_of_ble_eq_true rfl) (Nat.le_of_ble_eq_true rfl) (by decide) (by decide) (by decide) (Or.inl rfl) (hs.e (by decide)) (ok_isKeptAt_n (S := sI S 12 0 0 (nI 0)) hs hm (by rw [gI_sI, if_neg (by omega)]; exact hk)) (fun r17 S17 hp17 => ?_)
  obtain ⟨rfl, hq17⟩ := hp17
  rw [hq17]
  show Ok _ _ _ [zi (nI 0)] _ _
  refine r_if_neN (q := 23) (t := 27) (by omega) dX12_layered_20 (by decide) rfl (fun h20 => absurd h20 (by omega)) (fun h20 => ?_)
  refine r_ldc2 (q := 26) (-1 : Int64) dX12_layered_23 rfl wt1685 ?_
  refine r_lreturn dX12_layered_26 rfl ?_
  exact ⟨rfl, rfl⟩

set_option maxRecDepth 100000 in
theorem rm_ly_out {S : zS} (hs : Sd S) {a : Int32} {n : Nat} (ha : ¬ (0 ≤ a ∧ a < nI 2)) (hn1 : 1 ≤ n) (hn7 : n ≤ 7) : Ok mX12_layered 0 (ent 6 [zr 12 0, zi a, zi (nI n)]) [] S (fun r S1 => r = some (zl (-1)) ∧ S1 = sI S 12 0 0 (nI 0)) := by
  show Ok mX12_layered 0 [some (zr 12 0), some (zi a), some (zi (nI n)), none, none, none] [] S _
  refine r_aload_n (q := 1) dX12_layered_0 rfl rfl rfl ?_
  refine r_iconst (q := 2) (nI 0) dX12_layered_1 rfl (by decide) ?_
  refine r_puti (q := 5) ck12 dX12_layered_2 rfl (k := 0) (by decide) wt1278 (Or.inl rfl) rfl (hs.e (by decide)) ?_
  refine r_iload_n (q := 6) dX12_layered_5 rfl rfl rfl ?_
  refine r_iconst (q := 7) (nI 1) dX12_layered_6 rfl (by decide) ?_
  refine r_bipush (q := 9) (nI 7) dX12_layered_7 rfl (by decide) ?_
  refine r_callS (Mc := mX12_isIn) (q := 12) (As := [zi (nI n), zi (nI 1), zi (nI 7)]) (st := []) dX12_layered_9 rfl rfl mkX12_isIn wt1614 wt1615 rfl (Nat.le_of_ble_eq_true rfl) (Nat.le_of_ble_eq_true rfl) (by decide) (by decide) (by decide) (Or.inl rfl) hs.some (ok_X12_isIn_in (by omega) (by omega) (by omega)) (fun r9 S9 hp9 => ?_)
  obtain ⟨rfl, hq9⟩ := hp9
  rw [hq9]
  show Ok _ _ _ [zi (nI 1)] _ _
  refine r_if_eqN (q := 15) (t := 23) (by omega) dX12_layered_12 (by decide) rfl (fun h12 => absurd h12 (by omega)) (fun h12 => ?_)
  refine r_aload_n (q := 16) dX12_layered_15 rfl rfl rfl ?_
  refine r_iload_n (q := 17) dX12_layered_16 rfl rfl rfl ?_
  refine r_callV (Mc := mX12_isKeptAt) (q := 20) (As := [zi a]) (st := []) ck12 dX12_layered_17 rfl rfl mkX12_isKeptAt wt1936 wt1938 wp133 rfl (Nat.le_of_ble_eq_true rfl) (Nat.le_of_ble_eq_true rfl) (by decide) (by decide) (by decide) (Or.inl rfl) (hs.e (by decide)) (ok_isKeptAt_x (S := sI S 12 0 0 (nI 0)) hs ha) (fun r17 S17 hp17 => ?_)
  obtain ⟨rfl, hq17⟩ := hp17
  rw [hq17]
  show Ok _ _ _ [zi (nI 0)] _ _
  refine r_if_neN (q := 23) (t := 27) (by omega) dX12_layered_20 (by decide) rfl (fun h20 => absurd h20 (by omega)) (fun h20 => ?_)
  refine r_ldc2 (q := 26) (-1 : Int64) dX12_layered_23 rfl wt1685 ?_
  refine r_lreturn dX12_layered_26 rfl ?_
  exact ⟨rfl, rfl⟩

