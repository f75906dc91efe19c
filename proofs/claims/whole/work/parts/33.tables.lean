set_option maxRecDepth 100000 in
theorem ok_X11_table_ne {S : zS} (hs : Sd S) {c A t : Nat} (hc : gI S 11 0 3 = nI c) (hc4 : c < 4) (hA : gI S 9 c 1 = nI A) (hAm : A ≤ 3) (ht : gI S 11 0 1 = nI t) (ht9 : t ≤ 940) {m b d w : Nat} (hm : m < A) (hb : gI S 7 0 0 = nI b) (hd : gI S 1003 c m = nI d) (hd4 : d ≤ 4) (hb3 : b ≤ 3) (hw : w ≤ 243) (hpw : ∀ T : zS, Ok mX11_power 0 (ent 4 [zi (nI b), zi (nI (d + 1))]) [] T (fun r S1 => r = some (zi (nI w)) ∧ S1 = T)) (hne : t ≠ w) : Ok mX11_table 0 (ent 5 [zr 11 0, zi (nI m)]) [] S (fun r S1 => r = some (zi (nI 0)) ∧ S1 = sI S 11 0 1 (nI 0)) := by
  show Ok mX11_table 0 [some (zr 11 0), some (zi (nI m)), none, none, none] [] S _
  refine r_aload_n (q := 1) dX11_table_0 rfl rfl rfl ?_
  refine r_callV (Mc := mX11_emptyTape) (q := 4) (As := []) (st := []) ck11 dX11_table_1 rfl rfl mkX11_emptyTape wt503 wt505 wp2 rfl (Nat.le_of_ble_eq_true rfl) (Nat.le_of_ble_eq_true rfl) (by decide) (by decide) (by decide) (Or.inl rfl) (hs.e (by decide)) (ok_X11_emptyTape (S := S) hs) (fun r1 S1 hp1 => ?_)
  obtain ⟨rfl, hq1⟩ := hp1
  subst hq1
  rw [ht]
  show Ok _ _ _ [zi (nI t)] _ _
  refine r_istore_n (q := 5) (L' := [some (zr 11 0), some (zi (nI m)), some (zi (nI t)), none, none]) dX11_table_4 rfl rfl (by decide) rfl ?_
  refine r_aload_n (q := 6) dX11_table_5 rfl rfl rfl ?_
  refine r_callV (Mc := mX11_worldHere) (q := 9) (As := []) (st := []) ck11 dX11_table_6 rfl rfl mkX11_worldHere wt678 wt680 wp20 rfl (Nat.le_of_ble_eq_true rfl) (Nat.le_of_ble_eq_true rfl) (by decide) (by decide) (by decide) (Or.inl rfl) (hs.e (by decide)) (ok_X11_worldHere (S := sI S 11 0 1 (nI 0)) hs hc hc4) (fun r6 S6 hp6 => ?_)
  obtain ⟨rfl, hq6⟩ := hp6
  rw [hq6]
  show Ok _ _ _ [zr 9 c] _ _
  refine r_astore_n (q := 10) (L' := [some (zr 11 0), some (zi (nI m)), some (zi (nI t)), some (zr 9 c), none]) dX11_table_9 rfl rfl (by decide) rfl ?_
  refine r_aload_n (q := 11) dX11_table_10 rfl rfl rfl ?_
  refine r_iload_n (q := 12) dX11_table_11 rfl rfl rfl ?_
  refine r_callV (Mc := mX9_hasAct) (q := 15) (As := [zi (nI m)]) (st := []) ck9 dX11_table_12 rfl rfl mkX9_hasAct wt682 wt683 wt684 rfl (Nat.le_of_ble_eq_true rfl) (Nat.le_of_ble_eq_true rfl) (by decide) (by decide) (by decide) (Or.inl rfl) (hs.e (show c < 4 by omega)) (ok_X9_hasAct_in (S := sI S 11 0 1 (nI 0)) hs hc4 hA hAm hm) (fun r12 S12 hp12 => ?_)
  obtain ⟨rfl, hq12⟩ := hp12
  rw [hq12]
  show Ok _ _ _ [zi (nI 1)] _ _
  refine r_if_eqN (q := 18) (t := 40) (by omega) dX11_table_15 (by decide) rfl (fun h15 => absurd h15 (by omega)) (fun h15 => ?_)
  refine r_iload_n (q := 19) dX11_table_18 rfl rfl rfl ?_
  refine r_aload_n (q := 20) dX11_table_19 rfl rfl rfl ?_
  refine r_getr (q := 23) (some (7, 0)) ck11 dX11_table_20 rfl (k := 5) (by decide) wt427 rfl (hs.e (by decide)) (hs.r (by decide) (by decide)) ?_
  refine r_geti (q := 26) ck7 dX11_table_23 rfl (k := 0) (by decide) wt39 (Or.inl rfl) (hs.e (by decide)) ?_
  refine r_topi (y := gI S 7 0 0) (by simp [gI_sI, gJ_sJ, gI_sJ, gJ_sI]) ?_
  refine r_topi (y := nI b) hb ?_
  refine r_aload_n (q := 27) dX11_table_26 rfl rfl rfl ?_
  refine r_getr (q := 30) (some (1003, c)) ck9 dX11_table_27 rfl (k := 3) (by decide) wt309 rfl (hs.e (show c < 4 by omega)) (hs.r (show c < 4 by omega) (by decide)) ?_
  refine r_iload_n (q := 31) dX11_table_30 rfl rfl rfl ?_
  refine r_ialdN (q := 32) 3 (by decide) rfl dX11_table_31 rfl (hs.e (show c < 4 by omega)) (hs.n rfl (show c < 4 by omega)) (by omega) (by decide) ?_
  refine r_topi (y := gI S 1003 c m) (by simp [gI_sI, gJ_sJ, gI_sJ, gJ_sI]) ?_
  refine r_topi (y := nI d) hd ?_
  refine r_iconst (q := 33) (nI 1) dX11_table_32 rfl (by decide) ?_
  refine r_iaddN (q := 34) dX11_table_33 rfl ?_
  refine r_callS (Mc := mX11_power) (q := 37) (As := [zi (nI b), zi (nI (d + 1))]) (st := [zi (nI t)]) dX11_table_34 rfl rfl mkX11_power wt1088 wt1089 rfl (Nat.le_of_ble_eq_true rfl) (Nat.le_of_ble_eq_true rfl) (by decide) (by decide) (by decide) (Or.inl rfl) hs.some (hpw (sI S 11 0 1 (nI 0))) (fun r34 S34 hp34 => ?_)
  obtain ⟨rfl, hq34⟩ := hp34
  rw [hq34]
  show Ok _ _ _ [zi (nI w), zi (nI t)] _ _
  refine r_icmp_eqN (q := 40) (t := 42) (by omega) (by omega) dX11_table_37 (by decide) rfl (fun h37 => absurd h37 (by omega)) (fun h37 => ?_)
  refine r_iconst (q := 41) (nI 0) dX11_table_40 rfl (by decide) ?_
  refine r_zreturn (by decide) dX11_table_41 rfl ?_
  exact ⟨rfl, rfl⟩

set_option maxRecDepth 100000 in
theorem ok_X11_table_eq {S : zS} (hs : Sd S) {c A t : Nat} (hc : gI S 11 0 3 = nI c) (hc4 : c < 4) (hA : gI S 9 c 1 = nI A) (hAm : A ≤ 3) (ht : gI S 11 0 1 = nI t) (ht9 : t ≤ 940) {m b d w : Nat} (hm : m < A) (hb : gI S 7 0 0 = nI b) (hd : gI S 1003 c m = nI d) (hd4 : d ≤ 4) (hb3 : b ≤ 3) (hw : w ≤ 243) (hpw : ∀ T : zS, Ok mX11_power 0 (ent 4 [zi (nI b), zi (nI (d + 1))]) [] T (fun r S1 => r = some (zi (nI w)) ∧ S1 = T)) (heq : t = w) {P : Nat} (h2 : 2 ≤ P) (h97 : P ≤ 97) (hP : gI S 9 c 0 = nI P) : Ok mX11_table 0 (ent 5 [zr 11 0, zi (nI m)]) [] S (fun r S1 => r = some (zi (nI 1)) ∧ S1 = fm (sI S 11 0 1 (nI 0)) 801 0 (m * 243) 0 t (fun k => nI (bt (gI S 1200 0 k) % P))) := by
  show Ok mX11_table 0 [some (zr 11 0), some (zi (nI m)), none, none, none] [] S _
  refine r_aload_n (q := 1) dX11_table_0 rfl rfl rfl ?_
  refine r_callV (Mc := mX11_emptyTape) (q := 4) (As := []) (st := []) ck11 dX11_table_1 rfl rfl mkX11_emptyTape wt503 wt505 wp2 rfl (Nat.le_of_ble_eq_true rfl) (Nat.le_of_ble_eq_true rfl) (by decide) (by decide) (by decide) (Or.inl rfl) (hs.e (by decide)) (ok_X11_emptyTape (S := S) hs) (fun r1 S1 hp1 => ?_)
  obtain ⟨rfl, hq1⟩ := hp1
  subst hq1
  rw [ht]
  show Ok _ _ _ [zi (nI t)] _ _
  refine r_istore_n (q := 5) (L' := [some (zr 11 0), some (zi (nI m)), some (zi (nI t)), none, none]) dX11_table_4 rfl rfl (by decide) rfl ?_
  refine r_aload_n (q := 6) dX11_table_5 rfl rfl rfl ?_
  refine r_callV (Mc := mX11_worldHere) (q := 9) (As := []) (st := []) ck11 dX11_table_6 rfl rfl mkX11_worldHere wt678 wt680 wp20 rfl (Nat.le_of_ble_eq_true rfl) (Nat.le_of_ble_eq_true rfl) (by decide) (by decide) (by decide) (Or.inl rfl) (hs.e (by decide)) (ok_X11_worldHere (S := sI S 11 0 1 (nI 0)) hs hc hc4) (fun r6 S6 hp6 => ?_)
  obtain ⟨rfl, hq6⟩ := hp6
  rw [hq6]
  show Ok _ _ _ [zr 9 c] _ _
  refine r_astore_n (q := 10) (L' := [some (zr 11 0), some (zi (nI m)), some (zi (nI t)), some (zr 9 c), none]) dX11_table_9 rfl rfl (by decide) rfl ?_
  refine r_aload_n (q := 11) dX11_table_10 rfl rfl rfl ?_
  refine r_iload_n (q := 12) dX11_table_11 rfl rfl rfl ?_
  refine r_callV (Mc := mX9_hasAct) (q := 15) (As := [zi (nI m)]) (st := []) ck9 dX11_table_12 rfl rfl mkX9_hasAct wt682 wt683 wt684 rfl (Nat.le_of_ble_eq_true rfl) (Nat.le_of_ble_eq_true rfl) (by decide) (by decide) (by decide) (Or.inl rfl) (hs.e (show c < 4 by omega)) (ok_X9_hasAct_in (S := sI S 11 0 1 (nI 0)) hs hc4 hA hAm hm) (fun r12 S12 hp12 => ?_)
  obtain ⟨rfl, hq12⟩ := hp12
  rw [hq12]
  show Ok _ _ _ [zi (nI 1)] _ _
  refine r_if_eqN (q := 18) (t := 40) (by omega) dX11_table_15 (by decide) rfl (fun h15 => absurd h15 (by omega)) (fun h15 => ?_)
  refine r_iload_n (q := 19) dX11_table_18 rfl rfl rfl ?_
  refine r_aload_n (q := 20) dX11_table_19 rfl rfl rfl ?_
  refine r_getr (q := 23) (some (7, 0)) ck11 dX11_table_20 rfl (k := 5) (by decide) wt427 rfl (hs.e (by decide)) (hs.r (by decide) (by decide)) ?_
  refine r_geti (q := 26) ck7 dX11_table_23 rfl (k := 0) (by decide) wt39 (Or.inl rfl) (hs.e (by decide)) ?_
  refine r_topi (y := gI S 7 0 0) (by simp [gI_sI, gJ_sJ, gI_sJ, gJ_sI]) ?_
  refine r_topi (y := nI b) hb ?_
  refine r_aload_n (q := 27) dX11_table_26 rfl rfl rfl ?_
  refine r_getr (q := 30) (some (1003, c)) ck9 dX11_table_27 rfl (k := 3) (by decide) wt309 rfl (hs.e (show c < 4 by omega)) (hs.r (show c < 4 by omega) (by decide)) ?_
  refine r_iload_n (q := 31) dX11_table_30 rfl rfl rfl ?_
  refine r_ialdN (q := 32) 3 (by decide) rfl dX11_table_31 rfl (hs.e (show c < 4 by omega)) (hs.n rfl (show c < 4 by omega)) (by omega) (by decide) ?_
  refine r_topi (y := gI S 1003 c m) (by simp [gI_sI, gJ_sJ, gI_sJ, gJ_sI]) ?_
  refine r_topi (y := nI d) hd ?_
  refine r_iconst (q := 33) (nI 1) dX11_table_32 rfl (by decide) ?_
  refine r_iaddN (q := 34) dX11_table_33 rfl ?_
  refine r_callS (Mc := mX11_power) (q := 37) (As := [zi (nI b), zi (nI (d + 1))]) (st := [zi (nI t)]) dX11_table_34 rfl rfl mkX11_power wt1088 wt1089 rfl (Nat.le_of_ble_eq_true rfl) (Nat.le_of_ble_eq_true rfl) (by decide) (by decide) (by decide) (Or.inl rfl) hs.some (hpw (sI S 11 0 1 (nI 0))) (fun r34 S34 hp34 => ?_)
  obtain ⟨rfl, hq34⟩ := hp34
  rw [hq34]
  show Ok _ _ _ [zi (nI w), zi (nI t)] _ _
  refine r_icmp_eqN (q := 40) (t := 42) (by omega) (by omega) dX11_table_37 (by decide) rfl (fun h37 => ?_) (fun h37 => absurd h37 (by omega))
  refine r_iconst (q := 43) (nI 0) dX11_table_42 rfl (by decide) ?_
  refine r_istore (q := 45) (L' := [some (zr 11 0), some (zi (nI m)), some (zi (nI t)), some (zr 9 c), some (zi (nI 0))]) dX11_table_43 rfl (by decide) rfl ?_
  refine lp_table (P := P) (tp := fun k => gI S 1200 0 k) (by omega) (by omega) hc4 h2 h97 t 0 (sI S 11 0 1 (nI 0)) (by omega) hs (fun k _ => rfl) hP (fun S2 h2 => ?_)
  subst h2
  refine r_iconst (q := 86) (nI 1) dX11_table_85 rfl (by decide) ?_
  refine r_zreturn (by decide) dX11_table_86 rfl ?_
  exact ⟨rfl, rfl⟩

set_option maxRecDepth 100000 in
theorem ok_X11_table_out {S : zS} (hs : Sd S) {c A t : Nat} (hc : gI S 11 0 3 = nI c) (hc4 : c < 4) (hA : gI S 9 c 1 = nI A) (hAm : A ≤ 3) (ht : gI S 11 0 1 = nI t) (ht9 : t ≤ 940) {a : Int32} (ha : ¬ (0 ≤ a ∧ a < nI A)) : Ok mX11_table 0 (ent 5 [zr 11 0, zi a]) [] S (fun r S1 => r = some (zi (nI 0)) ∧ S1 = sI S 11 0 1 (nI 0)) := by
  show Ok mX11_table 0 [some (zr 11 0), some (zi a), none, none, none] [] S _
  refine r_aload_n (q := 1) dX11_table_0 rfl rfl rfl ?_
  refine r_callV (Mc := mX11_emptyTape) (q := 4) (As := []) (st := []) ck11 dX11_table_1 rfl rfl mkX11_emptyTape wt503 wt505 wp2 rfl (Nat.le_of_ble_eq_true rfl) (Nat.le_of_ble_eq_true rfl) (by decide) (by decide) (by decide) (Or.inl rfl) (hs.e (by decide)) (ok_X11_emptyTape (S := S) hs) (fun r1 S1 hp1 => ?_)
  obtain ⟨rfl, hq1⟩ := hp1
  subst hq1
  rw [ht]
  show Ok _ _ _ [zi (nI t)] _ _
  refine r_istore_n (q := 5) (L' := [some (zr 11 0), some (zi a), some (zi (nI t)), none, none]) dX11_table_4 rfl rfl (by decide) rfl ?_
  refine r_aload_n (q := 6) dX11_table_5 rfl rfl rfl ?_
  refine r_callV (Mc := mX11_worldHere) (q := 9) (As := []) (st := []) ck11 dX11_table_6 rfl rfl mkX11_worldHere wt678 wt680 wp20 rfl (Nat.le_of_ble_eq_true rfl) (Nat.le_of_ble_eq_true rfl) (by decide) (by decide) (by decide) (Or.inl rfl) (hs.e (by decide)) (ok_X11_worldHere (S := sI S 11 0 1 (nI 0)) hs hc hc4) (fun r6 S6 hp6 => ?_)
  obtain ⟨rfl, hq6⟩ := hp6
  rw [hq6]
  show Ok _ _ _ [zr 9 c] _ _
  refine r_astore_n (q := 10) (L' := [some (zr 11 0), some (zi a), some (zi (nI t)), some (zr 9 c), none]) dX11_table_9 rfl rfl (by decide) rfl ?_
  refine r_aload_n (q := 11) dX11_table_10 rfl rfl rfl ?_
  refine r_iload_n (q := 12) dX11_table_11 rfl rfl rfl ?_
  refine r_callV (Mc := mX9_hasAct) (q := 15) (As := [zi a]) (st := []) ck9 dX11_table_12 rfl rfl mkX9_hasAct wt682 wt683 wt684 rfl (Nat.le_of_ble_eq_true rfl) (Nat.le_of_ble_eq_true rfl) (by decide) (by decide) (by decide) (Or.inl rfl) (hs.e (show c < 4 by omega)) (ok_X9_hasAct_out (S := sI S 11 0 1 (nI 0)) hs hc4 hA hAm ha) (fun r12 S12 hp12 => ?_)
  obtain ⟨rfl, hq12⟩ := hp12
  rw [hq12]
  show Ok _ _ _ [zi (nI 0)] _ _
  refine r_if_eqN (q := 18) (t := 40) (by omega) dX11_table_15 (by decide) rfl (fun h15 => ?_) (fun h15 => absurd h15 (by omega))
  refine r_iconst (q := 41) (nI 0) dX11_table_40 rfl (by decide) ?_
  refine r_zreturn (by decide) dX11_table_41 rfl ?_
  exact ⟨rfl, rfl⟩

def tkS (S : zS) : zS := sI (sI (sI (sI (sI S 12 0 0 (nI 0)) 12 0 3 (gI S 12 0 2)) 12 0 2 (nI 0)) 12 0 4 (nI 0)) 12 0 5 (nI 940)
set_option maxRecDepth 100000 in
theorem ok_X12_table_ne {S : zS} (hs : Sd S) {A t : Nat} (hA : gI S 1306 0 1 = nI A) (hAm : A ≤ 3) (ht : gI S 12 0 2 = nI t) (ht9 : t ≤ 940) {m w : Nat} (hm : m < A) (hw : w ≤ 243) (htb : ∀ T : zS, Sd T → gI T 1306 0 3 = gI S 1306 0 3 → gI T 1306 0 (4 + m) = gI S 1306 0 (4 + m) → Ok mX12_table0 0 (ent 4 [zr 12 0, zi (nI m)]) [] T (fun r S1 => r = some (zi (nI w)) ∧ S1 = T)) (hne : t ≠ w) : Ok mX12_table 0 (ent 3 [zr 12 0, zi (nI m)]) [] S (fun r S1 => r = some (zi (nI 0)) ∧ S1 = tkS S) := by
  show Ok mX12_table 0 [some (zr 12 0), some (zi (nI m)), none] [] S _
  refine r_aload_n (q := 1) dX12_table_0 rfl rfl rfl ?_
  refine r_iconst (q := 2) (nI 0) dX12_table_1 rfl (by decide) ?_
  refine r_puti (q := 5) ck12 dX12_table_2 rfl (k := 0) (by decide) wt1278 (Or.inl rfl) rfl (hs.e (by decide)) ?_
  refine r_aload_n (q := 6) dX12_table_5 rfl rfl rfl ?_
  refine r_sipush (q := 9) (nI 940) dX12_table_6 rfl (by decide) ?_
  refine r_callV (Mc := mX12_taken) (q := 12) (As := [zi (nI 940)]) (st := []) ck12 dX12_table_9 rfl rfl mkX12_taken wt1565 wt1567 wp68 rfl (Nat.le_of_ble_eq_true rfl) (Nat.le_of_ble_eq_true rfl) (by decide) (by decide) (by decide) (Or.inl rfl) (hs.e (by decide)) (ok_X12_taken (S := sI S 12 0 0 (nI 0)) hs (nI 940)) (fun r9 S9 hp9 => ?_)
  obtain ⟨rfl, hq9⟩ := hp9
  have hz9 : S9 = tkS S := hq9
  subst hz9
  have hs1 : Sd (tkS S) := hs
  have hA1 : gI (tkS S) 1306 0 1 = nI A := hA
  have hsz : gI (tkS S) 12 0 3 = nI t := ht
  show Ok _ _ _ [] _ _
  refine r_aload_n (q := 13) dX12_table_12 rfl rfl rfl ?_
  refine r_iload_n (q := 14) dX12_table_13 rfl rfl rfl ?_
  refine r_callV (Mc := mX12_isAct) (q := 17) (As := [zi (nI m)]) (st := []) ck12 dX12_table_14 rfl rfl mkX12_isAct wt1669 wt1671 wp88 rfl (Nat.le_of_ble_eq_true rfl) (Nat.le_of_ble_eq_true rfl) (by decide) (by decide) (by decide) (Or.inl rfl) (hs1.e (by decide)) (ok_X12_isAct_in (S := tkS S) hs1 hA1 hAm hm) (fun r14 S14 hp14 => ?_)
  obtain ⟨rfl, hq14⟩ := hp14
  rw [hq14]
  show Ok _ _ _ [zi (nI 1)] _ _
  refine r_if_eqN (q := 20) (t := 32) (by omega) dX12_table_17 (by decide) rfl (fun h17 => absurd h17 (by omega)) (fun h17 => ?_)
  refine r_aload_n (q := 21) dX12_table_20 rfl rfl rfl ?_
  refine r_geti (q := 24) ck12 dX12_table_21 rfl (k := 3) (by decide) wt1281 (Or.inl rfl) (hs1.e (by decide)) ?_
  refine r_topi (y := nI t) hsz ?_
  refine r_aload_n (q := 25) dX12_table_24 rfl rfl rfl ?_
  refine r_iload_n (q := 26) dX12_table_25 rfl rfl rfl ?_
  refine r_callV (Mc := mX12_table0) (q := 29) (As := [zi (nI m)]) (st := [zi (nI t)]) ck12 dX12_table_26 rfl rfl mkX12_table0 wt1980 wt1982 wp140 rfl (Nat.le_of_ble_eq_true rfl) (Nat.le_of_ble_eq_true rfl) (by decide) (by decide) (by decide) (Or.inl rfl) (hs1.e (by decide)) (htb (tkS S) hs1 rfl rfl) (fun r26 S26 hp26 => ?_)
  obtain ⟨rfl, hq26⟩ := hp26
  rw [hq26]
  show Ok _ _ _ [zi (nI w), zi (nI t)] _ _
  refine r_icmp_eqN (q := 32) (t := 34) (by omega) (by omega) dX12_table_29 (by decide) rfl (fun h29 => absurd h29 (by omega)) (fun h29 => ?_)
  refine r_iconst (q := 33) (nI 0) dX12_table_32 rfl (by decide) ?_
  refine r_zreturn (by decide) dX12_table_33 rfl ?_
  exact ⟨rfl, rfl⟩

set_option maxRecDepth 100000 in
theorem ok_X12_table_eq {S : zS} (hs : Sd S) {A t : Nat} (hA : gI S 1306 0 1 = nI A) (hAm : A ≤ 3) (ht : gI S 12 0 2 = nI t) (ht9 : t ≤ 940) {m w : Nat} (hm : m < A) (hw : w ≤ 243) (htb : ∀ T : zS, Sd T → gI T 1306 0 3 = gI S 1306 0 3 → gI T 1306 0 (4 + m) = gI S 1306 0 (4 + m) → Ok mX12_table0 0 (ent 4 [zr 12 0, zi (nI m)]) [] T (fun r S1 => r = some (zi (nI w)) ∧ S1 = T)) (heq : t = w) {P : Nat} (h2 : 2 ≤ P) (h97 : P ≤ 97) (hP : gI S 1306 0 0 = nI P) : Ok mX12_table 0 (ent 3 [zr 12 0, zi (nI m)]) [] S (fun r S1 => r = some (zi (nI 1)) ∧ S1 = fm (tkS S) 1306 0 (444 + (243 * m)) 0 t (fun k => nI (bt (gI S 1301 0 k) % P))) := by
  show Ok mX12_table 0 [some (zr 12 0), some (zi (nI m)), none] [] S _
  refine r_aload_n (q := 1) dX12_table_0 rfl rfl rfl ?_
  refine r_iconst (q := 2) (nI 0) dX12_table_1 rfl (by decide) ?_
  refine r_puti (q := 5) ck12 dX12_table_2 rfl (k := 0) (by decide) wt1278 (Or.inl rfl) rfl (hs.e (by decide)) ?_
  refine r_aload_n (q := 6) dX12_table_5 rfl rfl rfl ?_
  refine r_sipush (q := 9) (nI 940) dX12_table_6 rfl (by decide) ?_
  refine r_callV (Mc := mX12_taken) (q := 12) (As := [zi (nI 940)]) (st := []) ck12 dX12_table_9 rfl rfl mkX12_taken wt1565 wt1567 wp68 rfl (Nat.le_of_ble_eq_true rfl) (Nat.le_of_ble_eq_true rfl) (by decide) (by decide) (by decide) (Or.inl rfl) (hs.e (by decide)) (ok_X12_taken (S := sI S 12 0 0 (nI 0)) hs (nI 940)) (fun r9 S9 hp9 => ?_)
  obtain ⟨rfl, hq9⟩ := hp9
  have hz9 : S9 = tkS S := hq9
  subst hz9
  have hs1 : Sd (tkS S) := hs
  have hA1 : gI (tkS S) 1306 0 1 = nI A := hA
  have hsz : gI (tkS S) 12 0 3 = nI t := ht
  show Ok _ _ _ [] _ _
  refine r_aload_n (q := 13) dX12_table_12 rfl rfl rfl ?_
  refine r_iload_n (q := 14) dX12_table_13 rfl rfl rfl ?_
  refine r_callV (Mc := mX12_isAct) (q := 17) (As := [zi (nI m)]) (st := []) ck12 dX12_table_14 rfl rfl mkX12_isAct wt1669 wt1671 wp88 rfl (Nat.le_of_ble_eq_true rfl) (Nat.le_of_ble_eq_true rfl) (by decide) (by decide) (by decide) (Or.inl rfl) (hs1.e (by decide)) (ok_X12_isAct_in (S := tkS S) hs1 hA1 hAm hm) (fun r14 S14 hp14 => ?_)
  obtain ⟨rfl, hq14⟩ := hp14
  rw [hq14]
  show Ok _ _ _ [zi (nI 1)] _ _
  refine r_if_eqN (q := 20) (t := 32) (by omega) dX12_table_17 (by decide) rfl (fun h17 => absurd h17 (by omega)) (fun h17 => ?_)
  refine r_aload_n (q := 21) dX12_table_20 rfl rfl rfl ?_
  refine r_geti (q := 24) ck12 dX12_table_21 rfl (k := 3) (by decide) wt1281 (Or.inl rfl) (hs1.e (by decide)) ?_
  refine r_topi (y := nI t) hsz ?_
  refine r_aload_n (q := 25) dX12_table_24 rfl rfl rfl ?_
  refine r_iload_n (q := 26) dX12_table_25 rfl rfl rfl ?_
  refine r_callV (Mc := mX12_table0) (q := 29) (As := [zi (nI m)]) (st := [zi (nI t)]) ck12 dX12_table_26 rfl rfl mkX12_table0 wt1980 wt1982 wp140 rfl (Nat.le_of_ble_eq_true rfl) (Nat.le_of_ble_eq_true rfl) (by decide) (by decide) (by decide) (Or.inl rfl) (hs1.e (by decide)) (htb (tkS S) hs1 rfl rfl) (fun r26 S26 hp26 => ?_)
  obtain ⟨rfl, hq26⟩ := hp26
  rw [hq26]
  show Ok _ _ _ [zi (nI w), zi (nI t)] _ _
  refine r_icmp_eqN (q := 32) (t := 34) (by omega) (by omega) dX12_table_29 (by decide) rfl (fun h29 => ?_) (fun h29 => absurd h29 (by omega))
  refine r_iconst (q := 35) (nI 0) dX12_table_34 rfl (by decide) ?_
  refine r_istore_n (q := 36) (L' := [some (zr 12 0), some (zi (nI m)), some (zi (nI 0))]) dX12_table_35 rfl rfl (by decide) rfl ?_
  refine lp_tableM (P := P) (tp := fun k => gI S 1301 0 k) (by omega) (by omega) h2 h97 t 0 (tkS S) (by omega) hs1 hsz (fun k _ => rfl) hP (fun S2 h2 => ?_)
  subst h2
  refine r_iconst (q := 79) (nI 1) dX12_table_78 rfl (by decide) ?_
  refine r_zreturn (by decide) dX12_table_79 rfl ?_
  exact ⟨rfl, rfl⟩

set_option maxRecDepth 100000 in
theorem ok_X12_table_out {S : zS} (hs : Sd S) {A t : Nat} (hA : gI S 1306 0 1 = nI A) (hAm : A ≤ 3) (ht : gI S 12 0 2 = nI t) (ht9 : t ≤ 940) {a : Int32} (ha : ¬ (0 ≤ a ∧ a < nI A)) : Ok mX12_table 0 (ent 3 [zr 12 0, zi a]) [] S (fun r S1 => r = some (zi (nI 0)) ∧ S1 = tkS S) := by
  show Ok mX12_table 0 [some (zr 12 0), some (zi a), none] [] S _
  refine r_aload_n (q := 1) dX12_table_0 rfl rfl rfl ?_
  refine r_iconst (q := 2) (nI 0) dX12_table_1 rfl (by decide) ?_
  refine r_puti (q := 5) ck12 dX12_table_2 rfl (k := 0) (by decide) wt1278 (Or.inl rfl) rfl (hs.e (by decide)) ?_
  refine r_aload_n (q := 6) dX12_table_5 rfl rfl rfl ?_
  refine r_sipush (q := 9) (nI 940) dX12_table_6 rfl (by decide) ?_
  refine r_callV (Mc := mX12_taken) (q := 12) (As := [zi (nI 940)]) (st := []) ck12 dX12_table_9 rfl rfl mkX12_taken wt1565 wt1567 wp68 rfl (Nat.le_of_ble_eq_true rfl) (Nat.le_of_ble_eq_true rfl) (by decide) (by decide) (by decide) (Or.inl rfl) (hs.e (by decide)) (ok_X12_taken (S := sI S 12 0 0 (nI 0)) hs (nI 940)) (fun r9 S9 hp9 => ?_)
  obtain ⟨rfl, hq9⟩ := hp9
  have hz9 : S9 = tkS S := hq9
  subst hz9
  have hs1 : Sd (tkS S) := hs
  have hA1 : gI (tkS S) 1306 0 1 = nI A := hA
  have hsz : gI (tkS S) 12 0 3 = nI t := ht
  show Ok _ _ _ [] _ _
  refine r_aload_n (q := 13) dX12_table_12 rfl rfl rfl ?_
  refine r_iload_n (q := 14) dX12_table_13 rfl rfl rfl ?_
  refine r_callV (Mc := mX12_isAct) (q := 17) (As := [zi a]) (st := []) ck12 dX12_table_14 rfl rfl mkX12_isAct wt1669 wt1671 wp88 rfl (Nat.le_of_ble_eq_true rfl) (Nat.le_of_ble_eq_true rfl) (by decide) (by decide) (by decide) (Or.inl rfl) (hs1.e (by decide)) (ok_X12_isAct_out (S := tkS S) hs1 hA1 hAm ha) (fun r14 S14 hp14 => ?_)
  obtain ⟨rfl, hq14⟩ := hp14
  rw [hq14]
  show Ok _ _ _ [zi (nI 0)] _ _
  refine r_if_eqN (q := 20) (t := 32) (by omega) dX12_table_17 (by decide) rfl (fun h17 => ?_) (fun h17 => absurd h17 (by omega))
  refine r_iconst (q := 33) (nI 0) dX12_table_32 rfl (by decide) ?_
  refine r_zreturn (by decide) dX12_table_33 rfl ?_
  exact ⟨rfl, rfl⟩

