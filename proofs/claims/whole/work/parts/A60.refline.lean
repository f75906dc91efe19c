set_option maxRecDepth 100000 in
theorem ok_lnp_a {S : zS} (hs : Sd S) {bs : List Nat} {lim : Nat} (hbl : bs.length ≤ 940) (hlim : lim ≤ 940) {ts : List zTk} (hr : Rr S bs lim ts) {W : zWd} (h : Wpk W ts) (hc : WHr S W) {told : Bool} (h56 : gI S 12 0 56 = nI (b01 told)) (i4 : isWb ts 7171940 = true) (hq : told = true ∨ 0 < wL W) : Ok mX12_line 0 (ent 4 [zr 12 0]) [] S (fun r S1 => LnR S S1 bs lim r (primeP told W ts)) := by
  obtain ⟨t1, t2, t3, t4⟩ := h.2.1.hd
  obtain ⟨u1, u2, u3, u4⟩ := h.2.1.adv.hd
  have hL18 := h.1.2.2.2.1
  have hA3 := h.1.2.1.1
  have hb1 : b01 told ≤ 1 := by unfold b01; split <;> omega
  have hq2 : 0 < b01 told ∨ 0 < wL W := hq.imp (fun z => by rw [z]; decide) id
  have e : primeP told W ts = Sum.inl (3, (hdT ts).2.1) := if_pos hq
  rw [e]
  show Ok mX12_line 0 [some (zr 12 0), none, none, none] [] S _
  refine r_aload_n (q := 1) dX12_line_0 rfl rfl rfl ?_
  refine r_ldc2 (q := 4) (7171940 : Int64) dX12_line_1 rfl wt1591 ?_
  refine r_topl (y := lN 7171940) rfl ?_
  refine r_callV (Mc := mX12_isWord) (q := 7) (As := [zl (lN 7171940)]) (st := []) ck12 dX12_line_4 rfl rfl mkX12_isWord wt1592 wt1594 wp73 rfl (Nat.le_of_ble_eq_true rfl) (Nat.le_of_ble_eq_true rfl) (by decide) (by decide) (by decide) (Or.inl rfl) (hs.e (by decide)) (ok_isWordR hs hbl hlim hr h.2.1 (by decide)) (fun r4 S4 hp4 => ?_)
  obtain ⟨rfl, hq4⟩ := hp4
  rw [hq4]
  rw [if_pos i4]
  show Ok _ _ _ [zi (nI 1)] _ _
  refine r_if_eqN (q := 10) (t := 87) (by omega) dX12_line_7 (by decide) rfl (fun h7 => absurd h7 (by omega)) (fun h7 => ?_)
  refine r_aload_n (q := 11) dX12_line_10 rfl rfl rfl ?_
  refine r_geti (q := 14) ck12 dX12_line_11 rfl (k := 56) (by decide) wt1334 (Or.inr (Or.inl rfl)) (hs.e (by decide)) ?_
  refine r_topi (y := nI (b01 told)) h56 ?_
  refine r_if_neN (q := 17) (t := 26) (by omega) dX12_line_14 (by decide) rfl (fun h14 => ?_) (fun h14 => ?_)
  · skip
    refine r_aload_n (q := 27) dX12_line_26 rfl rfl rfl ?_
    refine r_iconst (q := 28) (nI 3) dX12_line_27 rfl (by decide) ?_
    refine r_callV (Mc := mX12_bad) (q := 31) (As := [zi (nI 3)]) (st := []) ck12 dX12_line_28 rfl rfl mkX12_bad wt1596 wt1598 wp74 rfl (Nat.le_of_ble_eq_true rfl) (Nat.le_of_ble_eq_true rfl) (by decide) (by decide) (by decide) (Or.inl rfl) (hs.e (by decide)) (ok_bad (S := S) hs hbl hlim hr h.2.1 3) (fun r28 S28 hp28 => ?_)
    obtain ⟨rfl, w28, x28⟩ := hp28
    show Ok _ _ _ [zi (nI 0)] _ _
    refine r_zreturn (by decide) dX12_line_31 rfl ?_
    exact ⟨rfl, w28.mono (fun a b k z => tLn_d a b k z), x28⟩
  · skip
    refine r_aload_n (q := 18) dX12_line_17 rfl rfl rfl ?_
    refine r_getr (q := 21) (some (1307, 0)) ck12 dX12_line_18 rfl (k := 7) (by decide) wt1285 rfl (hs.e (by decide)) (hs.r (by decide) (by decide)) ?_
    refine r_iconst (q := 22) (nI 2) dX12_line_21 rfl (by decide) ?_
    refine r_ialdN (q := 23) 1173 (by decide) rfl dX12_line_22 rfl (hs.e (by decide)) (hs.n rfl (by decide)) (by omega) (by decide) ?_
    refine r_topi (y := nI (wL W)) hc.2.2.1 ?_
    refine r_if_leN (q := 26) (t := 32) (by omega) dX12_line_23 (by decide) rfl (fun h23 => absurd h23 (by omega)) (fun h23 => ?_)
    refine r_aload_n (q := 27) dX12_line_26 rfl rfl rfl ?_
    refine r_iconst (q := 28) (nI 3) dX12_line_27 rfl (by decide) ?_
    refine r_callV (Mc := mX12_bad) (q := 31) (As := [zi (nI 3)]) (st := []) ck12 dX12_line_28 rfl rfl mkX12_bad wt1596 wt1598 wp74 rfl (Nat.le_of_ble_eq_true rfl) (Nat.le_of_ble_eq_true rfl) (by decide) (by decide) (by decide) (Or.inl rfl) (hs.e (by decide)) (ok_bad (S := S) hs hbl hlim hr h.2.1 3) (fun r28 S28 hp28 => ?_)
    obtain ⟨rfl, w28, x28⟩ := hp28
    show Ok _ _ _ [zi (nI 0)] _ _
    refine r_zreturn (by decide) dX12_line_31 rfl ?_
    exact ⟨rfl, w28.mono (fun a b k z => tLn_d a b k z), x28⟩

set_option maxRecDepth 100000 in
theorem ok_lnp_b {S : zS} (hs : Sd S) {bs : List Nat} {lim : Nat} (hbl : bs.length ≤ 940) (hlim : lim ≤ 940) {ts : List zTk} (hr : Rr S bs lim ts) {W : zWd} (h : Wpk W ts) (hc : WHr S W) {told : Bool} (h56 : gI S 12 0 56 = nI (b01 told)) (i4 : isWb ts 7171940 = true) (hq : ¬ (told = true ∨ 0 < wL W)) (hk3 : ¬ (hdT (adv ts)).1 = 3) : Ok mX12_line 0 (ent 4 [zr 12 0]) [] S (fun r S1 => LnR S S1 bs lim r (primeP told W ts)) := by
  obtain ⟨t1, t2, t3, t4⟩ := h.2.1.hd
  obtain ⟨u1, u2, u3, u4⟩ := h.2.1.adv.hd
  have hL18 := h.1.2.2.2.1
  have hA3 := h.1.2.1.1
  have hb1 : b01 told ≤ 1 := by unfold b01; split <;> omega
  have hb0 : b01 told = 0 := by cases told with | true => exact absurd (Or.inl rfl) hq | false => rfl
  have hw0 : wL W = 0 := by have : ¬ 0 < wL W := fun z => hq (Or.inr z); omega
  have hk32 : ¬ rkt (hdT (adv ts)).1 = 2 := fun z => hk3 (rkt_2.mp z)
  have hrk := rkt_le (k := (hdT (adv ts)).1)
  have e : primeP told W ts = Sum.inl (1, (hdT (adv ts)).2.1) := (if_neg hq).trans (if_pos hk3)
  rw [e]
  show Ok mX12_line 0 [some (zr 12 0), none, none, none] [] S _
  refine r_aload_n (q := 1) dX12_line_0 rfl rfl rfl ?_
  refine r_ldc2 (q := 4) (7171940 : Int64) dX12_line_1 rfl wt1591 ?_
  refine r_topl (y := lN 7171940) rfl ?_
  refine r_callV (Mc := mX12_isWord) (q := 7) (As := [zl (lN 7171940)]) (st := []) ck12 dX12_line_4 rfl rfl mkX12_isWord wt1592 wt1594 wp73 rfl (Nat.le_of_ble_eq_true rfl) (Nat.le_of_ble_eq_true rfl) (by decide) (by decide) (by decide) (Or.inl rfl) (hs.e (by decide)) (ok_isWordR hs hbl hlim hr h.2.1 (by decide)) (fun r4 S4 hp4 => ?_)
  obtain ⟨rfl, hq4⟩ := hp4
  rw [hq4]
  rw [if_pos i4]
  show Ok _ _ _ [zi (nI 1)] _ _
  refine r_if_eqN (q := 10) (t := 87) (by omega) dX12_line_7 (by decide) rfl (fun h7 => absurd h7 (by omega)) (fun h7 => ?_)
  refine r_aload_n (q := 11) dX12_line_10 rfl rfl rfl ?_
  refine r_geti (q := 14) ck12 dX12_line_11 rfl (k := 56) (by decide) wt1334 (Or.inr (Or.inl rfl)) (hs.e (by decide)) ?_
  refine r_topi (y := nI (b01 told)) h56 ?_
  refine r_if_neN (q := 17) (t := 26) (by omega) dX12_line_14 (by decide) rfl (fun h14 => absurd h14 (by omega)) (fun h14 => ?_)
  refine r_aload_n (q := 18) dX12_line_17 rfl rfl rfl ?_
  refine r_getr (q := 21) (some (1307, 0)) ck12 dX12_line_18 rfl (k := 7) (by decide) wt1285 rfl (hs.e (by decide)) (hs.r (by decide) (by decide)) ?_
  refine r_iconst (q := 22) (nI 2) dX12_line_21 rfl (by decide) ?_
  refine r_ialdN (q := 23) 1173 (by decide) rfl dX12_line_22 rfl (hs.e (by decide)) (hs.n rfl (by decide)) (by omega) (by decide) ?_
  refine r_topi (y := nI (wL W)) hc.2.2.1 ?_
  refine r_if_leN (q := 26) (t := 32) (by omega) dX12_line_23 (by decide) rfl (fun h23 => ?_) (fun h23 => absurd h23 (by omega))
  refine r_aload_n (q := 33) dX12_line_32 rfl rfl rfl ?_
  refine r_iconst (q := 34) (nI 1) dX12_line_33 rfl (by decide) ?_
  refine r_putz (q := 37) (by decide) ck12 dX12_line_34 rfl (k := 56) (by decide) wt1334 (Or.inl rfl) rfl (hs.e (by decide)) ?_
  refine r_aload_n (q := 38) dX12_line_37 rfl rfl rfl ?_
  refine r_callV (Mc := mX12_next) (q := 41) (As := []) (st := []) ck12 dX12_line_38 rfl rfl mkX12_next wt1573 wt1575 wp70 rfl (Nat.le_of_ble_eq_true rfl) (Nat.le_of_ble_eq_true rfl) (by decide) (by decide) (by decide) (Or.inl rfl) (hs.e (by decide)) (ok_nextR (S := sI S 12 0 56 (nI 1)) hs hbl hlim (hr.cong (fun k => by rw [gI_sI, if_neg (by omega)]) (fun k _ => by rw [gI_sI, if_neg (by omega)]) rfl)) (fun r38 S38 hp38 => ?_)
  obtain ⟨rfl, w38, x38⟩ := hp38
  have g38 : Sd S38 := Sd.fr (S := sI S 12 0 56 (nI 1)) hs w38
  show Ok _ _ _ [] _ _
  refine r_aload_n (q := 42) dX12_line_41 rfl rfl rfl ?_
  refine r_geti (q := 45) ck12 dX12_line_42 rfl (k := 9) (by decide) wt1287 (Or.inl rfl) (g38.e (by decide)) ?_
  refine r_topi (y := nI (rkt (hdT (adv ts)).1)) x38.1.1 ?_
  refine r_iconst (q := 46) (nI 2) dX12_line_45 rfl (by decide) ?_
  refine r_icmp_eqN (q := 49) (t := 55) (by omega) (by omega) dX12_line_46 (by decide) rfl (fun h46 => absurd h46 (by omega)) (fun h46 => ?_)
  refine r_aload_n (q := 50) dX12_line_49 rfl rfl rfl ?_
  refine r_iconst (q := 51) (nI 1) dX12_line_50 rfl (by decide) ?_
  refine r_callV (Mc := mX12_bad) (q := 54) (As := [zi (nI 1)]) (st := []) ck12 dX12_line_51 rfl rfl mkX12_bad wt1596 wt1598 wp74 rfl (Nat.le_of_ble_eq_true rfl) (Nat.le_of_ble_eq_true rfl) (by decide) (by decide) (by decide) (Or.inl rfl) (g38.e (by decide)) (ok_bad (S := S38) g38 hbl hlim x38 h.2.1.adv 1) (fun r51 S51 hp51 => ?_)
  obtain ⟨rfl, w51, x51⟩ := hp51
  show Ok _ _ _ [zi (nI 0)] _ _
  refine r_zreturn (by decide) dX12_line_54 rfl ?_
  exact ⟨rfl, (((Fr.rf.i (by simp [tLn])) : Fr tLn S (sI S 12 0 56 (nI 1))).tr (w38.mono (fun a b k z => tLn_x a b k z))).tr (w51.mono (fun a b k z => tLn_d a b k z)), x51⟩

set_option maxRecDepth 100000 in
theorem ok_lnp_c {S : zS} (hs : Sd S) {bs : List Nat} {lim : Nat} (hbl : bs.length ≤ 940) (hlim : lim ≤ 940) {ts : List zTk} (hr : Rr S bs lim ts) {W : zWd} (h : Wpk W ts) (hc : WHr S W) {told : Bool} (h56 : gI S 12 0 56 = nI (b01 told)) (i4 : isWb ts 7171940 = true) (hq : ¬ (told = true ∨ 0 < wL W)) (hk3 : (hdT (adv ts)).1 = 3) (hpr : prB (hdT (adv ts)).2.2 = false) : Ok mX12_line 0 (ent 4 [zr 12 0]) [] S (fun r S1 => LnR S S1 bs lim r (primeP told W ts)) := by
  obtain ⟨t1, t2, t3, t4⟩ := h.2.1.hd
  obtain ⟨u1, u2, u3, u4⟩ := h.2.1.adv.hd
  have hL18 := h.1.2.2.2.1
  have hA3 := h.1.2.1.1
  have hb1 : b01 told ≤ 1 := by unfold b01; split <;> omega
  have hb0 : b01 told = 0 := by cases told with | true => exact absurd (Or.inl rfl) hq | false => rfl
  have hw0 : wL W = 0 := by have : ¬ 0 < wL W := fun z => hq (Or.inr z); omega
  have hk32 := rkt_2.mpr hk3
  have hv9 := u4 hk3
  have e : primeP told W ts = Sum.inl (2, (hdT (adv ts)).2.1) := (if_neg hq).trans ((if_neg (fun z => z hk3)).trans (if_pos hpr))
  rw [e]
  show Ok mX12_line 0 [some (zr 12 0), none, none, none] [] S _
  refine r_aload_n (q := 1) dX12_line_0 rfl rfl rfl ?_
  refine r_ldc2 (q := 4) (7171940 : Int64) dX12_line_1 rfl wt1591 ?_
  refine r_topl (y := lN 7171940) rfl ?_
  refine r_callV (Mc := mX12_isWord) (q := 7) (As := [zl (lN 7171940)]) (st := []) ck12 dX12_line_4 rfl rfl mkX12_isWord wt1592 wt1594 wp73 rfl (Nat.le_of_ble_eq_true rfl) (Nat.le_of_ble_eq_true rfl) (by decide) (by decide) (by decide) (Or.inl rfl) (hs.e (by decide)) (ok_isWordR hs hbl hlim hr h.2.1 (by decide)) (fun r4 S4 hp4 => ?_)
  obtain ⟨rfl, hq4⟩ := hp4
  rw [hq4]
  rw [if_pos i4]
  show Ok _ _ _ [zi (nI 1)] _ _
  refine r_if_eqN (q := 10) (t := 87) (by omega) dX12_line_7 (by decide) rfl (fun h7 => absurd h7 (by omega)) (fun h7 => ?_)
  refine r_aload_n (q := 11) dX12_line_10 rfl rfl rfl ?_
  refine r_geti (q := 14) ck12 dX12_line_11 rfl (k := 56) (by decide) wt1334 (Or.inr (Or.inl rfl)) (hs.e (by decide)) ?_
  refine r_topi (y := nI (b01 told)) h56 ?_
  refine r_if_neN (q := 17) (t := 26) (by omega) dX12_line_14 (by decide) rfl (fun h14 => absurd h14 (by omega)) (fun h14 => ?_)
  refine r_aload_n (q := 18) dX12_line_17 rfl rfl rfl ?_
  refine r_getr (q := 21) (some (1307, 0)) ck12 dX12_line_18 rfl (k := 7) (by decide) wt1285 rfl (hs.e (by decide)) (hs.r (by decide) (by decide)) ?_
  refine r_iconst (q := 22) (nI 2) dX12_line_21 rfl (by decide) ?_
  refine r_ialdN (q := 23) 1173 (by decide) rfl dX12_line_22 rfl (hs.e (by decide)) (hs.n rfl (by decide)) (by omega) (by decide) ?_
  refine r_topi (y := nI (wL W)) hc.2.2.1 ?_
  refine r_if_leN (q := 26) (t := 32) (by omega) dX12_line_23 (by decide) rfl (fun h23 => ?_) (fun h23 => absurd h23 (by omega))
  refine r_aload_n (q := 33) dX12_line_32 rfl rfl rfl ?_
  refine r_iconst (q := 34) (nI 1) dX12_line_33 rfl (by decide) ?_
  refine r_putz (q := 37) (by decide) ck12 dX12_line_34 rfl (k := 56) (by decide) wt1334 (Or.inl rfl) rfl (hs.e (by decide)) ?_
  refine r_aload_n (q := 38) dX12_line_37 rfl rfl rfl ?_
  refine r_callV (Mc := mX12_next) (q := 41) (As := []) (st := []) ck12 dX12_line_38 rfl rfl mkX12_next wt1573 wt1575 wp70 rfl (Nat.le_of_ble_eq_true rfl) (Nat.le_of_ble_eq_true rfl) (by decide) (by decide) (by decide) (Or.inl rfl) (hs.e (by decide)) (ok_nextR (S := sI S 12 0 56 (nI 1)) hs hbl hlim (hr.cong (fun k => by rw [gI_sI, if_neg (by omega)]) (fun k _ => by rw [gI_sI, if_neg (by omega)]) rfl)) (fun r38 S38 hp38 => ?_)
  obtain ⟨rfl, w38, x38⟩ := hp38
  have g38 : Sd S38 := Sd.fr (S := sI S 12 0 56 (nI 1)) hs w38
  show Ok _ _ _ [] _ _
  refine r_aload_n (q := 42) dX12_line_41 rfl rfl rfl ?_
  refine r_geti (q := 45) ck12 dX12_line_42 rfl (k := 9) (by decide) wt1287 (Or.inl rfl) (g38.e (by decide)) ?_
  refine r_topi (y := nI (rkt (hdT (adv ts)).1)) x38.1.1 ?_
  refine r_iconst (q := 46) (nI 2) dX12_line_45 rfl (by decide) ?_
  refine r_icmp_eqN (q := 49) (t := 55) (by omega) (by omega) dX12_line_46 (by decide) rfl (fun h46 => ?_) (fun h46 => absurd h46 (by omega))
  refine r_aload_n (q := 56) dX12_line_55 rfl rfl rfl ?_
  refine r_geti (q := 59) ck12 dX12_line_56 rfl (k := 12) (by decide) wt1290 (Or.inl rfl) (g38.e (by decide)) ?_
  refine r_topi (y := nI ((hdT (adv ts)).2.2)) (x38.1.2.2.2.1 hk3) ?_
  refine r_callS (Mc := mX12_isPrime) (q := 62) (As := [zi (nI ((hdT (adv ts)).2.2))]) (st := []) dX12_line_59 rfl rfl mkX12_isPrime wt1600 wt1601 rfl (Nat.le_of_ble_eq_true rfl) (Nat.le_of_ble_eq_true rfl) (by decide) (by decide) (by decide) (Or.inl rfl) g38.some (ok_primeR (by omega)) (fun r59 S59 hp59 => ?_)
  obtain ⟨rfl, hq59⟩ := hp59
  rw [hq59]
  rw [show prN (hdT (adv ts)).2.2 = 0 from if_neg (by rw [hpr]; decide)]
  show Ok _ _ _ [zi (nI 0)] _ _
  refine r_if_neN (q := 65) (t := 71) (by omega) dX12_line_62 (by decide) rfl (fun h62 => absurd h62 (by omega)) (fun h62 => ?_)
  refine r_aload_n (q := 66) dX12_line_65 rfl rfl rfl ?_
  refine r_iconst (q := 67) (nI 2) dX12_line_66 rfl (by decide) ?_
  refine r_callV (Mc := mX12_bad) (q := 70) (As := [zi (nI 2)]) (st := []) ck12 dX12_line_67 rfl rfl mkX12_bad wt1596 wt1598 wp74 rfl (Nat.le_of_ble_eq_true rfl) (Nat.le_of_ble_eq_true rfl) (by decide) (by decide) (by decide) (Or.inl rfl) (g38.e (by decide)) (ok_bad (S := S38) g38 hbl hlim x38 h.2.1.adv 2) (fun r67 S67 hp67 => ?_)
  obtain ⟨rfl, w67, x67⟩ := hp67
  show Ok _ _ _ [zi (nI 0)] _ _
  refine r_zreturn (by decide) dX12_line_70 rfl ?_
  exact ⟨rfl, (((Fr.rf.i (by simp [tLn])) : Fr tLn S (sI S 12 0 56 (nI 1))).tr (w38.mono (fun a b k z => tLn_x a b k z))).tr (w67.mono (fun a b k z => tLn_d a b k z)), x67⟩

set_option maxRecDepth 100000 in
theorem ok_lnp_d {S : zS} (hs : Sd S) {bs : List Nat} {lim : Nat} (hbl : bs.length ≤ 940) (hlim : lim ≤ 940) {ts : List zTk} (hr : Rr S bs lim ts) {W : zWd} (h : Wpk W ts) (hc : WHr S W) {told : Bool} (h56 : gI S 12 0 56 = nI (b01 told)) (i4 : isWb ts 7171940 = true) (hq : ¬ (told = true ∨ 0 < wL W)) (hk3 : (hdT (adv ts)).1 = 3) (hpr : prB (hdT (adv ts)).2.2 = true) : Ok mX12_line 0 (ent 4 [zr 12 0]) [] S (fun r S1 => LnR S S1 bs lim r (primeP told W ts)) := by
  obtain ⟨t1, t2, t3, t4⟩ := h.2.1.hd
  obtain ⟨u1, u2, u3, u4⟩ := h.2.1.adv.hd
  have hL18 := h.1.2.2.2.1
  have hA3 := h.1.2.1.1
  have hb1 : b01 told ≤ 1 := by unfold b01; split <;> omega
  have hb0 : b01 told = 0 := by cases told with | true => exact absurd (Or.inl rfl) hq | false => rfl
  have hw0 : wL W = 0 := by have : ¬ 0 < wL W := fun z => hq (Or.inr z); omega
  have hk32 := rkt_2.mpr hk3
  have hv9 := u4 hk3
  have e : primeP told W ts = Sum.inr ((true, ((hdT (adv ts)).2.2, W.2)), adv (adv ts)) := (if_neg hq).trans ((if_neg (fun z => z hk3)).trans (if_neg (by rw [hpr]; decide)))
  rw [e]
  show Ok mX12_line 0 [some (zr 12 0), none, none, none] [] S _
  refine r_aload_n (q := 1) dX12_line_0 rfl rfl rfl ?_
  refine r_ldc2 (q := 4) (7171940 : Int64) dX12_line_1 rfl wt1591 ?_
  refine r_topl (y := lN 7171940) rfl ?_
  refine r_callV (Mc := mX12_isWord) (q := 7) (As := [zl (lN 7171940)]) (st := []) ck12 dX12_line_4 rfl rfl mkX12_isWord wt1592 wt1594 wp73 rfl (Nat.le_of_ble_eq_true rfl) (Nat.le_of_ble_eq_true rfl) (by decide) (by decide) (by decide) (Or.inl rfl) (hs.e (by decide)) (ok_isWordR hs hbl hlim hr h.2.1 (by decide)) (fun r4 S4 hp4 => ?_)
  obtain ⟨rfl, hq4⟩ := hp4
  rw [hq4]
  rw [if_pos i4]
  show Ok _ _ _ [zi (nI 1)] _ _
  refine r_if_eqN (q := 10) (t := 87) (by omega) dX12_line_7 (by decide) rfl (fun h7 => absurd h7 (by omega)) (fun h7 => ?_)
  refine r_aload_n (q := 11) dX12_line_10 rfl rfl rfl ?_
  refine r_geti (q := 14) ck12 dX12_line_11 rfl (k := 56) (by decide) wt1334 (Or.inr (Or.inl rfl)) (hs.e (by decide)) ?_
  refine r_topi (y := nI (b01 told)) h56 ?_
  refine r_if_neN (q := 17) (t := 26) (by omega) dX12_line_14 (by decide) rfl (fun h14 => absurd h14 (by omega)) (fun h14 => ?_)
  refine r_aload_n (q := 18) dX12_line_17 rfl rfl rfl ?_
  refine r_getr (q := 21) (some (1307, 0)) ck12 dX12_line_18 rfl (k := 7) (by decide) wt1285 rfl (hs.e (by decide)) (hs.r (by decide) (by decide)) ?_
  refine r_iconst (q := 22) (nI 2) dX12_line_21 rfl (by decide) ?_
  refine r_ialdN (q := 23) 1173 (by decide) rfl dX12_line_22 rfl (hs.e (by decide)) (hs.n rfl (by decide)) (by omega) (by decide) ?_
  refine r_topi (y := nI (wL W)) hc.2.2.1 ?_
  refine r_if_leN (q := 26) (t := 32) (by omega) dX12_line_23 (by decide) rfl (fun h23 => ?_) (fun h23 => absurd h23 (by omega))
  refine r_aload_n (q := 33) dX12_line_32 rfl rfl rfl ?_
  refine r_iconst (q := 34) (nI 1) dX12_line_33 rfl (by decide) ?_
  refine r_putz (q := 37) (by decide) ck12 dX12_line_34 rfl (k := 56) (by decide) wt1334 (Or.inl rfl) rfl (hs.e (by decide)) ?_
  refine r_aload_n (q := 38) dX12_line_37 rfl rfl rfl ?_
  refine r_callV (Mc := mX12_next) (q := 41) (As := []) (st := []) ck12 dX12_line_38 rfl rfl mkX12_next wt1573 wt1575 wp70 rfl (Nat.le_of_ble_eq_true rfl) (Nat.le_of_ble_eq_true rfl) (by decide) (by decide) (by decide) (Or.inl rfl) (hs.e (by decide)) (ok_nextR (S := sI S 12 0 56 (nI 1)) hs hbl hlim (hr.cong (fun k => by rw [gI_sI, if_neg (by omega)]) (fun k _ => by rw [gI_sI, if_neg (by omega)]) rfl)) (fun r38 S38 hp38 => ?_)
  obtain ⟨rfl, w38, x38⟩ := hp38
  have g38 : Sd S38 := Sd.fr (S := sI S 12 0 56 (nI 1)) hs w38
  show Ok _ _ _ [] _ _
  refine r_aload_n (q := 42) dX12_line_41 rfl rfl rfl ?_
  refine r_geti (q := 45) ck12 dX12_line_42 rfl (k := 9) (by decide) wt1287 (Or.inl rfl) (g38.e (by decide)) ?_
  refine r_topi (y := nI (rkt (hdT (adv ts)).1)) x38.1.1 ?_
  refine r_iconst (q := 46) (nI 2) dX12_line_45 rfl (by decide) ?_
  refine r_icmp_eqN (q := 49) (t := 55) (by omega) (by omega) dX12_line_46 (by decide) rfl (fun h46 => ?_) (fun h46 => absurd h46 (by omega))
  refine r_aload_n (q := 56) dX12_line_55 rfl rfl rfl ?_
  refine r_geti (q := 59) ck12 dX12_line_56 rfl (k := 12) (by decide) wt1290 (Or.inl rfl) (g38.e (by decide)) ?_
  refine r_topi (y := nI ((hdT (adv ts)).2.2)) (x38.1.2.2.2.1 hk3) ?_
  refine r_callS (Mc := mX12_isPrime) (q := 62) (As := [zi (nI ((hdT (adv ts)).2.2))]) (st := []) dX12_line_59 rfl rfl mkX12_isPrime wt1600 wt1601 rfl (Nat.le_of_ble_eq_true rfl) (Nat.le_of_ble_eq_true rfl) (by decide) (by decide) (by decide) (Or.inl rfl) g38.some (ok_primeR (by omega)) (fun r59 S59 hp59 => ?_)
  obtain ⟨rfl, hq59⟩ := hp59
  rw [hq59]
  rw [show prN (hdT (adv ts)).2.2 = 1 from if_pos hpr]
  show Ok _ _ _ [zi (nI 1)] _ _
  refine r_if_neN (q := 65) (t := 71) (by omega) dX12_line_62 (by decide) rfl (fun h62 => ?_) (fun h62 => absurd h62 (by omega))
  refine r_aload_n (q := 72) dX12_line_71 rfl rfl rfl ?_
  refine r_getr (q := 75) (some (1307, 0)) ck12 dX12_line_72 rfl (k := 7) (by decide) wt1285 rfl (g38.e (by decide)) (g38.r (by decide) (by decide)) ?_
  refine r_iconst (q := 76) (nI 0) dX12_line_75 rfl (by decide) ?_
  refine r_aload_n (q := 77) dX12_line_76 rfl rfl rfl ?_
  refine r_geti (q := 80) ck12 dX12_line_77 rfl (k := 12) (by decide) wt1290 (Or.inl rfl) (g38.e (by decide)) ?_
  refine r_topi (y := nI ((hdT (adv ts)).2.2)) (x38.1.2.2.2.1 hk3) ?_
  refine r_iastN (q := 81) 1173 (by decide) rfl dX12_line_80 rfl (g38.e (by decide)) (g38.n rfl (by decide)) (by omega) (by decide) ?_
  refine r_aload_n (q := 82) dX12_line_81 rfl rfl rfl ?_
  refine r_callV (Mc := mX12_next) (q := 85) (As := []) (st := []) ck12 dX12_line_82 rfl rfl mkX12_next wt1573 wt1575 wp70 rfl (Nat.le_of_ble_eq_true rfl) (Nat.le_of_ble_eq_true rfl) (by decide) (by decide) (by decide) (Or.inl rfl) (g38.e (by decide)) (ok_nextR (S := sI S38 1307 0 0 (nI ((hdT (adv ts)).2.2))) g38 hbl hlim (x38.cong (fun k => by rw [gI_sI, if_neg (by omega)]) (fun k _ => by rw [gI_sI, if_neg (by omega)]) rfl)) (fun r82 S82 hp82 => ?_)
  obtain ⟨rfl, w82, x82⟩ := hp82
  have g82 : Sd S82 := Sd.fr (S := sI S38 1307 0 0 (nI ((hdT (adv ts)).2.2))) g38 w82
  show Ok _ _ _ [] _ _
  refine r_iconst (q := 86) (nI 1) dX12_line_85 rfl (by decide) ?_
  refine r_zreturn (by decide) dX12_line_86 rfl ?_
  have g0 : Fr tLn S38 (sI S38 1307 0 0 (nI (hdT (adv ts)).2.2)) := Fr.rf.i (by simp [tLn])
  have hI : ∀ k, k ≠ 0 → gI S82 1307 0 k = gI S 1307 0 k := fun k a => by rw [w82.1 1307 0 k rfl, gI_sI, if_neg (by omega), w38.1 1307 0 k rfl, gI_sI, if_neg (by omega)]
  have hW2 : WHr S82 ((hdT (adv ts)).2.2, W.2) := hc.prime (by rw [w82.1 1307 0 0 rfl, gI_sI, if_pos ⟨rfl, rfl, rfl⟩]) hI (fun k => by rw [w82.2.1 1308 0 k rfl, gJ_sI, w38.2.1 1308 0 k rfl, gJ_sI])
  exact ⟨rfl, ((((Fr.rf.i (by simp [tLn])) : Fr tLn S (sI S 12 0 56 (nI 1))).tr (w38.mono (fun a b k z => tLn_x a b k z))).tr g0).tr (w82.mono (fun a b k z => tLn_x a b k z)), by rw [w82.1 12 0 13 rfl, gI_sI, if_neg (by omega), w38.1 12 0 13 rfl, gI_sI, if_neg (by omega)], x82, hW2, by rw [w82.1 12 0 56 rfl, gI_sI, if_neg (by omega), w38.1 12 0 56 rfl, gI_sI, if_pos ⟨rfl, rfl, rfl⟩]; rfl, fun k hk => hI k (by omega)⟩

theorem LnR.v {S S1 : zS} {bs : List Nat} {lim : Nat} {r : Option zV} : ∀ {x : zEr ⊕ ((Bool × zWd) × List zTk)}, LnR S S1 bs lim r x → ∃ v, r = some (zi v) ∧ (v = 0 ∨ v = 1)
  | Sum.inl x, h => ⟨_, h.1, Or.inl rfl⟩
  | Sum.inr ((told, W), ts), h => ⟨_, h.1, Or.inr rfl⟩

set_option maxRecDepth 100000 in
theorem ok_lna {S : zS} (hs : Sd S) {bs : List Nat} {lim : Nat} (hbl : bs.length ≤ 940) (hlim : lim ≤ 940) {ts : List zTk} (hr : Rr S bs lim ts) {W : zWd} (h : Wpk W ts) (hc : WHr S W) {told : Bool} (h56 : gI S 12 0 56 = nI (b01 told)) (i4 : ¬ isWb ts 7171940 = true) (i91 : isWb ts 6382452 = true) : Ok mX12_line 0 (ent 4 [zr 12 0]) [] S (fun r S1 => LnR S S1 bs lim r (actP told W ts)) := by
  obtain ⟨t1, t2, t3, t4⟩ := h.2.1.hd
  obtain ⟨u1, u2, u3, u4⟩ := h.2.1.adv.hd
  have hL18 := h.1.2.2.2.1
  have hA3 := h.1.2.1.1
  have hb1 : b01 told ≤ 1 := by unfold b01; split <;> omega
  show Ok mX12_line 0 [some (zr 12 0), none, none, none] [] S _
  refine r_aload_n (q := 1) dX12_line_0 rfl rfl rfl ?_
  refine r_ldc2 (q := 4) (7171940 : Int64) dX12_line_1 rfl wt1591 ?_
  refine r_topl (y := lN 7171940) rfl ?_
  refine r_callV (Mc := mX12_isWord) (q := 7) (As := [zl (lN 7171940)]) (st := []) ck12 dX12_line_4 rfl rfl mkX12_isWord wt1592 wt1594 wp73 rfl (Nat.le_of_ble_eq_true rfl) (Nat.le_of_ble_eq_true rfl) (by decide) (by decide) (by decide) (Or.inl rfl) (hs.e (by decide)) (ok_isWordR hs hbl hlim hr h.2.1 (by decide)) (fun r4 S4 hp4 => ?_)
  obtain ⟨rfl, hq4⟩ := hp4
  rw [hq4]
  rw [if_neg i4]
  show Ok _ _ _ [zi (nI 0)] _ _
  refine r_if_eqN (q := 10) (t := 87) (by omega) dX12_line_7 (by decide) rfl (fun h7 => ?_) (fun h7 => absurd h7 (by omega))
  refine r_aload_n (q := 88) dX12_line_87 rfl rfl rfl ?_
  refine r_ldc2 (q := 91) (6382452 : Int64) dX12_line_88 rfl wt1603 ?_
  refine r_topl (y := lN 6382452) rfl ?_
  refine r_callV (Mc := mX12_isWord) (q := 94) (As := [zl (lN 6382452)]) (st := []) ck12 dX12_line_91 rfl rfl mkX12_isWord wt1592 wt1594 wp73 rfl (Nat.le_of_ble_eq_true rfl) (Nat.le_of_ble_eq_true rfl) (by decide) (by decide) (by decide) (Or.inl rfl) (hs.e (by decide)) (ok_isWordR hs hbl hlim hr h.2.1 (by decide)) (fun r91 S91 hp91 => ?_)
  obtain ⟨rfl, hq91⟩ := hp91
  rw [hq91]
  rw [if_pos i91]
  show Ok _ _ _ [zi (nI 1)] _ _
  refine r_if_eqN (q := 97) (t := 102) (by omega) dX12_line_94 (by decide) rfl (fun h94 => absurd h94 (by omega)) (fun h94 => ?_)
  refine r_aload_n (q := 98) dX12_line_97 rfl rfl rfl ?_
  refine r_callV (Mc := mX12_readAct) (q := 101) (As := []) (st := []) ck12 dX12_line_98 rfl rfl mkX12_readAct wt1604 wt1606 wp75 rfl (Nat.le_of_ble_eq_true rfl) (Nat.le_of_ble_eq_true rfl) (by decide) (by decide) (by decide) (Or.inl rfl) (hs.e (by decide)) (ok_ract hs hbl hlim hr h hc h56) (fun r98 S98 hp98 => ?_)
  obtain ⟨v, rfl, hv⟩ := LnR.v hp98
  show Ok _ _ _ [zi v] _ _
  refine r_zreturn hv dX12_line_101 rfl ?_
  exact hp98

set_option maxRecDepth 100000 in
theorem ok_lnn {S : zS} (hs : Sd S) {bs : List Nat} {lim : Nat} (hbl : bs.length ≤ 940) (hlim : lim ≤ 940) {ts : List zTk} (hr : Rr S bs lim ts) {W : zWd} (h : Wpk W ts) (hc : WHr S W) {told : Bool} (h56 : gI S 12 0 56 = nI (b01 told)) (i4 : ¬ isWb ts 7171940 = true) (i91 : ¬ isWb ts 6382452 = true) (i106 : ¬ isWb ts 7102839 = true) : Ok mX12_line 0 (ent 4 [zr 12 0]) [] S (fun r S1 => LnR S S1 bs lim r (Sum.inl (1, (hdT ts).2.1))) := by
  obtain ⟨t1, t2, t3, t4⟩ := h.2.1.hd
  obtain ⟨u1, u2, u3, u4⟩ := h.2.1.adv.hd
  have hL18 := h.1.2.2.2.1
  have hA3 := h.1.2.1.1
  have hb1 : b01 told ≤ 1 := by unfold b01; split <;> omega
  show Ok mX12_line 0 [some (zr 12 0), none, none, none] [] S _
  refine r_aload_n (q := 1) dX12_line_0 rfl rfl rfl ?_
  refine r_ldc2 (q := 4) (7171940 : Int64) dX12_line_1 rfl wt1591 ?_
  refine r_topl (y := lN 7171940) rfl ?_
  refine r_callV (Mc := mX12_isWord) (q := 7) (As := [zl (lN 7171940)]) (st := []) ck12 dX12_line_4 rfl rfl mkX12_isWord wt1592 wt1594 wp73 rfl (Nat.le_of_ble_eq_true rfl) (Nat.le_of_ble_eq_true rfl) (by decide) (by decide) (by decide) (Or.inl rfl) (hs.e (by decide)) (ok_isWordR hs hbl hlim hr h.2.1 (by decide)) (fun r4 S4 hp4 => ?_)
  obtain ⟨rfl, hq4⟩ := hp4
  rw [hq4]
  rw [if_neg i4]
  show Ok _ _ _ [zi (nI 0)] _ _
  refine r_if_eqN (q := 10) (t := 87) (by omega) dX12_line_7 (by decide) rfl (fun h7 => ?_) (fun h7 => absurd h7 (by omega))
  refine r_aload_n (q := 88) dX12_line_87 rfl rfl rfl ?_
  refine r_ldc2 (q := 91) (6382452 : Int64) dX12_line_88 rfl wt1603 ?_
  refine r_topl (y := lN 6382452) rfl ?_
  refine r_callV (Mc := mX12_isWord) (q := 94) (As := [zl (lN 6382452)]) (st := []) ck12 dX12_line_91 rfl rfl mkX12_isWord wt1592 wt1594 wp73 rfl (Nat.le_of_ble_eq_true rfl) (Nat.le_of_ble_eq_true rfl) (by decide) (by decide) (by decide) (Or.inl rfl) (hs.e (by decide)) (ok_isWordR hs hbl hlim hr h.2.1 (by decide)) (fun r91 S91 hp91 => ?_)
  obtain ⟨rfl, hq91⟩ := hp91
  rw [hq91]
  rw [if_neg i91]
  show Ok _ _ _ [zi (nI 0)] _ _
  refine r_if_eqN (q := 97) (t := 102) (by omega) dX12_line_94 (by decide) rfl (fun h94 => ?_) (fun h94 => absurd h94 (by omega))
  refine r_aload_n (q := 103) dX12_line_102 rfl rfl rfl ?_
  refine r_ldc2 (q := 106) (7102839 : Int64) dX12_line_103 rfl wt1612 ?_
  refine r_topl (y := lN 7102839) rfl ?_
  refine r_callV (Mc := mX12_isWord) (q := 109) (As := [zl (lN 7102839)]) (st := []) ck12 dX12_line_106 rfl rfl mkX12_isWord wt1592 wt1594 wp73 rfl (Nat.le_of_ble_eq_true rfl) (Nat.le_of_ble_eq_true rfl) (by decide) (by decide) (by decide) (Or.inl rfl) (hs.e (by decide)) (ok_isWordR hs hbl hlim hr h.2.1 (by decide)) (fun r106 S106 hp106 => ?_)
  obtain ⟨rfl, hq106⟩ := hp106
  rw [hq106]
  rw [if_neg i106]
  show Ok _ _ _ [zi (nI 0)] _ _
  refine r_if_neN (q := 112) (t := 118) (by omega) dX12_line_109 (by decide) rfl (fun h109 => absurd h109 (by omega)) (fun h109 => ?_)
  refine r_aload_n (q := 113) dX12_line_112 rfl rfl rfl ?_
  refine r_iconst (q := 114) (nI 1) dX12_line_113 rfl (by decide) ?_
  refine r_callV (Mc := mX12_bad) (q := 117) (As := [zi (nI 1)]) (st := []) ck12 dX12_line_114 rfl rfl mkX12_bad wt1596 wt1598 wp74 rfl (Nat.le_of_ble_eq_true rfl) (Nat.le_of_ble_eq_true rfl) (by decide) (by decide) (by decide) (Or.inl rfl) (hs.e (by decide)) (ok_bad (S := S) hs hbl hlim hr h.2.1 1) (fun r114 S114 hp114 => ?_)
  obtain ⟨rfl, w114, x114⟩ := hp114
  show Ok _ _ _ [zi (nI 0)] _ _
  refine r_zreturn (by decide) dX12_line_117 rfl ?_
  exact ⟨rfl, w114.mono (fun a b k z => tLn_d a b k z), x114⟩

set_option maxRecDepth 100000 in
theorem ok_lnl_a {S : zS} (hs : Sd S) {bs : List Nat} {lim : Nat} (hbl : bs.length ≤ 940) (hlim : lim ≤ 940) {ts : List zTk} (hr : Rr S bs lim ts) {W : zWd} (h : Wpk W ts) (hc : WHr S W) {told : Bool} (h56 : gI S 12 0 56 = nI (b01 told)) (i4 : ¬ isWb ts 7171940 = true) (i91 : ¬ isWb ts 6382452 = true) (i106 : isWb ts 7102839 = true) (hq : 18 ≤ wL W) : Ok mX12_line 0 (ent 4 [zr 12 0]) [] S (fun r S1 => LnR S S1 bs lim r (lawP told W ts)) := by
  obtain ⟨t1, t2, t3, t4⟩ := h.2.1.hd
  obtain ⟨u1, u2, u3, u4⟩ := h.2.1.adv.hd
  have hL18 := h.1.2.2.2.1
  have hA3 := h.1.2.1.1
  have hb1 : b01 told ≤ 1 := by unfold b01; split <;> omega
  have e : lawP told W ts = Sum.inl (4, (hdT ts).2.1) := if_pos hq
  rw [e]
  show Ok mX12_line 0 [some (zr 12 0), none, none, none] [] S _
  refine r_aload_n (q := 1) dX12_line_0 rfl rfl rfl ?_
  refine r_ldc2 (q := 4) (7171940 : Int64) dX12_line_1 rfl wt1591 ?_
  refine r_topl (y := lN 7171940) rfl ?_
  refine r_callV (Mc := mX12_isWord) (q := 7) (As := [zl (lN 7171940)]) (st := []) ck12 dX12_line_4 rfl rfl mkX12_isWord wt1592 wt1594 wp73 rfl (Nat.le_of_ble_eq_true rfl) (Nat.le_of_ble_eq_true rfl) (by decide) (by decide) (by decide) (Or.inl rfl) (hs.e (by decide)) (ok_isWordR hs hbl hlim hr h.2.1 (by decide)) (fun r4 S4 hp4 => ?_)
  obtain ⟨rfl, hq4⟩ := hp4
  rw [hq4]
  rw [if_neg i4]
  show Ok _ _ _ [zi (nI 0)] _ _
  refine r_if_eqN (q := 10) (t := 87) (by omega) dX12_line_7 (by decide) rfl (fun h7 => ?_) (fun h7 => absurd h7 (by omega))
  refine r_aload_n (q := 88) dX12_line_87 rfl rfl rfl ?_
  refine r_ldc2 (q := 91) (6382452 : Int64) dX12_line_88 rfl wt1603 ?_
  refine r_topl (y := lN 6382452) rfl ?_
  refine r_callV (Mc := mX12_isWord) (q := 94) (As := [zl (lN 6382452)]) (st := []) ck12 dX12_line_91 rfl rfl mkX12_isWord wt1592 wt1594 wp73 rfl (Nat.le_of_ble_eq_true rfl) (Nat.le_of_ble_eq_true rfl) (by decide) (by decide) (by decide) (Or.inl rfl) (hs.e (by decide)) (ok_isWordR hs hbl hlim hr h.2.1 (by decide)) (fun r91 S91 hp91 => ?_)
  obtain ⟨rfl, hq91⟩ := hp91
  rw [hq91]
  rw [if_neg i91]
  show Ok _ _ _ [zi (nI 0)] _ _
  refine r_if_eqN (q := 97) (t := 102) (by omega) dX12_line_94 (by decide) rfl (fun h94 => ?_) (fun h94 => absurd h94 (by omega))
  refine r_aload_n (q := 103) dX12_line_102 rfl rfl rfl ?_
  refine r_ldc2 (q := 106) (7102839 : Int64) dX12_line_103 rfl wt1612 ?_
  refine r_topl (y := lN 7102839) rfl ?_
  refine r_callV (Mc := mX12_isWord) (q := 109) (As := [zl (lN 7102839)]) (st := []) ck12 dX12_line_106 rfl rfl mkX12_isWord wt1592 wt1594 wp73 rfl (Nat.le_of_ble_eq_true rfl) (Nat.le_of_ble_eq_true rfl) (by decide) (by decide) (by decide) (Or.inl rfl) (hs.e (by decide)) (ok_isWordR hs hbl hlim hr h.2.1 (by decide)) (fun r106 S106 hp106 => ?_)
  obtain ⟨rfl, hq106⟩ := hp106
  rw [hq106]
  rw [if_pos i106]
  show Ok _ _ _ [zi (nI 1)] _ _
  refine r_if_neN (q := 112) (t := 118) (by omega) dX12_line_109 (by decide) rfl (fun h109 => ?_) (fun h109 => absurd h109 (by omega))
  refine r_aload_n (q := 119) dX12_line_118 rfl rfl rfl ?_
  refine r_getr (q := 122) (some (1307, 0)) ck12 dX12_line_119 rfl (k := 7) (by decide) wt1285 rfl (hs.e (by decide)) (hs.r (by decide) (by decide)) ?_
  refine r_iconst (q := 123) (nI 2) dX12_line_122 rfl (by decide) ?_
  refine r_ialdN (q := 124) 1173 (by decide) rfl dX12_line_123 rfl (hs.e (by decide)) (hs.n rfl (by decide)) (by omega) (by decide) ?_
  refine r_topi (y := nI (wL W)) hc.2.2.1 ?_
  refine r_istore_n (q := 125) (L' := [some (zr 12 0), some (zi (nI (wL W))), none, none]) dX12_line_124 rfl rfl (by decide) rfl ?_
  refine r_iload_n (q := 126) dX12_line_125 rfl rfl rfl ?_
  refine r_bipush (q := 128) (nI 18) dX12_line_126 rfl (by decide) ?_
  refine r_icmp_neN (q := 131) (t := 137) (by omega) (by omega) dX12_line_128 (by decide) rfl (fun h128 => absurd h128 (by omega)) (fun h128 => ?_)
  refine r_aload_n (q := 132) dX12_line_131 rfl rfl rfl ?_
  refine r_iconst (q := 133) (nI 4) dX12_line_132 rfl (by decide) ?_
  refine r_callV (Mc := mX12_bad) (q := 136) (As := [zi (nI 4)]) (st := []) ck12 dX12_line_133 rfl rfl mkX12_bad wt1596 wt1598 wp74 rfl (Nat.le_of_ble_eq_true rfl) (Nat.le_of_ble_eq_true rfl) (by decide) (by decide) (by decide) (Or.inl rfl) (hs.e (by decide)) (ok_bad (S := S) hs hbl hlim hr h.2.1 4) (fun r133 S133 hp133 => ?_)
  obtain ⟨rfl, w133, x133⟩ := hp133
  show Ok _ _ _ [zi (nI 0)] _ _
  refine r_zreturn (by decide) dX12_line_136 rfl ?_
  exact ⟨rfl, w133.mono (fun a b k z => tLn_d a b k z), x133⟩

set_option maxRecDepth 100000 in
theorem lp_lncp {Po : Option zV → zS → Prop} {l : Nat} : ∀ (d i : Nat) (S : zS), i + d = 1173 → Sd S → (∀ S2, S2 = cpR S 1307 0 1322 0 0 1173 i 1173 → Ok mX12_line 172 [some (zr 12 0), some (zi (nI l)), some (zi (nI 1173)), none] [] S2 Po) → Ok mX12_line 143 [some (zr 12 0), some (zi (nI l)), some (zi (nI i)), none] [] S Po := by
  intro d
  induction d with
  | zero =>
    intro i S hi hs  K
    obtain rfl : i = 1173 := by omega
    refine r_iload_n (q := 144) dX12_line_143 rfl rfl rfl ?_
    refine r_sipush (q := 147) (nI 1173) dX12_line_144 rfl (by decide) ?_
    refine r_icmp_geN (q := 150) (t := 172) (by omega) (by omega) dX12_line_147 (by decide) rfl (fun h147 => ?_) (fun h147 => absurd h147 (by omega))
    exact K _ (cpR_all.symm)
  | succ d ih =>
    intro i S hi hs  K
    refine r_iload_n (q := 144) dX12_line_143 rfl rfl rfl ?_
    refine r_sipush (q := 147) (nI 1173) dX12_line_144 rfl (by decide) ?_
    refine r_icmp_geN (q := 150) (t := 172) (by omega) (by omega) dX12_line_147 (by decide) rfl (fun h147 => absurd h147 (by omega)) (fun h147 => ?_)
    refine r_aload_n (q := 151) dX12_line_150 rfl rfl rfl ?_
    refine r_getr (q := 154) (some (1322, 0)) ck12 dX12_line_151 rfl (k := 22) (by decide) wt1300 rfl (hs.e (by decide)) (hs.r (by decide) (by decide)) ?_
    refine r_sipush (q := 157) (nI 1173) dX12_line_154 rfl (by decide) ?_
    refine r_iload_n (q := 158) dX12_line_157 rfl rfl rfl ?_
    refine r_iaddN (q := 159) dX12_line_158 rfl ?_
    refine r_aload_n (q := 160) dX12_line_159 rfl rfl rfl ?_
    refine r_getr (q := 163) (some (1307, 0)) ck12 dX12_line_160 rfl (k := 7) (by decide) wt1285 rfl (hs.e (by decide)) (hs.r (by decide) (by decide)) ?_
    refine r_iload_n (q := 164) dX12_line_163 rfl rfl rfl ?_
    refine r_ialdN (q := 165) 1173 (by decide) rfl dX12_line_164 rfl (hs.e (by decide)) (hs.n rfl (by decide)) (by omega) (by decide) ?_
    refine r_iastN (q := 166) 2346 (by decide) rfl dX12_line_165 rfl (hs.e (by decide)) (hs.n rfl (by decide)) (by omega) (by decide) ?_
    refine r_iincN (q := 169) (L' := [some (zr 12 0), some (zi (nI l)), some (zi (nI (i + 1))), none]) 1 rfl dX12_line_166 rfl rfl (by decide) rfl ?_
    refine r_goto (q := 143) dX12_line_169 (by decide) ?_
    exact ih (i + 1) _ (by omega) hs  (fun S2 h => K S2 (h.trans (cpR_step_s (S := S) (by omega) (by decide))))

theorem fr_lncp {S : zS} : Fr tLn S (cpR S 1307 0 1322 0 0 1173 0 1173) := ⟨fun a b k z => by rw [cpR_get, if_neg (fun y => by rw [y.1, y.2.1] at z; simp [tLn] at z; omega)], fun _ _ _ _ => rfl, rfl⟩
theorem lncp_w {S : zS} {k : Nat} (hk : k < 1173) : gI (cpR S 1307 0 1322 0 0 1173 0 1173) 1322 0 (1173 * 1 + k) = gI S 1307 0 k := by
  rw [cpR_get, if_pos ⟨rfl, rfl, by omega, by omega⟩, Nat.zero_add, show 1173 * 1 + k - 1173 = k by omega]
theorem lncp_x {S : zS} {a b k : Nat} (h : a ≠ 1322) : gI (cpR S 1307 0 1322 0 0 1173 0 1173) a b k = gI S a b k := by rw [cpR_get, if_neg (fun y => h y.1)]

set_option maxRecDepth 100000 in
theorem lp_ln208 {Po : Option zV → zS → Prop} {l to n : Nat} (hto : to + n ≤ 200) : ∀ (d k : Nat) (S : zS), k + d = n → Sd S → gI S 12 0 47 = nI n → (∀ S2, Fr (fun a b k => a == 1307 && b == 0) S S2 → (∀ i, k ≤ i → i < n → gI S2 1307 0 (44 + to + i) = gI S 1344 0 i ∧ gI S2 1307 0 (244 + to + i) = gI S 1345 0 i) → (∀ j, (j < 44 + to + k ∨ 44 + to + n ≤ j) → (j < 244 + to + k ∨ 244 + to + n ≤ j) → gI S2 1307 0 j = gI S 1307 0 j) → Ok mX12_line 257 [some (zr 12 0), some (zi (nI l)), some (zi (nI to)), some (zi (nI n))] [] S2 Po) → Ok mX12_line 208 [some (zr 12 0), some (zi (nI l)), some (zi (nI to)), some (zi (nI k))] [] S Po := by
  intro d
  induction d with
  | zero =>
    intro k S hk hs h47 K
    obtain rfl : k = n := by omega
    refine r_iload_n (q := 209) dX12_line_208 rfl rfl rfl ?_
    refine r_aload_n (q := 210) dX12_line_209 rfl rfl rfl ?_
    refine r_geti (q := 213) ck12 dX12_line_210 rfl (k := 47) (by decide) wt1325 (Or.inl rfl) (hs.e (by decide)) ?_
    refine r_topi (y := nI k) h47 ?_
    refine r_icmp_geN (q := 216) (t := 257) (by omega) (by omega) dX12_line_213 (by decide) rfl (fun h213 => ?_) (fun h213 => absurd h213 (by omega))
    exact K S Fr.rf (fun i a b => absurd a (by omega)) (fun j _ _ => rfl)
  | succ d ih =>
    intro k S hk hs h47 K
    refine r_iload_n (q := 209) dX12_line_208 rfl rfl rfl ?_
    refine r_aload_n (q := 210) dX12_line_209 rfl rfl rfl ?_
    refine r_geti (q := 213) ck12 dX12_line_210 rfl (k := 47) (by decide) wt1325 (Or.inl rfl) (hs.e (by decide)) ?_
    refine r_topi (y := nI n) h47 ?_
    refine r_icmp_geN (q := 216) (t := 257) (by omega) (by omega) dX12_line_213 (by decide) rfl (fun h213 => absurd h213 (by omega)) (fun h213 => ?_)
    refine r_aload_n (q := 217) dX12_line_216 rfl rfl rfl ?_
    refine r_getr (q := 220) (some (1307, 0)) ck12 dX12_line_217 rfl (k := 7) (by decide) wt1285 rfl (hs.e (by decide)) (hs.r (by decide) (by decide)) ?_
    refine r_bipush (q := 222) (nI 44) dX12_line_220 rfl (by decide) ?_
    refine r_iload_n (q := 223) dX12_line_222 rfl rfl rfl ?_
    refine r_iaddN (q := 224) dX12_line_223 rfl ?_
    refine r_iload_n (q := 225) dX12_line_224 rfl rfl rfl ?_
    refine r_iaddN (q := 226) dX12_line_225 rfl ?_
    refine r_aload_n (q := 227) dX12_line_226 rfl rfl rfl ?_
    refine r_getr (q := 230) (some (1344, 0)) ck12 dX12_line_227 rfl (k := 44) (by decide) wt1322 rfl (hs.e (by decide)) (hs.r (by decide) (by decide)) ?_
    refine r_iload_n (q := 231) dX12_line_230 rfl rfl rfl ?_
    refine r_ialdN (q := 232) 1400 (by decide) rfl dX12_line_231 rfl (hs.e (by decide)) (hs.n rfl (by decide)) (by omega) (by decide) ?_
    refine r_iastN (q := 233) 1173 (by decide) rfl dX12_line_232 rfl (hs.e (by decide)) (hs.n rfl (by decide)) (by omega) (by decide) ?_
    refine r_aload_n (q := 234) dX12_line_233 rfl rfl rfl ?_
    refine r_getr (q := 237) (some (1307, 0)) ck12 dX12_line_234 rfl (k := 7) (by decide) wt1285 rfl (hs.e (by decide)) (hs.r (by decide) (by decide)) ?_
    refine r_sipush (q := 240) (nI 244) dX12_line_237 rfl (by decide) ?_
    refine r_iload_n (q := 241) dX12_line_240 rfl rfl rfl ?_
    refine r_iaddN (q := 242) dX12_line_241 rfl ?_
    refine r_iload_n (q := 243) dX12_line_242 rfl rfl rfl ?_
    refine r_iaddN (q := 244) dX12_line_243 rfl ?_
    refine r_aload_n (q := 245) dX12_line_244 rfl rfl rfl ?_
    refine r_getr (q := 248) (some (1345, 0)) ck12 dX12_line_245 rfl (k := 45) (by decide) wt1323 rfl (hs.e (by decide)) (hs.r (by decide) (by decide)) ?_
    refine r_iload_n (q := 249) dX12_line_248 rfl rfl rfl ?_
    refine r_ialdN (q := 250) 1400 (by decide) rfl dX12_line_249 rfl (hs.e (by decide)) (hs.n rfl (by decide)) (by omega) (by decide) ?_
    refine r_topi (y := gI S 1345 0 k) (by repeat (first | rw [gI_sI, if_neg (by omega)] | rw [gI_sI, if_pos ⟨rfl, rfl, rfl⟩] | rw [gJ_sJ, if_neg (by omega)] | rw [gJ_sJ, if_pos ⟨rfl, rfl, rfl⟩] | rw [gI_sJ] | rw [gJ_sI])) ?_
    refine r_iastN (q := 251) 1173 (by decide) rfl dX12_line_250 rfl (hs.e (by decide)) (hs.n rfl (by decide)) (by omega) (by decide) ?_
    refine r_iincN (q := 254) (L' := [some (zr 12 0), some (zi (nI l)), some (zi (nI to)), some (zi (nI (k + 1)))]) 1 rfl dX12_line_251 rfl rfl (by decide) rfl ?_
    refine r_goto (q := 208) dX12_line_254 (by decide) ?_
    refine ih (k + 1) (sI (sI S 1307 0 ((44 + to) + k) (gI S 1344 0 k)) 1307 0 ((244 + to) + k) (gI S 1345 0 k)) (by omega) hs (by rw [gI_sI, if_neg (by omega), gI_sI, if_neg (by omega)]; exact h47) (fun S2 f e1 e2 => K S2 ((((Fr.rf.i rfl).i rfl) : Fr (fun a b k => a == 1307 && b == 0) S (sI (sI S 1307 0 ((44 + to) + k) (gI S 1344 0 k)) 1307 0 ((244 + to) + k) (gI S 1345 0 k))).tr f) (fun i a b => ?_) (fun j a b => ?_))
    · by_cases e : i = k
      · subst e
        exact ⟨by rw [e2 _ (by omega) (by omega), gI_sI, if_neg (by omega), gI_sI, if_pos ⟨rfl, rfl, rfl⟩], by rw [e2 _ (by omega) (by omega), gI_sI, if_pos ⟨rfl, rfl, rfl⟩]⟩
      · have := e1 i (by omega) b
        exact ⟨by rw [this.1, gI_sI, if_neg (by omega), gI_sI, if_neg (by omega)], by rw [this.2, gI_sI, if_neg (by omega), gI_sI, if_neg (by omega)]⟩
    · rw [e2 j (by omega) (by omega), gI_sI, if_neg (by omega), gI_sI, if_neg (by omega)]

set_option maxRecDepth 100000 in
theorem ok_lnl_b {S : zS} (hs : Sd S) {bs : List Nat} {lim : Nat} (hbl : bs.length ≤ 940) (hlim : lim ≤ 940) {ts : List zTk} (hr : Rr S bs lim ts) {W : zWd} (h : Wpk W ts) (hc : WHr S W) {told : Bool} (h56 : gI S 12 0 56 = nI (b01 told)) (i4 : ¬ isWb ts 7171940 = true) (i91 : ¬ isWb ts 6382452 = true) (i106 : isWb ts 7102839 = true) (h53 : gI S 12 0 53 = nI 3) (h54 : gI S 12 0 54 = nI 1) (h901 : ts.length ≤ 901) (hq : ¬ 18 ≤ wL W) {x : zEr} (sq : sumQ (wn W) (we W) (wA W) (wP W) 0 2 (adv ts) = Sum.inl x) : Ok mX12_line 0 (ent 4 [zr 12 0]) [] S (fun r S1 => LnR S S1 bs lim r (lawP told W ts)) := by
  obtain ⟨t1, t2, t3, t4⟩ := h.2.1.hd
  obtain ⟨u1, u2, u3, u4⟩ := h.2.1.adv.hd
  have hL18 := h.1.2.2.2.1
  have hA3 := h.1.2.1.1
  have hb1 : b01 told ≤ 1 := by unfold b01; split <;> omega
  have e : lawP told W ts = Sum.inl x := (if_neg hq).trans (by rw [sq])
  rw [e]
  show Ok mX12_line 0 [some (zr 12 0), none, none, none] [] S _
  refine r_aload_n (q := 1) dX12_line_0 rfl rfl rfl ?_
  refine r_ldc2 (q := 4) (7171940 : Int64) dX12_line_1 rfl wt1591 ?_
  refine r_topl (y := lN 7171940) rfl ?_
  refine r_callV (Mc := mX12_isWord) (q := 7) (As := [zl (lN 7171940)]) (st := []) ck12 dX12_line_4 rfl rfl mkX12_isWord wt1592 wt1594 wp73 rfl (Nat.le_of_ble_eq_true rfl) (Nat.le_of_ble_eq_true rfl) (by decide) (by decide) (by decide) (Or.inl rfl) (hs.e (by decide)) (ok_isWordR hs hbl hlim hr h.2.1 (by decide)) (fun r4 S4 hp4 => ?_)
  obtain ⟨rfl, hq4⟩ := hp4
  rw [hq4]
  rw [if_neg i4]
  show Ok _ _ _ [zi (nI 0)] _ _
  refine r_if_eqN (q := 10) (t := 87) (by omega) dX12_line_7 (by decide) rfl (fun h7 => ?_) (fun h7 => absurd h7 (by omega))
  refine r_aload_n (q := 88) dX12_line_87 rfl rfl rfl ?_
  refine r_ldc2 (q := 91) (6382452 : Int64) dX12_line_88 rfl wt1603 ?_
  refine r_topl (y := lN 6382452) rfl ?_
  refine r_callV (Mc := mX12_isWord) (q := 94) (As := [zl (lN 6382452)]) (st := []) ck12 dX12_line_91 rfl rfl mkX12_isWord wt1592 wt1594 wp73 rfl (Nat.le_of_ble_eq_true rfl) (Nat.le_of_ble_eq_true rfl) (by decide) (by decide) (by decide) (Or.inl rfl) (hs.e (by decide)) (ok_isWordR hs hbl hlim hr h.2.1 (by decide)) (fun r91 S91 hp91 => ?_)
  obtain ⟨rfl, hq91⟩ := hp91
  rw [hq91]
  rw [if_neg i91]
  show Ok _ _ _ [zi (nI 0)] _ _
  refine r_if_eqN (q := 97) (t := 102) (by omega) dX12_line_94 (by decide) rfl (fun h94 => ?_) (fun h94 => absurd h94 (by omega))
  refine r_aload_n (q := 103) dX12_line_102 rfl rfl rfl ?_
  refine r_ldc2 (q := 106) (7102839 : Int64) dX12_line_103 rfl wt1612 ?_
  refine r_topl (y := lN 7102839) rfl ?_
  refine r_callV (Mc := mX12_isWord) (q := 109) (As := [zl (lN 7102839)]) (st := []) ck12 dX12_line_106 rfl rfl mkX12_isWord wt1592 wt1594 wp73 rfl (Nat.le_of_ble_eq_true rfl) (Nat.le_of_ble_eq_true rfl) (by decide) (by decide) (by decide) (Or.inl rfl) (hs.e (by decide)) (ok_isWordR hs hbl hlim hr h.2.1 (by decide)) (fun r106 S106 hp106 => ?_)
  obtain ⟨rfl, hq106⟩ := hp106
  rw [hq106]
  rw [if_pos i106]
  show Ok _ _ _ [zi (nI 1)] _ _
  refine r_if_neN (q := 112) (t := 118) (by omega) dX12_line_109 (by decide) rfl (fun h109 => ?_) (fun h109 => absurd h109 (by omega))
  refine r_aload_n (q := 119) dX12_line_118 rfl rfl rfl ?_
  refine r_getr (q := 122) (some (1307, 0)) ck12 dX12_line_119 rfl (k := 7) (by decide) wt1285 rfl (hs.e (by decide)) (hs.r (by decide) (by decide)) ?_
  refine r_iconst (q := 123) (nI 2) dX12_line_122 rfl (by decide) ?_
  refine r_ialdN (q := 124) 1173 (by decide) rfl dX12_line_123 rfl (hs.e (by decide)) (hs.n rfl (by decide)) (by omega) (by decide) ?_
  refine r_topi (y := nI (wL W)) hc.2.2.1 ?_
  refine r_istore_n (q := 125) (L' := [some (zr 12 0), some (zi (nI (wL W))), none, none]) dX12_line_124 rfl rfl (by decide) rfl ?_
  refine r_iload_n (q := 126) dX12_line_125 rfl rfl rfl ?_
  refine r_bipush (q := 128) (nI 18) dX12_line_126 rfl (by decide) ?_
  refine r_icmp_neN (q := 131) (t := 137) (by omega) (by omega) dX12_line_128 (by decide) rfl (fun h128 => ?_) (fun h128 => absurd h128 (by omega))
  refine r_aload_n (q := 138) dX12_line_137 rfl rfl rfl ?_
  refine r_callV (Mc := mX12_next) (q := 141) (As := []) (st := []) ck12 dX12_line_138 rfl rfl mkX12_next wt1573 wt1575 wp70 rfl (Nat.le_of_ble_eq_true rfl) (Nat.le_of_ble_eq_true rfl) (by decide) (by decide) (by decide) (Or.inl rfl) (hs.e (by decide)) (ok_nextR (S := S) hs hbl hlim hr) (fun r138 S138 hp138 => ?_)
  obtain ⟨rfl, w138, x138⟩ := hp138
  have g138 : Sd S138 := Sd.fr (S := S) hs w138
  show Ok _ _ _ [] _ _
  refine r_iconst (q := 142) (nI 0) dX12_line_141 rfl (by decide) ?_
  refine r_istore_n (q := 143) (L' := [some (zr 12 0), some (zi (nI (wL W))), some (zi (nI 0)), none]) dX12_line_142 rfl rfl (by decide) rfl ?_
  have c38 : WHr S138 W := hc.fr w138 (fun _ => ⟨rfl, rfl⟩)
  refine lp_lncp (l := wL W) 1173 0 S138 (by omega) g138 (fun S2 eS2 => ?_)
  subst eS2
  have rC : Rr (cpR S138 1307 0 1322 0 0 1173 0 1173) bs lim (adv ts) := x138.cong (fun k => lncp_x (by omega)) (fun k _ => lncp_x (by omega)) rfl
  have wC : Wm (cpR S138 1307 0 1322 0 0 1173 0 1173) 1 3 (wA W) (wn W) (we W) := ⟨(lncp_x (by omega)).trans ((w138.1 _ _ _ rfl).trans h54), (lncp_x (by omega)).trans ((w138.1 _ _ _ rfl).trans h53), (lncp_w (k := 1) (by omega)).trans c38.2.1, fun a ha => ⟨by rw [show 1173 * 1 + 4 + a = 1173 * 1 + (4 + a) by omega, lncp_w (by omega)]; exact (c38.2.2.2.1 a ha).1, (c38.2.2.2.1 a ha).2⟩⟩
  refine r_aload_n (q := 173) dX12_line_172 rfl rfl rfl ?_
  refine r_iconst (q := 174) (nI 1) dX12_line_173 rfl (by decide) ?_
  refine r_iconst (q := 175) (nI 0) dX12_line_174 rfl (by decide) ?_
  refine r_callV (Mc := mX12_readSum) (q := 178) (As := [zi (nI 1), zi (nI 0)]) (st := []) ck12 dX12_line_175 rfl rfl mkX12_readSum wt1617 wt1619 wp77 rfl (Nat.le_of_ble_eq_true rfl) (Nat.le_of_ble_eq_true rfl) (by decide) (by decide) (by decide) (Or.inl rfl) (g138.e (by decide)) (ok_X12_readSum (S := cpR S138 1307 0 1322 0 0 1173 0 1173) (q := 1) (nf := 3) (nm := wn W) (e := we W) (by omega) (by omega) h.1.2.1 (fun a ha => (h.1.2.2.1.2.1 a ha).1) hbl hlim h.1.1.1 h.1.1.2.1 g138 wC ((lncp_w (k := 0) (by omega)).trans c38.1) rC h.2.1.adv h.2.2.1.ad (by have := adv_len ts; omega) (wn0 := 0) (ls := 2) (il := 1) (by omega) (Or.inl ⟨rfl, rfl⟩)) (fun r175 S175 hp175 => ?_)
  rw [sq] at hp175
  obtain ⟨rfl, y1, y2⟩ := hp175
  have gS : Sd S175 := Sd.fr (S := cpR S138 1307 0 1322 0 0 1173 0 1173) g138 y1
  show Ok _ _ _ [zi (nI 0)] _ _
  refine r_if_neN (q := 181) (t := 183) (by omega) dX12_line_178 (by decide) rfl (fun h178 => absurd h178 (by omega)) (fun h178 => ?_)
  refine r_iconst (q := 182) (nI 0) dX12_line_181 rfl (by decide) ?_
  refine r_zreturn (by decide) dX12_line_182 rfl ?_
  exact ⟨rfl, ((w138.mono (fun a b k z => tLn_x a b k z)).tr (fr_lncp.tr (y1.mono tLn_s))), y2⟩

set_option maxRecDepth 100000 in
theorem ok_lnl_c {S : zS} (hs : Sd S) {bs : List Nat} {lim : Nat} (hbl : bs.length ≤ 940) (hlim : lim ≤ 940) {ts : List zTk} (hr : Rr S bs lim ts) {W : zWd} (h : Wpk W ts) (hc : WHr S W) {told : Bool} (h56 : gI S 12 0 56 = nI (b01 told)) (i4 : ¬ isWb ts 7171940 = true) (i91 : ¬ isWb ts 6382452 = true) (i106 : isWb ts 7102839 = true) (h53 : gI S 12 0 53 = nI 3) (h54 : gI S 12 0 54 = nI 1) (h901 : ts.length ≤ 901) (hq : ¬ 18 ≤ wL W) {n : Nat} {acc : List zT} {ts' : List zTk} (sq : sumQ (wn W) (we W) (wA W) (wP W) 0 2 (adv ts) = Sum.inr ((n, acc), ts')) (hl : lf W (wL W) + (cl (adds (wP W) 1 [] acc)).length ≤ 200) : Ok mX12_line 0 (ent 4 [zr 12 0]) [] S (fun r S1 => LnR S S1 bs lim r (lawP told W ts)) := by
  obtain ⟨t1, t2, t3, t4⟩ := h.2.1.hd
  obtain ⟨u1, u2, u3, u4⟩ := h.2.1.adv.hd
  have hL18 := h.1.2.2.2.1
  have hA3 := h.1.2.1.1
  have hb1 : b01 told ≤ 1 := by unfold b01; split <;> omega
  have e : lawP told W ts = Sum.inr ((told, addW W n (cl (adds (wP W) 1 [] acc))), ts') := (if_neg hq).trans (by rw [sq]; rfl)
  rw [e]
  show Ok mX12_line 0 [some (zr 12 0), none, none, none] [] S _
  refine r_aload_n (q := 1) dX12_line_0 rfl rfl rfl ?_
  refine r_ldc2 (q := 4) (7171940 : Int64) dX12_line_1 rfl wt1591 ?_
  refine r_topl (y := lN 7171940) rfl ?_
  refine r_callV (Mc := mX12_isWord) (q := 7) (As := [zl (lN 7171940)]) (st := []) ck12 dX12_line_4 rfl rfl mkX12_isWord wt1592 wt1594 wp73 rfl (Nat.le_of_ble_eq_true rfl) (Nat.le_of_ble_eq_true rfl) (by decide) (by decide) (by decide) (Or.inl rfl) (hs.e (by decide)) (ok_isWordR hs hbl hlim hr h.2.1 (by decide)) (fun r4 S4 hp4 => ?_)
  obtain ⟨rfl, hq4⟩ := hp4
  rw [hq4]
  rw [if_neg i4]
  show Ok _ _ _ [zi (nI 0)] _ _
  refine r_if_eqN (q := 10) (t := 87) (by omega) dX12_line_7 (by decide) rfl (fun h7 => ?_) (fun h7 => absurd h7 (by omega))
  refine r_aload_n (q := 88) dX12_line_87 rfl rfl rfl ?_
  refine r_ldc2 (q := 91) (6382452 : Int64) dX12_line_88 rfl wt1603 ?_
  refine r_topl (y := lN 6382452) rfl ?_
  refine r_callV (Mc := mX12_isWord) (q := 94) (As := [zl (lN 6382452)]) (st := []) ck12 dX12_line_91 rfl rfl mkX12_isWord wt1592 wt1594 wp73 rfl (Nat.le_of_ble_eq_true rfl) (Nat.le_of_ble_eq_true rfl) (by decide) (by decide) (by decide) (Or.inl rfl) (hs.e (by decide)) (ok_isWordR hs hbl hlim hr h.2.1 (by decide)) (fun r91 S91 hp91 => ?_)
  obtain ⟨rfl, hq91⟩ := hp91
  rw [hq91]
  rw [if_neg i91]
  show Ok _ _ _ [zi (nI 0)] _ _
  refine r_if_eqN (q := 97) (t := 102) (by omega) dX12_line_94 (by decide) rfl (fun h94 => ?_) (fun h94 => absurd h94 (by omega))
  refine r_aload_n (q := 103) dX12_line_102 rfl rfl rfl ?_
  refine r_ldc2 (q := 106) (7102839 : Int64) dX12_line_103 rfl wt1612 ?_
  refine r_topl (y := lN 7102839) rfl ?_
  refine r_callV (Mc := mX12_isWord) (q := 109) (As := [zl (lN 7102839)]) (st := []) ck12 dX12_line_106 rfl rfl mkX12_isWord wt1592 wt1594 wp73 rfl (Nat.le_of_ble_eq_true rfl) (Nat.le_of_ble_eq_true rfl) (by decide) (by decide) (by decide) (Or.inl rfl) (hs.e (by decide)) (ok_isWordR hs hbl hlim hr h.2.1 (by decide)) (fun r106 S106 hp106 => ?_)
  obtain ⟨rfl, hq106⟩ := hp106
  rw [hq106]
  rw [if_pos i106]
  show Ok _ _ _ [zi (nI 1)] _ _
  refine r_if_neN (q := 112) (t := 118) (by omega) dX12_line_109 (by decide) rfl (fun h109 => ?_) (fun h109 => absurd h109 (by omega))
  refine r_aload_n (q := 119) dX12_line_118 rfl rfl rfl ?_
  refine r_getr (q := 122) (some (1307, 0)) ck12 dX12_line_119 rfl (k := 7) (by decide) wt1285 rfl (hs.e (by decide)) (hs.r (by decide) (by decide)) ?_
  refine r_iconst (q := 123) (nI 2) dX12_line_122 rfl (by decide) ?_
  refine r_ialdN (q := 124) 1173 (by decide) rfl dX12_line_123 rfl (hs.e (by decide)) (hs.n rfl (by decide)) (by omega) (by decide) ?_
  refine r_topi (y := nI (wL W)) hc.2.2.1 ?_
  refine r_istore_n (q := 125) (L' := [some (zr 12 0), some (zi (nI (wL W))), none, none]) dX12_line_124 rfl rfl (by decide) rfl ?_
  refine r_iload_n (q := 126) dX12_line_125 rfl rfl rfl ?_
  refine r_bipush (q := 128) (nI 18) dX12_line_126 rfl (by decide) ?_
  refine r_icmp_neN (q := 131) (t := 137) (by omega) (by omega) dX12_line_128 (by decide) rfl (fun h128 => ?_) (fun h128 => absurd h128 (by omega))
  refine r_aload_n (q := 138) dX12_line_137 rfl rfl rfl ?_
  refine r_callV (Mc := mX12_next) (q := 141) (As := []) (st := []) ck12 dX12_line_138 rfl rfl mkX12_next wt1573 wt1575 wp70 rfl (Nat.le_of_ble_eq_true rfl) (Nat.le_of_ble_eq_true rfl) (by decide) (by decide) (by decide) (Or.inl rfl) (hs.e (by decide)) (ok_nextR (S := S) hs hbl hlim hr) (fun r138 S138 hp138 => ?_)
  obtain ⟨rfl, w138, x138⟩ := hp138
  have g138 : Sd S138 := Sd.fr (S := S) hs w138
  show Ok _ _ _ [] _ _
  refine r_iconst (q := 142) (nI 0) dX12_line_141 rfl (by decide) ?_
  refine r_istore_n (q := 143) (L' := [some (zr 12 0), some (zi (nI (wL W))), some (zi (nI 0)), none]) dX12_line_142 rfl rfl (by decide) rfl ?_
  have c38 : WHr S138 W := hc.fr w138 (fun _ => ⟨rfl, rfl⟩)
  refine lp_lncp (l := wL W) 1173 0 S138 (by omega) g138 (fun S2 eS2 => ?_)
  subst eS2
  have rC : Rr (cpR S138 1307 0 1322 0 0 1173 0 1173) bs lim (adv ts) := x138.cong (fun k => lncp_x (by omega)) (fun k _ => lncp_x (by omega)) rfl
  have wC : Wm (cpR S138 1307 0 1322 0 0 1173 0 1173) 1 3 (wA W) (wn W) (we W) := ⟨(lncp_x (by omega)).trans ((w138.1 _ _ _ rfl).trans h54), (lncp_x (by omega)).trans ((w138.1 _ _ _ rfl).trans h53), (lncp_w (k := 1) (by omega)).trans c38.2.1, fun a ha => ⟨by rw [show 1173 * 1 + 4 + a = 1173 * 1 + (4 + a) by omega, lncp_w (by omega)]; exact (c38.2.2.2.1 a ha).1, (c38.2.2.2.1 a ha).2⟩⟩
  refine r_aload_n (q := 173) dX12_line_172 rfl rfl rfl ?_
  refine r_iconst (q := 174) (nI 1) dX12_line_173 rfl (by decide) ?_
  refine r_iconst (q := 175) (nI 0) dX12_line_174 rfl (by decide) ?_
  refine r_callV (Mc := mX12_readSum) (q := 178) (As := [zi (nI 1), zi (nI 0)]) (st := []) ck12 dX12_line_175 rfl rfl mkX12_readSum wt1617 wt1619 wp77 rfl (Nat.le_of_ble_eq_true rfl) (Nat.le_of_ble_eq_true rfl) (by decide) (by decide) (by decide) (Or.inl rfl) (g138.e (by decide)) (ok_X12_readSum (S := cpR S138 1307 0 1322 0 0 1173 0 1173) (q := 1) (nf := 3) (nm := wn W) (e := we W) (by omega) (by omega) h.1.2.1 (fun a ha => (h.1.2.2.1.2.1 a ha).1) hbl hlim h.1.1.1 h.1.1.2.1 g138 wC ((lncp_w (k := 0) (by omega)).trans c38.1) rC h.2.1.adv h.2.2.1.ad (by have := adv_len ts; omega) (wn0 := 0) (ls := 2) (il := 1) (by omega) (Or.inl ⟨rfl, rfl⟩)) (fun r175 S175 hp175 => ?_)
  rw [sq] at hp175
  obtain ⟨rfl, y1, y2, y3, y4, y5⟩ := hp175
  have gS : Sd S175 := Sd.fr (S := cpR S138 1307 0 1322 0 0 1173 0 1173) g138 y1
  show Ok _ _ _ [zi (nI 1)] _ _
  refine r_if_neN (q := 181) (t := 183) (by omega) dX12_line_178 (by decide) rfl (fun h178 => ?_) (fun h178 => absurd h178 (by omega))
  have cH : WHr S175 W := (c38.ext (S1 := cpR S138 1307 0 1322 0 0 1173 0 1173) (fun k => lncp_x (by omega)) (fun k => rfl)).fr y1 (fun _ => ⟨rfl, rfl⟩)
  refine r_aload_n (q := 184) dX12_line_183 rfl rfl rfl ?_
  refine r_getr (q := 187) (some (1307, 0)) ck12 dX12_line_184 rfl (k := 7) (by decide) wt1285 rfl (gS.e (by decide)) (gS.r (by decide) (by decide)) ?_
  refine r_bipush (q := 189) (nI 7) dX12_line_187 rfl (by decide) ?_
  refine r_iload_n (q := 190) dX12_line_189 rfl rfl rfl ?_
  refine r_iaddN (q := 191) dX12_line_190 rfl ?_
  refine r_topi (y := nI (7 + wL W)) rfl ?_
  refine r_aload_n (q := 192) dX12_line_191 rfl rfl rfl ?_
  refine r_geti (q := 195) ck12 dX12_line_192 rfl (k := 48) (by decide) wt1326 (Or.inl rfl) (gS.e (by decide)) ?_
  refine r_topi (y := nI n) y4 ?_
  refine r_iastN (q := 196) 1173 (by decide) rfl dX12_line_195 rfl (gS.e (by decide)) (gS.n rfl (by decide)) (by omega) (by decide) ?_
  refine r_aload_n (q := 197) dX12_line_196 rfl rfl rfl ?_
  refine r_getr (q := 200) (some (1307, 0)) ck12 dX12_line_197 rfl (k := 7) (by decide) wt1285 rfl (gS.e (by decide)) (gS.r (by decide) (by decide)) ?_
  refine r_bipush (q := 202) (nI 25) dX12_line_200 rfl (by decide) ?_
  refine r_iload_n (q := 203) dX12_line_202 rfl rfl rfl ?_
  refine r_iaddN (q := 204) dX12_line_203 rfl ?_
  refine r_topi (y := nI (25 + wL W)) rfl ?_
  refine r_ialdN (q := 205) 1173 (by decide) rfl dX12_line_204 rfl (gS.e (by decide)) (gS.n rfl (by decide)) (by omega) (by decide) ?_
  refine r_topi (y := gI S175 1307 0 (25 + wL W)) (by repeat (first | rw [gI_sI, if_neg (by omega)] | rw [gI_sI, if_pos ⟨rfl, rfl, rfl⟩] | rw [gJ_sJ, if_neg (by omega)] | rw [gJ_sJ, if_pos ⟨rfl, rfl, rfl⟩] | rw [gI_sJ] | rw [gJ_sI])) ?_
  refine r_topi (y := nI (lf W (wL W))) (cH.2.2.2.2.2.1 (wL W) (Nat.le_refl _)) ?_
  refine r_istore_n (q := 206) (L' := [some (zr 12 0), some (zi (nI (wL W))), some (zi (nI (lf W (wL W)))), none]) dX12_line_205 rfl rfl (by decide) rfl ?_
  refine r_iconst (q := 207) (nI 0) dX12_line_206 rfl (by decide) ?_
  refine r_istore_n (q := 208) (L' := [some (zr 12 0), some (zi (nI (wL W))), some (zi (nI (lf W (wL W)))), some (zi (nI 0))]) dX12_line_207 rfl rfl (by decide) rfl ?_
  refine lp_ln208 (l := wL W) (to := lf W (wL W)) (n := (cl (adds (wP W) 1 [] acc)).length) hl (cl (adds (wP W) 1 [] acc)).length 0 (sI S175 1307 0 (7 + wL W) (nI n)) (by omega) gS (by rw [gI_sI, if_neg (by omega)]; exact y5.1) (fun S2 f e1 e2 => ?_)
  have gS2 : Sd S2 := Sd.fr (S := sI S175 1307 0 (7 + wL W) (nI n)) gS f
  have k47 : gI S2 12 0 47 = nI (cl (adds (wP W) 1 [] acc)).length := by rw [f.1 12 0 47 rfl, gI_sI, if_neg (by omega)]; exact y5.1
  have k2 : gI S2 1307 0 2 = nI (wL W) := by rw [e2 2 (by omega) (by omega), gI_sI, if_neg (by omega)]; exact cH.2.2.1
  refine r_aload_n (q := 258) dX12_line_257 rfl rfl rfl ?_
  refine r_getr (q := 261) (some (1307, 0)) ck12 dX12_line_258 rfl (k := 7) (by decide) wt1285 rfl (gS2.e (by decide)) (gS2.r (by decide) (by decide)) ?_
  refine r_bipush (q := 263) (nI 25) dX12_line_261 rfl (by decide) ?_
  refine r_iload_n (q := 264) dX12_line_263 rfl rfl rfl ?_
  refine r_iaddN (q := 265) dX12_line_264 rfl ?_
  refine r_topi (y := nI (25 + wL W)) rfl ?_
  refine r_iconst (q := 266) (nI 1) dX12_line_265 rfl (by decide) ?_
  refine r_iaddN (q := 267) dX12_line_266 rfl ?_
  refine r_topi (y := nI (25 + wL W + 1)) rfl ?_
  refine r_iload_n (q := 268) dX12_line_267 rfl rfl rfl ?_
  refine r_aload_n (q := 269) dX12_line_268 rfl rfl rfl ?_
  refine r_geti (q := 272) ck12 dX12_line_269 rfl (k := 47) (by decide) wt1325 (Or.inl rfl) (gS2.e (by decide)) ?_
  refine r_topi (y := nI ((cl (adds (wP W) 1 [] acc)).length)) k47 ?_
  refine r_iaddN (q := 273) dX12_line_272 rfl ?_
  refine r_iastN (q := 274) 1173 (by decide) rfl dX12_line_273 rfl (gS2.e (by decide)) (gS2.n rfl (by decide)) (by omega) (by decide) ?_
  refine r_aload_n (q := 275) dX12_line_274 rfl rfl rfl ?_
  refine r_getr (q := 278) (some (1307, 0)) ck12 dX12_line_275 rfl (k := 7) (by decide) wt1285 rfl (gS2.e (by decide)) (gS2.r (by decide) (by decide)) ?_
  refine r_iconst (q := 279) (nI 2) dX12_line_278 rfl (by decide) ?_
  refine r_dup2 (q := 280) dX12_line_279 rfl rfl rfl ?_
  refine r_ialdN (q := 281) 1173 (by decide) rfl dX12_line_280 rfl (gS2.e (by decide)) (gS2.n rfl (by decide)) (by omega) (by decide) ?_
  refine r_topi (y := gI S2 1307 0 2) (by repeat (first | rw [gI_sI, if_neg (by omega)] | rw [gI_sI, if_pos ⟨rfl, rfl, rfl⟩] | rw [gJ_sJ, if_neg (by omega)] | rw [gJ_sJ, if_pos ⟨rfl, rfl, rfl⟩] | rw [gI_sJ] | rw [gJ_sI])) ?_
  refine r_topi (y := nI (wL W)) k2 ?_
  refine r_iconst (q := 282) (nI 1) dX12_line_281 rfl (by decide) ?_
  refine r_iaddN (q := 283) dX12_line_282 rfl ?_
  refine r_iastN (q := 284) 1173 (by decide) rfl dX12_line_283 rfl (gS2.e (by decide)) (gS2.n rfl (by decide)) (by omega) (by decide) ?_
  refine r_iconst (q := 285) (nI 1) dX12_line_284 rfl (by decide) ?_
  refine r_zreturn (by decide) dX12_line_285 rfl ?_
  have hI : ∀ k, k ≠ 2 → k ≠ 7 + wL W → k ≠ 25 + wL W + 1 → (k < 44 + lf W (wL W) ∨ 44 + lf W (wL W) + (cl (adds (wP W) 1 [] acc)).length ≤ k) → (k < 244 + lf W (wL W) ∨ 244 + lf W (wL W) + (cl (adds (wP W) 1 [] acc)).length ≤ k) → gI (sI (sI S2 1307 0 (25 + wL W + 1) (nI (lf W (wL W) + (cl (adds (wP W) 1 [] acc)).length))) 1307 0 2 (nI (wL W + 1))) 1307 0 k = gI S175 1307 0 k := fun k a1 a2 a3 a4 a5 => by rw [gI_sI, if_neg (by omega), gI_sI, if_neg (by omega), e2 k (by omega) (by omega), gI_sI, if_neg (by omega)]
  have hJ : ∀ k, gJ (sI (sI S2 1307 0 (25 + wL W + 1) (nI (lf W (wL W) + (cl (adds (wP W) 1 [] acc)).length))) 1307 0 2 (nI (wL W + 1))) 1308 0 k = gJ S175 1308 0 k := fun k => by rw [gJ_sI, gJ_sI, f.2.1 1308 0 k rfl, gJ_sI]
  have hX : ∀ a b k, a ≠ 1307 → gI (sI (sI S2 1307 0 (25 + wL W + 1) (nI (lf W (wL W) + (cl (adds (wP W) 1 [] acc)).length))) 1307 0 2 (nI (wL W + 1))) a b k = gI S175 a b k := fun a b k a1 => by rw [gI_sI, if_neg (by omega), gI_sI, if_neg (by omega), f.1 a b k (by simp [a1]), gI_sI, if_neg (by omega)]
  have hW2 : WHr (sI (sI S2 1307 0 (25 + wL W + 1) (nI (lf W (wL W) + (cl (adds (wP W) 1 [] acc)).length))) 1307 0 2 (nI (wL W + 1))) (addW W n (cl (adds (wP W) 1 [] acc))) := WHr.law h.1 cH (by omega) hl (by rw [gI_sI, if_pos ⟨rfl, rfl, rfl⟩]) (by rw [gI_sI, if_neg (by omega), gI_sI, if_neg (by omega), e2 _ (by omega) (by omega), gI_sI, if_pos ⟨rfl, rfl, rfl⟩]) (by rw [gI_sI, if_neg (by omega), gI_sI, if_pos ⟨rfl, rfl, rfl⟩]) (fun k hk => ⟨by rw [gI_sI, if_neg (by omega), gI_sI, if_neg (by omega), (e1 k (by omega) hk).1, gI_sI, if_neg (by omega)]; exact (y5.2 k hk).1, by rw [gI_sI, if_neg (by omega), gI_sI, if_neg (by omega), (e1 k (by omega) hk).2, gI_sI, if_neg (by omega)]; exact (y5.2 k hk).2⟩) hI hJ
  have g0 : Fr tLn S175 (sI (sI S2 1307 0 (25 + wL W + 1) (nI (lf W (wL W) + (cl (adds (wP W) 1 [] acc)).length))) 1307 0 2 (nI (wL W + 1))) := (((((Fr.rf.i (by simp [tLn])) : Fr tLn S175 (sI S175 1307 0 (7 + wL W) (nI n))).tr (f.mono (fun a b k z => by simp at z; simp [tLn, z]))).i (by simp [tLn])).i (by simp [tLn]))
  exact ⟨rfl, ((w138.mono (fun a b k z => tLn_x a b k z)).tr (fr_lncp.tr (y1.mono tLn_s))).tr g0, (hX _ _ _ (by omega)).trans (y2.trans ((lncp_x (by omega)).trans (w138.1 _ _ _ rfl))), y3.cong (fun k => hX _ _ _ (by omega)) (fun k _ => hX _ _ _ (by omega)) (by rw [gJ_sI, gJ_sI, f.2.1 12 0 15 rfl, gJ_sI]), hW2, (hX _ _ _ (by omega)).trans ((y1.1 12 0 56 rfl).trans ((lncp_x (by omega)).trans ((w138.1 _ _ _ rfl).trans h56))), fun k hk => (hI k (by omega) (by omega) (by omega) (by omega) (by omega)).trans ((y1.1 1307 0 k rfl).trans ((lncp_x (by omega)).trans (w138.1 _ _ _ rfl)))⟩

theorem ok_line {S : zS} (hs : Sd S) {bs : List Nat} {lim : Nat} (hbl : bs.length ≤ 940) (hlim : lim ≤ 940) {ts : List zTk} (hr : Rr S bs lim ts) {W : zWd} (h : Wpk W ts) (hc : WHr S W) {told : Bool} (h56 : gI S 12 0 56 = nI (b01 told)) (h53 : gI S 12 0 53 = nI 3) (h54 : gI S 12 0 54 = nI 1) (h901 : ts.length ≤ 901) : Ok mX12_line 0 (ent 4 [zr 12 0]) [] S (fun r S1 => LnR S S1 bs lim r (lineP told W ts)) := by
  unfold lineP
  by_cases i4 : isWb ts 7171940 = true
  · rw [if_pos i4]
    by_cases hq : told = true ∨ 0 < wL W
    · exact ok_lnp_a hs hbl hlim hr h hc h56 i4 hq
    by_cases hk3 : (hdT (adv ts)).1 = 3
    · cases hpr : prB (hdT (adv ts)).2.2 with
      | false => exact ok_lnp_c hs hbl hlim hr h hc h56 i4 hq hk3 hpr
      | true => exact ok_lnp_d hs hbl hlim hr h hc h56 i4 hq hk3 hpr
    · exact ok_lnp_b hs hbl hlim hr h hc h56 i4 hq hk3
  rw [if_neg i4]
  by_cases i91 : isWb ts 6382452 = true
  · rw [if_pos i91]
    exact ok_lna hs hbl hlim hr h hc h56 i4 i91
  rw [if_neg i91]
  by_cases i106 : isWb ts 7102839 = true
  · rw [if_pos i106]
    by_cases hq : 18 ≤ wL W
    · exact ok_lnl_a hs hbl hlim hr h hc h56 i4 i91 i106 hq
    cases sq : sumQ (wn W) (we W) (wA W) (wP W) 0 2 (adv ts) with
    | inl x => exact ok_lnl_b hs hbl hlim hr h hc h56 i4 i91 i106 h53 h54 h901 hq sq
    | inr x =>
      obtain ⟨⟨n, acc⟩, ts'⟩ := x
      refine ok_lnl_c hs hbl hlim hr h hc h56 i4 i91 i106 h53 h54 h901 hq sq ?_
      have e : lawP told W ts = Sum.inr ((told, addW W n (cl (adds (wP W) 1 [] acc))), ts') := (if_neg hq).trans (by rw [sq]; rfl)
      have := (lawP_ok h i106 e).1.1.2.2.2.2.1
      rw [addW_L, addW_f1] at this
      exact this
  · rw [if_neg i106]
    exact ok_lnn hs hbl hlim hr h hc h56 i4 i91 i106

