/-- a world that is being read, in the class: slot s -/
def WC (S : zS) (s : Nat) (W : zWd) : Prop := gI S 9 s 0 = nI (wP W) ∧ gI S 9 s 1 = nI (wA W) ∧ gI S 9 s 4 = nI (wL W) ∧ (∀ a, a < wA W → gI S 1003 s a = nI (we W a) ∧ gJ S 1002 s a = lN (wn W a)) ∧ (∀ L, L < wL W → gI S 1005 s L = nI (lw W L).1) ∧ (∀ L, L ≤ wL W → gI S 1006 s L = nI (lf W L)) ∧ ∀ L k, L < wL W → k < (lw W L).2.length → gI S 1007 s (lf W L + k) = nI (ky ((lw W L).2.getD k zd).1) ∧ gI S 1008 s (lf W L + k) = nI ((lw W L).2.getD k zd).2
theorem WC.fr {S S1 : zS} {s : Nat} {W : zWd} {T : Nat → Nat → Nat → Bool} (h : WC S s W) (f : Fr T S S1) (t : ∀ a k, a = 9 ∨ 1002 ≤ a ∧ a ≤ 1008 → T a s k = false) : WC S1 s W :=
  ⟨(f.1 _ _ _ (t 9 0 (by omega))).trans h.1, (f.1 _ _ _ (t 9 1 (by omega))).trans h.2.1, (f.1 _ _ _ (t 9 4 (by omega))).trans h.2.2.1, fun a ha => ⟨(f.1 _ _ _ (t _ _ (by omega))).trans (h.2.2.2.1 a ha).1, (f.2.1 _ _ _ (t _ _ (by omega))).trans (h.2.2.2.1 a ha).2⟩, fun L hL => (f.1 _ _ _ (t _ _ (by omega))).trans (h.2.2.2.2.1 L hL), fun L hL => (f.1 _ _ _ (t _ _ (by omega))).trans (h.2.2.2.2.2.1 L hL), fun L k hL hk => ⟨(f.1 _ _ _ (t _ _ (by omega))).trans (h.2.2.2.2.2.2 L k hL hk).1, (f.1 _ _ _ (t _ _ (by omega))).trans (h.2.2.2.2.2.2 L k hL hk).2⟩⟩
def b01 (b : Bool) : Nat := if b = true then 1 else 0
def tPm (s a b k : Nat) : Bool := tSk a b k || a == 9 && b == s && k == 0 || a == 4 && b == 0 && k == 8
def PmR (S S1 : zS) (s : Nat) (r : Option zV) : zEr ⊕ ((Bool × zWd) × List zTk) → Prop
  | Sum.inl x => r = some (zi (nI 0)) ∧ Fr (tPm s) S S1 ∧ Fl S1 x
  | Sum.inr ((told, W), ts) => r = some (zi (nI 1)) ∧ Fr (tPm s) S S1 ∧ gI S1 4 0 14 = gI S 4 0 14 ∧ Rc S1 ts ∧ WC S1 s W ∧ gI S1 4 0 8 = nI (b01 told)

set_option maxRecDepth 100000 in
theorem ok_readPrime_a {S : zS} (hs : Sd S) {ts : List zTk} (hr : Rc S ts) {s : Nat} (hs4 : s < 4) {W : zWd} (h : Wpk W ts) (hc : WC S s W) {told : Bool} (ht : gI S 4 0 8 = nI (b01 told)) (hq : told = true ∨ 0 < wL W) : Ok mX4_readPrime 0 (ent 2 [zr 4 0, zr 9 s]) [] S (fun r S1 => PmR S S1 s r (primeP told W ts)) := by
  obtain ⟨f5, f6, f7⟩ := hr.f
  obtain ⟨t1, t2, t3, t4⟩ := h.2.1.hd
  obtain ⟨u1, u2, u3, u4⟩ := h.2.1.adv.hd
  have hL18 := h.1.2.2.2.1
  have hb1 : b01 told ≤ 1 := by unfold b01; split <;> omega
  have e : primeP told W ts = Sum.inl (3, (hdT ts).2.1) := if_pos hq
  rw [e]
  have hq2 : 0 < b01 told ∨ 0 < wL W := hq.imp (fun z => by rw [z]; decide) id
  show Ok mX4_readPrime 0 [some (zr 4 0), some (zr 9 s)] [] S _
  refine r_aload_n (q := 1) dX4_readPrime_0 rfl rfl rfl ?_
  refine r_geti (q := 4) ck4 dX4_readPrime_1 rfl (k := 8) (by decide) wt129 (Or.inr (Or.inl rfl)) (hs.e (by decide)) ?_
  refine r_topi (y := nI (b01 told)) ht ?_
  refine r_if_neN (q := 7) (t := 14) (by omega) dX4_readPrime_4 (by decide) rfl (fun h4 => ?_) (fun h4 => ?_)
  · skip
    refine r_aload_n (q := 15) dX4_readPrime_14 rfl rfl rfl ?_
    refine r_iconst (q := 16) (nI 3) dX4_readPrime_15 rfl (by decide) ?_
    refine r_aload_n (q := 17) dX4_readPrime_16 rfl rfl rfl ?_
    refine r_geti (q := 20) ck4 dX4_readPrime_17 rfl (k := 6) (by decide) wt127 (Or.inl rfl) (hs.e (by decide)) ?_
    refine r_topi (y := nI ((hdT ts).2.1)) f6 ?_
    refine r_callV (Mc := mX4_fail) (q := 23) (As := [zi (nI 3), zi (nI ((hdT ts).2.1))]) (st := []) ck4 dX4_readPrime_20 rfl rfl mkX4_fail wt550 wt552 wp7 rfl (Nat.le_of_ble_eq_true rfl) (Nat.le_of_ble_eq_true rfl) (by decide) (by decide) (by decide) (Or.inl rfl) (hs.e (by decide)) (ok_fail hs 3 ((hdT ts).2.1)) (fun r20 S20 hp20 => ?_)
    obtain ⟨rfl, w20, x20⟩ := hp20
    show Ok _ _ _ [zi (nI 0)] _ _
    refine r_zreturn (by decide) dX4_readPrime_23 rfl ?_
    exact ⟨rfl, w20.mono (fun a b k z => by unfold tPm; rw [tSk_fl a b k z]; rfl), x20⟩
  · skip
    refine r_aload_n (q := 8) dX4_readPrime_7 rfl rfl rfl ?_
    refine r_geti (q := 11) ck9 dX4_readPrime_8 rfl (k := 4) (by decide) wt314 (Or.inl rfl) (hs.e (show s < 4 by omega)) ?_
    refine r_topi (y := nI (wL W)) hc.2.2.1 ?_
    refine r_if_leN (q := 14) (t := 24) (by omega) dX4_readPrime_11 (by decide) rfl (fun h11 => absurd h11 (by omega)) (fun h11 => ?_)
    refine r_aload_n (q := 15) dX4_readPrime_14 rfl rfl rfl ?_
    refine r_iconst (q := 16) (nI 3) dX4_readPrime_15 rfl (by decide) ?_
    refine r_aload_n (q := 17) dX4_readPrime_16 rfl rfl rfl ?_
    refine r_geti (q := 20) ck4 dX4_readPrime_17 rfl (k := 6) (by decide) wt127 (Or.inl rfl) (hs.e (by decide)) ?_
    refine r_topi (y := nI ((hdT ts).2.1)) f6 ?_
    refine r_callV (Mc := mX4_fail) (q := 23) (As := [zi (nI 3), zi (nI ((hdT ts).2.1))]) (st := []) ck4 dX4_readPrime_20 rfl rfl mkX4_fail wt550 wt552 wp7 rfl (Nat.le_of_ble_eq_true rfl) (Nat.le_of_ble_eq_true rfl) (by decide) (by decide) (by decide) (Or.inl rfl) (hs.e (by decide)) (ok_fail hs 3 ((hdT ts).2.1)) (fun r20 S20 hp20 => ?_)
    obtain ⟨rfl, w20, x20⟩ := hp20
    show Ok _ _ _ [zi (nI 0)] _ _
    refine r_zreturn (by decide) dX4_readPrime_23 rfl ?_
    exact ⟨rfl, w20.mono (fun a b k z => by unfold tPm; rw [tSk_fl a b k z]; rfl), x20⟩

set_option maxRecDepth 100000 in
theorem ok_readPrime_b {S : zS} (hs : Sd S) {ts : List zTk} (hr : Rc S ts) {s : Nat} (hs4 : s < 4) {W : zWd} (h : Wpk W ts) (hc : WC S s W) {told : Bool} (ht : gI S 4 0 8 = nI (b01 told)) (hq : ¬ (told = true ∨ 0 < wL W)) (hk3 : (hdT (adv ts)).1 ≠ 3) : Ok mX4_readPrime 0 (ent 2 [zr 4 0, zr 9 s]) [] S (fun r S1 => PmR S S1 s r (primeP told W ts)) := by
  obtain ⟨f5, f6, f7⟩ := hr.f
  obtain ⟨t1, t2, t3, t4⟩ := h.2.1.hd
  obtain ⟨u1, u2, u3, u4⟩ := h.2.1.adv.hd
  have hL18 := h.1.2.2.2.1
  have hb1 : b01 told ≤ 1 := by unfold b01; split <;> omega
  have hb0 : b01 told = 0 := by cases told with | true => exact absurd (Or.inl rfl) hq | false => rfl
  have hw0 : wL W = 0 := by omega
  have e : primeP told W ts = Sum.inl (1, (hdT (adv ts)).2.1) := (if_neg hq).trans (if_pos hk3)
  rw [e]
  show Ok mX4_readPrime 0 [some (zr 4 0), some (zr 9 s)] [] S _
  refine r_aload_n (q := 1) dX4_readPrime_0 rfl rfl rfl ?_
  refine r_geti (q := 4) ck4 dX4_readPrime_1 rfl (k := 8) (by decide) wt129 (Or.inr (Or.inl rfl)) (hs.e (by decide)) ?_
  refine r_topi (y := nI (b01 told)) ht ?_
  refine r_if_neN (q := 7) (t := 14) (by omega) dX4_readPrime_4 (by decide) rfl (fun h4 => absurd h4 (by omega)) (fun h4 => ?_)
  refine r_aload_n (q := 8) dX4_readPrime_7 rfl rfl rfl ?_
  refine r_geti (q := 11) ck9 dX4_readPrime_8 rfl (k := 4) (by decide) wt314 (Or.inl rfl) (hs.e (show s < 4 by omega)) ?_
  refine r_topi (y := nI (wL W)) hc.2.2.1 ?_
  refine r_if_leN (q := 14) (t := 24) (by omega) dX4_readPrime_11 (by decide) rfl (fun h11 => ?_) (fun h11 => absurd h11 (by omega))
  refine r_aload_n (q := 25) dX4_readPrime_24 rfl rfl rfl ?_
  refine r_callV (Mc := mX4_advance) (q := 28) (As := []) (st := []) ck4 dX4_readPrime_25 rfl rfl mkX4_advance wt529 wt531 wp4 rfl (Nat.le_of_ble_eq_true rfl) (Nat.le_of_ble_eq_true rfl) (by decide) (by decide) (by decide) (Or.inl rfl) (hs.e (by decide)) (ok_advance hs hr) (fun r25 S25 hp25 => ?_)
  obtain ⟨rfl, w25, x25⟩ := hp25
  show Ok _ _ _ [] _ _
  refine r_aload_n (q := 29) dX4_readPrime_28 rfl rfl rfl ?_
  refine r_geti (q := 32) ck4 dX4_readPrime_29 rfl (k := 5) (by decide) wt126 (Or.inl rfl) ((hs.fr w25).e (by decide)) ?_
  refine r_topi (y := nI ((hdT (adv ts)).1)) x25.f.1 ?_
  refine r_iconst (q := 33) (nI 3) dX4_readPrime_32 rfl (by decide) ?_
  refine r_icmp_eqN (q := 36) (t := 46) (by omega) (by omega) dX4_readPrime_33 (by decide) rfl (fun h33 => absurd h33 (by omega)) (fun h33 => ?_)
  refine r_aload_n (q := 37) dX4_readPrime_36 rfl rfl rfl ?_
  refine r_iconst (q := 38) (nI 1) dX4_readPrime_37 rfl (by decide) ?_
  refine r_aload_n (q := 39) dX4_readPrime_38 rfl rfl rfl ?_
  refine r_geti (q := 42) ck4 dX4_readPrime_39 rfl (k := 6) (by decide) wt127 (Or.inl rfl) ((hs.fr w25).e (by decide)) ?_
  refine r_topi (y := nI ((hdT (adv ts)).2.1)) x25.f.2.1 ?_
  refine r_callV (Mc := mX4_fail) (q := 45) (As := [zi (nI 1), zi (nI ((hdT (adv ts)).2.1))]) (st := []) ck4 dX4_readPrime_42 rfl rfl mkX4_fail wt550 wt552 wp7 rfl (Nat.le_of_ble_eq_true rfl) (Nat.le_of_ble_eq_true rfl) (by decide) (by decide) (by decide) (Or.inl rfl) ((hs.fr w25).e (by decide)) (ok_fail (hs.fr w25) 1 ((hdT (adv ts)).2.1)) (fun r42 S42 hp42 => ?_)
  obtain ⟨rfl, w42, x42⟩ := hp42
  show Ok _ _ _ [zi (nI 0)] _ _
  refine r_zreturn (by decide) dX4_readPrime_45 rfl ?_
  exact ⟨rfl, (w25.mono (fun a b k z => by unfold tPm; rw [tSk_av a b k z]; rfl)).tr (w42.mono (fun a b k z => by unfold tPm; rw [tSk_fl a b k z]; rfl)), x42⟩

set_option maxRecDepth 100000 in
theorem ok_readPrime_c {S : zS} (hs : Sd S) {ts : List zTk} (hr : Rc S ts) {s : Nat} (hs4 : s < 4) {W : zWd} (h : Wpk W ts) (hc : WC S s W) {told : Bool} (ht : gI S 4 0 8 = nI (b01 told)) (hq : ¬ (told = true ∨ 0 < wL W)) (hk3 : (hdT (adv ts)).1 = 3) (hp : prB (hdT (adv ts)).2.2 = false) : Ok mX4_readPrime 0 (ent 2 [zr 4 0, zr 9 s]) [] S (fun r S1 => PmR S S1 s r (primeP told W ts)) := by
  obtain ⟨f5, f6, f7⟩ := hr.f
  obtain ⟨t1, t2, t3, t4⟩ := h.2.1.hd
  obtain ⟨u1, u2, u3, u4⟩ := h.2.1.adv.hd
  have hL18 := h.1.2.2.2.1
  have hb1 : b01 told ≤ 1 := by unfold b01; split <;> omega
  have hb0 : b01 told = 0 := by cases told with | true => exact absurd (Or.inl rfl) hq | false => rfl
  have hw0 : wL W = 0 := by omega
  have hv := u4 hk3
  have hp0 : prN (hdT (adv ts)).2.2 = 0 := by unfold prN; rw [hp]; rfl
  have e : primeP told W ts = Sum.inl (2, (hdT (adv ts)).2.1) := (if_neg hq).trans ((if_neg (fun z => z hk3)).trans (if_pos hp))
  rw [e]
  show Ok mX4_readPrime 0 [some (zr 4 0), some (zr 9 s)] [] S _
  refine r_aload_n (q := 1) dX4_readPrime_0 rfl rfl rfl ?_
  refine r_geti (q := 4) ck4 dX4_readPrime_1 rfl (k := 8) (by decide) wt129 (Or.inr (Or.inl rfl)) (hs.e (by decide)) ?_
  refine r_topi (y := nI (b01 told)) ht ?_
  refine r_if_neN (q := 7) (t := 14) (by omega) dX4_readPrime_4 (by decide) rfl (fun h4 => absurd h4 (by omega)) (fun h4 => ?_)
  refine r_aload_n (q := 8) dX4_readPrime_7 rfl rfl rfl ?_
  refine r_geti (q := 11) ck9 dX4_readPrime_8 rfl (k := 4) (by decide) wt314 (Or.inl rfl) (hs.e (show s < 4 by omega)) ?_
  refine r_topi (y := nI (wL W)) hc.2.2.1 ?_
  refine r_if_leN (q := 14) (t := 24) (by omega) dX4_readPrime_11 (by decide) rfl (fun h11 => ?_) (fun h11 => absurd h11 (by omega))
  refine r_aload_n (q := 25) dX4_readPrime_24 rfl rfl rfl ?_
  refine r_callV (Mc := mX4_advance) (q := 28) (As := []) (st := []) ck4 dX4_readPrime_25 rfl rfl mkX4_advance wt529 wt531 wp4 rfl (Nat.le_of_ble_eq_true rfl) (Nat.le_of_ble_eq_true rfl) (by decide) (by decide) (by decide) (Or.inl rfl) (hs.e (by decide)) (ok_advance hs hr) (fun r25 S25 hp25 => ?_)
  obtain ⟨rfl, w25, x25⟩ := hp25
  show Ok _ _ _ [] _ _
  refine r_aload_n (q := 29) dX4_readPrime_28 rfl rfl rfl ?_
  refine r_geti (q := 32) ck4 dX4_readPrime_29 rfl (k := 5) (by decide) wt126 (Or.inl rfl) ((hs.fr w25).e (by decide)) ?_
  refine r_topi (y := nI ((hdT (adv ts)).1)) x25.f.1 ?_
  refine r_iconst (q := 33) (nI 3) dX4_readPrime_32 rfl (by decide) ?_
  refine r_icmp_eqN (q := 36) (t := 46) (by omega) (by omega) dX4_readPrime_33 (by decide) rfl (fun h33 => ?_) (fun h33 => absurd h33 (by omega))
  refine r_aload_n (q := 47) dX4_readPrime_46 rfl rfl rfl ?_
  refine r_getl (q := 50) ck4 dX4_readPrime_47 rfl (k := 7) (by decide) wt128 rfl ((hs.fr w25).e (by decide)) ?_
  refine r_topl (y := lN ((hdT (adv ts)).2.2)) (x25.f.2.2 (Or.inr hk3)) ?_
  refine r_l2i (q := 51) dX4_readPrime_50 rfl ?_
  refine r_topi (y := nI ((hdT (adv ts)).2.2)) (lN_i _) ?_
  refine r_callS (Mc := mX4_isPrime) (q := 54) (As := [zi (nI ((hdT (adv ts)).2.2))]) (st := []) dX4_readPrime_51 rfl rfl mkX4_isPrime wt554 wt555 rfl (Nat.le_of_ble_eq_true rfl) (Nat.le_of_ble_eq_true rfl) (by decide) (by decide) (by decide) (Or.inl rfl) (hs.fr w25).some (ok_primeC (u4 hk3)) (fun r51 S51 hp51 => ?_)
  obtain ⟨rfl, hq51⟩ := hp51
  rw [hq51]
  show Ok _ _ _ [zi (nI (prN (hdT (adv ts)).2.2))] _ _
  refine r_if_neN (q := 57) (t := 67) (by omega) dX4_readPrime_54 (by decide) rfl (fun h54 => absurd h54 (by omega)) (fun h54 => ?_)
  refine r_aload_n (q := 58) dX4_readPrime_57 rfl rfl rfl ?_
  refine r_iconst (q := 59) (nI 2) dX4_readPrime_58 rfl (by decide) ?_
  refine r_aload_n (q := 60) dX4_readPrime_59 rfl rfl rfl ?_
  refine r_geti (q := 63) ck4 dX4_readPrime_60 rfl (k := 6) (by decide) wt127 (Or.inl rfl) ((hs.fr w25).e (by decide)) ?_
  refine r_topi (y := nI ((hdT (adv ts)).2.1)) x25.f.2.1 ?_
  refine r_callV (Mc := mX4_fail) (q := 66) (As := [zi (nI 2), zi (nI ((hdT (adv ts)).2.1))]) (st := []) ck4 dX4_readPrime_63 rfl rfl mkX4_fail wt550 wt552 wp7 rfl (Nat.le_of_ble_eq_true rfl) (Nat.le_of_ble_eq_true rfl) (by decide) (by decide) (by decide) (Or.inl rfl) ((hs.fr w25).e (by decide)) (ok_fail (hs.fr w25) 2 ((hdT (adv ts)).2.1)) (fun r63 S63 hp63 => ?_)
  obtain ⟨rfl, w63, x63⟩ := hp63
  show Ok _ _ _ [zi (nI 0)] _ _
  refine r_zreturn (by decide) dX4_readPrime_66 rfl ?_
  exact ⟨rfl, (w25.mono (fun a b k z => by unfold tPm; rw [tSk_av a b k z]; rfl)).tr (w63.mono (fun a b k z => by unfold tPm; rw [tSk_fl a b k z]; rfl)), x63⟩

set_option maxRecDepth 100000 in
theorem ok_readPrime_d {S : zS} (hs : Sd S) {ts : List zTk} (hr : Rc S ts) {s : Nat} (hs4 : s < 4) {W : zWd} (h : Wpk W ts) (hc : WC S s W) {told : Bool} (ht : gI S 4 0 8 = nI (b01 told)) (hq : ¬ (told = true ∨ 0 < wL W)) (hk3 : (hdT (adv ts)).1 = 3) (hp : ¬ prB (hdT (adv ts)).2.2 = false) : Ok mX4_readPrime 0 (ent 2 [zr 4 0, zr 9 s]) [] S (fun r S1 => PmR S S1 s r (primeP told W ts)) := by
  obtain ⟨f5, f6, f7⟩ := hr.f
  obtain ⟨t1, t2, t3, t4⟩ := h.2.1.hd
  obtain ⟨u1, u2, u3, u4⟩ := h.2.1.adv.hd
  have hL18 := h.1.2.2.2.1
  have hb1 : b01 told ≤ 1 := by unfold b01; split <;> omega
  have hb0 : b01 told = 0 := by cases told with | true => exact absurd (Or.inl rfl) hq | false => rfl
  have hw0 : wL W = 0 := by omega
  have hv := u4 hk3
  have hp0 : prN (hdT (adv ts)).2.2 = 1 := by unfold prN; rw [if_pos (by simpa using hp)]
  have e : primeP told W ts = Sum.inr ((true, ((hdT (adv ts)).2.2, W.2)), adv (adv ts)) := (if_neg hq).trans ((if_neg (fun z => z hk3)).trans (if_neg hp))
  rw [e]
  show Ok mX4_readPrime 0 [some (zr 4 0), some (zr 9 s)] [] S _
  refine r_aload_n (q := 1) dX4_readPrime_0 rfl rfl rfl ?_
  refine r_geti (q := 4) ck4 dX4_readPrime_1 rfl (k := 8) (by decide) wt129 (Or.inr (Or.inl rfl)) (hs.e (by decide)) ?_
  refine r_topi (y := nI (b01 told)) ht ?_
  refine r_if_neN (q := 7) (t := 14) (by omega) dX4_readPrime_4 (by decide) rfl (fun h4 => absurd h4 (by omega)) (fun h4 => ?_)
  refine r_aload_n (q := 8) dX4_readPrime_7 rfl rfl rfl ?_
  refine r_geti (q := 11) ck9 dX4_readPrime_8 rfl (k := 4) (by decide) wt314 (Or.inl rfl) (hs.e (show s < 4 by omega)) ?_
  refine r_topi (y := nI (wL W)) hc.2.2.1 ?_
  refine r_if_leN (q := 14) (t := 24) (by omega) dX4_readPrime_11 (by decide) rfl (fun h11 => ?_) (fun h11 => absurd h11 (by omega))
  refine r_aload_n (q := 25) dX4_readPrime_24 rfl rfl rfl ?_
  refine r_callV (Mc := mX4_advance) (q := 28) (As := []) (st := []) ck4 dX4_readPrime_25 rfl rfl mkX4_advance wt529 wt531 wp4 rfl (Nat.le_of_ble_eq_true rfl) (Nat.le_of_ble_eq_true rfl) (by decide) (by decide) (by decide) (Or.inl rfl) (hs.e (by decide)) (ok_advance hs hr) (fun r25 S25 hp25 => ?_)
  obtain ⟨rfl, w25, x25⟩ := hp25
  show Ok _ _ _ [] _ _
  refine r_aload_n (q := 29) dX4_readPrime_28 rfl rfl rfl ?_
  refine r_geti (q := 32) ck4 dX4_readPrime_29 rfl (k := 5) (by decide) wt126 (Or.inl rfl) ((hs.fr w25).e (by decide)) ?_
  refine r_topi (y := nI ((hdT (adv ts)).1)) x25.f.1 ?_
  refine r_iconst (q := 33) (nI 3) dX4_readPrime_32 rfl (by decide) ?_
  refine r_icmp_eqN (q := 36) (t := 46) (by omega) (by omega) dX4_readPrime_33 (by decide) rfl (fun h33 => ?_) (fun h33 => absurd h33 (by omega))
  refine r_aload_n (q := 47) dX4_readPrime_46 rfl rfl rfl ?_
  refine r_getl (q := 50) ck4 dX4_readPrime_47 rfl (k := 7) (by decide) wt128 rfl ((hs.fr w25).e (by decide)) ?_
  refine r_topl (y := lN ((hdT (adv ts)).2.2)) (x25.f.2.2 (Or.inr hk3)) ?_
  refine r_l2i (q := 51) dX4_readPrime_50 rfl ?_
  refine r_topi (y := nI ((hdT (adv ts)).2.2)) (lN_i _) ?_
  refine r_callS (Mc := mX4_isPrime) (q := 54) (As := [zi (nI ((hdT (adv ts)).2.2))]) (st := []) dX4_readPrime_51 rfl rfl mkX4_isPrime wt554 wt555 rfl (Nat.le_of_ble_eq_true rfl) (Nat.le_of_ble_eq_true rfl) (by decide) (by decide) (by decide) (Or.inl rfl) (hs.fr w25).some (ok_primeC (u4 hk3)) (fun r51 S51 hp51 => ?_)
  obtain ⟨rfl, hq51⟩ := hp51
  rw [hq51]
  show Ok _ _ _ [zi (nI (prN (hdT (adv ts)).2.2))] _ _
  refine r_if_neN (q := 57) (t := 67) (by omega) dX4_readPrime_54 (by decide) rfl (fun h54 => ?_) (fun h54 => absurd h54 (by omega))
  refine r_aload_n (q := 68) dX4_readPrime_67 rfl rfl rfl ?_
  refine r_aload_n (q := 69) dX4_readPrime_68 rfl rfl rfl ?_
  refine r_getl (q := 72) ck4 dX4_readPrime_69 rfl (k := 7) (by decide) wt128 rfl ((hs.fr w25).e (by decide)) ?_
  refine r_topl (y := lN ((hdT (adv ts)).2.2)) (x25.f.2.2 (Or.inr hk3)) ?_
  refine r_l2i (q := 73) dX4_readPrime_72 rfl ?_
  refine r_topi (y := nI ((hdT (adv ts)).2.2)) (lN_i _) ?_
  refine r_puti (q := 76) ck9 dX4_readPrime_73 rfl (k := 0) (by decide) wt293 (Or.inl rfl) rfl ((hs.fr w25).e (show s < 4 by omega)) ?_
  refine r_aload_n (q := 77) dX4_readPrime_76 rfl rfl rfl ?_
  refine r_iconst (q := 78) (nI 1) dX4_readPrime_77 rfl (by decide) ?_
  refine r_putz (q := 81) (by decide) ck4 dX4_readPrime_78 rfl (k := 8) (by decide) wt129 (Or.inl rfl) rfl ((hs.fr w25).e (by decide)) ?_
  refine r_aload_n (q := 82) dX4_readPrime_81 rfl rfl rfl ?_
  refine r_callV (Mc := mX4_advance) (q := 85) (As := []) (st := []) ck4 dX4_readPrime_82 rfl rfl mkX4_advance wt529 wt531 wp4 rfl (Nat.le_of_ble_eq_true rfl) (Nat.le_of_ble_eq_true rfl) (by decide) (by decide) (by decide) (Or.inl rfl) ((hs.fr w25).e (by decide)) (ok_advance (show Sd (sI (sI S25 9 s 0 (nI (hdT (adv ts)).2.2)) 4 0 8 (nI 1)) from (hs.fr w25 : Sd S25)) (x25.cong (fun i => ⟨rfl, rfl, rfl⟩) (fun k hk => by rw [gI_sI, if_neg (by omega), gI_sI, if_neg (by omega)]) rfl)) (fun r82 S82 hp82 => ?_)
  obtain ⟨rfl, w82, x82⟩ := hp82
  have g0 : Fr (tPm s) S25 (sI (sI S25 9 s 0 (nI (hdT (adv ts)).2.2)) 4 0 8 (nI 1)) := (Fr.rf.i (by unfold tPm; simp)).i (by unfold tPm; simp)
  have hW1 : WC S25 s W := hc.fr w25 (fun a k ha => by unfold tAv; simp; omega)
  have hW2 : WC (sI (sI S25 9 s 0 (nI (hdT (adv ts)).2.2)) 4 0 8 (nI 1)) s ((hdT (adv ts)).2.2, W.2) := ⟨by rw [gI_sI, if_neg (by omega), gI_sI, if_pos ⟨rfl, rfl, rfl⟩]; rfl, by rw [gI_sI, if_neg (by omega), gI_sI, if_neg (by omega)]; exact hW1.2.1, by rw [gI_sI, if_neg (by omega), gI_sI, if_neg (by omega)]; exact hW1.2.2.1, hW1.2.2.2⟩
  show Ok _ _ _ [] _ _
  refine r_iconst (q := 86) (nI 1) dX4_readPrime_85 rfl (by decide) ?_
  refine r_zreturn (by decide) dX4_readPrime_86 rfl ?_
  exact ⟨rfl, ((w25.mono (fun a b k z => by unfold tPm; rw [tSk_av a b k z]; rfl)).tr g0).tr (w82.mono (fun a b k z => by unfold tPm; rw [tSk_av a b k z]; rfl)), (w82.1 _ _ _ rfl).trans (w25.1 _ _ _ rfl), x82, hW2.fr w82 (fun a k ha => by unfold tAv; simp; omega), (w82.1 _ _ _ rfl).trans (by rw [gI_sI, if_pos ⟨rfl, rfl, rfl⟩]; rfl)⟩

theorem ok_readPrime {S : zS} (hs : Sd S) {ts : List zTk} (hr : Rc S ts) {s : Nat} (hs4 : s < 4) {W : zWd} (h : Wpk W ts) (hc : WC S s W) {told : Bool} (ht : gI S 4 0 8 = nI (b01 told)) : Ok mX4_readPrime 0 (ent 2 [zr 4 0, zr 9 s]) [] S (fun r S1 => PmR S S1 s r (primeP told W ts)) := by
  by_cases hq : told = true ∨ 0 < wL W
  · exact ok_readPrime_a hs hr hs4 h hc ht hq
  by_cases hk3 : (hdT (adv ts)).1 = 3
  · by_cases hp : prB (hdT (adv ts)).2.2 = false
    · exact ok_readPrime_c hs hr hs4 h hc ht hq hk3 hp
    · exact ok_readPrime_d hs hr hs4 h hc ht hq hk3 hp
  · exact ok_readPrime_b hs hr hs4 h hc ht hq hk3

