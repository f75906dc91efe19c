theorem lcmp_lt {a b : Nat} (ha : a < 2 ^ 63) (hb : b < 2 ^ 63) : lg_cmp (lN a) (lN b) < 0 ↔ a < b := (lg_cmp_lt _ _).trans (pk_lLT ha hb)
theorem lcmp_le {a b : Nat} (ha : a < 2 ^ 63) (hb : b < 2 ^ 63) : lg_cmp (lN a) (lN b) ≤ 0 ↔ a ≤ b := (lg_cmp_le _ _).trans (by
  rw [← Int64.not_lt, pk_lLT hb ha]; omega)
theorem wok_inj {W : zWd} (h : Wok W) : ∀ a b, a < wA W → b < wA W → wn W a = wn W b → a = b := fun a b ha hb e => by
  rcases Nat.lt_trichotomy a b with g | g | g
  · exact absurd e (h.2.2.1.2.2 a b g hb)
  · exact g
  · exact absurd e.symm (h.2.2.1.2.2 b a g ha)
def tAc (s a b k : Nat) : Bool := tSk a b k || b == s && (a == 9 && k == 1 || a == 1002 || a == 1003)
def AcR (S S1 : zS) (s : Nat) (told0 : Bool) (r : Option zV) : zEr ⊕ ((Bool × zWd) × List zTk) → Prop
  | Sum.inl x => r = some (zi (nI 0)) ∧ Fr (tAc s) S S1 ∧ Fl S1 x
  | Sum.inr ((told, W), ts) => r = some (zi (nI 1)) ∧ Fr (tAc s) S S1 ∧ gI S1 4 0 14 = gI S 4 0 14 ∧ Rc S1 ts ∧ WC S1 s W ∧ told = told0

set_option maxRecDepth 100000 in
theorem ok_addAct {S : zS} (hs : Sd S) {s : Nat} (hs4 : s < 4) {W : zWd} (hc : WC S s W) (hA : wA W < 3) (x v : Nat) : Ok mX9_addAct 0 (ent 4 [zr 9 s, zl (lN x), zi (nI v)]) [] S (fun r S1 => r = none ∧ S1 = sI (sI (sJ S 1002 s (wA W) (lN x)) 1003 s (wA W) (nI v)) 9 s 1 (nI (wA W + 1))) := by
  show Ok mX9_addAct 0 [some (zr 9 s), some (zl (lN x)), none, some (zi (nI v))] [] S _
  refine r_aload_n (q := 1) dX9_addAct_0 rfl rfl rfl ?_
  refine r_geti (q := 4) ck9 dX9_addAct_1 rfl (k := 1) (by decide) wt296 (Or.inl rfl) (hs.e (show s < 4 by omega)) ?_
  refine r_topi (y := nI (wA W)) hc.2.1 ?_
  refine r_iconst (q := 5) (nI 3) dX9_addAct_4 rfl (by decide) ?_
  refine r_icmp_geN (q := 8) (t := 38) (by omega) (by omega) dX9_addAct_5 (by decide) rfl (fun h5 => absurd h5 (by omega)) (fun h5 => ?_)
  refine r_aload_n (q := 9) dX9_addAct_8 rfl rfl rfl ?_
  refine r_getr (q := 12) (some (1002, s)) ck9 dX9_addAct_9 rfl (k := 2) (by decide) wt301 rfl (hs.e (show s < 4 by omega)) (hs.r (show s < 4 by omega) (by decide)) ?_
  refine r_aload_n (q := 13) dX9_addAct_12 rfl rfl rfl ?_
  refine r_geti (q := 16) ck9 dX9_addAct_13 rfl (k := 1) (by decide) wt296 (Or.inl rfl) (hs.e (show s < 4 by omega)) ?_
  refine r_topi (y := nI (wA W)) hc.2.1 ?_
  refine r_lload_n (q := 17) dX9_addAct_16 rfl rfl rfl ?_
  refine r_lastN (q := 18) 3 (by decide) rfl dX9_addAct_17 rfl (hs.e (show s < 4 by omega)) (hs.n rfl (show s < 4 by omega)) (by omega) (by decide) ?_
  refine r_aload_n (q := 19) dX9_addAct_18 rfl rfl rfl ?_
  refine r_getr (q := 22) (some (1003, s)) ck9 dX9_addAct_19 rfl (k := 3) (by decide) wt304 rfl (hs.e (show s < 4 by omega)) (hs.r (show s < 4 by omega) (by decide)) ?_
  refine r_aload_n (q := 23) dX9_addAct_22 rfl rfl rfl ?_
  refine r_geti (q := 26) ck9 dX9_addAct_23 rfl (k := 1) (by decide) wt296 (Or.inl rfl) (hs.e (show s < 4 by omega)) ?_
  refine r_topi (y := gI S 9 s 1) (by simp [gI_sI, gJ_sJ, gI_sJ, gJ_sI]) ?_
  refine r_topi (y := nI (wA W)) hc.2.1 ?_
  refine r_iload_n (q := 27) dX9_addAct_26 rfl rfl rfl ?_
  refine r_iastN (q := 28) 3 (by decide) rfl dX9_addAct_27 rfl (hs.e (show s < 4 by omega)) (hs.n rfl (show s < 4 by omega)) (by omega) (by decide) ?_
  refine r_aload_n (q := 29) dX9_addAct_28 rfl rfl rfl ?_
  refine r_dup (q := 30) dX9_addAct_29 rfl rfl ?_
  refine r_geti (q := 33) ck9 dX9_addAct_30 rfl (k := 1) (by decide) wt296 (Or.inl rfl) (hs.e (show s < 4 by omega)) ?_
  refine r_topi (y := gI S 9 s 1) (by simp [gI_sI, gJ_sJ, gI_sJ, gJ_sI]) ?_
  refine r_topi (y := nI (wA W)) hc.2.1 ?_
  refine r_iconst (q := 34) (nI 1) dX9_addAct_33 rfl (by decide) ?_
  refine r_iaddN (q := 35) dX9_addAct_34 rfl ?_
  refine r_puti (q := 38) ck9 dX9_addAct_35 rfl (k := 1) (by decide) wt296 (Or.inl rfl) rfl (hs.e (show s < 4 by omega)) ?_
  refine r_return dX9_addAct_38 rfl ?_
  exact ⟨rfl, rfl⟩

theorem WC.act {S : zS} {s : Nat} {W : zWd} (h : Wok W) (hc : WC S s W) (hL : wL W = 0) (x v : Nat) : WC (sI (sI (sJ S 1002 s (wA W) (lN x)) 1003 s (wA W) (nI v)) 9 s 1 (nI (wA W + 1))) s (actW W v x) := by
  have hn := h.2.2.1.1
  refine ⟨by rw [gI_sI, if_neg (by omega), gI_sI, if_neg (by omega)]; exact hc.1, by rw [gI_sI, if_pos ⟨rfl, rfl, rfl⟩, actW_A], by rw [gI_sI, if_neg (by omega), gI_sI, if_neg (by omega)]; exact hc.2.2.1, fun a ha => ?_, fun L hL' => absurd hL' (by show ¬ L < wL W; omega), fun L hL' => ?_, fun L k hL' => absurd hL' (by show ¬ L < wL W; omega)⟩
  · rw [actW_A] at ha
    by_cases e : a = wA W
    · subst e
      rw [actW_e1, actW_n1 hn]
      exact ⟨by rw [gI_sI, if_neg (by omega), gI_sI, if_pos ⟨rfl, rfl, rfl⟩], by show gJ (sJ S 1002 s (wA W) (lN x)) 1002 s (wA W) = lN x; rw [gJ_sJ, if_pos ⟨rfl, rfl, rfl⟩]⟩
    · rw [actW_e (by omega), actW_n hn (by omega)]
      have := hc.2.2.2.1 a (by omega)
      exact ⟨by rw [gI_sI, if_neg (by omega), gI_sI, if_neg (by omega)]; exact this.1, by show gJ (sJ S 1002 s (wA W) (lN x)) 1002 s a = _; rw [gJ_sJ, if_neg (by omega)]; exact this.2⟩
  · rw [gI_sI, if_neg (by omega), gI_sI, if_neg (by omega)]
    exact hc.2.2.2.2.2.1 L hL'

set_option maxRecDepth 100000 in
theorem ok_readAct_a {S : zS} (hs : Sd S) {ts : List zTk} (hr : Rc S ts) {s : Nat} (hs4 : s < 4) {W : zWd} (h : Wpk W ts) (hc : WC S s W) (told : Bool) (hL : 0 < wL W) : Ok mX4_readAct 0 (ent 4 [zr 4 0, zr 9 s]) [] S (fun r S1 => AcR S S1 s told r (actP told W ts)) := by
  obtain ⟨f5, f6, f7⟩ := hr.f
  obtain ⟨t1, t2, t3, t4⟩ := h.2.1.hd
  obtain ⟨u1, u2, u3, u4⟩ := h.2.1.adv.hd
  obtain ⟨v1, v2, v3, v4⟩ := h.2.1.adv.adv.hd
  have hL18 := h.1.2.2.2.1
  have hA3 := h.1.2.1.1
  have e : actP told W ts = Sum.inl (3, (hdT ts).2.1) := if_pos hL
  rw [e]
  show Ok mX4_readAct 0 [some (zr 4 0), some (zr 9 s), none, none] [] S _
  refine r_aload_n (q := 1) dX4_readAct_0 rfl rfl rfl ?_
  refine r_geti (q := 4) ck9 dX4_readAct_1 rfl (k := 4) (by decide) wt314 (Or.inl rfl) (hs.e (show s < 4 by omega)) ?_
  refine r_topi (y := nI (wL W)) hc.2.2.1 ?_
  refine r_if_leN (q := 7) (t := 17) (by omega) dX4_readAct_4 (by decide) rfl (fun h4 => absurd h4 (by omega)) (fun h4 => ?_)
  refine r_aload_n (q := 8) dX4_readAct_7 rfl rfl rfl ?_
  refine r_iconst (q := 9) (nI 3) dX4_readAct_8 rfl (by decide) ?_
  refine r_aload_n (q := 10) dX4_readAct_9 rfl rfl rfl ?_
  refine r_geti (q := 13) ck4 dX4_readAct_10 rfl (k := 6) (by decide) wt127 (Or.inl rfl) (hs.e (by decide)) ?_
  refine r_topi (y := nI ((hdT ts).2.1)) f6 ?_
  refine r_callV (Mc := mX4_fail) (q := 16) (As := [zi (nI 3), zi (nI ((hdT ts).2.1))]) (st := []) ck4 dX4_readAct_13 rfl rfl mkX4_fail wt550 wt552 wp7 rfl (Nat.le_of_ble_eq_true rfl) (Nat.le_of_ble_eq_true rfl) (by decide) (by decide) (by decide) (Or.inl rfl) (hs.e (by decide)) (ok_fail hs 3 ((hdT ts).2.1)) (fun r13 S13 hp13 => ?_)
  obtain ⟨rfl, w13, x13⟩ := hp13
  show Ok _ _ _ [zi (nI 0)] _ _
  refine r_zreturn (by decide) dX4_readAct_16 rfl ?_
  exact ⟨rfl, w13.mono (fun a b k z => by unfold tAc; rw [tSk_fl a b k z]; rfl), x13⟩

set_option maxRecDepth 100000 in
theorem ok_readAct_b {S : zS} (hs : Sd S) {ts : List zTk} (hr : Rc S ts) {s : Nat} (hs4 : s < 4) {W : zWd} (h : Wpk W ts) (hc : WC S s W) (told : Bool) (hL : ¬ 0 < wL W) (hA : 3 ≤ wA W) : Ok mX4_readAct 0 (ent 4 [zr 4 0, zr 9 s]) [] S (fun r S1 => AcR S S1 s told r (actP told W ts)) := by
  obtain ⟨f5, f6, f7⟩ := hr.f
  obtain ⟨t1, t2, t3, t4⟩ := h.2.1.hd
  obtain ⟨u1, u2, u3, u4⟩ := h.2.1.adv.hd
  obtain ⟨v1, v2, v3, v4⟩ := h.2.1.adv.adv.hd
  have hL18 := h.1.2.2.2.1
  have hA3 := h.1.2.1.1
  have e : actP told W ts = Sum.inl (4, (hdT ts).2.1) := (if_neg hL).trans (if_pos hA)
  rw [e]
  show Ok mX4_readAct 0 [some (zr 4 0), some (zr 9 s), none, none] [] S _
  refine r_aload_n (q := 1) dX4_readAct_0 rfl rfl rfl ?_
  refine r_geti (q := 4) ck9 dX4_readAct_1 rfl (k := 4) (by decide) wt314 (Or.inl rfl) (hs.e (show s < 4 by omega)) ?_
  refine r_topi (y := nI (wL W)) hc.2.2.1 ?_
  refine r_if_leN (q := 7) (t := 17) (by omega) dX4_readAct_4 (by decide) rfl (fun h4 => ?_) (fun h4 => absurd h4 (by omega))
  refine r_aload_n (q := 18) dX4_readAct_17 rfl rfl rfl ?_
  refine r_geti (q := 21) ck9 dX4_readAct_18 rfl (k := 1) (by decide) wt299 (Or.inl rfl) (hs.e (show s < 4 by omega)) ?_
  refine r_topi (y := nI (wA W)) hc.2.1 ?_
  refine r_iconst (q := 22) (nI 3) dX4_readAct_21 rfl (by decide) ?_
  refine r_icmp_ltN (q := 25) (t := 35) (by omega) (by omega) dX4_readAct_22 (by decide) rfl (fun h22 => absurd h22 (by omega)) (fun h22 => ?_)
  refine r_aload_n (q := 26) dX4_readAct_25 rfl rfl rfl ?_
  refine r_iconst (q := 27) (nI 4) dX4_readAct_26 rfl (by decide) ?_
  refine r_aload_n (q := 28) dX4_readAct_27 rfl rfl rfl ?_
  refine r_geti (q := 31) ck4 dX4_readAct_28 rfl (k := 6) (by decide) wt127 (Or.inl rfl) (hs.e (by decide)) ?_
  refine r_topi (y := nI ((hdT ts).2.1)) f6 ?_
  refine r_callV (Mc := mX4_fail) (q := 34) (As := [zi (nI 4), zi (nI ((hdT ts).2.1))]) (st := []) ck4 dX4_readAct_31 rfl rfl mkX4_fail wt550 wt552 wp7 rfl (Nat.le_of_ble_eq_true rfl) (Nat.le_of_ble_eq_true rfl) (by decide) (by decide) (by decide) (Or.inl rfl) (hs.e (by decide)) (ok_fail hs 4 ((hdT ts).2.1)) (fun r31 S31 hp31 => ?_)
  obtain ⟨rfl, w31, x31⟩ := hp31
  show Ok _ _ _ [zi (nI 0)] _ _
  refine r_zreturn (by decide) dX4_readAct_34 rfl ?_
  exact ⟨rfl, w31.mono (fun a b k z => by unfold tAc; rw [tSk_fl a b k z]; rfl), x31⟩

set_option maxRecDepth 100000 in
theorem ok_readAct_c {S : zS} (hs : Sd S) {ts : List zTk} (hr : Rc S ts) {s : Nat} (hs4 : s < 4) {W : zWd} (h : Wpk W ts) (hc : WC S s W) (told : Bool) (hL : ¬ 0 < wL W) (hA : ¬ 3 ≤ wA W) (hnm : ¬ isNmb (adv ts) = true) : Ok mX4_readAct 0 (ent 4 [zr 4 0, zr 9 s]) [] S (fun r S1 => AcR S S1 s told r (actP told W ts)) := by
  obtain ⟨f5, f6, f7⟩ := hr.f
  obtain ⟨t1, t2, t3, t4⟩ := h.2.1.hd
  obtain ⟨u1, u2, u3, u4⟩ := h.2.1.adv.hd
  obtain ⟨v1, v2, v3, v4⟩ := h.2.1.adv.adv.hd
  have hL18 := h.1.2.2.2.1
  have hA3 := h.1.2.1.1
  have e : actP told W ts = Sum.inl (1, (hdT (adv ts)).2.1) := (if_neg hL).trans ((if_neg hA).trans (if_pos (by simpa using hnm)))
  rw [e]
  show Ok mX4_readAct 0 [some (zr 4 0), some (zr 9 s), none, none] [] S _
  refine r_aload_n (q := 1) dX4_readAct_0 rfl rfl rfl ?_
  refine r_geti (q := 4) ck9 dX4_readAct_1 rfl (k := 4) (by decide) wt314 (Or.inl rfl) (hs.e (show s < 4 by omega)) ?_
  refine r_topi (y := nI (wL W)) hc.2.2.1 ?_
  refine r_if_leN (q := 7) (t := 17) (by omega) dX4_readAct_4 (by decide) rfl (fun h4 => ?_) (fun h4 => absurd h4 (by omega))
  refine r_aload_n (q := 18) dX4_readAct_17 rfl rfl rfl ?_
  refine r_geti (q := 21) ck9 dX4_readAct_18 rfl (k := 1) (by decide) wt299 (Or.inl rfl) (hs.e (show s < 4 by omega)) ?_
  refine r_topi (y := nI (wA W)) hc.2.1 ?_
  refine r_iconst (q := 22) (nI 3) dX4_readAct_21 rfl (by decide) ?_
  refine r_icmp_ltN (q := 25) (t := 35) (by omega) (by omega) dX4_readAct_22 (by decide) rfl (fun h22 => ?_) (fun h22 => absurd h22 (by omega))
  refine r_aload_n (q := 36) dX4_readAct_35 rfl rfl rfl ?_
  refine r_callV (Mc := mX4_advance) (q := 39) (As := []) (st := []) ck4 dX4_readAct_36 rfl rfl mkX4_advance wt529 wt531 wp4 rfl (Nat.le_of_ble_eq_true rfl) (Nat.le_of_ble_eq_true rfl) (by decide) (by decide) (by decide) (Or.inl rfl) (hs.e (by decide)) (ok_advance hs hr) (fun r36 S36 hp36 => ?_)
  obtain ⟨rfl, w36, x36⟩ := hp36
  show Ok _ _ _ [] _ _
  refine r_aload_n (q := 40) dX4_readAct_39 rfl rfl rfl ?_
  refine r_callV (Mc := mX4_isName) (q := 43) (As := []) (st := []) ck4 dX4_readAct_40 rfl rfl mkX4_isName wt562 wt564 wp9 rfl (Nat.le_of_ble_eq_true rfl) (Nat.le_of_ble_eq_true rfl) (by decide) (by decide) (by decide) (Or.inl rfl) ((hs.fr w36).e (by decide)) (ok_isName (hs.fr w36) x36 h.2.1.adv) (fun r40 S40 hp40 => ?_)
  obtain ⟨rfl, hq40⟩ := hp40
  rw [hq40]
  rw [if_neg hnm]
  have hW1 : WC S36 s W := hc.fr w36 (fun a k ha => by unfold tAv; simp; omega)
  show Ok _ _ _ [zi (nI 0)] _ _
  refine r_if_neN (q := 46) (t := 56) (by omega) dX4_readAct_43 (by decide) rfl (fun h43 => absurd h43 (by omega)) (fun h43 => ?_)
  refine r_aload_n (q := 47) dX4_readAct_46 rfl rfl rfl ?_
  refine r_iconst (q := 48) (nI 1) dX4_readAct_47 rfl (by decide) ?_
  refine r_aload_n (q := 49) dX4_readAct_48 rfl rfl rfl ?_
  refine r_geti (q := 52) ck4 dX4_readAct_49 rfl (k := 6) (by decide) wt127 (Or.inl rfl) ((hs.fr w36).e (by decide)) ?_
  refine r_topi (y := nI ((hdT (adv ts)).2.1)) x36.f.2.1 ?_
  refine r_callV (Mc := mX4_fail) (q := 55) (As := [zi (nI 1), zi (nI ((hdT (adv ts)).2.1))]) (st := []) ck4 dX4_readAct_52 rfl rfl mkX4_fail wt550 wt552 wp7 rfl (Nat.le_of_ble_eq_true rfl) (Nat.le_of_ble_eq_true rfl) (by decide) (by decide) (by decide) (Or.inl rfl) ((hs.fr w36).e (by decide)) (ok_fail (hs.fr w36) 1 ((hdT (adv ts)).2.1)) (fun r52 S52 hp52 => ?_)
  obtain ⟨rfl, w52, x52⟩ := hp52
  show Ok _ _ _ [zi (nI 0)] _ _
  refine r_zreturn (by decide) dX4_readAct_55 rfl ?_
  exact ⟨rfl, (w36.mono (fun a b k z => by unfold tAc; rw [tSk_av a b k z]; rfl)).tr (w52.mono (fun a b k z => by unfold tAc; rw [tSk_fl a b k z]; rfl)), x52⟩

set_option maxRecDepth 100000 in
theorem ok_readAct_d {S : zS} (hs : Sd S) {ts : List zTk} (hr : Rc S ts) {s : Nat} (hs4 : s < 4) {W : zWd} (h : Wpk W ts) (hc : WC S s W) (told : Bool) (hL : ¬ 0 < wL W) (hA : ¬ 3 ≤ wA W) (hnm : isNmb (adv ts) = true) {a : Nat} (hfa : fAct (wn W) (hdT (adv ts)).2.2 (wA W) = some a) : Ok mX4_readAct 0 (ent 4 [zr 4 0, zr 9 s]) [] S (fun r S1 => AcR S S1 s told r (actP told W ts)) := by
  obtain ⟨f5, f6, f7⟩ := hr.f
  obtain ⟨t1, t2, t3, t4⟩ := h.2.1.hd
  obtain ⟨u1, u2, u3, u4⟩ := h.2.1.adv.hd
  obtain ⟨v1, v2, v3, v4⟩ := h.2.1.adv.adv.hd
  have hL18 := h.1.2.2.2.1
  have hA3 := h.1.2.1.1
  have ha := (fAct_some hfa).1
  have e : actP told W ts = Sum.inl (3, (hdT (adv ts)).2.1) := (if_neg hL).trans ((if_neg hA).trans ((if_neg (by rw [hnm]; decide)).trans (if_pos (by rw [hfa]; simp))))
  rw [e]
  show Ok mX4_readAct 0 [some (zr 4 0), some (zr 9 s), none, none] [] S _
  refine r_aload_n (q := 1) dX4_readAct_0 rfl rfl rfl ?_
  refine r_geti (q := 4) ck9 dX4_readAct_1 rfl (k := 4) (by decide) wt314 (Or.inl rfl) (hs.e (show s < 4 by omega)) ?_
  refine r_topi (y := nI (wL W)) hc.2.2.1 ?_
  refine r_if_leN (q := 7) (t := 17) (by omega) dX4_readAct_4 (by decide) rfl (fun h4 => ?_) (fun h4 => absurd h4 (by omega))
  refine r_aload_n (q := 18) dX4_readAct_17 rfl rfl rfl ?_
  refine r_geti (q := 21) ck9 dX4_readAct_18 rfl (k := 1) (by decide) wt299 (Or.inl rfl) (hs.e (show s < 4 by omega)) ?_
  refine r_topi (y := nI (wA W)) hc.2.1 ?_
  refine r_iconst (q := 22) (nI 3) dX4_readAct_21 rfl (by decide) ?_
  refine r_icmp_ltN (q := 25) (t := 35) (by omega) (by omega) dX4_readAct_22 (by decide) rfl (fun h22 => ?_) (fun h22 => absurd h22 (by omega))
  refine r_aload_n (q := 36) dX4_readAct_35 rfl rfl rfl ?_
  refine r_callV (Mc := mX4_advance) (q := 39) (As := []) (st := []) ck4 dX4_readAct_36 rfl rfl mkX4_advance wt529 wt531 wp4 rfl (Nat.le_of_ble_eq_true rfl) (Nat.le_of_ble_eq_true rfl) (by decide) (by decide) (by decide) (Or.inl rfl) (hs.e (by decide)) (ok_advance hs hr) (fun r36 S36 hp36 => ?_)
  obtain ⟨rfl, w36, x36⟩ := hp36
  show Ok _ _ _ [] _ _
  refine r_aload_n (q := 40) dX4_readAct_39 rfl rfl rfl ?_
  refine r_callV (Mc := mX4_isName) (q := 43) (As := []) (st := []) ck4 dX4_readAct_40 rfl rfl mkX4_isName wt562 wt564 wp9 rfl (Nat.le_of_ble_eq_true rfl) (Nat.le_of_ble_eq_true rfl) (by decide) (by decide) (by decide) (Or.inl rfl) ((hs.fr w36).e (by decide)) (ok_isName (hs.fr w36) x36 h.2.1.adv) (fun r40 S40 hp40 => ?_)
  obtain ⟨rfl, hq40⟩ := hp40
  rw [hq40]
  rw [if_pos hnm]
  have hW1 : WC S36 s W := hc.fr w36 (fun a k ha => by unfold tAv; simp; omega)
  show Ok _ _ _ [zi (nI 1)] _ _
  refine r_if_neN (q := 46) (t := 56) (by omega) dX4_readAct_43 (by decide) rfl (fun h43 => ?_) (fun h43 => absurd h43 (by omega))
  refine r_aload_n (q := 57) dX4_readAct_56 rfl rfl rfl ?_
  refine r_aload_n (q := 58) dX4_readAct_57 rfl rfl rfl ?_
  refine r_getl (q := 61) ck4 dX4_readAct_58 rfl (k := 7) (by decide) wt128 rfl ((hs.fr w36).e (by decide)) ?_
  refine r_topl (y := lN ((hdT (adv ts)).2.2)) (x36.f.2.2 (Or.inl (isNmb_t.mp hnm).1)) ?_
  refine r_callV (Mc := mX9_findAct) (q := 64) (As := [zl (lN ((hdT (adv ts)).2.2))]) (st := []) ck9 dX4_readAct_61 rfl rfl mkX9_findAct wt568 wt569 wt570 rfl (Nat.le_of_ble_eq_true rfl) (Nat.le_of_ble_eq_true rfl) (by decide) (by decide) (by decide) (Or.inl rfl) ((hs.fr w36).e (show s < 4 by omega)) (ok_findAct (nm := wn W) (e := we W) (hs.fr w36) hs4 hA3 hW1.2.1 hW1.2.2.2.1 (fun a ha => (h.1.2.2.1.2.1 a ha).1) (wok_inj h.1) (u3 (isNmb_t.mp hnm).1).1) (fun r61 S61 hp61 => ?_)
  obtain ⟨rfl, hq61⟩ := hp61
  rw [hq61]
  rw [hfa]
  show Ok _ _ _ [zi (nI a)] _ _
  refine r_if_ltN (q := 67) (t := 77) (by omega) dX4_readAct_64 (by decide) rfl ?_
  refine r_aload_n (q := 68) dX4_readAct_67 rfl rfl rfl ?_
  refine r_iconst (q := 69) (nI 3) dX4_readAct_68 rfl (by decide) ?_
  refine r_aload_n (q := 70) dX4_readAct_69 rfl rfl rfl ?_
  refine r_geti (q := 73) ck4 dX4_readAct_70 rfl (k := 6) (by decide) wt127 (Or.inl rfl) ((hs.fr w36).e (by decide)) ?_
  refine r_topi (y := nI ((hdT (adv ts)).2.1)) x36.f.2.1 ?_
  refine r_callV (Mc := mX4_fail) (q := 76) (As := [zi (nI 3), zi (nI ((hdT (adv ts)).2.1))]) (st := []) ck4 dX4_readAct_73 rfl rfl mkX4_fail wt550 wt552 wp7 rfl (Nat.le_of_ble_eq_true rfl) (Nat.le_of_ble_eq_true rfl) (by decide) (by decide) (by decide) (Or.inl rfl) ((hs.fr w36).e (by decide)) (ok_fail (hs.fr w36) 3 ((hdT (adv ts)).2.1)) (fun r73 S73 hp73 => ?_)
  obtain ⟨rfl, w73, x73⟩ := hp73
  show Ok _ _ _ [zi (nI 0)] _ _
  refine r_zreturn (by decide) dX4_readAct_76 rfl ?_
  exact ⟨rfl, (w36.mono (fun a b k z => by unfold tAc; rw [tSk_av a b k z]; rfl)).tr (w73.mono (fun a b k z => by unfold tAc; rw [tSk_fl a b k z]; rfl)), x73⟩

set_option maxRecDepth 100000 in
theorem ok_readAct_e {S : zS} (hs : Sd S) {ts : List zTk} (hr : Rc S ts) {s : Nat} (hs4 : s < 4) {W : zWd} (h : Wpk W ts) (hc : WC S s W) (told : Bool) (hL : ¬ 0 < wL W) (hA : ¬ 3 ≤ wA W) (hnm : isNmb (adv ts) = true) (hfa : fAct (wn W) (hdT (adv ts)).2.2 (wA W) = none) (hk3 : (hdT (adv (adv ts))).1 ≠ 3) : Ok mX4_readAct 0 (ent 4 [zr 4 0, zr 9 s]) [] S (fun r S1 => AcR S S1 s told r (actP told W ts)) := by
  obtain ⟨f5, f6, f7⟩ := hr.f
  obtain ⟨t1, t2, t3, t4⟩ := h.2.1.hd
  obtain ⟨u1, u2, u3, u4⟩ := h.2.1.adv.hd
  obtain ⟨v1, v2, v3, v4⟩ := h.2.1.adv.adv.hd
  have hL18 := h.1.2.2.2.1
  have hA3 := h.1.2.1.1
  have e : actP told W ts = Sum.inl (1, (hdT (adv (adv ts))).2.1) := (if_neg hL).trans ((if_neg hA).trans ((if_neg (by rw [hnm]; decide)).trans ((if_neg (fun z => z hfa)).trans (if_pos hk3))))
  rw [e]
  show Ok mX4_readAct 0 [some (zr 4 0), some (zr 9 s), none, none] [] S _
  refine r_aload_n (q := 1) dX4_readAct_0 rfl rfl rfl ?_
  refine r_geti (q := 4) ck9 dX4_readAct_1 rfl (k := 4) (by decide) wt314 (Or.inl rfl) (hs.e (show s < 4 by omega)) ?_
  refine r_topi (y := nI (wL W)) hc.2.2.1 ?_
  refine r_if_leN (q := 7) (t := 17) (by omega) dX4_readAct_4 (by decide) rfl (fun h4 => ?_) (fun h4 => absurd h4 (by omega))
  refine r_aload_n (q := 18) dX4_readAct_17 rfl rfl rfl ?_
  refine r_geti (q := 21) ck9 dX4_readAct_18 rfl (k := 1) (by decide) wt299 (Or.inl rfl) (hs.e (show s < 4 by omega)) ?_
  refine r_topi (y := nI (wA W)) hc.2.1 ?_
  refine r_iconst (q := 22) (nI 3) dX4_readAct_21 rfl (by decide) ?_
  refine r_icmp_ltN (q := 25) (t := 35) (by omega) (by omega) dX4_readAct_22 (by decide) rfl (fun h22 => ?_) (fun h22 => absurd h22 (by omega))
  refine r_aload_n (q := 36) dX4_readAct_35 rfl rfl rfl ?_
  refine r_callV (Mc := mX4_advance) (q := 39) (As := []) (st := []) ck4 dX4_readAct_36 rfl rfl mkX4_advance wt529 wt531 wp4 rfl (Nat.le_of_ble_eq_true rfl) (Nat.le_of_ble_eq_true rfl) (by decide) (by decide) (by decide) (Or.inl rfl) (hs.e (by decide)) (ok_advance hs hr) (fun r36 S36 hp36 => ?_)
  obtain ⟨rfl, w36, x36⟩ := hp36
  show Ok _ _ _ [] _ _
  refine r_aload_n (q := 40) dX4_readAct_39 rfl rfl rfl ?_
  refine r_callV (Mc := mX4_isName) (q := 43) (As := []) (st := []) ck4 dX4_readAct_40 rfl rfl mkX4_isName wt562 wt564 wp9 rfl (Nat.le_of_ble_eq_true rfl) (Nat.le_of_ble_eq_true rfl) (by decide) (by decide) (by decide) (Or.inl rfl) ((hs.fr w36).e (by decide)) (ok_isName (hs.fr w36) x36 h.2.1.adv) (fun r40 S40 hp40 => ?_)
  obtain ⟨rfl, hq40⟩ := hp40
  rw [hq40]
  rw [if_pos hnm]
  have hW1 : WC S36 s W := hc.fr w36 (fun a k ha => by unfold tAv; simp; omega)
  show Ok _ _ _ [zi (nI 1)] _ _
  refine r_if_neN (q := 46) (t := 56) (by omega) dX4_readAct_43 (by decide) rfl (fun h43 => ?_) (fun h43 => absurd h43 (by omega))
  refine r_aload_n (q := 57) dX4_readAct_56 rfl rfl rfl ?_
  refine r_aload_n (q := 58) dX4_readAct_57 rfl rfl rfl ?_
  refine r_getl (q := 61) ck4 dX4_readAct_58 rfl (k := 7) (by decide) wt128 rfl ((hs.fr w36).e (by decide)) ?_
  refine r_topl (y := lN ((hdT (adv ts)).2.2)) (x36.f.2.2 (Or.inl (isNmb_t.mp hnm).1)) ?_
  refine r_callV (Mc := mX9_findAct) (q := 64) (As := [zl (lN ((hdT (adv ts)).2.2))]) (st := []) ck9 dX4_readAct_61 rfl rfl mkX9_findAct wt568 wt569 wt570 rfl (Nat.le_of_ble_eq_true rfl) (Nat.le_of_ble_eq_true rfl) (by decide) (by decide) (by decide) (Or.inl rfl) ((hs.fr w36).e (show s < 4 by omega)) (ok_findAct (nm := wn W) (e := we W) (hs.fr w36) hs4 hA3 hW1.2.1 hW1.2.2.2.1 (fun a ha => (h.1.2.2.1.2.1 a ha).1) (wok_inj h.1) (u3 (isNmb_t.mp hnm).1).1) (fun r61 S61 hp61 => ?_)
  obtain ⟨rfl, hq61⟩ := hp61
  rw [hq61]
  rw [hfa]
  show Ok _ _ _ [zi (-1 : Int32)] _ _
  refine r_if_lt (q := 67) (t := 77) dX4_readAct_64 (by decide) rfl (fun h64 => ?_) (fun h64 => absurd h64 (by decide))
  refine r_aload_n (q := 78) dX4_readAct_77 rfl rfl rfl ?_
  refine r_getl (q := 81) ck4 dX4_readAct_78 rfl (k := 7) (by decide) wt128 rfl ((hs.fr w36).e (by decide)) ?_
  refine r_topl (y := lN ((hdT (adv ts)).2.2)) (x36.f.2.2 (Or.inl (isNmb_t.mp hnm).1)) ?_
  refine r_lstore_n (q := 82) (L' := [some (zr 4 0), some (zr 9 s), some (zl (lN ((hdT (adv ts)).2.2))), none]) dX4_readAct_81 rfl rfl (by decide) rfl ?_
  refine r_aload_n (q := 83) dX4_readAct_82 rfl rfl rfl ?_
  refine r_callV (Mc := mX4_advance) (q := 86) (As := []) (st := []) ck4 dX4_readAct_83 rfl rfl mkX4_advance wt529 wt531 wp4 rfl (Nat.le_of_ble_eq_true rfl) (Nat.le_of_ble_eq_true rfl) (by decide) (by decide) (by decide) (Or.inl rfl) ((hs.fr w36).e (by decide)) (ok_advance (hs.fr w36) x36) (fun r83 S83 hp83 => ?_)
  obtain ⟨rfl, w83, x83⟩ := hp83
  show Ok _ _ _ [] _ _
  refine r_aload_n (q := 87) dX4_readAct_86 rfl rfl rfl ?_
  refine r_geti (q := 90) ck4 dX4_readAct_87 rfl (k := 5) (by decide) wt126 (Or.inl rfl) (((hs.fr w36).fr w83).e (by decide)) ?_
  refine r_topi (y := nI ((hdT (adv (adv ts))).1)) x83.f.1 ?_
  refine r_iconst (q := 91) (nI 3) dX4_readAct_90 rfl (by decide) ?_
  refine r_icmp_eqN (q := 94) (t := 104) (by omega) (by omega) dX4_readAct_91 (by decide) rfl (fun h91 => absurd h91 (by omega)) (fun h91 => ?_)
  refine r_aload_n (q := 95) dX4_readAct_94 rfl rfl rfl ?_
  refine r_iconst (q := 96) (nI 1) dX4_readAct_95 rfl (by decide) ?_
  refine r_aload_n (q := 97) dX4_readAct_96 rfl rfl rfl ?_
  refine r_geti (q := 100) ck4 dX4_readAct_97 rfl (k := 6) (by decide) wt127 (Or.inl rfl) (((hs.fr w36).fr w83).e (by decide)) ?_
  refine r_topi (y := nI ((hdT (adv (adv ts))).2.1)) x83.f.2.1 ?_
  refine r_callV (Mc := mX4_fail) (q := 103) (As := [zi (nI 1), zi (nI ((hdT (adv (adv ts))).2.1))]) (st := []) ck4 dX4_readAct_100 rfl rfl mkX4_fail wt550 wt552 wp7 rfl (Nat.le_of_ble_eq_true rfl) (Nat.le_of_ble_eq_true rfl) (by decide) (by decide) (by decide) (Or.inl rfl) (((hs.fr w36).fr w83).e (by decide)) (ok_fail ((hs.fr w36).fr w83) 1 ((hdT (adv (adv ts))).2.1)) (fun r100 S100 hp100 => ?_)
  obtain ⟨rfl, w100, x100⟩ := hp100
  show Ok _ _ _ [zi (nI 0)] _ _
  refine r_zreturn (by decide) dX4_readAct_103 rfl ?_
  exact ⟨rfl, ((w36.mono (fun a b k z => by unfold tAc; rw [tSk_av a b k z]; rfl)).tr (w83.mono (fun a b k z => by unfold tAc; rw [tSk_av a b k z]; rfl))).tr (w100.mono (fun a b k z => by unfold tAc; rw [tSk_fl a b k z]; rfl)), x100⟩

set_option maxRecDepth 100000 in
theorem ok_readAct_f1 {S : zS} (hs : Sd S) {ts : List zTk} (hr : Rc S ts) {s : Nat} (hs4 : s < 4) {W : zWd} (h : Wpk W ts) (hc : WC S s W) (told : Bool) (hL : ¬ 0 < wL W) (hA : ¬ 3 ≤ wA W) (hnm : isNmb (adv ts) = true) (hfa : fAct (wn W) (hdT (adv ts)).2.2 (wA W) = none) (hk3 : (hdT (adv (adv ts))).1 = 3) (hv : (hdT (adv (adv ts))).2.2 < 2) : Ok mX4_readAct 0 (ent 4 [zr 4 0, zr 9 s]) [] S (fun r S1 => AcR S S1 s told r (actP told W ts)) := by
  obtain ⟨f5, f6, f7⟩ := hr.f
  obtain ⟨t1, t2, t3, t4⟩ := h.2.1.hd
  obtain ⟨u1, u2, u3, u4⟩ := h.2.1.adv.hd
  obtain ⟨v1, v2, v3, v4⟩ := h.2.1.adv.adv.hd
  have hL18 := h.1.2.2.2.1
  have hA3 := h.1.2.1.1
  have hv9 := v4 hk3
  have e : actP told W ts = Sum.inl (2, (hdT (adv (adv ts))).2.1) := (if_neg hL).trans ((if_neg hA).trans ((if_neg (by rw [hnm]; decide)).trans ((if_neg (fun z => z hfa)).trans ((if_neg (fun z => z hk3)).trans (if_pos (Or.inl hv))))))
  rw [e]
  show Ok mX4_readAct 0 [some (zr 4 0), some (zr 9 s), none, none] [] S _
  refine r_aload_n (q := 1) dX4_readAct_0 rfl rfl rfl ?_
  refine r_geti (q := 4) ck9 dX4_readAct_1 rfl (k := 4) (by decide) wt314 (Or.inl rfl) (hs.e (show s < 4 by omega)) ?_
  refine r_topi (y := nI (wL W)) hc.2.2.1 ?_
  refine r_if_leN (q := 7) (t := 17) (by omega) dX4_readAct_4 (by decide) rfl (fun h4 => ?_) (fun h4 => absurd h4 (by omega))
  refine r_aload_n (q := 18) dX4_readAct_17 rfl rfl rfl ?_
  refine r_geti (q := 21) ck9 dX4_readAct_18 rfl (k := 1) (by decide) wt299 (Or.inl rfl) (hs.e (show s < 4 by omega)) ?_
  refine r_topi (y := nI (wA W)) hc.2.1 ?_
  refine r_iconst (q := 22) (nI 3) dX4_readAct_21 rfl (by decide) ?_
  refine r_icmp_ltN (q := 25) (t := 35) (by omega) (by omega) dX4_readAct_22 (by decide) rfl (fun h22 => ?_) (fun h22 => absurd h22 (by omega))
  refine r_aload_n (q := 36) dX4_readAct_35 rfl rfl rfl ?_
  refine r_callV (Mc := mX4_advance) (q := 39) (As := []) (st := []) ck4 dX4_readAct_36 rfl rfl mkX4_advance wt529 wt531 wp4 rfl (Nat.le_of_ble_eq_true rfl) (Nat.le_of_ble_eq_true rfl) (by decide) (by decide) (by decide) (Or.inl rfl) (hs.e (by decide)) (ok_advance hs hr) (fun r36 S36 hp36 => ?_)
  obtain ⟨rfl, w36, x36⟩ := hp36
  show Ok _ _ _ [] _ _
  refine r_aload_n (q := 40) dX4_readAct_39 rfl rfl rfl ?_
  refine r_callV (Mc := mX4_isName) (q := 43) (As := []) (st := []) ck4 dX4_readAct_40 rfl rfl mkX4_isName wt562 wt564 wp9 rfl (Nat.le_of_ble_eq_true rfl) (Nat.le_of_ble_eq_true rfl) (by decide) (by decide) (by decide) (Or.inl rfl) ((hs.fr w36).e (by decide)) (ok_isName (hs.fr w36) x36 h.2.1.adv) (fun r40 S40 hp40 => ?_)
  obtain ⟨rfl, hq40⟩ := hp40
  rw [hq40]
  rw [if_pos hnm]
  have hW1 : WC S36 s W := hc.fr w36 (fun a k ha => by unfold tAv; simp; omega)
  show Ok _ _ _ [zi (nI 1)] _ _
  refine r_if_neN (q := 46) (t := 56) (by omega) dX4_readAct_43 (by decide) rfl (fun h43 => ?_) (fun h43 => absurd h43 (by omega))
  refine r_aload_n (q := 57) dX4_readAct_56 rfl rfl rfl ?_
  refine r_aload_n (q := 58) dX4_readAct_57 rfl rfl rfl ?_
  refine r_getl (q := 61) ck4 dX4_readAct_58 rfl (k := 7) (by decide) wt128 rfl ((hs.fr w36).e (by decide)) ?_
  refine r_topl (y := lN ((hdT (adv ts)).2.2)) (x36.f.2.2 (Or.inl (isNmb_t.mp hnm).1)) ?_
  refine r_callV (Mc := mX9_findAct) (q := 64) (As := [zl (lN ((hdT (adv ts)).2.2))]) (st := []) ck9 dX4_readAct_61 rfl rfl mkX9_findAct wt568 wt569 wt570 rfl (Nat.le_of_ble_eq_true rfl) (Nat.le_of_ble_eq_true rfl) (by decide) (by decide) (by decide) (Or.inl rfl) ((hs.fr w36).e (show s < 4 by omega)) (ok_findAct (nm := wn W) (e := we W) (hs.fr w36) hs4 hA3 hW1.2.1 hW1.2.2.2.1 (fun a ha => (h.1.2.2.1.2.1 a ha).1) (wok_inj h.1) (u3 (isNmb_t.mp hnm).1).1) (fun r61 S61 hp61 => ?_)
  obtain ⟨rfl, hq61⟩ := hp61
  rw [hq61]
  rw [hfa]
  show Ok _ _ _ [zi (-1 : Int32)] _ _
  refine r_if_lt (q := 67) (t := 77) dX4_readAct_64 (by decide) rfl (fun h64 => ?_) (fun h64 => absurd h64 (by decide))
  refine r_aload_n (q := 78) dX4_readAct_77 rfl rfl rfl ?_
  refine r_getl (q := 81) ck4 dX4_readAct_78 rfl (k := 7) (by decide) wt128 rfl ((hs.fr w36).e (by decide)) ?_
  refine r_topl (y := lN ((hdT (adv ts)).2.2)) (x36.f.2.2 (Or.inl (isNmb_t.mp hnm).1)) ?_
  refine r_lstore_n (q := 82) (L' := [some (zr 4 0), some (zr 9 s), some (zl (lN ((hdT (adv ts)).2.2))), none]) dX4_readAct_81 rfl rfl (by decide) rfl ?_
  refine r_aload_n (q := 83) dX4_readAct_82 rfl rfl rfl ?_
  refine r_callV (Mc := mX4_advance) (q := 86) (As := []) (st := []) ck4 dX4_readAct_83 rfl rfl mkX4_advance wt529 wt531 wp4 rfl (Nat.le_of_ble_eq_true rfl) (Nat.le_of_ble_eq_true rfl) (by decide) (by decide) (by decide) (Or.inl rfl) ((hs.fr w36).e (by decide)) (ok_advance (hs.fr w36) x36) (fun r83 S83 hp83 => ?_)
  obtain ⟨rfl, w83, x83⟩ := hp83
  show Ok _ _ _ [] _ _
  refine r_aload_n (q := 87) dX4_readAct_86 rfl rfl rfl ?_
  refine r_geti (q := 90) ck4 dX4_readAct_87 rfl (k := 5) (by decide) wt126 (Or.inl rfl) (((hs.fr w36).fr w83).e (by decide)) ?_
  refine r_topi (y := nI ((hdT (adv (adv ts))).1)) x83.f.1 ?_
  refine r_iconst (q := 91) (nI 3) dX4_readAct_90 rfl (by decide) ?_
  refine r_icmp_eqN (q := 94) (t := 104) (by omega) (by omega) dX4_readAct_91 (by decide) rfl (fun h91 => ?_) (fun h91 => absurd h91 (by omega))
  refine r_aload_n (q := 105) dX4_readAct_104 rfl rfl rfl ?_
  refine r_getl (q := 108) ck4 dX4_readAct_105 rfl (k := 7) (by decide) wt128 rfl (((hs.fr w36).fr w83).e (by decide)) ?_
  refine r_topl (y := lN ((hdT (adv (adv ts))).2.2)) (x83.f.2.2 (Or.inr hk3)) ?_
  refine r_ldc2 (q := 111) (2 : Int64) dX4_readAct_108 rfl wt572 ?_
  refine r_topl (y := lN 2) rfl ?_
  refine r_lcmp (q := 112) dX4_readAct_111 rfl ?_
  refine r_if_lt (q := 115) (t := 126) dX4_readAct_112 (by decide) rfl (fun h112 => ?_) (fun h112 => absurd h112 (fun z => z ((lcmp_lt (by omega) (by omega)).mpr (by omega))))
  refine r_aload_n (q := 127) dX4_readAct_126 rfl rfl rfl ?_
  refine r_iconst (q := 128) (nI 2) dX4_readAct_127 rfl (by decide) ?_
  refine r_aload_n (q := 129) dX4_readAct_128 rfl rfl rfl ?_
  refine r_geti (q := 132) ck4 dX4_readAct_129 rfl (k := 6) (by decide) wt127 (Or.inl rfl) (((hs.fr w36).fr w83).e (by decide)) ?_
  refine r_topi (y := nI ((hdT (adv (adv ts))).2.1)) x83.f.2.1 ?_
  refine r_callV (Mc := mX4_fail) (q := 135) (As := [zi (nI 2), zi (nI ((hdT (adv (adv ts))).2.1))]) (st := []) ck4 dX4_readAct_132 rfl rfl mkX4_fail wt550 wt552 wp7 rfl (Nat.le_of_ble_eq_true rfl) (Nat.le_of_ble_eq_true rfl) (by decide) (by decide) (by decide) (Or.inl rfl) (((hs.fr w36).fr w83).e (by decide)) (ok_fail ((hs.fr w36).fr w83) 2 ((hdT (adv (adv ts))).2.1)) (fun r132 S132 hp132 => ?_)
  obtain ⟨rfl, w132, x132⟩ := hp132
  show Ok _ _ _ [zi (nI 0)] _ _
  refine r_zreturn (by decide) dX4_readAct_135 rfl ?_
  exact ⟨rfl, ((w36.mono (fun a b k z => by unfold tAc; rw [tSk_av a b k z]; rfl)).tr (w83.mono (fun a b k z => by unfold tAc; rw [tSk_av a b k z]; rfl))).tr (w132.mono (fun a b k z => by unfold tAc; rw [tSk_fl a b k z]; rfl)), x132⟩

set_option maxRecDepth 100000 in
theorem ok_readAct_f2 {S : zS} (hs : Sd S) {ts : List zTk} (hr : Rc S ts) {s : Nat} (hs4 : s < 4) {W : zWd} (h : Wpk W ts) (hc : WC S s W) (told : Bool) (hL : ¬ 0 < wL W) (hA : ¬ 3 ≤ wA W) (hnm : isNmb (adv ts) = true) (hfa : fAct (wn W) (hdT (adv ts)).2.2 (wA W) = none) (hk3 : (hdT (adv (adv ts))).1 = 3) (hv : 4 < (hdT (adv (adv ts))).2.2) : Ok mX4_readAct 0 (ent 4 [zr 4 0, zr 9 s]) [] S (fun r S1 => AcR S S1 s told r (actP told W ts)) := by
  obtain ⟨f5, f6, f7⟩ := hr.f
  obtain ⟨t1, t2, t3, t4⟩ := h.2.1.hd
  obtain ⟨u1, u2, u3, u4⟩ := h.2.1.adv.hd
  obtain ⟨v1, v2, v3, v4⟩ := h.2.1.adv.adv.hd
  have hL18 := h.1.2.2.2.1
  have hA3 := h.1.2.1.1
  have hv9 := v4 hk3
  have e : actP told W ts = Sum.inl (2, (hdT (adv (adv ts))).2.1) := (if_neg hL).trans ((if_neg hA).trans ((if_neg (by rw [hnm]; decide)).trans ((if_neg (fun z => z hfa)).trans ((if_neg (fun z => z hk3)).trans (if_pos (Or.inr hv))))))
  rw [e]
  show Ok mX4_readAct 0 [some (zr 4 0), some (zr 9 s), none, none] [] S _
  refine r_aload_n (q := 1) dX4_readAct_0 rfl rfl rfl ?_
  refine r_geti (q := 4) ck9 dX4_readAct_1 rfl (k := 4) (by decide) wt314 (Or.inl rfl) (hs.e (show s < 4 by omega)) ?_
  refine r_topi (y := nI (wL W)) hc.2.2.1 ?_
  refine r_if_leN (q := 7) (t := 17) (by omega) dX4_readAct_4 (by decide) rfl (fun h4 => ?_) (fun h4 => absurd h4 (by omega))
  refine r_aload_n (q := 18) dX4_readAct_17 rfl rfl rfl ?_
  refine r_geti (q := 21) ck9 dX4_readAct_18 rfl (k := 1) (by decide) wt299 (Or.inl rfl) (hs.e (show s < 4 by omega)) ?_
  refine r_topi (y := nI (wA W)) hc.2.1 ?_
  refine r_iconst (q := 22) (nI 3) dX4_readAct_21 rfl (by decide) ?_
  refine r_icmp_ltN (q := 25) (t := 35) (by omega) (by omega) dX4_readAct_22 (by decide) rfl (fun h22 => ?_) (fun h22 => absurd h22 (by omega))
  refine r_aload_n (q := 36) dX4_readAct_35 rfl rfl rfl ?_
  refine r_callV (Mc := mX4_advance) (q := 39) (As := []) (st := []) ck4 dX4_readAct_36 rfl rfl mkX4_advance wt529 wt531 wp4 rfl (Nat.le_of_ble_eq_true rfl) (Nat.le_of_ble_eq_true rfl) (by decide) (by decide) (by decide) (Or.inl rfl) (hs.e (by decide)) (ok_advance hs hr) (fun r36 S36 hp36 => ?_)
  obtain ⟨rfl, w36, x36⟩ := hp36
  show Ok _ _ _ [] _ _
  refine r_aload_n (q := 40) dX4_readAct_39 rfl rfl rfl ?_
  refine r_callV (Mc := mX4_isName) (q := 43) (As := []) (st := []) ck4 dX4_readAct_40 rfl rfl mkX4_isName wt562 wt564 wp9 rfl (Nat.le_of_ble_eq_true rfl) (Nat.le_of_ble_eq_true rfl) (by decide) (by decide) (by decide) (Or.inl rfl) ((hs.fr w36).e (by decide)) (ok_isName (hs.fr w36) x36 h.2.1.adv) (fun r40 S40 hp40 => ?_)
  obtain ⟨rfl, hq40⟩ := hp40
  rw [hq40]
  rw [if_pos hnm]
  have hW1 : WC S36 s W := hc.fr w36 (fun a k ha => by unfold tAv; simp; omega)
  show Ok _ _ _ [zi (nI 1)] _ _
  refine r_if_neN (q := 46) (t := 56) (by omega) dX4_readAct_43 (by decide) rfl (fun h43 => ?_) (fun h43 => absurd h43 (by omega))
  refine r_aload_n (q := 57) dX4_readAct_56 rfl rfl rfl ?_
  refine r_aload_n (q := 58) dX4_readAct_57 rfl rfl rfl ?_
  refine r_getl (q := 61) ck4 dX4_readAct_58 rfl (k := 7) (by decide) wt128 rfl ((hs.fr w36).e (by decide)) ?_
  refine r_topl (y := lN ((hdT (adv ts)).2.2)) (x36.f.2.2 (Or.inl (isNmb_t.mp hnm).1)) ?_
  refine r_callV (Mc := mX9_findAct) (q := 64) (As := [zl (lN ((hdT (adv ts)).2.2))]) (st := []) ck9 dX4_readAct_61 rfl rfl mkX9_findAct wt568 wt569 wt570 rfl (Nat.le_of_ble_eq_true rfl) (Nat.le_of_ble_eq_true rfl) (by decide) (by decide) (by decide) (Or.inl rfl) ((hs.fr w36).e (show s < 4 by omega)) (ok_findAct (nm := wn W) (e := we W) (hs.fr w36) hs4 hA3 hW1.2.1 hW1.2.2.2.1 (fun a ha => (h.1.2.2.1.2.1 a ha).1) (wok_inj h.1) (u3 (isNmb_t.mp hnm).1).1) (fun r61 S61 hp61 => ?_)
  obtain ⟨rfl, hq61⟩ := hp61
  rw [hq61]
  rw [hfa]
  show Ok _ _ _ [zi (-1 : Int32)] _ _
  refine r_if_lt (q := 67) (t := 77) dX4_readAct_64 (by decide) rfl (fun h64 => ?_) (fun h64 => absurd h64 (by decide))
  refine r_aload_n (q := 78) dX4_readAct_77 rfl rfl rfl ?_
  refine r_getl (q := 81) ck4 dX4_readAct_78 rfl (k := 7) (by decide) wt128 rfl ((hs.fr w36).e (by decide)) ?_
  refine r_topl (y := lN ((hdT (adv ts)).2.2)) (x36.f.2.2 (Or.inl (isNmb_t.mp hnm).1)) ?_
  refine r_lstore_n (q := 82) (L' := [some (zr 4 0), some (zr 9 s), some (zl (lN ((hdT (adv ts)).2.2))), none]) dX4_readAct_81 rfl rfl (by decide) rfl ?_
  refine r_aload_n (q := 83) dX4_readAct_82 rfl rfl rfl ?_
  refine r_callV (Mc := mX4_advance) (q := 86) (As := []) (st := []) ck4 dX4_readAct_83 rfl rfl mkX4_advance wt529 wt531 wp4 rfl (Nat.le_of_ble_eq_true rfl) (Nat.le_of_ble_eq_true rfl) (by decide) (by decide) (by decide) (Or.inl rfl) ((hs.fr w36).e (by decide)) (ok_advance (hs.fr w36) x36) (fun r83 S83 hp83 => ?_)
  obtain ⟨rfl, w83, x83⟩ := hp83
  show Ok _ _ _ [] _ _
  refine r_aload_n (q := 87) dX4_readAct_86 rfl rfl rfl ?_
  refine r_geti (q := 90) ck4 dX4_readAct_87 rfl (k := 5) (by decide) wt126 (Or.inl rfl) (((hs.fr w36).fr w83).e (by decide)) ?_
  refine r_topi (y := nI ((hdT (adv (adv ts))).1)) x83.f.1 ?_
  refine r_iconst (q := 91) (nI 3) dX4_readAct_90 rfl (by decide) ?_
  refine r_icmp_eqN (q := 94) (t := 104) (by omega) (by omega) dX4_readAct_91 (by decide) rfl (fun h91 => ?_) (fun h91 => absurd h91 (by omega))
  refine r_aload_n (q := 105) dX4_readAct_104 rfl rfl rfl ?_
  refine r_getl (q := 108) ck4 dX4_readAct_105 rfl (k := 7) (by decide) wt128 rfl (((hs.fr w36).fr w83).e (by decide)) ?_
  refine r_topl (y := lN ((hdT (adv (adv ts))).2.2)) (x83.f.2.2 (Or.inr hk3)) ?_
  refine r_ldc2 (q := 111) (2 : Int64) dX4_readAct_108 rfl wt572 ?_
  refine r_topl (y := lN 2) rfl ?_
  refine r_lcmp (q := 112) dX4_readAct_111 rfl ?_
  refine r_if_lt (q := 115) (t := 126) dX4_readAct_112 (by decide) rfl (fun h112 => absurd h112 (fun z => by have := (lcmp_lt (by omega) (by omega)).mp z; omega)) (fun h112 => ?_)
  refine r_aload_n (q := 116) dX4_readAct_115 rfl rfl rfl ?_
  refine r_getl (q := 119) ck4 dX4_readAct_116 rfl (k := 7) (by decide) wt128 rfl (((hs.fr w36).fr w83).e (by decide)) ?_
  refine r_topl (y := lN ((hdT (adv (adv ts))).2.2)) (x83.f.2.2 (Or.inr hk3)) ?_
  refine r_ldc2 (q := 122) (4 : Int64) dX4_readAct_119 rfl wt573 ?_
  refine r_topl (y := lN 4) rfl ?_
  refine r_lcmp (q := 123) dX4_readAct_122 rfl ?_
  refine r_if_le (q := 126) (t := 136) dX4_readAct_123 (by decide) rfl (fun h123 => absurd h123 (fun z => by have := (lcmp_le (by omega) (by omega)).mp z; omega)) (fun h123 => ?_)
  refine r_aload_n (q := 127) dX4_readAct_126 rfl rfl rfl ?_
  refine r_iconst (q := 128) (nI 2) dX4_readAct_127 rfl (by decide) ?_
  refine r_aload_n (q := 129) dX4_readAct_128 rfl rfl rfl ?_
  refine r_geti (q := 132) ck4 dX4_readAct_129 rfl (k := 6) (by decide) wt127 (Or.inl rfl) (((hs.fr w36).fr w83).e (by decide)) ?_
  refine r_topi (y := nI ((hdT (adv (adv ts))).2.1)) x83.f.2.1 ?_
  refine r_callV (Mc := mX4_fail) (q := 135) (As := [zi (nI 2), zi (nI ((hdT (adv (adv ts))).2.1))]) (st := []) ck4 dX4_readAct_132 rfl rfl mkX4_fail wt550 wt552 wp7 rfl (Nat.le_of_ble_eq_true rfl) (Nat.le_of_ble_eq_true rfl) (by decide) (by decide) (by decide) (Or.inl rfl) (((hs.fr w36).fr w83).e (by decide)) (ok_fail ((hs.fr w36).fr w83) 2 ((hdT (adv (adv ts))).2.1)) (fun r132 S132 hp132 => ?_)
  obtain ⟨rfl, w132, x132⟩ := hp132
  show Ok _ _ _ [zi (nI 0)] _ _
  refine r_zreturn (by decide) dX4_readAct_135 rfl ?_
  exact ⟨rfl, ((w36.mono (fun a b k z => by unfold tAc; rw [tSk_av a b k z]; rfl)).tr (w83.mono (fun a b k z => by unfold tAc; rw [tSk_av a b k z]; rfl))).tr (w132.mono (fun a b k z => by unfold tAc; rw [tSk_fl a b k z]; rfl)), x132⟩

set_option maxRecDepth 100000 in
theorem ok_readAct_g {S : zS} (hs : Sd S) {ts : List zTk} (hr : Rc S ts) {s : Nat} (hs4 : s < 4) {W : zWd} (h : Wpk W ts) (hc : WC S s W) (told : Bool) (hL : ¬ 0 < wL W) (hA : ¬ 3 ≤ wA W) (hnm : isNmb (adv ts) = true) (hfa : fAct (wn W) (hdT (adv ts)).2.2 (wA W) = none) (hk3 : (hdT (adv (adv ts))).1 = 3) (hv : ¬ ((hdT (adv (adv ts))).2.2 < 2 ∨ 4 < (hdT (adv (adv ts))).2.2)) : Ok mX4_readAct 0 (ent 4 [zr 4 0, zr 9 s]) [] S (fun r S1 => AcR S S1 s told r (actP told W ts)) := by
  obtain ⟨f5, f6, f7⟩ := hr.f
  obtain ⟨t1, t2, t3, t4⟩ := h.2.1.hd
  obtain ⟨u1, u2, u3, u4⟩ := h.2.1.adv.hd
  obtain ⟨v1, v2, v3, v4⟩ := h.2.1.adv.adv.hd
  have hL18 := h.1.2.2.2.1
  have hA3 := h.1.2.1.1
  have hv9 := v4 hk3
  have e : actP told W ts = Sum.inr ((told, actW W (hdT (adv (adv ts))).2.2 (hdT (adv ts)).2.2), adv (adv (adv ts))) := (if_neg hL).trans ((if_neg hA).trans ((if_neg (by rw [hnm]; decide)).trans ((if_neg (fun z => z hfa)).trans ((if_neg (fun z => z hk3)).trans (if_neg hv)))))
  rw [e]
  show Ok mX4_readAct 0 [some (zr 4 0), some (zr 9 s), none, none] [] S _
  refine r_aload_n (q := 1) dX4_readAct_0 rfl rfl rfl ?_
  refine r_geti (q := 4) ck9 dX4_readAct_1 rfl (k := 4) (by decide) wt314 (Or.inl rfl) (hs.e (show s < 4 by omega)) ?_
  refine r_topi (y := nI (wL W)) hc.2.2.1 ?_
  refine r_if_leN (q := 7) (t := 17) (by omega) dX4_readAct_4 (by decide) rfl (fun h4 => ?_) (fun h4 => absurd h4 (by omega))
  refine r_aload_n (q := 18) dX4_readAct_17 rfl rfl rfl ?_
  refine r_geti (q := 21) ck9 dX4_readAct_18 rfl (k := 1) (by decide) wt299 (Or.inl rfl) (hs.e (show s < 4 by omega)) ?_
  refine r_topi (y := nI (wA W)) hc.2.1 ?_
  refine r_iconst (q := 22) (nI 3) dX4_readAct_21 rfl (by decide) ?_
  refine r_icmp_ltN (q := 25) (t := 35) (by omega) (by omega) dX4_readAct_22 (by decide) rfl (fun h22 => ?_) (fun h22 => absurd h22 (by omega))
  refine r_aload_n (q := 36) dX4_readAct_35 rfl rfl rfl ?_
  refine r_callV (Mc := mX4_advance) (q := 39) (As := []) (st := []) ck4 dX4_readAct_36 rfl rfl mkX4_advance wt529 wt531 wp4 rfl (Nat.le_of_ble_eq_true rfl) (Nat.le_of_ble_eq_true rfl) (by decide) (by decide) (by decide) (Or.inl rfl) (hs.e (by decide)) (ok_advance hs hr) (fun r36 S36 hp36 => ?_)
  obtain ⟨rfl, w36, x36⟩ := hp36
  show Ok _ _ _ [] _ _
  refine r_aload_n (q := 40) dX4_readAct_39 rfl rfl rfl ?_
  refine r_callV (Mc := mX4_isName) (q := 43) (As := []) (st := []) ck4 dX4_readAct_40 rfl rfl mkX4_isName wt562 wt564 wp9 rfl (Nat.le_of_ble_eq_true rfl) (Nat.le_of_ble_eq_true rfl) (by decide) (by decide) (by decide) (Or.inl rfl) ((hs.fr w36).e (by decide)) (ok_isName (hs.fr w36) x36 h.2.1.adv) (fun r40 S40 hp40 => ?_)
  obtain ⟨rfl, hq40⟩ := hp40
  rw [hq40]
  rw [if_pos hnm]
  have hW1 : WC S36 s W := hc.fr w36 (fun a k ha => by unfold tAv; simp; omega)
  show Ok _ _ _ [zi (nI 1)] _ _
  refine r_if_neN (q := 46) (t := 56) (by omega) dX4_readAct_43 (by decide) rfl (fun h43 => ?_) (fun h43 => absurd h43 (by omega))
  refine r_aload_n (q := 57) dX4_readAct_56 rfl rfl rfl ?_
  refine r_aload_n (q := 58) dX4_readAct_57 rfl rfl rfl ?_
  refine r_getl (q := 61) ck4 dX4_readAct_58 rfl (k := 7) (by decide) wt128 rfl ((hs.fr w36).e (by decide)) ?_
  refine r_topl (y := lN ((hdT (adv ts)).2.2)) (x36.f.2.2 (Or.inl (isNmb_t.mp hnm).1)) ?_
  refine r_callV (Mc := mX9_findAct) (q := 64) (As := [zl (lN ((hdT (adv ts)).2.2))]) (st := []) ck9 dX4_readAct_61 rfl rfl mkX9_findAct wt568 wt569 wt570 rfl (Nat.le_of_ble_eq_true rfl) (Nat.le_of_ble_eq_true rfl) (by decide) (by decide) (by decide) (Or.inl rfl) ((hs.fr w36).e (show s < 4 by omega)) (ok_findAct (nm := wn W) (e := we W) (hs.fr w36) hs4 hA3 hW1.2.1 hW1.2.2.2.1 (fun a ha => (h.1.2.2.1.2.1 a ha).1) (wok_inj h.1) (u3 (isNmb_t.mp hnm).1).1) (fun r61 S61 hp61 => ?_)
  obtain ⟨rfl, hq61⟩ := hp61
  rw [hq61]
  rw [hfa]
  show Ok _ _ _ [zi (-1 : Int32)] _ _
  refine r_if_lt (q := 67) (t := 77) dX4_readAct_64 (by decide) rfl (fun h64 => ?_) (fun h64 => absurd h64 (by decide))
  refine r_aload_n (q := 78) dX4_readAct_77 rfl rfl rfl ?_
  refine r_getl (q := 81) ck4 dX4_readAct_78 rfl (k := 7) (by decide) wt128 rfl ((hs.fr w36).e (by decide)) ?_
  refine r_topl (y := lN ((hdT (adv ts)).2.2)) (x36.f.2.2 (Or.inl (isNmb_t.mp hnm).1)) ?_
  refine r_lstore_n (q := 82) (L' := [some (zr 4 0), some (zr 9 s), some (zl (lN ((hdT (adv ts)).2.2))), none]) dX4_readAct_81 rfl rfl (by decide) rfl ?_
  refine r_aload_n (q := 83) dX4_readAct_82 rfl rfl rfl ?_
  refine r_callV (Mc := mX4_advance) (q := 86) (As := []) (st := []) ck4 dX4_readAct_83 rfl rfl mkX4_advance wt529 wt531 wp4 rfl (Nat.le_of_ble_eq_true rfl) (Nat.le_of_ble_eq_true rfl) (by decide) (by decide) (by decide) (Or.inl rfl) ((hs.fr w36).e (by decide)) (ok_advance (hs.fr w36) x36) (fun r83 S83 hp83 => ?_)
  obtain ⟨rfl, w83, x83⟩ := hp83
  show Ok _ _ _ [] _ _
  refine r_aload_n (q := 87) dX4_readAct_86 rfl rfl rfl ?_
  refine r_geti (q := 90) ck4 dX4_readAct_87 rfl (k := 5) (by decide) wt126 (Or.inl rfl) (((hs.fr w36).fr w83).e (by decide)) ?_
  refine r_topi (y := nI ((hdT (adv (adv ts))).1)) x83.f.1 ?_
  refine r_iconst (q := 91) (nI 3) dX4_readAct_90 rfl (by decide) ?_
  refine r_icmp_eqN (q := 94) (t := 104) (by omega) (by omega) dX4_readAct_91 (by decide) rfl (fun h91 => ?_) (fun h91 => absurd h91 (by omega))
  refine r_aload_n (q := 105) dX4_readAct_104 rfl rfl rfl ?_
  refine r_getl (q := 108) ck4 dX4_readAct_105 rfl (k := 7) (by decide) wt128 rfl (((hs.fr w36).fr w83).e (by decide)) ?_
  refine r_topl (y := lN ((hdT (adv (adv ts))).2.2)) (x83.f.2.2 (Or.inr hk3)) ?_
  refine r_ldc2 (q := 111) (2 : Int64) dX4_readAct_108 rfl wt572 ?_
  refine r_topl (y := lN 2) rfl ?_
  refine r_lcmp (q := 112) dX4_readAct_111 rfl ?_
  refine r_if_lt (q := 115) (t := 126) dX4_readAct_112 (by decide) rfl (fun h112 => absurd h112 (fun z => by have := (lcmp_lt (by omega) (by omega)).mp z; omega)) (fun h112 => ?_)
  refine r_aload_n (q := 116) dX4_readAct_115 rfl rfl rfl ?_
  refine r_getl (q := 119) ck4 dX4_readAct_116 rfl (k := 7) (by decide) wt128 rfl (((hs.fr w36).fr w83).e (by decide)) ?_
  refine r_topl (y := lN ((hdT (adv (adv ts))).2.2)) (x83.f.2.2 (Or.inr hk3)) ?_
  refine r_ldc2 (q := 122) (4 : Int64) dX4_readAct_119 rfl wt573 ?_
  refine r_topl (y := lN 4) rfl ?_
  refine r_lcmp (q := 123) dX4_readAct_122 rfl ?_
  refine r_if_le (q := 126) (t := 136) dX4_readAct_123 (by decide) rfl (fun h123 => ?_) (fun h123 => absurd h123 (fun z => z ((lcmp_le (by omega) (by omega)).mpr (by omega))))
  refine r_aload_n (q := 137) dX4_readAct_136 rfl rfl rfl ?_
  refine r_lload_n (q := 138) dX4_readAct_137 rfl rfl rfl ?_
  refine r_aload_n (q := 139) dX4_readAct_138 rfl rfl rfl ?_
  refine r_getl (q := 142) ck4 dX4_readAct_139 rfl (k := 7) (by decide) wt128 rfl (((hs.fr w36).fr w83).e (by decide)) ?_
  refine r_topl (y := lN ((hdT (adv (adv ts))).2.2)) (x83.f.2.2 (Or.inr hk3)) ?_
  refine r_l2i (q := 143) dX4_readAct_142 rfl ?_
  refine r_topi (y := nI ((hdT (adv (adv ts))).2.2)) (lN_i _) ?_
  refine r_callV (Mc := mX9_addAct) (q := 146) (As := [zl (lN ((hdT (adv ts)).2.2)), zi (nI ((hdT (adv (adv ts))).2.2))]) (st := []) ck9 dX4_readAct_143 rfl rfl mkX9_addAct wt574 wt575 wt576 rfl (Nat.le_of_ble_eq_true rfl) (Nat.le_of_ble_eq_true rfl) (by decide) (by decide) (by decide) (Or.inl rfl) (((hs.fr w36).fr w83).e (show s < 4 by omega)) (ok_addAct (W := W) ((hs.fr w36).fr w83) hs4 (hW1.fr w83 (fun a k ha => by unfold tAv; simp; omega)) (by omega) _ _) (fun r143 S143 hp143 => ?_)
  obtain ⟨rfl, hq143⟩ := hp143
  rw [hq143]
  show Ok _ _ _ [] _ _
  refine r_aload_n (q := 147) dX4_readAct_146 rfl rfl rfl ?_
  refine r_callV (Mc := mX4_advance) (q := 150) (As := []) (st := []) ck4 dX4_readAct_147 rfl rfl mkX4_advance wt529 wt531 wp4 rfl (Nat.le_of_ble_eq_true rfl) (Nat.le_of_ble_eq_true rfl) (by decide) (by decide) (by decide) (Or.inl rfl) (((hs.fr w36).fr w83).e (by decide)) (ok_advance (show Sd (sI (sI (sJ S83 1002 s (wA W) (lN (hdT (adv ts)).2.2)) 1003 s (wA W) (nI (hdT (adv (adv ts))).2.2)) 9 s 1 (nI (wA W + 1))) from ((hs.fr w36).fr w83 : Sd S83)) (x83.cong (fun i => ⟨rfl, rfl, by show gJ (sJ S83 1002 s (wA W) (lN (hdT (adv ts)).2.2)) 502 0 i = _; rw [gJ_sJ, if_neg (by omega)]⟩) (fun k hk => by rw [gI_sI, if_neg (by omega), gI_sI, if_neg (by omega)]; rfl) (by show gJ (sJ S83 1002 s (wA W) (lN (hdT (adv ts)).2.2)) 4 0 7 = _; rw [gJ_sJ, if_neg (by omega)]))) (fun r147 S147 hp147 => ?_)
  obtain ⟨rfl, w147, x147⟩ := hp147
  have g0 : Fr (tAc s) S83 (sI (sI (sJ S83 1002 s (wA W) (lN (hdT (adv ts)).2.2)) 1003 s (wA W) (nI (hdT (adv (adv ts))).2.2)) 9 s 1 (nI (wA W + 1))) := ((Fr.rf.j (by unfold tAc; simp)).i (by unfold tAc; simp)).i (by unfold tAc; simp)
  have hW2 : WC (sI (sI (sJ S83 1002 s (wA W) (lN (hdT (adv ts)).2.2)) 1003 s (wA W) (nI (hdT (adv (adv ts))).2.2)) 9 s 1 (nI (wA W + 1))) s (actW W (hdT (adv (adv ts))).2.2 (hdT (adv ts)).2.2) := (hW1.fr w83 (fun a k ha => by unfold tAv; simp; omega)).act h.1 (by omega) _ _
  show Ok _ _ _ [] _ _
  refine r_iconst (q := 151) (nI 1) dX4_readAct_150 rfl (by decide) ?_
  refine r_zreturn (by decide) dX4_readAct_151 rfl ?_
  exact ⟨rfl, (((w36.mono (fun a b k z => by unfold tAc; rw [tSk_av a b k z]; rfl)).tr (w83.mono (fun a b k z => by unfold tAc; rw [tSk_av a b k z]; rfl))).tr g0).tr (w147.mono (fun a b k z => by unfold tAc; rw [tSk_av a b k z]; rfl)), (w147.1 _ _ _ rfl).trans ((w83.1 _ _ _ rfl).trans (w36.1 _ _ _ rfl)), x147, hW2.fr w147 (fun a k ha => by unfold tAv; simp; omega), rfl⟩

theorem ok_readAct {S : zS} (hs : Sd S) {ts : List zTk} (hr : Rc S ts) {s : Nat} (hs4 : s < 4) {W : zWd} (h : Wpk W ts) (hc : WC S s W) (told : Bool) : Ok mX4_readAct 0 (ent 4 [zr 4 0, zr 9 s]) [] S (fun r S1 => AcR S S1 s told r (actP told W ts)) := by
  by_cases hL : 0 < wL W
  · exact ok_readAct_a hs hr hs4 h hc told hL
  by_cases hA : 3 ≤ wA W
  · exact ok_readAct_b hs hr hs4 h hc told hL hA
  by_cases hnm : isNmb (adv ts) = true
  · cases hfa : fAct (wn W) (hdT (adv ts)).2.2 (wA W) with
    | some a => exact ok_readAct_d hs hr hs4 h hc told hL hA hnm hfa
    | none =>
      by_cases hk3 : (hdT (adv (adv ts))).1 = 3
      · by_cases hv : (hdT (adv (adv ts))).2.2 < 2 ∨ 4 < (hdT (adv (adv ts))).2.2
        · rcases hv with hv | hv
          · exact ok_readAct_f1 hs hr hs4 h hc told hL hA hnm hfa hk3 hv
          · exact ok_readAct_f2 hs hr hs4 h hc told hL hA hnm hfa hk3 hv
        · exact ok_readAct_g hs hr hs4 h hc told hL hA hnm hfa hk3 hv
      · exact ok_readAct_e hs hr hs4 h hc told hL hA hnm hfa hk3
  · exact ok_readAct_c hs hr hs4 h hc told hL hA hnm

