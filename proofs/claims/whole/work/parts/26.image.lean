theorem cpR_step_s {S : zS} {a0 b0 a1 b1 to i hi : Nat} (h : i < hi) (hd : ¬ (a0 = a1 ∧ b0 = b1)) : cpR (sI S a1 b1 (to + i) (gI S a0 b0 i)) a0 b0 a1 b1 0 to (i + 1) hi = cpR S a0 b0 a1 b1 0 to i hi := by
  have := cpR_step (S := S) (a0 := a0) (b0 := b0) (a1 := a1) (b1 := b1) (so := 0) (to := to) h hd
  rw [Nat.zero_add] at this
  exact this
theorem cpR_step_t {S : zS} {a0 b0 a1 b1 so i hi : Nat} (h : i < hi) (hd : ¬ (a0 = a1 ∧ b0 = b1)) : cpR (sI S a1 b1 i (gI S a0 b0 (so + i))) a0 b0 a1 b1 so 0 (i + 1) hi = cpR S a0 b0 a1 b1 so 0 i hi := by
  have := cpR_step (S := S) (a0 := a0) (b0 := b0) (a1 := a1) (b1 := b1) (so := so) (to := 0) h hd
  rw [Nat.zero_add] at this
  exact this
theorem zz_in {a : Int32} {l n : Nat} (h : nI l ≤ a ∧ a ≤ nI n) (hl : l < 2147483648) (hn : n < 2147483647) : ∃ m, l ≤ m ∧ m ≤ n ∧ a = nI m := by
  have h0 := Int32.le_iff_toInt_le.mp h.1
  rw [nI_toInt hl] at h0
  obtain ⟨m, h1, rfl⟩ := zz_le (a := a) (n := n) ⟨Int32.le_iff_toInt_le.mpr (by rw [i0]; omega), h.2⟩ hn
  rw [nI_toInt (by omega)] at h0
  exact ⟨m, by omega, h1, rfl⟩
set_option maxRecDepth 100000 in
theorem ok_X7_clear {S : zS} (hs : Sd S) {j : Nat} (hj : j < 3) (d : Int32) : Ok mX7_clear 0 (ent 2 [zr 7 j, zi d]) [] S (fun r S1 => r = none ∧ S1 = flS (sI S 7 j 0 d) 801 j 0 729 (nI 0)) := by
  show Ok mX7_clear 0 [some (zr 7 j), some (zi d)] [] S _
  refine r_aload_n (q := 1) dX7_clear_0 rfl rfl rfl ?_
  refine r_iload_n (q := 2) dX7_clear_1 rfl rfl rfl ?_
  refine r_puti (q := 5) ck7 dX7_clear_2 rfl (k := 0) (by decide) wt37 (Or.inl rfl) rfl (hs.e (show j < 3 by omega)) ?_
  refine r_aload_n (q := 6) dX7_clear_5 rfl rfl rfl ?_
  refine r_getr (q := 9) (some (801, j)) ck7 dX7_clear_6 rfl (k := 1) (by decide) wt40 rfl (hs.e (show j < 3 by omega)) (hs.r (show j < 3 by omega) (by decide)) ?_
  refine r_iconst (q := 10) (nI 0) dX7_clear_9 rfl (by decide) ?_
  refine r_callS (Mc := mJ7_fill_53178) (q := 13) (As := [zr 801 j, zi (nI 0)]) (st := []) dX7_clear_10 rfl rfl mkJ7_fill_53178 wt668 wt372 rfl (Nat.le_of_ble_eq_true rfl) (Nat.le_of_ble_eq_true rfl) (by decide) (by decide) (by decide) (Or.inl rfl) hs.some (ok_fill2 (n := 729) (by decide) rfl (hs.e (show j < 3 by omega)) (hs.n rfl (show j < 3 by omega)) (by decide)) (fun r10 S10 hp10 => ?_)
  obtain ⟨rfl, hq10⟩ := hp10
  rw [hq10]
  show Ok _ _ _ [] _ _
  refine r_return dX7_clear_13 rfl ?_
  exact ⟨rfl, rfl⟩

def tbc (S : zS) (j i : Nat) : zS := cpS (sI S 7 j 0 (gI S 7 i 0)) 801 i 801 j 0 0 729
set_option maxRecDepth 100000 in
theorem ok_X7_copy {S : zS} (hs : Sd S) {j i : Nat} (hj : j < 3) (hi : i < 3) : Ok mX7_copy 0 (ent 2 [zr 7 j, zr 7 i]) [] S (fun r S1 => r = none ∧ S1 = tbc S j i) := by
  show Ok mX7_copy 0 [some (zr 7 j), some (zr 7 i)] [] S _
  refine r_aload_n (q := 1) dX7_copy_0 rfl rfl rfl ?_
  refine r_aload_n (q := 2) dX7_copy_1 rfl rfl rfl ?_
  refine r_geti (q := 5) ck7 dX7_copy_2 rfl (k := 0) (by decide) wt37 (Or.inl rfl) (hs.e (show i < 3 by omega)) ?_
  refine r_puti (q := 8) ck7 dX7_copy_5 rfl (k := 0) (by decide) wt37 (Or.inl rfl) rfl (hs.e (show j < 3 by omega)) ?_
  refine r_aload_n (q := 9) dX7_copy_8 rfl rfl rfl ?_
  refine r_getr (q := 12) (some (801, i)) ck7 dX7_copy_9 rfl (k := 1) (by decide) wt40 rfl (hs.e (show i < 3 by omega)) (hs.r (show i < 3 by omega) (by decide)) ?_
  refine r_iconst (q := 13) (nI 0) dX7_copy_12 rfl (by decide) ?_
  refine r_aload_n (q := 14) dX7_copy_13 rfl rfl rfl ?_
  refine r_getr (q := 17) (some (801, j)) ck7 dX7_copy_14 rfl (k := 1) (by decide) wt40 rfl (hs.e (show j < 3 by omega)) (hs.r (show j < 3 by omega) (by decide)) ?_
  refine r_iconst (q := 18) (nI 0) dX7_copy_17 rfl (by decide) ?_
  refine r_aload_n (q := 19) dX7_copy_18 rfl rfl rfl ?_
  refine r_getr (q := 22) (some (801, j)) ck7 dX7_copy_19 rfl (k := 1) (by decide) wt40 rfl (hs.e (show j < 3 by omega)) (hs.r (show j < 3 by omega) (by decide)) ?_
  refine r_alen (q := 23) (by decide) (by decide) dX7_copy_22 rfl (hs.e (show j < 3 by omega)) ?_
  refine r_topi (y := nI 729) (congrArg nI (hs.n rfl (show j < 3 by omega))) ?_
  refine r_copyi (q := 26) (by decide) (by decide) rfl rfl (hs.e (show i < 3 by omega)) (hs.e (show j < 3 by omega)) dX7_copy_23 rfl wt1157 wt640 wt641 wt16 (Nat.le_of_ble_eq_true rfl) (by decide) (by decide) (by omega) (by omega) (by omega) (by rw [show gN (sI S 7 j 0 (gI S 7 i 0)) 801 i = 729 from (hs.n rfl (show i < 3 by omega))]; omega) (by rw [show gN (sI S 7 j 0 (gI S 7 i 0)) 801 j = 729 from (hs.n rfl (show j < 3 by omega))]; omega) ?_
  refine r_return dX7_copy_26 rfl ?_
  exact ⟨rfl, rfl⟩

set_option maxRecDepth 100000 in
theorem ok_X11_space_in {S : zS} (hs : Sd S) {m : Nat} (h1 : 1 ≤ m) (h3 : m ≤ 3) : Ok mX11_space 0 (ent 2 [zr 11 0, zi (nI m)]) [] S (fun r S1 => r = some (zi (nI 1)) ∧ S1 = flS (sI S 7 0 0 (nI m)) 801 0 0 729 (nI 0)) := by
  show Ok mX11_space 0 [some (zr 11 0), some (zi (nI m))] [] S _
  refine r_iload_n (q := 1) dX11_space_0 rfl rfl rfl ?_
  refine r_iconst (q := 2) (nI 1) dX11_space_1 rfl (by decide) ?_
  refine r_icmp_ltN (q := 5) (t := 10) (by omega) (by omega) dX11_space_2 (by decide) rfl (fun h2 => absurd h2 (by omega)) (fun h2 => ?_)
  refine r_iload_n (q := 6) dX11_space_5 rfl rfl rfl ?_
  refine r_iconst (q := 7) (nI 3) dX11_space_6 rfl (by decide) ?_
  refine r_icmp_leN (q := 10) (t := 12) (by omega) (by omega) dX11_space_7 (by decide) rfl (fun h7 => ?_) (fun h7 => absurd h7 (by omega))
  refine r_aload_n (q := 13) dX11_space_12 rfl rfl rfl ?_
  refine r_getr (q := 16) (some (7, 0)) ck11 dX11_space_13 rfl (k := 5) (by decide) wt427 rfl (hs.e (by decide)) (hs.r (by decide) (by decide)) ?_
  refine r_iload_n (q := 17) dX11_space_16 rfl rfl rfl ?_
  refine r_callV (Mc := mX7_clear) (q := 20) (As := [zi (nI m)]) (st := []) ck7 dX11_space_17 rfl rfl mkX7_clear wt664 wt665 wt666 rfl (Nat.le_of_ble_eq_true rfl) (Nat.le_of_ble_eq_true rfl) (by decide) (by decide) (by decide) (Or.inl rfl) (hs.e (by decide)) (ok_X7_clear (S := S) hs (by decide) (nI m)) (fun r17 S17 hp17 => ?_)
  obtain ⟨rfl, hq17⟩ := hp17
  rw [hq17]
  show Ok _ _ _ [] _ _
  refine r_iconst (q := 21) (nI 1) dX11_space_20 rfl (by decide) ?_
  refine r_zreturn (by decide) dX11_space_21 rfl ?_
  exact ⟨rfl, rfl⟩

set_option maxRecDepth 100000 in
theorem ok_X11_space_out {S : zS} (hs : Sd S) {a : Int32} (ha : ¬ (nI 1 ≤ a ∧ a ≤ nI 3)) : Ok mX11_space 0 (ent 2 [zr 11 0, zi a]) [] S (fun r S1 => r = some (zi (nI 0)) ∧ S1 = S) := by
  show Ok mX11_space 0 [some (zr 11 0), some (zi a)] [] S _
  refine r_iload_n (q := 1) dX11_space_0 rfl rfl rfl ?_
  refine r_iconst (q := 2) (nI 1) dX11_space_1 rfl (by decide) ?_
  refine r_icmp_lt (q := 5) (t := 10) dX11_space_2 (by decide) rfl (fun h2 => ?_) (fun h2 => ?_)
  · skip
    refine r_iconst (q := 11) (nI 0) dX11_space_10 rfl (by decide) ?_
    refine r_zreturn (by decide) dX11_space_11 rfl ?_
    exact ⟨rfl, rfl⟩
  · skip
    refine r_iload_n (q := 6) dX11_space_5 rfl rfl rfl ?_
    refine r_iconst (q := 7) (nI 3) dX11_space_6 rfl (by decide) ?_
    refine r_icmp_le (q := 10) (t := 12) dX11_space_7 (by decide) rfl (fun h7 => absurd ⟨Int32.not_lt.mp h2, h7⟩ ha) (fun h7 => ?_)
    refine r_iconst (q := 11) (nI 0) dX11_space_10 rfl (by decide) ?_
    refine r_zreturn (by decide) dX11_space_11 rfl ?_
    exact ⟨rfl, rfl⟩

set_option maxRecDepth 100000 in
theorem lp_space {Po : Option zV → zS → Prop} {m : Nat} : ∀ (d i : Nat) (S : zS), i + d = 1173 → Sd S → (∀ S2, S2 = flS S 1306 0 i 1173 (nI 0) → Ok mX12_space 47 [some (zr 12 0), some (zi (nI m)), some (zi (nI 1173))] [] S2 Po) → Ok mX12_space 27 [some (zr 12 0), some (zi (nI m)), some (zi (nI i))] [] S Po := by
  intro d
  induction d with
  | zero =>
    intro i S hi hs  K
    obtain rfl : i = 1173 := by omega
    refine r_iload_n (q := 28) dX12_space_27 rfl rfl rfl ?_
    refine r_sipush (q := 31) (nI 1173) dX12_space_28 rfl (by decide) ?_
    refine r_icmp_geN (q := 34) (t := 47) (by omega) (by omega) dX12_space_31 (by decide) rfl (fun h31 => ?_) (fun h31 => absurd h31 (by omega))
    exact K _ ((fl_none (Nat.le_refl _)).symm)
  | succ d ih =>
    intro i S hi hs  K
    refine r_iload_n (q := 28) dX12_space_27 rfl rfl rfl ?_
    refine r_sipush (q := 31) (nI 1173) dX12_space_28 rfl (by decide) ?_
    refine r_icmp_geN (q := 34) (t := 47) (by omega) (by omega) dX12_space_31 (by decide) rfl (fun h31 => absurd h31 (by omega)) (fun h31 => ?_)
    refine r_aload_n (q := 35) dX12_space_34 rfl rfl rfl ?_
    refine r_getr (q := 38) (some (1306, 0)) ck12 dX12_space_35 rfl (k := 6) (by decide) wt1284 rfl (hs.e (by decide)) (hs.r (by decide) (by decide)) ?_
    refine r_iload_n (q := 39) dX12_space_38 rfl rfl rfl ?_
    refine r_iconst (q := 40) (nI 0) dX12_space_39 rfl (by decide) ?_
    refine r_iastN (q := 41) 3775 (by decide) rfl dX12_space_40 rfl (hs.e (by decide)) (hs.n rfl (by decide)) (by omega) (by decide) ?_
    refine r_iincN (q := 44) (L' := [some (zr 12 0), some (zi (nI m)), some (zi (nI (i + 1)))]) 1 rfl dX12_space_41 rfl rfl (by decide) rfl ?_
    refine r_goto (q := 27) dX12_space_44 (by decide) ?_
    exact ih (i + 1) _ (by omega) hs  (fun S2 h => K S2 (h.trans (fl_step (by omega))))

set_option maxRecDepth 100000 in
theorem ok_X12_space_in {S : zS} (hs : Sd S) {m : Nat} (h1 : 1 ≤ m) (h3 : m ≤ 3) : Ok mX12_space 0 (ent 3 [zr 12 0, zi (nI m)]) [] S (fun r S1 => r = some (zi (nI 1)) ∧ S1 = flS (sI (sI S 12 0 0 (nI 0)) 1306 0 3 (nI m)) 1306 0 444 1173 (nI 0)) := by
  show Ok mX12_space 0 [some (zr 12 0), some (zi (nI m)), none] [] S _
  refine r_aload_n (q := 1) dX12_space_0 rfl rfl rfl ?_
  refine r_iconst (q := 2) (nI 0) dX12_space_1 rfl (by decide) ?_
  refine r_puti (q := 5) ck12 dX12_space_2 rfl (k := 0) (by decide) wt1278 (Or.inl rfl) rfl (hs.e (by decide)) ?_
  refine r_iload_n (q := 6) dX12_space_5 rfl rfl rfl ?_
  refine r_iconst (q := 7) (nI 1) dX12_space_6 rfl (by decide) ?_
  refine r_iconst (q := 8) (nI 3) dX12_space_7 rfl (by decide) ?_
  refine r_callS (Mc := mX12_isIn) (q := 11) (As := [zi (nI m), zi (nI 1), zi (nI 3)]) (st := []) dX12_space_8 rfl rfl mkX12_isIn wt1614 wt1615 rfl (Nat.le_of_ble_eq_true rfl) (Nat.le_of_ble_eq_true rfl) (by decide) (by decide) (by decide) (Or.inl rfl) hs.some (ok_X12_isIn_in (S := sI S 12 0 0 (nI 0)) (by omega) (by omega) (by omega)) (fun r8 S8 hp8 => ?_)
  obtain ⟨rfl, hq8⟩ := hp8
  rw [hq8]
  show Ok _ _ _ [zi (nI 1)] _ _
  refine r_if_neN (q := 14) (t := 16) (by omega) dX12_space_11 (by decide) rfl (fun h11 => ?_) (fun h11 => absurd h11 (by omega))
  refine r_aload_n (q := 17) dX12_space_16 rfl rfl rfl ?_
  refine r_getr (q := 20) (some (1306, 0)) ck12 dX12_space_17 rfl (k := 6) (by decide) wt1284 rfl (hs.e (by decide)) (hs.r (by decide) (by decide)) ?_
  refine r_iconst (q := 21) (nI 3) dX12_space_20 rfl (by decide) ?_
  refine r_iload_n (q := 22) dX12_space_21 rfl rfl rfl ?_
  refine r_iastN (q := 23) 3775 (by decide) rfl dX12_space_22 rfl (hs.e (by decide)) (hs.n rfl (by decide)) (by omega) (by decide) ?_
  refine r_sipush (q := 26) (nI 444) dX12_space_23 rfl (by decide) ?_
  refine r_istore_n (q := 27) (L' := [some (zr 12 0), some (zi (nI m)), some (zi (nI 444))]) dX12_space_26 rfl rfl (by decide) rfl ?_
  refine lp_space 729 444 (sI (sI S 12 0 0 (nI 0)) 1306 0 3 (nI m)) rfl hs (fun S2 h2 => ?_)
  subst h2
  refine r_iconst (q := 48) (nI 1) dX12_space_47 rfl (by decide) ?_
  refine r_zreturn (by decide) dX12_space_48 rfl ?_
  exact ⟨rfl, rfl⟩

set_option maxRecDepth 100000 in
theorem ok_X12_space_out {S : zS} (hs : Sd S) {a : Int32} (ha : ¬ (nI 1 ≤ a ∧ a ≤ nI 3)) : Ok mX12_space 0 (ent 3 [zr 12 0, zi a]) [] S (fun r S1 => r = some (zi (nI 0)) ∧ S1 = sI S 12 0 0 (nI 0)) := by
  show Ok mX12_space 0 [some (zr 12 0), some (zi a), none] [] S _
  refine r_aload_n (q := 1) dX12_space_0 rfl rfl rfl ?_
  refine r_iconst (q := 2) (nI 0) dX12_space_1 rfl (by decide) ?_
  refine r_puti (q := 5) ck12 dX12_space_2 rfl (k := 0) (by decide) wt1278 (Or.inl rfl) rfl (hs.e (by decide)) ?_
  refine r_iload_n (q := 6) dX12_space_5 rfl rfl rfl ?_
  refine r_iconst (q := 7) (nI 1) dX12_space_6 rfl (by decide) ?_
  refine r_iconst (q := 8) (nI 3) dX12_space_7 rfl (by decide) ?_
  refine r_callS (Mc := mX12_isIn) (q := 11) (As := [zi a, zi (nI 1), zi (nI 3)]) (st := []) dX12_space_8 rfl rfl mkX12_isIn wt1614 wt1615 rfl (Nat.le_of_ble_eq_true rfl) (Nat.le_of_ble_eq_true rfl) (by decide) (by decide) (by decide) (Or.inl rfl) hs.some (ok_X12_isIn_out (S := sI S 12 0 0 (nI 0)) ha) (fun r8 S8 hp8 => ?_)
  obtain ⟨rfl, hq8⟩ := hp8
  rw [hq8]
  show Ok _ _ _ [zi (nI 0)] _ _
  refine r_if_neN (q := 14) (t := 16) (by omega) dX12_space_11 (by decide) rfl (fun h11 => absurd h11 (by omega)) (fun h11 => ?_)
  refine r_iconst (q := 15) (nI 0) dX12_space_14 rfl (by decide) ?_
  refine r_zreturn (by decide) dX12_space_15 rfl ?_
  exact ⟨rfl, rfl⟩

set_option maxRecDepth 100000 in
theorem lp_image {Po : Option zV → zS → Prop} {m : Nat} (hm : m < 2) : ∀ (d i : Nat) (S : zS), i + d = 3775 → Sd S → (∀ S2, S2 = cpR S 1306 0 1391 0 0 (3775 * m) i 3775 → Ok mX12_image 49 [some (zr 12 0), some (zi (nI m)), some (zi (nI 3775))] [] S2 Po) → Ok mX12_image 18 [some (zr 12 0), some (zi (nI m)), some (zi (nI i))] [] S Po := by
  intro d
  induction d with
  | zero =>
    intro i S hi hs  K
    obtain rfl : i = 3775 := by omega
    refine r_iload_n (q := 19) dX12_image_18 rfl rfl rfl ?_
    refine r_sipush (q := 22) (nI 3775) dX12_image_19 rfl (by decide) ?_
    refine r_icmp_geN (q := 25) (t := 49) (by omega) (by omega) dX12_image_22 (by decide) rfl (fun h22 => ?_) (fun h22 => absurd h22 (by omega))
    exact K _ (cpR_all.symm)
  | succ d ih =>
    intro i S hi hs  K
    refine r_iload_n (q := 19) dX12_image_18 rfl rfl rfl ?_
    refine r_sipush (q := 22) (nI 3775) dX12_image_19 rfl (by decide) ?_
    refine r_icmp_geN (q := 25) (t := 49) (by omega) (by omega) dX12_image_22 (by decide) rfl (fun h22 => absurd h22 (by omega)) (fun h22 => ?_)
    refine r_aload_n (q := 26) dX12_image_25 rfl rfl rfl ?_
    refine r_getr (q := 29) (some (1391, 0)) ck12 dX12_image_26 rfl (k := 91) (by decide) wt1369 rfl (hs.e (by decide)) (hs.r (by decide) (by decide)) ?_
    refine r_sipush (q := 32) (nI 3775) dX12_image_29 rfl (by decide) ?_
    refine r_iload_n (q := 33) dX12_image_32 rfl rfl rfl ?_
    refine r_imulN (q := 34) dX12_image_33 rfl ?_
    refine r_iload_n (q := 35) dX12_image_34 rfl rfl rfl ?_
    refine r_iaddN (q := 36) dX12_image_35 rfl ?_
    refine r_aload_n (q := 37) dX12_image_36 rfl rfl rfl ?_
    refine r_getr (q := 40) (some (1306, 0)) ck12 dX12_image_37 rfl (k := 6) (by decide) wt1284 rfl (hs.e (by decide)) (hs.r (by decide) (by decide)) ?_
    refine r_iload_n (q := 41) dX12_image_40 rfl rfl rfl ?_
    refine r_ialdN (q := 42) 3775 (by decide) rfl dX12_image_41 rfl (hs.e (by decide)) (hs.n rfl (by decide)) (by omega) (by decide) ?_
    refine r_iastN (q := 43) 7550 (by decide) rfl dX12_image_42 rfl (hs.e (by decide)) (hs.n rfl (by decide)) (by omega) (by decide) ?_
    refine r_iincN (q := 46) (L' := [some (zr 12 0), some (zi (nI m)), some (zi (nI (i + 1)))]) 1 rfl dX12_image_43 rfl rfl (by decide) rfl ?_
    refine r_goto (q := 18) dX12_image_46 (by decide) ?_
    exact ih (i + 1) _ (by omega) hs  (fun S2 h => K S2 (h.trans (cpR_step_s (by omega) (by decide))))

def imM (S : zS) (m : Nat) : zS := sI (sJ (sJ (sJ (cpR (sI S 12 0 0 (nI 0)) 1306 0 1391 0 0 (3775 * m) 0 3775) 1392 0 ((3 * m) + 0) (gJ (cpR (sI S 12 0 0 (nI 0)) 1306 0 1391 0 0 (3775 * m) 0 3775) 1308 0 0)) 1392 0 ((3 * m) + 1) (gJ (cpR (sI S 12 0 0 (nI 0)) 1306 0 1391 0 0 (3775 * m) 0 3775) 1308 0 1)) 1392 0 ((3 * m) + 2) (gJ (cpR (sI S 12 0 0 (nI 0)) 1306 0 1391 0 0 (3775 * m) 0 3775) 1308 0 2)) 1393 0 m (nI 1)
set_option maxRecDepth 100000 in
theorem ok_X12_image_in {S : zS} (hs : Sd S) {m : Nat} (hm : m < 2) : Ok mX12_image 0 (ent 3 [zr 12 0, zi (nI m)]) [] S (fun r S1 => r = some (zi (nI 1)) ∧ S1 = imM S m) := by
  show Ok mX12_image 0 [some (zr 12 0), some (zi (nI m)), none] [] S _
  refine r_aload_n (q := 1) dX12_image_0 rfl rfl rfl ?_
  refine r_iconst (q := 2) (nI 0) dX12_image_1 rfl (by decide) ?_
  refine r_puti (q := 5) ck12 dX12_image_2 rfl (k := 0) (by decide) wt1278 (Or.inl rfl) rfl (hs.e (by decide)) ?_
  refine r_iload_n (q := 6) dX12_image_5 rfl rfl rfl ?_
  refine r_iconst (q := 7) (nI 0) dX12_image_6 rfl (by decide) ?_
  refine r_iconst (q := 8) (nI 1) dX12_image_7 rfl (by decide) ?_
  refine r_callS (Mc := mX12_isIn) (q := 11) (As := [zi (nI m), zi (nI 0), zi (nI 1)]) (st := []) dX12_image_8 rfl rfl mkX12_isIn wt1614 wt1615 rfl (Nat.le_of_ble_eq_true rfl) (Nat.le_of_ble_eq_true rfl) (by decide) (by decide) (by decide) (Or.inl rfl) hs.some (ok_X12_isIn_in (S := sI S 12 0 0 (nI 0)) (by omega) (by omega) (by omega)) (fun r8 S8 hp8 => ?_)
  obtain ⟨rfl, hq8⟩ := hp8
  rw [hq8]
  show Ok _ _ _ [zi (nI 1)] _ _
  refine r_if_neN (q := 14) (t := 16) (by omega) dX12_image_11 (by decide) rfl (fun h11 => ?_) (fun h11 => absurd h11 (by omega))
  refine r_iconst (q := 17) (nI 0) dX12_image_16 rfl (by decide) ?_
  refine r_istore_n (q := 18) (L' := [some (zr 12 0), some (zi (nI m)), some (zi (nI 0))]) dX12_image_17 rfl rfl (by decide) rfl ?_
  refine lp_image hm 3775 0 (sI S 12 0 0 (nI 0)) rfl hs (fun S2 h2 => ?_)
  subst h2
  refine r_iconst (q := 50) (nI 0) dX12_image_49 rfl (by decide) ?_
  refine r_istore_n (q := 51) (L' := [some (zr 12 0), some (zi (nI m)), some (zi (nI 0))]) dX12_image_50 rfl rfl (by decide) rfl ?_
  refine r_iload_n (q := 52) dX12_image_51 rfl rfl rfl ?_
  refine r_iconst (q := 53) (nI 3) dX12_image_52 rfl (by decide) ?_
  refine r_icmp_geN (q := 56) (t := 78) (by omega) (by omega) dX12_image_53 (by decide) rfl (fun h53 => absurd h53 (by omega)) (fun h53 => ?_)
  refine r_aload_n (q := 57) dX12_image_56 rfl rfl rfl ?_
  refine r_getr (q := 60) (some (1392, 0)) ck12 dX12_image_57 rfl (k := 92) (by decide) wt1370 rfl (hs.e (by decide)) (hs.r (by decide) (by decide)) ?_
  refine r_iconst (q := 61) (nI 3) dX12_image_60 rfl (by decide) ?_
  refine r_iload_n (q := 62) dX12_image_61 rfl rfl rfl ?_
  refine r_imulN (q := 63) dX12_image_62 rfl ?_
  refine r_iload_n (q := 64) dX12_image_63 rfl rfl rfl ?_
  refine r_iaddN (q := 65) dX12_image_64 rfl ?_
  refine r_aload_n (q := 66) dX12_image_65 rfl rfl rfl ?_
  refine r_getr (q := 69) (some (1308, 0)) ck12 dX12_image_66 rfl (k := 8) (by decide) wt1286 rfl (hs.e (by decide)) (hs.r (by decide) (by decide)) ?_
  refine r_iload_n (q := 70) dX12_image_69 rfl rfl rfl ?_
  refine r_laldN (q := 71) 6 (by decide) rfl dX12_image_70 rfl (hs.e (by decide)) (hs.n rfl (by decide)) (by omega) (by decide) ?_
  refine r_lastN (q := 72) 6 (by decide) rfl dX12_image_71 rfl (hs.e (by decide)) (hs.n rfl (by decide)) (by omega) (by decide) ?_
  refine r_iincN (q := 75) (L' := [some (zr 12 0), some (zi (nI m)), some (zi (nI 1))]) 1 rfl dX12_image_72 rfl rfl (by decide) rfl ?_
  refine r_goto (q := 51) dX12_image_75 (by decide) ?_
  refine r_iload_n (q := 52) dX12_image_51 rfl rfl rfl ?_
  refine r_iconst (q := 53) (nI 3) dX12_image_52 rfl (by decide) ?_
  refine r_icmp_geN (q := 56) (t := 78) (by omega) (by omega) dX12_image_53 (by decide) rfl (fun h53 => absurd h53 (by omega)) (fun h53 => ?_)
  refine r_aload_n (q := 57) dX12_image_56 rfl rfl rfl ?_
  refine r_getr (q := 60) (some (1392, 0)) ck12 dX12_image_57 rfl (k := 92) (by decide) wt1370 rfl (hs.e (by decide)) (hs.r (by decide) (by decide)) ?_
  refine r_iconst (q := 61) (nI 3) dX12_image_60 rfl (by decide) ?_
  refine r_iload_n (q := 62) dX12_image_61 rfl rfl rfl ?_
  refine r_imulN (q := 63) dX12_image_62 rfl ?_
  refine r_iload_n (q := 64) dX12_image_63 rfl rfl rfl ?_
  refine r_iaddN (q := 65) dX12_image_64 rfl ?_
  refine r_aload_n (q := 66) dX12_image_65 rfl rfl rfl ?_
  refine r_getr (q := 69) (some (1308, 0)) ck12 dX12_image_66 rfl (k := 8) (by decide) wt1286 rfl (hs.e (by decide)) (hs.r (by decide) (by decide)) ?_
  refine r_iload_n (q := 70) dX12_image_69 rfl rfl rfl ?_
  refine r_laldN (q := 71) 6 (by decide) rfl dX12_image_70 rfl (hs.e (by decide)) (hs.n rfl (by decide)) (by omega) (by decide) ?_
  refine r_topl (y := gJ (cpR (sI S 12 0 0 (nI 0)) 1306 0 1391 0 0 (3775 * m) 0 3775) 1308 0 1) (by simp [gI_sI, gJ_sJ, gI_sJ, gJ_sI]) ?_
  refine r_lastN (q := 72) 6 (by decide) rfl dX12_image_71 rfl (hs.e (by decide)) (hs.n rfl (by decide)) (by omega) (by decide) ?_
  refine r_iincN (q := 75) (L' := [some (zr 12 0), some (zi (nI m)), some (zi (nI 2))]) 1 rfl dX12_image_72 rfl rfl (by decide) rfl ?_
  refine r_goto (q := 51) dX12_image_75 (by decide) ?_
  refine r_iload_n (q := 52) dX12_image_51 rfl rfl rfl ?_
  refine r_iconst (q := 53) (nI 3) dX12_image_52 rfl (by decide) ?_
  refine r_icmp_geN (q := 56) (t := 78) (by omega) (by omega) dX12_image_53 (by decide) rfl (fun h53 => absurd h53 (by omega)) (fun h53 => ?_)
  refine r_aload_n (q := 57) dX12_image_56 rfl rfl rfl ?_
  refine r_getr (q := 60) (some (1392, 0)) ck12 dX12_image_57 rfl (k := 92) (by decide) wt1370 rfl (hs.e (by decide)) (hs.r (by decide) (by decide)) ?_
  refine r_iconst (q := 61) (nI 3) dX12_image_60 rfl (by decide) ?_
  refine r_iload_n (q := 62) dX12_image_61 rfl rfl rfl ?_
  refine r_imulN (q := 63) dX12_image_62 rfl ?_
  refine r_iload_n (q := 64) dX12_image_63 rfl rfl rfl ?_
  refine r_iaddN (q := 65) dX12_image_64 rfl ?_
  refine r_aload_n (q := 66) dX12_image_65 rfl rfl rfl ?_
  refine r_getr (q := 69) (some (1308, 0)) ck12 dX12_image_66 rfl (k := 8) (by decide) wt1286 rfl (hs.e (by decide)) (hs.r (by decide) (by decide)) ?_
  refine r_iload_n (q := 70) dX12_image_69 rfl rfl rfl ?_
  refine r_laldN (q := 71) 6 (by decide) rfl dX12_image_70 rfl (hs.e (by decide)) (hs.n rfl (by decide)) (by omega) (by decide) ?_
  refine r_topl (y := gJ (cpR (sI S 12 0 0 (nI 0)) 1306 0 1391 0 0 (3775 * m) 0 3775) 1308 0 2) (by simp [gI_sI, gJ_sJ, gI_sJ, gJ_sI]) ?_
  refine r_lastN (q := 72) 6 (by decide) rfl dX12_image_71 rfl (hs.e (by decide)) (hs.n rfl (by decide)) (by omega) (by decide) ?_
  refine r_iincN (q := 75) (L' := [some (zr 12 0), some (zi (nI m)), some (zi (nI 3))]) 1 rfl dX12_image_72 rfl rfl (by decide) rfl ?_
  refine r_goto (q := 51) dX12_image_75 (by decide) ?_
  refine r_iload_n (q := 52) dX12_image_51 rfl rfl rfl ?_
  refine r_iconst (q := 53) (nI 3) dX12_image_52 rfl (by decide) ?_
  refine r_icmp_geN (q := 56) (t := 78) (by omega) (by omega) dX12_image_53 (by decide) rfl (fun h53 => ?_) (fun h53 => absurd h53 (by omega))
  refine r_aload_n (q := 79) dX12_image_78 rfl rfl rfl ?_
  refine r_getr (q := 82) (some (1393, 0)) ck12 dX12_image_79 rfl (k := 93) (by decide) wt1371 rfl (hs.e (by decide)) (hs.r (by decide) (by decide)) ?_
  refine r_iload_n (q := 83) dX12_image_82 rfl rfl rfl ?_
  refine r_iconst (q := 84) (nI 1) dX12_image_83 rfl (by decide) ?_
  refine r_zastN (q := 85) (by decide) 2 (by decide) rfl dX12_image_84 rfl (hs.e (by decide)) (hs.n rfl (by decide)) (by omega) (by decide) ?_
  refine r_iconst (q := 86) (nI 1) dX12_image_85 rfl (by decide) ?_
  refine r_zreturn (by decide) dX12_image_86 rfl ?_
  exact ⟨rfl, rfl⟩

set_option maxRecDepth 100000 in
theorem ok_X12_image_out {S : zS} (hs : Sd S) {a : Int32} (ha : ¬ (nI 0 ≤ a ∧ a ≤ nI 1)) : Ok mX12_image 0 (ent 3 [zr 12 0, zi a]) [] S (fun r S1 => r = some (zi (nI 0)) ∧ S1 = sI S 12 0 0 (nI 0)) := by
  show Ok mX12_image 0 [some (zr 12 0), some (zi a), none] [] S _
  refine r_aload_n (q := 1) dX12_image_0 rfl rfl rfl ?_
  refine r_iconst (q := 2) (nI 0) dX12_image_1 rfl (by decide) ?_
  refine r_puti (q := 5) ck12 dX12_image_2 rfl (k := 0) (by decide) wt1278 (Or.inl rfl) rfl (hs.e (by decide)) ?_
  refine r_iload_n (q := 6) dX12_image_5 rfl rfl rfl ?_
  refine r_iconst (q := 7) (nI 0) dX12_image_6 rfl (by decide) ?_
  refine r_iconst (q := 8) (nI 1) dX12_image_7 rfl (by decide) ?_
  refine r_callS (Mc := mX12_isIn) (q := 11) (As := [zi a, zi (nI 0), zi (nI 1)]) (st := []) dX12_image_8 rfl rfl mkX12_isIn wt1614 wt1615 rfl (Nat.le_of_ble_eq_true rfl) (Nat.le_of_ble_eq_true rfl) (by decide) (by decide) (by decide) (Or.inl rfl) hs.some (ok_X12_isIn_out (S := sI S 12 0 0 (nI 0)) ha) (fun r8 S8 hp8 => ?_)
  obtain ⟨rfl, hq8⟩ := hp8
  rw [hq8]
  show Ok _ _ _ [zi (nI 0)] _ _
  refine r_if_neN (q := 14) (t := 16) (by omega) dX12_image_11 (by decide) rfl (fun h11 => absurd h11 (by omega)) (fun h11 => ?_)
  refine r_iconst (q := 15) (nI 0) dX12_image_14 rfl (by decide) ?_
  refine r_zreturn (by decide) dX12_image_15 rfl ?_
  exact ⟨rfl, rfl⟩

theorem tbc_x {S : zS} {j i x y k : Nat} (h1 : x ≠ 7) (h2 : x ≠ 801) : gI (tbc S j i) x y k = gI S x y k := by
  unfold tbc
  rw [gI_cpS, if_neg (fun z => h2 z.1), gI_sI, if_neg (fun z => h1 z.1)]
set_option maxRecDepth 100000 in
theorem ok_X11_image_in {S : zS} (hs : Sd S) {m : Nat} (hm : m < 2) {e n o : Nat} (h2 : gN S 902 (m + 1) = n) (h3 : gN S 903 (m + 1) = n) (hn : 1 ≤ n) (hn9 : n ≤ 1200) (he : e ≤ 1200) (hte : gI S 8 0 1 = nI e) (i2 : gN S 902 0 = o) (i3 : gN S 903 0 = o) (heo : e ≤ o) (ho : o ≤ 1200) : Ok mX11_image 0 (ent 2 [zr 11 0, zi (nI m)]) [] S (fun r S1 => r = some (zi (nI 1)) ∧ S1 = tcp (tbc (sI S 1204 0 m (gI S 11 0 3)) (m + 1) 0) (m + 1) 0 e n) := by
  show Ok mX11_image 0 [some (zr 11 0), some (zi (nI m))] [] S _
  refine r_iload_n (q := 1) dX11_image_0 rfl rfl rfl ?_
  refine r_if_ltN (q := 4) (t := 9) (by omega) dX11_image_1 (by decide) rfl ?_
  refine r_iload_n (q := 5) dX11_image_4 rfl rfl rfl ?_
  refine r_iconst (q := 6) (nI 2) dX11_image_5 rfl (by decide) ?_
  refine r_icmp_ltN (q := 9) (t := 11) (by omega) (by omega) dX11_image_6 (by decide) rfl (fun h6 => ?_) (fun h6 => absurd h6 (by omega))
  refine r_aload_n (q := 12) dX11_image_11 rfl rfl rfl ?_
  refine r_getr (q := 15) (some (1204, 0)) ck11 dX11_image_12 rfl (k := 4) (by decide) wt426 rfl (hs.e (by decide)) (hs.r (by decide) (by decide)) ?_
  refine r_iload_n (q := 16) dX11_image_15 rfl rfl rfl ?_
  refine r_aload_n (q := 17) dX11_image_16 rfl rfl rfl ?_
  refine r_geti (q := 20) ck11 dX11_image_17 rfl (k := 3) (by decide) wt425 (Or.inl rfl) (hs.e (by decide)) ?_
  refine r_iastN (q := 21) 2 (by decide) rfl dX11_image_20 rfl (hs.e (by decide)) (hs.n rfl (by decide)) (by omega) (by decide) ?_
  refine r_aload_n (q := 22) dX11_image_21 rfl rfl rfl ?_
  refine r_getr (q := 25) (some (1206, 0)) ck11 dX11_image_22 rfl (k := 6) (by decide) wt428 rfl (hs.e (by decide)) (hs.r (by decide) (by decide)) ?_
  refine r_iload_n (q := 26) dX11_image_25 rfl rfl rfl ?_
  refine r_aaldN (q := 27) (some (7, m + 1)) 2 (by decide) (by decide) (by decide) dX11_image_26 rfl (hs.e (by decide)) (hs.n rfl (by decide)) (show m < 2 by omega) (by decide) ((hs.r (by decide) (show m < 2 by omega)).trans (if_pos (show m < 2 by omega))) ?_
  refine r_aload_n (q := 28) dX11_image_27 rfl rfl rfl ?_
  refine r_getr (q := 31) (some (7, 0)) ck11 dX11_image_28 rfl (k := 5) (by decide) wt427 rfl (hs.e (by decide)) (hs.r (by decide) (by decide)) ?_
  refine r_callV (Mc := mX7_copy) (q := 34) (As := [zr 7 0]) (st := []) ck7 dX11_image_31 rfl rfl mkX7_copy wt1153 wt1154 wt1155 rfl (Nat.le_of_ble_eq_true rfl) (Nat.le_of_ble_eq_true rfl) (by decide) (by decide) (by decide) (Or.inl rfl) (hs.e (show m + 1 < 3 by omega)) (ok_X7_copy (S := sI S 1204 0 m (gI S 11 0 3)) (j := m + 1) (i := 0) hs (by omega) (by omega)) (fun r31 S31 hp31 => ?_)
  obtain ⟨rfl, hq31⟩ := hp31
  subst hq31
  show Ok _ _ _ [] _ _
  refine r_aload_n (q := 35) dX11_image_34 rfl rfl rfl ?_
  refine r_getr (q := 38) (some (1208, 0)) ck11 dX11_image_35 rfl (k := 8) (by decide) wt430 rfl (hs.e (by decide)) (hs.r (by decide) (by decide)) ?_
  refine r_iload_n (q := 39) dX11_image_38 rfl rfl rfl ?_
  refine r_aaldN (q := 40) (some (8, m + 1)) 2 (by decide) (by decide) (by decide) dX11_image_39 rfl (hs.e (by decide)) (hs.n rfl (by decide)) (show m < 2 by omega) (by decide) ((hs.r (by decide) (show m < 2 by omega)).trans (if_pos (show m < 2 by omega))) ?_
  refine r_aload_n (q := 41) dX11_image_40 rfl rfl rfl ?_
  refine r_getr (q := 44) (some (8, 0)) ck11 dX11_image_41 rfl (k := 7) (by decide) wt429 rfl (hs.e (by decide)) (hs.r (by decide) (by decide)) ?_
  have hte2 : gI (tbc (sI S 1204 0 m (gI S 11 0 3)) (m + 1) 0) 8 0 1 = nI e := (tbc_x (by decide) (by decide)).trans (by rw [gI_sI, if_neg (fun z => absurd z.1 (by decide))]; exact hte)
  refine r_callV (Mc := mX8_copy) (q := 47) (As := [zr 8 0]) (st := []) ck8 dX11_image_44 rfl rfl mkX8_copy wt707 wt708 wt709 rfl (Nat.le_of_ble_eq_true rfl) (Nat.le_of_ble_eq_true rfl) (by decide) (by decide) (by decide) (Or.inr ⟨Nat.le_of_ble_eq_true rfl, rfl, rfl⟩) (hs.e (show m + 1 < 19 by omega)) (ok_X8_copy (S := tbc (sI S 1204 0 m (gI S 11 0 3)) (m + 1) 0) (j := m + 1) (i := 0) (e := e) (n := n) hs (by omega) h2 h3 hn hn9 he (by omega) (by omega) hte2 i2 i3 heo ho) (fun r44 S44 hp44 => ?_)
  obtain ⟨rfl, hq44⟩ := hp44
  subst hq44
  have hs44 : Sd (tcp (tbc (sI S 1204 0 m (gI S 11 0 3)) (m + 1) 0) (m + 1) 0 e n) := sd_tcp (S := tbc (sI S 1204 0 m (gI S 11 0 3)) (m + 1) 0) hs
  show Ok _ _ _ [] _ _
  refine r_iconst (q := 48) (nI 1) dX11_image_47 rfl (by decide) ?_
  refine r_zreturn (by decide) dX11_image_48 rfl ?_
  exact ⟨rfl, rfl⟩

set_option maxRecDepth 100000 in
theorem ok_X11_image_out {S : zS} (hs : Sd S) {a : Int32} (ha : ¬ (0 ≤ a ∧ a < nI 2)) : Ok mX11_image 0 (ent 2 [zr 11 0, zi a]) [] S (fun r S1 => r = some (zi (nI 0)) ∧ S1 = S) := by
  show Ok mX11_image 0 [some (zr 11 0), some (zi a)] [] S _
  refine r_iload_n (q := 1) dX11_image_0 rfl rfl rfl ?_
  refine r_if_lt (q := 4) (t := 9) dX11_image_1 (by decide) rfl (fun h1 => ?_) (fun h1 => ?_)
  · skip
    refine r_iconst (q := 10) (nI 0) dX11_image_9 rfl (by decide) ?_
    refine r_zreturn (by decide) dX11_image_10 rfl ?_
    exact ⟨rfl, rfl⟩
  · skip
    refine r_iload_n (q := 5) dX11_image_4 rfl rfl rfl ?_
    refine r_iconst (q := 6) (nI 2) dX11_image_5 rfl (by decide) ?_
    refine r_icmp_lt (q := 9) (t := 11) dX11_image_6 (by decide) rfl (fun h6 => absurd ⟨Int32.not_lt.mp h1, h6⟩ ha) (fun h6 => ?_)
    refine r_iconst (q := 10) (nI 0) dX11_image_9 rfl (by decide) ?_
    refine r_zreturn (by decide) dX11_image_10 rfl ?_
    exact ⟨rfl, rfl⟩

set_option maxRecDepth 100000 in
theorem ok_X11_basisKept_in {S : zS} (hs : Sd S) {m s : Nat} (hm : m < 2) (hk : gI S 1204 0 m = nI s) (h4 : s < 4) : Ok mX11_basisKept 0 (ent 3 [zr 11 0, zi (nI m)]) [] S (fun r S1 => r = some (zr 0 s) ∧ S1 = S) := by
  show Ok mX11_basisKept 0 [some (zr 11 0), some (zi (nI m)), none] [] S _
  refine r_iload_n (q := 1) dX11_basisKept_0 rfl rfl rfl ?_
  refine r_if_ltN (q := 4) (t := 9) (by omega) dX11_basisKept_1 (by decide) rfl ?_
  refine r_iload_n (q := 5) dX11_basisKept_4 rfl rfl rfl ?_
  refine r_iconst (q := 6) (nI 2) dX11_basisKept_5 rfl (by decide) ?_
  refine r_icmp_ltN (q := 9) (t := 11) (by omega) (by omega) dX11_basisKept_6 (by decide) rfl (fun h6 => ?_) (fun h6 => absurd h6 (by omega))
  refine r_aload_n (q := 12) dX11_basisKept_11 rfl rfl rfl ?_
  refine r_getr (q := 15) (some (1204, 0)) ck11 dX11_basisKept_12 rfl (k := 4) (by decide) wt426 rfl (hs.e (by decide)) (hs.r (by decide) (by decide)) ?_
  refine r_iload_n (q := 16) dX11_basisKept_15 rfl rfl rfl ?_
  refine r_ialdN (q := 17) 2 (by decide) rfl dX11_basisKept_16 rfl (hs.e (by decide)) (hs.n rfl (by decide)) (by omega) (by decide) ?_
  refine r_topi (y := nI s) hk ?_
  refine r_istore_n (q := 18) (L' := [some (zr 11 0), some (zi (nI m)), some (zi (nI s))]) dX11_basisKept_17 rfl rfl (by decide) rfl ?_
  refine r_iload_n (q := 19) dX11_basisKept_18 rfl rfl rfl ?_
  refine r_if_ltN (q := 22) (t := 31) (by omega) dX11_basisKept_19 (by decide) rfl ?_
  refine r_iload_n (q := 23) dX11_basisKept_22 rfl rfl rfl ?_
  refine r_aload_n (q := 24) dX11_basisKept_23 rfl rfl rfl ?_
  refine r_getr (q := 27) (some (1202, 0)) ck11 dX11_basisKept_24 rfl (k := 2) (by decide) wt424 rfl (hs.e (by decide)) (hs.r (by decide) (by decide)) ?_
  refine r_alen (q := 28) (by decide) (by decide) dX11_basisKept_27 rfl (hs.e (by decide)) ?_
  refine r_topi (y := nI 4) (congrArg nI (hs.n rfl (by decide))) ?_
  refine r_icmp_ltN (q := 31) (t := 35) (by omega) (by omega) dX11_basisKept_28 (by decide) rfl (fun h28 => ?_) (fun h28 => absurd h28 (by omega))
  refine r_aload_n (q := 36) dX11_basisKept_35 rfl rfl rfl ?_
  refine r_getr (q := 39) (some (1202, 0)) ck11 dX11_basisKept_36 rfl (k := 2) (by decide) wt424 rfl (hs.e (by decide)) (hs.r (by decide) (by decide)) ?_
  refine r_iload_n (q := 40) dX11_basisKept_39 rfl rfl rfl ?_
  refine r_aaldN (q := 41) (some (0, s)) 4 (by decide) (by decide) (by decide) dX11_basisKept_40 rfl (hs.e (by decide)) (hs.n rfl (by decide)) (show s < 4 by omega) (by decide) ((hs.r (by decide) (show s < 4 by omega)).trans (if_pos (show s < 4 by omega))) ?_
  refine r_areturn dX11_basisKept_41 rfl (Or.inl ⟨_, rfl⟩) ?_
  exact ⟨rfl, rfl⟩

set_option maxRecDepth 100000 in
theorem ok_X11_basisKept_no {S : zS} (hs : Sd S) {m : Nat} (hm : m < 2) (hk : gI S 1204 0 m = -1) : Ok mX11_basisKept 0 (ent 3 [zr 11 0, zi (nI m)]) [] S (fun r S1 => r = some zn ∧ S1 = S) := by
  show Ok mX11_basisKept 0 [some (zr 11 0), some (zi (nI m)), none] [] S _
  refine r_iload_n (q := 1) dX11_basisKept_0 rfl rfl rfl ?_
  refine r_if_ltN (q := 4) (t := 9) (by omega) dX11_basisKept_1 (by decide) rfl ?_
  refine r_iload_n (q := 5) dX11_basisKept_4 rfl rfl rfl ?_
  refine r_iconst (q := 6) (nI 2) dX11_basisKept_5 rfl (by decide) ?_
  refine r_icmp_ltN (q := 9) (t := 11) (by omega) (by omega) dX11_basisKept_6 (by decide) rfl (fun h6 => ?_) (fun h6 => absurd h6 (by omega))
  refine r_aload_n (q := 12) dX11_basisKept_11 rfl rfl rfl ?_
  refine r_getr (q := 15) (some (1204, 0)) ck11 dX11_basisKept_12 rfl (k := 4) (by decide) wt426 rfl (hs.e (by decide)) (hs.r (by decide) (by decide)) ?_
  refine r_iload_n (q := 16) dX11_basisKept_15 rfl rfl rfl ?_
  refine r_ialdN (q := 17) 2 (by decide) rfl dX11_basisKept_16 rfl (hs.e (by decide)) (hs.n rfl (by decide)) (by omega) (by decide) ?_
  refine r_topi (y := (-1 : Int32)) hk ?_
  refine r_istore_n (q := 18) (L' := [some (zr 11 0), some (zi (nI m)), some (zi (-1 : Int32))]) dX11_basisKept_17 rfl rfl (by decide) rfl ?_
  refine r_iload_n (q := 19) dX11_basisKept_18 rfl rfl rfl ?_
  refine r_if_lt (q := 22) (t := 31) dX11_basisKept_19 (by decide) rfl (fun h19 => ?_) (fun h19 => absurd h19 (by decide))
  refine r_null (q := 32) dX11_basisKept_31 rfl ?_
  refine r_goto (q := 41) dX11_basisKept_32 (by decide) ?_
  refine r_areturn dX11_basisKept_41 rfl (Or.inl ⟨_, rfl⟩) ?_
  exact ⟨rfl, rfl⟩

set_option maxRecDepth 100000 in
theorem ok_X11_basisKept_out {S : zS} (hs : Sd S) {a : Int32} (ha : ¬ (0 ≤ a ∧ a < nI 2)) : Ok mX11_basisKept 0 (ent 3 [zr 11 0, zi a]) [] S (fun r S1 => r = some zn ∧ S1 = S) := by
  show Ok mX11_basisKept 0 [some (zr 11 0), some (zi a), none] [] S _
  refine r_iload_n (q := 1) dX11_basisKept_0 rfl rfl rfl ?_
  refine r_if_lt (q := 4) (t := 9) dX11_basisKept_1 (by decide) rfl (fun h1 => ?_) (fun h1 => ?_)
  · skip
    refine r_null (q := 10) dX11_basisKept_9 rfl ?_
    refine r_areturn dX11_basisKept_10 rfl (Or.inl ⟨_, rfl⟩) ?_
    exact ⟨rfl, rfl⟩
  · skip
    refine r_iload_n (q := 5) dX11_basisKept_4 rfl rfl rfl ?_
    refine r_iconst (q := 6) (nI 2) dX11_basisKept_5 rfl (by decide) ?_
    refine r_icmp_lt (q := 9) (t := 11) dX11_basisKept_6 (by decide) rfl (fun h6 => absurd ⟨Int32.not_lt.mp h1, h6⟩ ha) (fun h6 => ?_)
    refine r_null (q := 10) dX11_basisKept_9 rfl ?_
    refine r_areturn dX11_basisKept_10 rfl (Or.inl ⟨_, rfl⟩) ?_
    exact ⟨rfl, rfl⟩

set_option maxRecDepth 100000 in
theorem ok_X11_restore_in {S : zS} (hs : Sd S) {m s : Nat} (hm : m < 2) (hk : gI S 1204 0 m = nI s) (h4 : s < 4) {e n o : Nat} (h2 : gN S 902 0 = n) (h3 : gN S 903 0 = n) (hn : 1 ≤ n) (hn9 : n ≤ 1200) (he : e ≤ 1200) (hte : gI S 8 (m + 1) 1 = nI e) (i2 : gN S 902 (m + 1) = o) (i3 : gN S 903 (m + 1) = o) (heo : e ≤ o) (ho : o ≤ 1200) : Ok mX11_restore 0 (ent 2 [zr 11 0, zi (nI m)]) [] S (fun r S1 => r = some (zi (nI 1)) ∧ S1 = sI (tcp (tbc (sI S 11 0 3 (gI S 1204 0 m)) 0 (m + 1)) 0 (m + 1) e n) 11 0 10 (nI 0)) := by
  show Ok mX11_restore 0 [some (zr 11 0), some (zi (nI m))] [] S _
  refine r_aload_n (q := 1) dX11_restore_0 rfl rfl rfl ?_
  refine r_iload_n (q := 2) dX11_restore_1 rfl rfl rfl ?_
  refine r_callV (Mc := mX11_basisKept) (q := 5) (As := [zi (nI m)]) (st := []) ck11 dX11_restore_2 rfl rfl mkX11_basisKept wt1037 wt1039 wp55 rfl (Nat.le_of_ble_eq_true rfl) (Nat.le_of_ble_eq_true rfl) (by decide) (by decide) (by decide) (Or.inl rfl) (hs.e (by decide)) (ok_X11_basisKept_in (S := S) hs hm hk h4) (fun r2 S2 hp2 => ?_)
  obtain ⟨rfl, hq2⟩ := hp2
  rw [hq2]
  show Ok _ _ _ [zr 0 s] _ _
  refine r_ifnonnull (q := 8) (t := 10) (r := some (0, s)) dX11_restore_5 (by decide) rfl (fun _ => ?_) (fun z => by cases z)
  refine r_aload_n (q := 11) dX11_restore_10 rfl rfl rfl ?_
  refine r_aload_n (q := 12) dX11_restore_11 rfl rfl rfl ?_
  refine r_getr (q := 15) (some (1204, 0)) ck11 dX11_restore_12 rfl (k := 4) (by decide) wt426 rfl (hs.e (by decide)) (hs.r (by decide) (by decide)) ?_
  refine r_iload_n (q := 16) dX11_restore_15 rfl rfl rfl ?_
  refine r_ialdN (q := 17) 2 (by decide) rfl dX11_restore_16 rfl (hs.e (by decide)) (hs.n rfl (by decide)) (by omega) (by decide) ?_
  refine r_puti (q := 20) ck11 dX11_restore_17 rfl (k := 3) (by decide) wt425 (Or.inl rfl) rfl (hs.e (by decide)) ?_
  refine r_aload_n (q := 21) dX11_restore_20 rfl rfl rfl ?_
  refine r_getr (q := 24) (some (7, 0)) ck11 dX11_restore_21 rfl (k := 5) (by decide) wt427 rfl (hs.e (by decide)) (hs.r (by decide) (by decide)) ?_
  refine r_aload_n (q := 25) dX11_restore_24 rfl rfl rfl ?_
  refine r_getr (q := 28) (some (1206, 0)) ck11 dX11_restore_25 rfl (k := 6) (by decide) wt428 rfl (hs.e (by decide)) (hs.r (by decide) (by decide)) ?_
  refine r_iload_n (q := 29) dX11_restore_28 rfl rfl rfl ?_
  refine r_aaldN (q := 30) (some (7, m + 1)) 2 (by decide) (by decide) (by decide) dX11_restore_29 rfl (hs.e (by decide)) (hs.n rfl (by decide)) (show m < 2 by omega) (by decide) ((hs.r (by decide) (show m < 2 by omega)).trans (if_pos (show m < 2 by omega))) ?_
  refine r_callV (Mc := mX7_copy) (q := 33) (As := [zr 7 (m + 1)]) (st := []) ck7 dX11_restore_30 rfl rfl mkX7_copy wt1153 wt1154 wt1155 rfl (Nat.le_of_ble_eq_true rfl) (Nat.le_of_ble_eq_true rfl) (by decide) (by decide) (by decide) (Or.inl rfl) (hs.e (by decide)) (ok_X7_copy (S := sI S 11 0 3 (gI S 1204 0 m)) (j := 0) (i := m + 1) hs (by omega) (by omega)) (fun r30 S30 hp30 => ?_)
  obtain ⟨rfl, hq30⟩ := hp30
  subst hq30
  show Ok _ _ _ [] _ _
  refine r_aload_n (q := 34) dX11_restore_33 rfl rfl rfl ?_
  refine r_getr (q := 37) (some (8, 0)) ck11 dX11_restore_34 rfl (k := 7) (by decide) wt429 rfl (hs.e (by decide)) (hs.r (by decide) (by decide)) ?_
  refine r_aload_n (q := 38) dX11_restore_37 rfl rfl rfl ?_
  refine r_getr (q := 41) (some (1208, 0)) ck11 dX11_restore_38 rfl (k := 8) (by decide) wt430 rfl (hs.e (by decide)) (hs.r (by decide) (by decide)) ?_
  refine r_iload_n (q := 42) dX11_restore_41 rfl rfl rfl ?_
  refine r_aaldN (q := 43) (some (8, m + 1)) 2 (by decide) (by decide) (by decide) dX11_restore_42 rfl (hs.e (by decide)) (hs.n rfl (by decide)) (show m < 2 by omega) (by decide) ((hs.r (by decide) (show m < 2 by omega)).trans (if_pos (show m < 2 by omega))) ?_
  have hte2 : gI (tbc (sI S 11 0 3 (gI S 1204 0 m)) 0 (m + 1)) 8 (m + 1) 1 = nI e := (tbc_x (by decide) (by decide)).trans (by rw [gI_sI, if_neg (fun z => absurd z.1 (by decide))]; exact hte)
  refine r_callV (Mc := mX8_copy) (q := 46) (As := [zr 8 (m + 1)]) (st := []) ck8 dX11_restore_43 rfl rfl mkX8_copy wt707 wt708 wt709 rfl (Nat.le_of_ble_eq_true rfl) (Nat.le_of_ble_eq_true rfl) (by decide) (by decide) (by decide) (Or.inr ⟨Nat.le_of_ble_eq_true rfl, rfl, rfl⟩) (hs.e (by decide)) (ok_X8_copy (S := tbc (sI S 11 0 3 (gI S 1204 0 m)) 0 (m + 1)) (j := 0) (i := m + 1) (e := e) (n := n) hs (by omega) h2 h3 hn hn9 he (by omega) (by omega) hte2 i2 i3 heo ho) (fun r43 S43 hp43 => ?_)
  obtain ⟨rfl, hq43⟩ := hp43
  subst hq43
  have hs43 : Sd (tcp (tbc (sI S 11 0 3 (gI S 1204 0 m)) 0 (m + 1)) 0 (m + 1) e n) := sd_tcp (S := tbc (sI S 11 0 3 (gI S 1204 0 m)) 0 (m + 1)) hs
  show Ok _ _ _ [] _ _
  refine r_aload_n (q := 47) dX11_restore_46 rfl rfl rfl ?_
  refine r_iconst (q := 48) (nI 0) dX11_restore_47 rfl (by decide) ?_
  refine r_puti (q := 51) ck11 dX11_restore_48 rfl (k := 10) (by decide) wt432 (Or.inl rfl) rfl (hs43.e (by decide)) ?_
  refine r_iconst (q := 52) (nI 1) dX11_restore_51 rfl (by decide) ?_
  refine r_zreturn (by decide) dX11_restore_52 rfl ?_
  exact ⟨rfl, rfl⟩

set_option maxRecDepth 100000 in
theorem ok_X11_restore_no {S : zS} (hs : Sd S) {m : Nat} (hm : m < 2) (hk : gI S 1204 0 m = -1) : Ok mX11_restore 0 (ent 2 [zr 11 0, zi (nI m)]) [] S (fun r S1 => r = some (zi (nI 0)) ∧ S1 = S) := by
  show Ok mX11_restore 0 [some (zr 11 0), some (zi (nI m))] [] S _
  refine r_aload_n (q := 1) dX11_restore_0 rfl rfl rfl ?_
  refine r_iload_n (q := 2) dX11_restore_1 rfl rfl rfl ?_
  refine r_callV (Mc := mX11_basisKept) (q := 5) (As := [zi (nI m)]) (st := []) ck11 dX11_restore_2 rfl rfl mkX11_basisKept wt1037 wt1039 wp55 rfl (Nat.le_of_ble_eq_true rfl) (Nat.le_of_ble_eq_true rfl) (by decide) (by decide) (by decide) (Or.inl rfl) (hs.e (by decide)) (ok_X11_basisKept_no (S := S) hs hm hk) (fun r2 S2 hp2 => ?_)
  obtain ⟨rfl, hq2⟩ := hp2
  rw [hq2]
  show Ok _ _ _ [zn] _ _
  refine r_ifnonnull (q := 8) (t := 10) (r := none) dX11_restore_5 (by decide) rfl (fun z => absurd rfl z) (fun _ => ?_)
  refine r_iconst (q := 9) (nI 0) dX11_restore_8 rfl (by decide) ?_
  refine r_zreturn (by decide) dX11_restore_9 rfl ?_
  exact ⟨rfl, rfl⟩

set_option maxRecDepth 100000 in
theorem ok_X11_restore_out {S : zS} (hs : Sd S) {a : Int32} (ha : ¬ (0 ≤ a ∧ a < nI 2)) : Ok mX11_restore 0 (ent 2 [zr 11 0, zi a]) [] S (fun r S1 => r = some (zi (nI 0)) ∧ S1 = S) := by
  show Ok mX11_restore 0 [some (zr 11 0), some (zi a)] [] S _
  refine r_aload_n (q := 1) dX11_restore_0 rfl rfl rfl ?_
  refine r_iload_n (q := 2) dX11_restore_1 rfl rfl rfl ?_
  refine r_callV (Mc := mX11_basisKept) (q := 5) (As := [zi a]) (st := []) ck11 dX11_restore_2 rfl rfl mkX11_basisKept wt1037 wt1039 wp55 rfl (Nat.le_of_ble_eq_true rfl) (Nat.le_of_ble_eq_true rfl) (by decide) (by decide) (by decide) (Or.inl rfl) (hs.e (by decide)) (ok_X11_basisKept_out (S := S) hs ha) (fun r2 S2 hp2 => ?_)
  obtain ⟨rfl, hq2⟩ := hp2
  rw [hq2]
  show Ok _ _ _ [zn] _ _
  refine r_ifnonnull (q := 8) (t := 10) (r := none) dX11_restore_5 (by decide) rfl (fun z => absurd rfl z) (fun _ => ?_)
  refine r_iconst (q := 9) (nI 0) dX11_restore_8 rfl (by decide) ?_
  refine r_zreturn (by decide) dX11_restore_9 rfl ?_
  exact ⟨rfl, rfl⟩

set_option maxRecDepth 100000 in
theorem lp_restore {Po : Option zV → zS → Prop} {m : Nat} (hm : m < 2) : ∀ (d i : Nat) (S : zS), i + d = 3775 → Sd S → (∀ S2, S2 = cpR S 1391 0 1306 0 (3775 * m) 0 i 3775 → Ok mX12_restore 58 [some (zr 12 0), some (zi (nI m)), some (zi (nI 3775))] [] S2 Po) → Ok mX12_restore 27 [some (zr 12 0), some (zi (nI m)), some (zi (nI i))] [] S Po := by
  intro d
  induction d with
  | zero =>
    intro i S hi hs  K
    obtain rfl : i = 3775 := by omega
    refine r_iload_n (q := 28) dX12_restore_27 rfl rfl rfl ?_
    refine r_sipush (q := 31) (nI 3775) dX12_restore_28 rfl (by decide) ?_
    refine r_icmp_geN (q := 34) (t := 58) (by omega) (by omega) dX12_restore_31 (by decide) rfl (fun h31 => ?_) (fun h31 => absurd h31 (by omega))
    exact K _ (cpR_all.symm)
  | succ d ih =>
    intro i S hi hs  K
    refine r_iload_n (q := 28) dX12_restore_27 rfl rfl rfl ?_
    refine r_sipush (q := 31) (nI 3775) dX12_restore_28 rfl (by decide) ?_
    refine r_icmp_geN (q := 34) (t := 58) (by omega) (by omega) dX12_restore_31 (by decide) rfl (fun h31 => absurd h31 (by omega)) (fun h31 => ?_)
    refine r_aload_n (q := 35) dX12_restore_34 rfl rfl rfl ?_
    refine r_getr (q := 38) (some (1306, 0)) ck12 dX12_restore_35 rfl (k := 6) (by decide) wt1284 rfl (hs.e (by decide)) (hs.r (by decide) (by decide)) ?_
    refine r_iload_n (q := 39) dX12_restore_38 rfl rfl rfl ?_
    refine r_aload_n (q := 40) dX12_restore_39 rfl rfl rfl ?_
    refine r_getr (q := 43) (some (1391, 0)) ck12 dX12_restore_40 rfl (k := 91) (by decide) wt1369 rfl (hs.e (by decide)) (hs.r (by decide) (by decide)) ?_
    refine r_sipush (q := 46) (nI 3775) dX12_restore_43 rfl (by decide) ?_
    refine r_iload_n (q := 47) dX12_restore_46 rfl rfl rfl ?_
    refine r_imulN (q := 48) dX12_restore_47 rfl ?_
    refine r_iload_n (q := 49) dX12_restore_48 rfl rfl rfl ?_
    refine r_iaddN (q := 50) dX12_restore_49 rfl ?_
    refine r_ialdN (q := 51) 7550 (by decide) rfl dX12_restore_50 rfl (hs.e (by decide)) (hs.n rfl (by decide)) (by omega) (by decide) ?_
    refine r_iastN (q := 52) 3775 (by decide) rfl dX12_restore_51 rfl (hs.e (by decide)) (hs.n rfl (by decide)) (by omega) (by decide) ?_
    refine r_iincN (q := 55) (L' := [some (zr 12 0), some (zi (nI m)), some (zi (nI (i + 1)))]) 1 rfl dX12_restore_52 rfl rfl (by decide) rfl ?_
    refine r_goto (q := 27) dX12_restore_55 (by decide) ?_
    exact ih (i + 1) _ (by omega) hs  (fun S2 h => K S2 (h.trans (cpR_step_t (by omega) (by decide))))

def rsM (S : zS) (m : Nat) : zS := sI (sI (sJ (sJ (sJ (cpR (sI S 12 0 0 (nI 0)) 1391 0 1306 0 (3775 * m) 0 0 3775) 1308 0 0 (gJ (cpR (sI S 12 0 0 (nI 0)) 1391 0 1306 0 (3775 * m) 0 0 3775) 1392 0 ((3 * m) + 0))) 1308 0 1 (gJ (cpR (sI S 12 0 0 (nI 0)) 1391 0 1306 0 (3775 * m) 0 0 3775) 1392 0 ((3 * m) + 1))) 1308 0 2 (gJ (cpR (sI S 12 0 0 (nI 0)) 1391 0 1306 0 (3775 * m) 0 0 3775) 1392 0 ((3 * m) + 2))) 12 0 33 (-1 : Int32)) 12 0 58 (nI 0)
set_option maxRecDepth 100000 in
theorem ok_X12_restore_in {S : zS} (hs : Sd S) {m : Nat} (hm : m < 2) (hk : gI S 1393 0 m = nI 1) : Ok mX12_restore 0 (ent 3 [zr 12 0, zi (nI m)]) [] S (fun r S1 => r = some (zi (nI 1)) ∧ S1 = rsM S m) := by
  show Ok mX12_restore 0 [some (zr 12 0), some (zi (nI m)), none] [] S _
  refine r_aload_n (q := 1) dX12_restore_0 rfl rfl rfl ?_
  refine r_iconst (q := 2) (nI 0) dX12_restore_1 rfl (by decide) ?_
  refine r_puti (q := 5) ck12 dX12_restore_2 rfl (k := 0) (by decide) wt1278 (Or.inl rfl) rfl (hs.e (by decide)) ?_
  refine r_iload_n (q := 6) dX12_restore_5 rfl rfl rfl ?_
  refine r_iconst (q := 7) (nI 0) dX12_restore_6 rfl (by decide) ?_
  refine r_iconst (q := 8) (nI 1) dX12_restore_7 rfl (by decide) ?_
  refine r_callS (Mc := mX12_isIn) (q := 11) (As := [zi (nI m), zi (nI 0), zi (nI 1)]) (st := []) dX12_restore_8 rfl rfl mkX12_isIn wt1614 wt1615 rfl (Nat.le_of_ble_eq_true rfl) (Nat.le_of_ble_eq_true rfl) (by decide) (by decide) (by decide) (Or.inl rfl) hs.some (ok_X12_isIn_in (S := sI S 12 0 0 (nI 0)) (by omega) (by omega) (by omega)) (fun r8 S8 hp8 => ?_)
  obtain ⟨rfl, hq8⟩ := hp8
  rw [hq8]
  show Ok _ _ _ [zi (nI 1)] _ _
  refine r_if_eqN (q := 14) (t := 23) (by omega) dX12_restore_11 (by decide) rfl (fun h11 => absurd h11 (by omega)) (fun h11 => ?_)
  refine r_aload_n (q := 15) dX12_restore_14 rfl rfl rfl ?_
  refine r_getr (q := 18) (some (1393, 0)) ck12 dX12_restore_15 rfl (k := 93) (by decide) wt1371 rfl (hs.e (by decide)) (hs.r (by decide) (by decide)) ?_
  refine r_iload_n (q := 19) dX12_restore_18 rfl rfl rfl ?_
  refine r_zaldN (q := 20) 2 (by decide) rfl dX12_restore_19 rfl (hs.e (by decide)) (hs.n rfl (by decide)) (by omega) (by decide) ?_
  refine r_topi (y := gI S 1393 0 m) (by simp [gI_sI, gJ_sJ, gI_sJ, gJ_sI]) ?_
  refine r_topi (y := nI 1) hk ?_
  refine r_if_neN (q := 23) (t := 25) (by omega) dX12_restore_20 (by decide) rfl (fun h20 => ?_) (fun h20 => absurd h20 (by omega))
  refine r_iconst (q := 26) (nI 0) dX12_restore_25 rfl (by decide) ?_
  refine r_istore_n (q := 27) (L' := [some (zr 12 0), some (zi (nI m)), some (zi (nI 0))]) dX12_restore_26 rfl rfl (by decide) rfl ?_
  refine lp_restore hm 3775 0 (sI S 12 0 0 (nI 0)) rfl hs (fun S2 h2 => ?_)
  subst h2
  refine r_iconst (q := 59) (nI 0) dX12_restore_58 rfl (by decide) ?_
  refine r_istore_n (q := 60) (L' := [some (zr 12 0), some (zi (nI m)), some (zi (nI 0))]) dX12_restore_59 rfl rfl (by decide) rfl ?_
  refine r_iload_n (q := 61) dX12_restore_60 rfl rfl rfl ?_
  refine r_iconst (q := 62) (nI 3) dX12_restore_61 rfl (by decide) ?_
  refine r_icmp_geN (q := 65) (t := 87) (by omega) (by omega) dX12_restore_62 (by decide) rfl (fun h62 => absurd h62 (by omega)) (fun h62 => ?_)
  refine r_aload_n (q := 66) dX12_restore_65 rfl rfl rfl ?_
  refine r_getr (q := 69) (some (1308, 0)) ck12 dX12_restore_66 rfl (k := 8) (by decide) wt1286 rfl (hs.e (by decide)) (hs.r (by decide) (by decide)) ?_
  refine r_iload_n (q := 70) dX12_restore_69 rfl rfl rfl ?_
  refine r_aload_n (q := 71) dX12_restore_70 rfl rfl rfl ?_
  refine r_getr (q := 74) (some (1392, 0)) ck12 dX12_restore_71 rfl (k := 92) (by decide) wt1370 rfl (hs.e (by decide)) (hs.r (by decide) (by decide)) ?_
  refine r_iconst (q := 75) (nI 3) dX12_restore_74 rfl (by decide) ?_
  refine r_iload_n (q := 76) dX12_restore_75 rfl rfl rfl ?_
  refine r_imulN (q := 77) dX12_restore_76 rfl ?_
  refine r_iload_n (q := 78) dX12_restore_77 rfl rfl rfl ?_
  refine r_iaddN (q := 79) dX12_restore_78 rfl ?_
  refine r_laldN (q := 80) 6 (by decide) rfl dX12_restore_79 rfl (hs.e (by decide)) (hs.n rfl (by decide)) (by omega) (by decide) ?_
  refine r_lastN (q := 81) 6 (by decide) rfl dX12_restore_80 rfl (hs.e (by decide)) (hs.n rfl (by decide)) (by omega) (by decide) ?_
  refine r_iincN (q := 84) (L' := [some (zr 12 0), some (zi (nI m)), some (zi (nI 1))]) 1 rfl dX12_restore_81 rfl rfl (by decide) rfl ?_
  refine r_goto (q := 60) dX12_restore_84 (by decide) ?_
  refine r_iload_n (q := 61) dX12_restore_60 rfl rfl rfl ?_
  refine r_iconst (q := 62) (nI 3) dX12_restore_61 rfl (by decide) ?_
  refine r_icmp_geN (q := 65) (t := 87) (by omega) (by omega) dX12_restore_62 (by decide) rfl (fun h62 => absurd h62 (by omega)) (fun h62 => ?_)
  refine r_aload_n (q := 66) dX12_restore_65 rfl rfl rfl ?_
  refine r_getr (q := 69) (some (1308, 0)) ck12 dX12_restore_66 rfl (k := 8) (by decide) wt1286 rfl (hs.e (by decide)) (hs.r (by decide) (by decide)) ?_
  refine r_iload_n (q := 70) dX12_restore_69 rfl rfl rfl ?_
  refine r_aload_n (q := 71) dX12_restore_70 rfl rfl rfl ?_
  refine r_getr (q := 74) (some (1392, 0)) ck12 dX12_restore_71 rfl (k := 92) (by decide) wt1370 rfl (hs.e (by decide)) (hs.r (by decide) (by decide)) ?_
  refine r_iconst (q := 75) (nI 3) dX12_restore_74 rfl (by decide) ?_
  refine r_iload_n (q := 76) dX12_restore_75 rfl rfl rfl ?_
  refine r_imulN (q := 77) dX12_restore_76 rfl ?_
  refine r_iload_n (q := 78) dX12_restore_77 rfl rfl rfl ?_
  refine r_iaddN (q := 79) dX12_restore_78 rfl ?_
  refine r_laldN (q := 80) 6 (by decide) rfl dX12_restore_79 rfl (hs.e (by decide)) (hs.n rfl (by decide)) (by omega) (by decide) ?_
  refine r_topl (y := gJ (cpR (sI S 12 0 0 (nI 0)) 1391 0 1306 0 (3775 * m) 0 0 3775) 1392 0 ((3 * m) + 1)) (by simp [gI_sI, gJ_sJ, gI_sJ, gJ_sI]) ?_
  refine r_lastN (q := 81) 6 (by decide) rfl dX12_restore_80 rfl (hs.e (by decide)) (hs.n rfl (by decide)) (by omega) (by decide) ?_
  refine r_iincN (q := 84) (L' := [some (zr 12 0), some (zi (nI m)), some (zi (nI 2))]) 1 rfl dX12_restore_81 rfl rfl (by decide) rfl ?_
  refine r_goto (q := 60) dX12_restore_84 (by decide) ?_
  refine r_iload_n (q := 61) dX12_restore_60 rfl rfl rfl ?_
  refine r_iconst (q := 62) (nI 3) dX12_restore_61 rfl (by decide) ?_
  refine r_icmp_geN (q := 65) (t := 87) (by omega) (by omega) dX12_restore_62 (by decide) rfl (fun h62 => absurd h62 (by omega)) (fun h62 => ?_)
  refine r_aload_n (q := 66) dX12_restore_65 rfl rfl rfl ?_
  refine r_getr (q := 69) (some (1308, 0)) ck12 dX12_restore_66 rfl (k := 8) (by decide) wt1286 rfl (hs.e (by decide)) (hs.r (by decide) (by decide)) ?_
  refine r_iload_n (q := 70) dX12_restore_69 rfl rfl rfl ?_
  refine r_aload_n (q := 71) dX12_restore_70 rfl rfl rfl ?_
  refine r_getr (q := 74) (some (1392, 0)) ck12 dX12_restore_71 rfl (k := 92) (by decide) wt1370 rfl (hs.e (by decide)) (hs.r (by decide) (by decide)) ?_
  refine r_iconst (q := 75) (nI 3) dX12_restore_74 rfl (by decide) ?_
  refine r_iload_n (q := 76) dX12_restore_75 rfl rfl rfl ?_
  refine r_imulN (q := 77) dX12_restore_76 rfl ?_
  refine r_iload_n (q := 78) dX12_restore_77 rfl rfl rfl ?_
  refine r_iaddN (q := 79) dX12_restore_78 rfl ?_
  refine r_laldN (q := 80) 6 (by decide) rfl dX12_restore_79 rfl (hs.e (by decide)) (hs.n rfl (by decide)) (by omega) (by decide) ?_
  refine r_topl (y := gJ (cpR (sI S 12 0 0 (nI 0)) 1391 0 1306 0 (3775 * m) 0 0 3775) 1392 0 ((3 * m) + 2)) (by simp [gI_sI, gJ_sJ, gI_sJ, gJ_sI]) ?_
  refine r_lastN (q := 81) 6 (by decide) rfl dX12_restore_80 rfl (hs.e (by decide)) (hs.n rfl (by decide)) (by omega) (by decide) ?_
  refine r_iincN (q := 84) (L' := [some (zr 12 0), some (zi (nI m)), some (zi (nI 3))]) 1 rfl dX12_restore_81 rfl rfl (by decide) rfl ?_
  refine r_goto (q := 60) dX12_restore_84 (by decide) ?_
  refine r_iload_n (q := 61) dX12_restore_60 rfl rfl rfl ?_
  refine r_iconst (q := 62) (nI 3) dX12_restore_61 rfl (by decide) ?_
  refine r_icmp_geN (q := 65) (t := 87) (by omega) (by omega) dX12_restore_62 (by decide) rfl (fun h62 => ?_) (fun h62 => absurd h62 (by omega))
  refine r_aload_n (q := 88) dX12_restore_87 rfl rfl rfl ?_
  refine r_iconst (q := 89) ((-1 : Int32)) dX12_restore_88 rfl (by decide) ?_
  refine r_puti (q := 92) ck12 dX12_restore_89 rfl (k := 33) (by decide) wt1311 (Or.inl rfl) rfl (hs.e (by decide)) ?_
  refine r_aload_n (q := 93) dX12_restore_92 rfl rfl rfl ?_
  refine r_iconst (q := 94) (nI 0) dX12_restore_93 rfl (by decide) ?_
  refine r_puti (q := 97) ck12 dX12_restore_94 rfl (k := 58) (by decide) wt1336 (Or.inl rfl) rfl (hs.e (by decide)) ?_
  refine r_iconst (q := 98) (nI 1) dX12_restore_97 rfl (by decide) ?_
  refine r_zreturn (by decide) dX12_restore_98 rfl ?_
  exact ⟨rfl, rfl⟩

set_option maxRecDepth 100000 in
theorem ok_X12_restore_no {S : zS} (hs : Sd S) {m : Nat} (hm : m < 2) (hk : gI S 1393 0 m = nI 0) : Ok mX12_restore 0 (ent 3 [zr 12 0, zi (nI m)]) [] S (fun r S1 => r = some (zi (nI 0)) ∧ S1 = sI S 12 0 0 (nI 0)) := by
  show Ok mX12_restore 0 [some (zr 12 0), some (zi (nI m)), none] [] S _
  refine r_aload_n (q := 1) dX12_restore_0 rfl rfl rfl ?_
  refine r_iconst (q := 2) (nI 0) dX12_restore_1 rfl (by decide) ?_
  refine r_puti (q := 5) ck12 dX12_restore_2 rfl (k := 0) (by decide) wt1278 (Or.inl rfl) rfl (hs.e (by decide)) ?_
  refine r_iload_n (q := 6) dX12_restore_5 rfl rfl rfl ?_
  refine r_iconst (q := 7) (nI 0) dX12_restore_6 rfl (by decide) ?_
  refine r_iconst (q := 8) (nI 1) dX12_restore_7 rfl (by decide) ?_
  refine r_callS (Mc := mX12_isIn) (q := 11) (As := [zi (nI m), zi (nI 0), zi (nI 1)]) (st := []) dX12_restore_8 rfl rfl mkX12_isIn wt1614 wt1615 rfl (Nat.le_of_ble_eq_true rfl) (Nat.le_of_ble_eq_true rfl) (by decide) (by decide) (by decide) (Or.inl rfl) hs.some (ok_X12_isIn_in (S := sI S 12 0 0 (nI 0)) (by omega) (by omega) (by omega)) (fun r8 S8 hp8 => ?_)
  obtain ⟨rfl, hq8⟩ := hp8
  rw [hq8]
  show Ok _ _ _ [zi (nI 1)] _ _
  refine r_if_eqN (q := 14) (t := 23) (by omega) dX12_restore_11 (by decide) rfl (fun h11 => absurd h11 (by omega)) (fun h11 => ?_)
  refine r_aload_n (q := 15) dX12_restore_14 rfl rfl rfl ?_
  refine r_getr (q := 18) (some (1393, 0)) ck12 dX12_restore_15 rfl (k := 93) (by decide) wt1371 rfl (hs.e (by decide)) (hs.r (by decide) (by decide)) ?_
  refine r_iload_n (q := 19) dX12_restore_18 rfl rfl rfl ?_
  refine r_zaldN (q := 20) 2 (by decide) rfl dX12_restore_19 rfl (hs.e (by decide)) (hs.n rfl (by decide)) (by omega) (by decide) ?_
  refine r_topi (y := gI S 1393 0 m) (by simp [gI_sI, gJ_sJ, gI_sJ, gJ_sI]) ?_
  refine r_topi (y := nI 0) hk ?_
  refine r_if_neN (q := 23) (t := 25) (by omega) dX12_restore_20 (by decide) rfl (fun h20 => absurd h20 (by omega)) (fun h20 => ?_)
  refine r_iconst (q := 24) (nI 0) dX12_restore_23 rfl (by decide) ?_
  refine r_zreturn (by decide) dX12_restore_24 rfl ?_
  exact ⟨rfl, rfl⟩

set_option maxRecDepth 100000 in
theorem ok_X12_restore_out {S : zS} (hs : Sd S) {a : Int32} (ha : ¬ (nI 0 ≤ a ∧ a ≤ nI 1)) : Ok mX12_restore 0 (ent 3 [zr 12 0, zi a]) [] S (fun r S1 => r = some (zi (nI 0)) ∧ S1 = sI S 12 0 0 (nI 0)) := by
  show Ok mX12_restore 0 [some (zr 12 0), some (zi a), none] [] S _
  refine r_aload_n (q := 1) dX12_restore_0 rfl rfl rfl ?_
  refine r_iconst (q := 2) (nI 0) dX12_restore_1 rfl (by decide) ?_
  refine r_puti (q := 5) ck12 dX12_restore_2 rfl (k := 0) (by decide) wt1278 (Or.inl rfl) rfl (hs.e (by decide)) ?_
  refine r_iload_n (q := 6) dX12_restore_5 rfl rfl rfl ?_
  refine r_iconst (q := 7) (nI 0) dX12_restore_6 rfl (by decide) ?_
  refine r_iconst (q := 8) (nI 1) dX12_restore_7 rfl (by decide) ?_
  refine r_callS (Mc := mX12_isIn) (q := 11) (As := [zi a, zi (nI 0), zi (nI 1)]) (st := []) dX12_restore_8 rfl rfl mkX12_isIn wt1614 wt1615 rfl (Nat.le_of_ble_eq_true rfl) (Nat.le_of_ble_eq_true rfl) (by decide) (by decide) (by decide) (Or.inl rfl) hs.some (ok_X12_isIn_out (S := sI S 12 0 0 (nI 0)) ha) (fun r8 S8 hp8 => ?_)
  obtain ⟨rfl, hq8⟩ := hp8
  rw [hq8]
  show Ok _ _ _ [zi (nI 0)] _ _
  refine r_if_eqN (q := 14) (t := 23) (by omega) dX12_restore_11 (by decide) rfl (fun h11 => ?_) (fun h11 => absurd h11 (by omega))
  refine r_iconst (q := 24) (nI 0) dX12_restore_23 rfl (by decide) ?_
  refine r_zreturn (by decide) dX12_restore_24 rfl ?_
  exact ⟨rfl, rfl⟩

