/-! koszul whole: the reference -/
def t22 (x y k : Nat) : Bool := y == 0 && (x == 1322 && decide (1173 ≤ k) || x == 1323 && k == 1)
def tKz (x y k : Nat) : Bool := tMd2 x y k || t22 x y k || tKl x y k || x == 12 && y == 0 && k == 0
theorem CR.t22 {S S1 : zS} {W : zWd} (hW : Wok W) (h : CR S W) (f : Fr t22 S S1) : CR S1 W := fun z => by
  obtain ⟨L, p, b, q⟩ := h ((f.1 _ _ _ rfl).symm.trans z)
  exact ⟨L, p, b, q.fr hW.2.1 (by omega) f rfl rfl (fun s _ _ => ⟨rfl, rfl, rfl, rfl⟩) (fun k _ _ => ⟨rfl, rfl, rfl⟩) (fun k _ _ => rfl) (fun i _ _ => rfl)⟩

set_option maxRecDepth 100000 in
theorem lp_ko31 {n : Nat} {Po : Option zV → zS → Prop} : ∀ (d i : Nat) (S : zS), i + d = 1173 → Sd S → (∀ j, j < i → gI S 1322 0 (1173 + j) = gI S 1307 0 j) → (∀ S1, Fr t22 S S1 → (∀ j, j < 1173 → gI S1 1322 0 (1173 + j) = gI S 1307 0 j) → Ok mX12_koszul 60 [some (zr 12 0), some (zi (nI n)), some (zi (nI 1173))] [] S1 Po) → Ok mX12_koszul 31 [some (zr 12 0), some (zi (nI n)), some (zi (nI i))] [] S Po := by
  intro d
  induction d with
  | zero =>
    intro i S hi hs hlo K
    obtain rfl : i = 1173 := by omega
    refine r_iload_n (q := 32) dX12_koszul_31 rfl rfl rfl ?_
    refine r_sipush (q := 35) (nI 1173) dX12_koszul_32 rfl (by decide) ?_
    refine r_icmp_geN (q := 38) (t := 60) (by omega) (by omega) dX12_koszul_35 (by decide) rfl (fun h35 => ?_) (fun h35 => absurd h35 (by omega))
    exact K S Fr.rf hlo
  | succ d ih =>
    intro i S hi hs hlo K
    refine r_iload_n (q := 32) dX12_koszul_31 rfl rfl rfl ?_
    refine r_sipush (q := 35) (nI 1173) dX12_koszul_32 rfl (by decide) ?_
    refine r_icmp_geN (q := 38) (t := 60) (by omega) (by omega) dX12_koszul_35 (by decide) rfl (fun h35 => absurd h35 (by omega)) (fun h35 => ?_)
    refine r_aload_n (q := 39) dX12_koszul_38 rfl rfl rfl ?_
    refine r_getr (q := 42) (some (1322, 0)) ck12 dX12_koszul_39 rfl (k := 22) (by decide) wt1300 rfl (hs.e (by decide)) (hs.r (by decide) (by decide)) ?_
    refine r_sipush (q := 45) (nI 1173) dX12_koszul_42 rfl (by decide) ?_
    refine r_iload_n (q := 46) dX12_koszul_45 rfl rfl rfl ?_
    refine r_iaddN (q := 47) dX12_koszul_46 rfl ?_
    refine r_aload_n (q := 48) dX12_koszul_47 rfl rfl rfl ?_
    refine r_getr (q := 51) (some (1307, 0)) ck12 dX12_koszul_48 rfl (k := 7) (by decide) wt1285 rfl (hs.e (by decide)) (hs.r (by decide) (by decide)) ?_
    refine r_iload_n (q := 52) dX12_koszul_51 rfl rfl rfl ?_
    refine r_ialdN (q := 53) 1173 (by decide) rfl dX12_koszul_52 rfl (hs.e (by decide)) (hs.n rfl (by decide)) (by omega) (by decide) ?_
    refine r_iastN (q := 54) 2346 (by decide) rfl dX12_koszul_53 rfl (hs.e (by decide)) (hs.n rfl (by decide)) (by omega) (by decide) ?_
    refine r_iincN (q := 57) (L' := [some (zr 12 0), some (zi (nI n)), some (zi (nI (i + 1)))]) 1 rfl dX12_koszul_54 rfl rfl (by decide) rfl ?_
    refine r_goto (q := 31) dX12_koszul_57 (by decide) ?_
    have f1 : Fr t22 S (sI S 1322 0 (1173 + i) (gI S 1307 0 i)) := Fr.rf.i (by simp [t22])
    have e07 : ∀ j, gI (sI S 1322 0 (1173 + i) (gI S 1307 0 i)) 1307 0 j = gI S 1307 0 j := fun j => f1.1 _ _ _ rfl
    refine ih (i + 1) (sI S 1322 0 (1173 + i) (gI S 1307 0 i)) (by omega) hs (fun j hj => ?_) (fun S1 f2 y => K S1 (f1.tr f2) (fun j hj => (y j hj).trans (e07 j)))
    rw [e07, gI_sI]
    by_cases e : j = i
    · rw [if_pos ⟨rfl, rfl, by rw [e]⟩, e]
    · rw [if_neg (fun z => e (by omega))]; exact hlo j (by omega)

set_option maxRecDepth 100000 in
theorem rm_kz_x {S : zS} (hs : Sd S) {x : Int32} (hx : ¬ (nI 1 ≤ x ∧ x ≤ nI 7)) : Ok mX12_koszul 0 (ent 3 [zr 12 0, zi x]) [] S (fun r S1 => r = some (zi (-2)) ∧ S1 = sI S 12 0 0 (nI 0)) := by
  show Ok mX12_koszul 0 [some (zr 12 0), some (zi x), none] [] S _
  refine r_aload_n (q := 1) dX12_koszul_0 rfl rfl rfl ?_
  refine r_iconst (q := 2) (nI 0) dX12_koszul_1 rfl (by decide) ?_
  refine r_puti (q := 5) ck12 dX12_koszul_2 rfl (k := 0) (by decide) wt1278 (Or.inl rfl) rfl (hs.e (by decide)) ?_
  refine r_iload_n (q := 6) dX12_koszul_5 rfl rfl rfl ?_
  refine r_iconst (q := 7) (nI 1) dX12_koszul_6 rfl (by decide) ?_
  refine r_bipush (q := 9) (nI 7) dX12_koszul_7 rfl (by decide) ?_
  refine r_callS (Mc := mX12_isIn) (q := 12) (As := [zi x, zi (nI 1), zi (nI 7)]) (st := []) dX12_koszul_9 rfl rfl mkX12_isIn wt1614 wt1615 rfl (Nat.le_of_ble_eq_true rfl) (Nat.le_of_ble_eq_true rfl) (by decide) (by decide) (by decide) (Or.inl rfl) hs.some (ok_X12_isIn_out hx) (fun r9 S9 hp9 => ?_)
  obtain ⟨rfl, hq9⟩ := hp9
  rw [hq9]
  show Ok _ _ _ [zi (nI 0)] _ _
  refine r_if_eqN (q := 15) (t := 22) (by omega) dX12_koszul_12 (by decide) rfl (fun h12 => ?_) (fun h12 => absurd h12 (by omega))
  refine r_bipush (q := 24) ((-2 : Int32)) dX12_koszul_22 rfl (by decide) ?_
  refine r_ireturn dX12_koszul_24 rfl ?_
  exact ⟨rfl, rfl⟩

set_option maxRecDepth 100000 in
theorem rm_kz_n {S : zS} (hs : Sd S) {W : zWd} (hW : Wok W) {n9 : Nat → Int64} (hR : wqR W (fun k => gI S 1306 0 k) n9) (hQ : ¬ Qd W) {n : Nat} (hn1 : 1 ≤ n) (hn7 : n ≤ 7) : Ok mX12_koszul 0 (ent 3 [zr 12 0, zi (nI n)]) [] S (fun r S1 => r = some (zi (-2)) ∧ S1 = sI S 12 0 0 (nI 0)) := by
  show Ok mX12_koszul 0 [some (zr 12 0), some (zi (nI n)), none] [] S _
  refine r_aload_n (q := 1) dX12_koszul_0 rfl rfl rfl ?_
  refine r_iconst (q := 2) (nI 0) dX12_koszul_1 rfl (by decide) ?_
  refine r_puti (q := 5) ck12 dX12_koszul_2 rfl (k := 0) (by decide) wt1278 (Or.inl rfl) rfl (hs.e (by decide)) ?_
  refine r_iload_n (q := 6) dX12_koszul_5 rfl rfl rfl ?_
  refine r_iconst (q := 7) (nI 1) dX12_koszul_6 rfl (by decide) ?_
  refine r_bipush (q := 9) (nI 7) dX12_koszul_7 rfl (by decide) ?_
  refine r_callS (Mc := mX12_isIn) (q := 12) (As := [zi (nI n), zi (nI 1), zi (nI 7)]) (st := []) dX12_koszul_9 rfl rfl mkX12_isIn wt1614 wt1615 rfl (Nat.le_of_ble_eq_true rfl) (Nat.le_of_ble_eq_true rfl) (by decide) (by decide) (by decide) (Or.inl rfl) hs.some (ok_X12_isIn_in (by omega) (by omega) (by omega)) (fun r9 S9 hp9 => ?_)
  obtain ⟨rfl, hq9⟩ := hp9
  rw [hq9]
  show Ok _ _ _ [zi (nI 1)] _ _
  refine r_if_eqN (q := 15) (t := 22) (by omega) dX12_koszul_12 (by decide) rfl (fun h12 => absurd h12 (by omega)) (fun h12 => ?_)
  refine r_aload_n (q := 16) dX12_koszul_15 rfl rfl rfl ?_
  refine r_callV (Mc := mX12_hasDual) (q := 19) (As := []) (st := []) ck12 dX12_koszul_16 rfl rfl mkX12_hasDual wt1900 wt1902 wp127 rfl (Nat.le_of_ble_eq_true rfl) (Nat.le_of_ble_eq_true rfl) (by decide) (by decide) (by decide) (Or.inl rfl) (hs.e (by decide)) (ok_X12_hasDual (S := sI S 12 0 0 (nI 0)) hs hW hR) (fun r16 S16 hp16 => ?_)
  obtain ⟨hq16, v, v1, rfl, v2⟩ := hp16
  rw [hq16]
  obtain rfl : v = 0 := by have hv1 : v ≠ 1 := fun z => hQ (v2.mp z); omega
  show Ok _ _ _ [zi (nI 0)] _ _
  refine r_if_neN (q := 22) (t := 25) (by omega) dX12_koszul_19 (by decide) rfl (fun h19 => absurd h19 (by omega)) (fun h19 => ?_)
  refine r_bipush (q := 24) ((-2 : Int32)) dX12_koszul_22 rfl (by decide) ?_
  refine r_ireturn dX12_koszul_24 rfl ?_
  exact ⟨rfl, rfl⟩

set_option maxRecDepth 100000 in
theorem rm_kz_y {S : zS} (hs : Sd S) {W : zWd} (hW : Wok W) {n9 : Nat → Int64} (hR : wqR W (fun k => gI S 1306 0 k) n9) (hQ : Qd W) (hO : Cw S) (hcr : CR S W) (hI : IvI S) {n : Nat} (hn1 : 1 ≤ n) (hn7 : n ≤ 7) {g : Nat → Int64} (hg : IvS g (szW W) 7) : Ok mX12_koszul 0 (ent 3 [zr 12 0, zi (nI n)]) [] S (fun r S1 => ∃ mk R, IsD W mk R ∧ r = some (zi (kzF W g (szW (dW W mk R)) n 1)) ∧ Fr tKz S S1 ∧ Cw S1 ∧ CR S1 W ∧ IvI S1) := by
  show Ok mX12_koszul 0 [some (zr 12 0), some (zi (nI n)), none] [] S _
  refine r_aload_n (q := 1) dX12_koszul_0 rfl rfl rfl ?_
  refine r_iconst (q := 2) (nI 0) dX12_koszul_1 rfl (by decide) ?_
  refine r_puti (q := 5) ck12 dX12_koszul_2 rfl (k := 0) (by decide) wt1278 (Or.inl rfl) rfl (hs.e (by decide)) ?_
  refine r_iload_n (q := 6) dX12_koszul_5 rfl rfl rfl ?_
  refine r_iconst (q := 7) (nI 1) dX12_koszul_6 rfl (by decide) ?_
  refine r_bipush (q := 9) (nI 7) dX12_koszul_7 rfl (by decide) ?_
  refine r_callS (Mc := mX12_isIn) (q := 12) (As := [zi (nI n), zi (nI 1), zi (nI 7)]) (st := []) dX12_koszul_9 rfl rfl mkX12_isIn wt1614 wt1615 rfl (Nat.le_of_ble_eq_true rfl) (Nat.le_of_ble_eq_true rfl) (by decide) (by decide) (by decide) (Or.inl rfl) hs.some (ok_X12_isIn_in (by omega) (by omega) (by omega)) (fun r9 S9 hp9 => ?_)
  obtain ⟨rfl, hq9⟩ := hp9
  rw [hq9]
  show Ok _ _ _ [zi (nI 1)] _ _
  refine r_if_eqN (q := 15) (t := 22) (by omega) dX12_koszul_12 (by decide) rfl (fun h12 => absurd h12 (by omega)) (fun h12 => ?_)
  refine r_aload_n (q := 16) dX12_koszul_15 rfl rfl rfl ?_
  refine r_callV (Mc := mX12_hasDual) (q := 19) (As := []) (st := []) ck12 dX12_koszul_16 rfl rfl mkX12_hasDual wt1900 wt1902 wp127 rfl (Nat.le_of_ble_eq_true rfl) (Nat.le_of_ble_eq_true rfl) (by decide) (by decide) (by decide) (Or.inl rfl) (hs.e (by decide)) (ok_X12_hasDual (S := sI S 12 0 0 (nI 0)) hs hW hR) (fun r16 S16 hp16 => ?_)
  obtain ⟨hq16, v, v1, rfl, v2⟩ := hp16
  rw [hq16]
  obtain rfl : v = 1 := by exact v2.mpr hQ
  show Ok _ _ _ [zi (nI 1)] _ _
  refine r_if_neN (q := 22) (t := 25) (by omega) dX12_koszul_19 (by decide) rfl (fun h19 => ?_) (fun h19 => absurd h19 (by omega))
  refine r_aload_n (q := 26) dX12_koszul_25 rfl rfl rfl ?_
  refine r_callV (Mc := mX12_makeDual) (q := 29) (As := []) (st := []) ck12 dX12_koszul_26 rfl rfl mkX12_makeDual wt1904 wt1906 wp128 rfl (Nat.le_of_ble_eq_true rfl) (Nat.le_of_ble_eq_true rfl) (by decide) (by decide) (by decide) (Or.inl rfl) (hs.e (by decide)) (ok_makeDual (S := sI S 12 0 0 (nI 0)) hs hW hQ hR ((rc_thr.rc (W := W)).2.1 hO) (rc_thr.rc.1 hcr) ((rc_thr.rc (W := W)).2.2 hI)) (fun r26 S26 hp26 => ?_)
  obtain ⟨rfl, f1, h33, hO1, hcr1, hI1, mk, R, hD, hw1, h3, hz⟩ := hp26
  have hs1 : Sd S26 := Sd.fr (S := sI S 12 0 0 (nI 0)) hs f1
  have hWd := dW_ok hW hQ hD
  have hR1 : wqR W (fun k => gI S26 1306 0 k) n9 := wqR.frq (S := sI S 12 0 0 (nI 0)) hR f1 (fun k => bfalse fun z => by simp [tMd2, tOw, tSe, tTq, tPt, tPa, tIv, t07, tEq] at z)
  show Ok _ _ _ [] _ _
  refine r_iconst (q := 30) (nI 0) dX12_koszul_29 rfl (by decide) ?_
  refine r_istore_n (q := 31) (L' := [some (zr 12 0), some (zi (nI n)), some (zi (nI 0))]) dX12_koszul_30 rfl rfl (by decide) rfl ?_
  refine lp_ko31 1173 0 S26 (by omega) hs1 (fun j hj => absurd hj (Nat.not_lt_zero j)) (fun S2 f2 hcp => ?_)
  have hs2 : Sd S2 := hs1.fr f2
  refine r_aload_n (q := 61) dX12_koszul_60 rfl rfl rfl ?_
  refine r_callV (Mc := mX12_otherWorld) (q := 64) (As := []) (st := []) ck12 dX12_koszul_61 rfl rfl mkX12_otherWorld wt1569 wt1571 wp69 rfl (Nat.le_of_ble_eq_true rfl) (Nat.le_of_ble_eq_true rfl) (by decide) (by decide) (by decide) (Or.inl rfl) (hs2.e (by decide)) (ok_otherWorld (S := S2) hs2) (fun r61 S61 hp61 => ?_)
  obtain ⟨rfl, hq61⟩ := hp61
  rw [hq61]
  show Ok _ _ _ [] _ _
  refine r_iconst (q := 65) (nI 1) dX12_koszul_64 rfl (by decide) ?_
  refine r_istore_n (q := 66) (L' := [some (zr 12 0), some (zi (nI n)), some (zi (nI 1))]) dX12_koszul_65 rfl rfl (by decide) rfl ?_
  have f3 : Fr t22 S26 (sI S2 1323 0 1 (nI 0)) := f2.i (by simp [t22])
  have hKo : KoI (sI S2 1323 0 1 (nI 0)) W (dW W mk R) n9 := by
    refine ⟨hs2, hR1.frq f3 (fun _ => rfl), hO1.f3 f3 ⟨rfl, fun k hk => bfalse fun z => by simp [t22] at z; omega, fun _ => rfl⟩, hcr1.t22 hW f3, hI1.fr f3 ⟨rfl, fun _ => rfl⟩, ?_, 0, _, _, RB.zero (by rw [gI_sI, if_pos ⟨rfl, rfl, rfl⟩])⟩
    refine wqR.cong hWd (fun k hk _ => ?_) (fun _ _ => rfl) hw1
    show gI S26 1307 0 k = gI (sI S2 1323 0 1 (nI 0)) 1322 0 (1173 * 1 + k)
    rw [gI_sI, if_neg (by omega), Nat.mul_one]
    exact (hcp k (by omega)).symm
  refine Ok.mono (lp_ko66 hW hWd tc_dW hn7 hg n 1 (sI S2 1323 0 1 (nI 0)) (by omega) (Nat.le_refl _) hKo) (fun r S9 q => ⟨mk, R, hD, q.1, ?_, q.2.2⟩)
  exact (((Fr.rf.i (T := tKz) (S := S) (by simp [tKz])).tr (f1.mono fun x y k z => by simp [tKz, z])).tr (f3.mono fun x y k z => by simp [tKz, z])).tr (q.2.1.mono fun x y k z => by simp [tKz, z])

