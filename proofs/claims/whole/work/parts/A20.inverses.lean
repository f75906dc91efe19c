def tIv (x y k : Nat) : Bool := y == 0 && (x == 1342 || x == 12 && k == 43)
def Hd (S : zS) (P a : Nat) : Prop := ∃ b, gI S 1342 0 a = nI b ∧ b < P ∧ b * a % P = 1

set_option maxRecDepth 100000 in
theorem lp_iv1 {q P a : Nat} (h2 : 2 ≤ P) (hP : P ≤ 97) (ha : a < P) {Po : Option zV → zS → Prop} : ∀ (d b : Nat) (S : zS), b + d = P → 1 ≤ b → Sd S → (Hd S P a ∨ ∃ b', b ≤ b' ∧ b' < P ∧ b' * a % P = 1) → (∀ S1, Fr tIv S S1 → (∀ z, z ≠ a → gI S1 1342 0 z = gI S 1342 0 z) → gI S1 12 0 43 = gI S 12 0 43 → Hd S1 P a → Ok mX12_settleInverses 67 [some (zr 12 0), some (zi (nI q)), some (zi (nI P)), some (zi (nI a)), some (zi (nI P))] [] S1 Po) → Ok mX12_settleInverses 37 [some (zr 12 0), some (zi (nI q)), some (zi (nI P)), some (zi (nI a)), some (zi (nI b))] [] S Po := by
  intro d
  induction d with
  | zero =>
    intro b S hb h1 hs hh K
    obtain rfl : b = P := by omega
    have hh : Hd S b a := hh.resolve_right (fun ⟨b', x, y, _⟩ => by omega)
    refine r_iload (q := 39) dX12_settleInverses_37 rfl rfl ?_
    refine r_iload_n (q := 40) dX12_settleInverses_39 rfl rfl rfl ?_
    refine r_icmp_geN (q := 43) (t := 67) (by omega) (by omega) dX12_settleInverses_40 (by decide) rfl (fun h40 => ?_) (fun h40 => absurd h40 (by omega))
    exact K S Fr.rf (fun _ _ => rfl) rfl hh
  | succ d ih =>
    intro b S hb h1 hs hh K
    have hab : a * b ≤ 97 * 97 := Nat.mul_le_mul (by omega) (by omega)
    have hmod : a * b % P < P := Nat.mod_lt _ (by omega)
    by_cases h : a * b % P = 1
    · skip
      refine r_iload (q := 39) dX12_settleInverses_37 rfl rfl ?_
      refine r_iload_n (q := 40) dX12_settleInverses_39 rfl rfl rfl ?_
      refine r_icmp_geN (q := 43) (t := 67) (by omega) (by omega) dX12_settleInverses_40 (by decide) rfl (fun h40 => absurd h40 (by omega)) (fun h40 => ?_)
      refine r_iload_n (q := 44) dX12_settleInverses_43 rfl rfl rfl ?_
      refine r_iload (q := 46) dX12_settleInverses_44 rfl rfl ?_
      refine r_imulN (q := 47) dX12_settleInverses_46 rfl ?_
      refine r_iload_n (q := 48) dX12_settleInverses_47 rfl rfl rfl ?_
      refine r_iremN (q := 49) (by omega) (by omega) (by omega) dX12_settleInverses_48 rfl ?_
      refine r_iconst (q := 50) (nI 1) dX12_settleInverses_49 rfl (by decide) ?_
      refine r_icmp_neN (q := 53) (t := 61) (by omega) (by omega) dX12_settleInverses_50 (by decide) rfl (fun h50 => absurd h50 (by omega)) (fun h50 => ?_)
      refine r_aload_n (q := 54) dX12_settleInverses_53 rfl rfl rfl ?_
      refine r_getr (q := 57) (some (1342, 0)) ck12 dX12_settleInverses_54 rfl (k := 42) (by decide) wt1320 rfl (hs.e (by decide)) (hs.r (by decide) (by decide)) ?_
      refine r_iload_n (q := 58) dX12_settleInverses_57 rfl rfl rfl ?_
      refine r_iload (q := 60) dX12_settleInverses_58 rfl rfl ?_
      refine r_iastN (q := 61) 98 (by decide) rfl dX12_settleInverses_60 rfl (hs.e (by decide)) (hs.n rfl (by decide)) (by omega) (by decide) ?_
      refine r_iincN (q := 64) (L' := [some (zr 12 0), some (zi (nI q)), some (zi (nI P)), some (zi (nI a)), some (zi (nI (b + 1)))]) 1 rfl dX12_settleInverses_61 rfl rfl (by decide) rfl ?_
      refine r_goto (q := 37) dX12_settleInverses_64 (by decide) ?_
      have f1 : Fr tIv S (sI S 1342 0 a (nI b)) := (Fr.rf).i rfl
      exact ih (b + 1) _ (by omega) (by omega) hs (Or.inl ⟨b, by rw [gI_sI, if_pos ⟨rfl, rfl, rfl⟩], by omega, by rw [Nat.mul_comm]; exact h⟩) (fun S1 g1 g2 g3 g4 => K S1 (f1.tr g1) (fun z hz => by rw [g2 z hz, gI_sI, if_neg (fun y => hz y.2.2)]) (by rw [g3, gI_sI, if_neg (by omega)]) g4)
    · skip
      refine r_iload (q := 39) dX12_settleInverses_37 rfl rfl ?_
      refine r_iload_n (q := 40) dX12_settleInverses_39 rfl rfl rfl ?_
      refine r_icmp_geN (q := 43) (t := 67) (by omega) (by omega) dX12_settleInverses_40 (by decide) rfl (fun h40 => absurd h40 (by omega)) (fun h40 => ?_)
      refine r_iload_n (q := 44) dX12_settleInverses_43 rfl rfl rfl ?_
      refine r_iload (q := 46) dX12_settleInverses_44 rfl rfl ?_
      refine r_imulN (q := 47) dX12_settleInverses_46 rfl ?_
      refine r_iload_n (q := 48) dX12_settleInverses_47 rfl rfl rfl ?_
      refine r_iremN (q := 49) (by omega) (by omega) (by omega) dX12_settleInverses_48 rfl ?_
      refine r_iconst (q := 50) (nI 1) dX12_settleInverses_49 rfl (by decide) ?_
      refine r_icmp_neN (q := 53) (t := 61) (by omega) (by omega) dX12_settleInverses_50 (by decide) rfl (fun h50 => ?_) (fun h50 => absurd h50 (by omega))
      refine r_iincN (q := 64) (L' := [some (zr 12 0), some (zi (nI q)), some (zi (nI P)), some (zi (nI a)), some (zi (nI (b + 1)))]) 1 rfl dX12_settleInverses_61 rfl rfl (by decide) rfl ?_
      refine r_goto (q := 37) dX12_settleInverses_64 (by decide) ?_
      exact ih (b + 1) S (by omega) (by omega) hs (hh.imp id (fun ⟨b', x, y, z⟩ => ⟨b', by
        rcases Nat.lt_or_eq_of_le x with u | u
        · omega
        · rw [← u, Nat.mul_comm] at z; exact absurd z h, y, z⟩)) K

set_option maxRecDepth 100000 in
theorem lp_iv2 {q P : Nat} (h2 : 2 ≤ P) (hP : P ≤ 97) (hpr : ∀ d, 2 ≤ d → d < P → P % d ≠ 0) : ∀ (d a : Nat) (S : zS) (w4 : Option zV), a + d = P → 1 ≤ a → Sd S → gI S 12 0 43 = nI P → (∀ z, 1 ≤ z → z < a → Hd S P z) → Ok mX12_settleInverses 29 [some (zr 12 0), some (zi (nI q)), some (zi (nI P)), some (zi (nI a)), w4] [] S (fun r S1 => r = none ∧ Fr tIv S S1 ∧ Iv S1 P ∧ gI S1 12 0 43 = nI P) := by
  intro d
  induction d with
  | zero =>
    intro a S w4 ha h1 hs h43 hz
    obtain rfl : a = P := by omega
    refine r_mask [true, true, true, true, false] rfl ?_
    refine r_iload_n (q := 30) dX12_settleInverses_29 rfl rfl rfl ?_
    refine r_iload_n (q := 31) dX12_settleInverses_30 rfl rfl rfl ?_
    refine r_icmp_geN (q := 34) (t := 73) (by omega) (by omega) dX12_settleInverses_31 (by decide) rfl (fun h31 => ?_) (fun h31 => absurd h31 (by omega))
    refine r_return dX12_settleInverses_73 rfl ?_
    exact ⟨rfl, Fr.rf, hz, h43⟩
  | succ d ih =>
    intro a S w4 ha h1 hs h43 hz
    refine r_mask [true, true, true, true, false] rfl ?_
    refine r_iload_n (q := 30) dX12_settleInverses_29 rfl rfl rfl ?_
    refine r_iload_n (q := 31) dX12_settleInverses_30 rfl rfl rfl ?_
    refine r_icmp_geN (q := 34) (t := 73) (by omega) (by omega) dX12_settleInverses_31 (by decide) rfl (fun h31 => absurd h31 (by omega)) (fun h31 => ?_)
    refine r_iconst (q := 35) (nI 1) dX12_settleInverses_34 rfl (by decide) ?_
    refine r_istore (q := 37) (L' := [some (zr 12 0), some (zi (nI q)), some (zi (nI P)), some (zi (nI a)), some (zi (nI 1))]) dX12_settleInverses_35 rfl (by decide) rfl ?_
    refine lp_iv1 h2 hP (by omega) (P - 1) 1 S (by omega) (by omega) hs (Or.inr (by obtain ⟨i, i1, i2, i3⟩ := inv_ex h2 hP hpr (show a ≠ 0 by omega) (show a < P by omega); exact ⟨i, i1, i2, i3⟩)) (fun S1 f1 g1 g2 g3 => ?_)
    refine r_iincN (q := 70) (L' := [some (zr 12 0), some (zi (nI q)), some (zi (nI P)), some (zi (nI (a + 1))), some (zi (nI P))]) 1 rfl dX12_settleInverses_67 rfl rfl (by decide) rfl ?_
    refine r_goto (q := 29) dX12_settleInverses_70 (by decide) ?_
    exact Ok.mono (ih (a + 1) S1 _ (by omega) (by omega) (hs.fr f1) (g2.trans h43) (fun z z1 z2 => if e : z = a then by rw [e]; exact g3 else by obtain ⟨b, y1, y2, y3⟩ := hz z z1 (by omega); exact ⟨b, (g1 z e).trans y1, y2, y3⟩)) fun r S2 z => ⟨z.1, f1.tr z.2.1, z.2.2⟩

set_option maxRecDepth 100000 in
theorem ok_inverses_y {S : zS} (hs : Sd S) {q P : Nat} (hq : q ≤ 1) (h2 : 2 ≤ P) (hP : P ≤ 97) (hpr : ∀ d, 2 ≤ d → d < P → P % d ≠ 0) (hp : gI S 1322 0 (1173 * q) = nI P) (hI : gI S 12 0 43 = nI P → Iv S P) (h43 : gI S 12 0 43 = nI P) : Ok mX12_settleInverses 0 (ent 5 [zr 12 0, zi (nI q)]) [] S (fun r S1 => r = none ∧ Fr tIv S S1 ∧ Iv S1 P ∧ gI S1 12 0 43 = nI P) := by
  show Ok mX12_settleInverses 0 [some (zr 12 0), some (zi (nI q)), none, none, none] [] S _
  refine r_aload_n (q := 1) dX12_settleInverses_0 rfl rfl rfl ?_
  refine r_getr (q := 4) (some (1322, 0)) ck12 dX12_settleInverses_1 rfl (k := 22) (by decide) wt1300 rfl (hs.e (by decide)) (hs.r (by decide) (by decide)) ?_
  refine r_sipush (q := 7) (nI 1173) dX12_settleInverses_4 rfl (by decide) ?_
  refine r_iload_n (q := 8) dX12_settleInverses_7 rfl rfl rfl ?_
  refine r_imulN (q := 9) dX12_settleInverses_8 rfl ?_
  refine r_iconst (q := 10) (nI 0) dX12_settleInverses_9 rfl (by decide) ?_
  refine r_iaddN (q := 11) dX12_settleInverses_10 rfl ?_
  refine r_ialdN (q := 12) 2346 (by decide) rfl dX12_settleInverses_11 rfl (hs.e (by decide)) (hs.n rfl (by decide)) (by omega) (by decide) ?_
  refine r_topi (y := nI P) hp ?_
  refine r_istore_n (q := 13) (L' := [some (zr 12 0), some (zi (nI q)), some (zi (nI P)), none, none]) dX12_settleInverses_12 rfl rfl (by decide) rfl ?_
  refine r_aload_n (q := 14) dX12_settleInverses_13 rfl rfl rfl ?_
  refine r_geti (q := 17) ck12 dX12_settleInverses_14 rfl (k := 43) (by decide) wt1321 (Or.inl rfl) (hs.e (by decide)) ?_
  refine r_topi (y := nI P) h43 ?_
  refine r_iload_n (q := 18) dX12_settleInverses_17 rfl rfl rfl ?_
  refine r_icmp_neN (q := 21) (t := 22) (by omega) (by omega) dX12_settleInverses_18 (by decide) rfl (fun h18 => absurd h18 (by omega)) (fun h18 => ?_)
  refine r_return dX12_settleInverses_21 rfl ?_
  exact ⟨rfl, Fr.rf, hI h43, h43⟩

set_option maxRecDepth 100000 in
theorem ok_inverses_n {S : zS} (hs : Sd S) {q P : Nat} (hq : q ≤ 1) (h2 : 2 ≤ P) (hP : P ≤ 97) (hpr : ∀ d, 2 ≤ d → d < P → P % d ≠ 0) (hp : gI S 1322 0 (1173 * q) = nI P) (h43 : gI S 12 0 43 ≠ nI P) : Ok mX12_settleInverses 0 (ent 5 [zr 12 0, zi (nI q)]) [] S (fun r S1 => r = none ∧ Fr tIv S S1 ∧ Iv S1 P ∧ gI S1 12 0 43 = nI P) := by
  show Ok mX12_settleInverses 0 [some (zr 12 0), some (zi (nI q)), none, none, none] [] S _
  refine r_aload_n (q := 1) dX12_settleInverses_0 rfl rfl rfl ?_
  refine r_getr (q := 4) (some (1322, 0)) ck12 dX12_settleInverses_1 rfl (k := 22) (by decide) wt1300 rfl (hs.e (by decide)) (hs.r (by decide) (by decide)) ?_
  refine r_sipush (q := 7) (nI 1173) dX12_settleInverses_4 rfl (by decide) ?_
  refine r_iload_n (q := 8) dX12_settleInverses_7 rfl rfl rfl ?_
  refine r_imulN (q := 9) dX12_settleInverses_8 rfl ?_
  refine r_iconst (q := 10) (nI 0) dX12_settleInverses_9 rfl (by decide) ?_
  refine r_iaddN (q := 11) dX12_settleInverses_10 rfl ?_
  refine r_ialdN (q := 12) 2346 (by decide) rfl dX12_settleInverses_11 rfl (hs.e (by decide)) (hs.n rfl (by decide)) (by omega) (by decide) ?_
  refine r_topi (y := nI P) hp ?_
  refine r_istore_n (q := 13) (L' := [some (zr 12 0), some (zi (nI q)), some (zi (nI P)), none, none]) dX12_settleInverses_12 rfl rfl (by decide) rfl ?_
  refine r_aload_n (q := 14) dX12_settleInverses_13 rfl rfl rfl ?_
  refine r_geti (q := 17) ck12 dX12_settleInverses_14 rfl (k := 43) (by decide) wt1321 (Or.inl rfl) (hs.e (by decide)) ?_
  refine r_iload_n (q := 18) dX12_settleInverses_17 rfl rfl rfl ?_
  refine r_icmp_ne (q := 21) (t := 22) dX12_settleInverses_18 (by decide) rfl (fun h18 => ?_) (fun h18 => absurd h18 (fun z => z h43))
  refine r_aload_n (q := 23) dX12_settleInverses_22 rfl rfl rfl ?_
  refine r_iload_n (q := 24) dX12_settleInverses_23 rfl rfl rfl ?_
  refine r_puti (q := 27) ck12 dX12_settleInverses_24 rfl (k := 43) (by decide) wt1321 (Or.inl rfl) rfl (hs.e (by decide)) ?_
  refine r_iconst (q := 28) (nI 1) dX12_settleInverses_27 rfl (by decide) ?_
  refine r_istore_n (q := 29) (L' := [some (zr 12 0), some (zi (nI q)), some (zi (nI P)), some (zi (nI 1)), none]) dX12_settleInverses_28 rfl rfl (by decide) rfl ?_
  have f0 : Fr tIv S (sI S 12 0 43 (nI P)) := (Fr.rf).i rfl
  exact Ok.mono (lp_iv2 h2 hP hpr (P - 1) 1 (sI S 12 0 43 (nI P)) _ (by omega) (by omega) hs (by rw [gI_sI, if_pos ⟨rfl, rfl, rfl⟩]) (fun z z1 z2 => absurd z1 (by omega))) fun r S2 z => ⟨z.1, f0.tr z.2.1, z.2.2⟩

theorem ok_settleInverses {S : zS} (hs : Sd S) {q P : Nat} (hq : q ≤ 1) (h2 : 2 ≤ P) (hP : P ≤ 97) (hpr : ∀ d, 2 ≤ d → d < P → P % d ≠ 0) (hp : gI S 1322 0 (1173 * q) = nI P) (hI : gI S 12 0 43 = nI P → Iv S P) : Ok mX12_settleInverses 0 (ent 5 [zr 12 0, zi (nI q)]) [] S (fun r S1 => r = none ∧ Fr tIv S S1 ∧ Iv S1 P ∧ gI S1 12 0 43 = nI P) := by
  by_cases h : gI S 12 0 43 = nI P
  · exact ok_inverses_y hs hq h2 hP hpr hp hI h
  · exact ok_inverses_n hs hq h2 hP hpr hp h

