/-! doing a tree, the reference -/
def tRqv (q x y k : Nat) : Bool := x == 1385 && y == 0 && decide (3 * q ≤ k) && decide (k < 3 * q + 3)
def tRst (x y _k : Nat) : Bool := (x == 1385 || x == 1386) && y == 0
theorem Fr.rq_st {q : Nat} {S S1 : zS} (f : Fr (tRqv q) S S1) : Fr tRst S S1 := f.mono (fun x y k h => by simp [tRqv] at h; simp [tRst, h.1])
theorem Fr.ro_st {S S1 : zS} (f : Fr tRou S S1) : Fr tRst S S1 := f.mono (fun x y k h => by simp [tRou] at h; simp [tRst, h])
theorem RSt.put2 {S S1 : zS} {w P sz q : Nat} (h3 : w ≤ 3) {v : Nat → Nat → Nat} (h : RSt S w P v sz) (hq : q ≤ sz) (f : Fr (tRqv q) S S1) {o : Nat → Nat} (ho : ∀ j, j < w → gI S1 1385 0 (3 * q + j) = nI (o j) ∧ o j < P) {v' : Nat → Nat → Nat} {sz' : Nat} (hv : v' = fun p j => if p = q then o j else v p j) (hz : sz' = q + 1) : RSt S1 w P v' sz' := by
  subst hv hz
  intro p j hp hj
  by_cases e : p = q
  · simp only [if_pos e]; rw [e]; exact ho j hj
  · simp only [if_neg e]
    obtain ⟨h1, h2⟩ := h p j (by omega) hj
    exact ⟨(f.1 _ _ _ (by simp [tRqv]; omega)).trans h1, h2⟩
theorem ok_tab0 {S : zS} (hs : Sd S) {a w e : Nat} (ha : a < 3) (h1 : 1 ≤ w) (h3 : w ≤ 3) (e2 : 2 ≤ e) (e4 : e ≤ 4) (hw : gI S 1306 0 3 = nI w) (he : gI S 1306 0 (4 + a) = nI e) : Ok mX12_table0 0 (ent 4 [zr 12 0, zi (nI a)]) [] S (fun r S1 => r = some (zi (nI (w ^ e * w))) ∧ S1 = S) := by
  have cw : w = 1 ∨ w = 2 ∨ w = 3 := by omega
  have ce : e = 2 ∨ e = 3 ∨ e = 4 := by omega
  rcases cw with rfl | rfl | rfl <;> rcases ce with rfl | rfl | rfl
  · exact ok_X12_table0_1_2 hs ha hw he
  · exact ok_X12_table0_1_3 hs ha hw he
  · exact ok_X12_table0_1_4 hs ha hw he
  · exact ok_X12_table0_2_2 hs ha hw he
  · exact ok_X12_table0_2_3 hs ha hw he
  · exact ok_X12_table0_2_4 hs ha hw he
  · exact ok_X12_table0_3_2 hs ha hw he
  · exact ok_X12_table0_3_3 hs ha hw he
  · exact ok_X12_table0_3_4 hs ha hw he

set_option maxRecDepth 100000 in
theorem lp_rd342 {w P : Nat} (h1 : 1 ≤ w) (h3 : w ≤ 3) (hP2 : 2 ≤ P) (hP97 : P ≤ 97) {cd0 num : Int32} {q lf : Nat} (hq : q < 8) {i0 : Int32} {o : Nat → Nat} {Po : Option zV → zS → Prop} : ∀ (d j : Nat) (S : zS), j + d = w → Sd S → (∀ i, i < w → gI S 1386 0 i = nI (o i)) → (∀ i, i < j → gI S 1385 0 (3 * q + i) = nI (o i)) → (∀ S1, Fr (tRqv q) S S1 → (∀ i, i < w → gI S1 1385 0 (3 * q + i) = nI (o i)) → Ok mX12_doTree 373 [some (zr 12 0), some (zi cd0), some (zi num), some (zi (nI w)), some (zi (nI q)), some (zi (nI lf)), some (zi i0), none, none, none, none, none, none, none] [] S1 Po) → Ok mX12_doTree 342 [some (zr 12 0), some (zi cd0), some (zi num), some (zi (nI w)), some (zi (nI q)), some (zi (nI lf)), some (zi i0), none, none, none, some (zi (nI j)), none, none, none] [] S Po := by
  intro d
  induction d with
  | zero =>
    intro j S hj hs hr hlo K
    obtain rfl : w = j := by omega
    refine r_iload (q := 344) dX12_doTree_342 rfl rfl ?_
    refine r_iload_n (q := 345) dX12_doTree_344 rfl rfl rfl ?_
    refine r_icmp_geN (q := 348) (t := 373) (by omega) (by omega) dX12_doTree_345 (by decide) rfl (fun h345 => ?_) (fun h345 => absurd h345 (by omega))
    refine r_mask [true, true, true, true, true, true, true, true, true, true, false, true, true, true] rfl ?_
    exact K S Fr.rf hlo
  | succ d ih =>
    intro j S hj hs hr hlo K
    have hrj := hr j (by omega)
    have f1 : Fr (tRqv q) S (sI S 1385 0 (3 * q + j) (nI (o j))) := (Fr.rf).i (by simp [tRqv]; omega)
    refine r_iload (q := 344) dX12_doTree_342 rfl rfl ?_
    refine r_iload_n (q := 345) dX12_doTree_344 rfl rfl rfl ?_
    refine r_icmp_geN (q := 348) (t := 373) (by omega) (by omega) dX12_doTree_345 (by decide) rfl (fun h345 => absurd h345 (by omega)) (fun h345 => ?_)
    refine r_aload_n (q := 349) dX12_doTree_348 rfl rfl rfl ?_
    refine r_getr (q := 352) (some (1385, 0)) ck12 dX12_doTree_349 rfl (k := 85) (by decide) wt1361 rfl (hs.e (by decide)) (hs.r (by decide) (by decide)) ?_
    refine r_iconst (q := 353) (nI 3) dX12_doTree_352 rfl (by decide) ?_
    refine r_iload (q := 355) dX12_doTree_353 rfl rfl ?_
    refine r_imulN (q := 356) dX12_doTree_355 rfl ?_
    refine r_iload (q := 358) dX12_doTree_356 rfl rfl ?_
    refine r_iaddN (q := 359) dX12_doTree_358 rfl ?_
    refine r_aload_n (q := 360) dX12_doTree_359 rfl rfl rfl ?_
    refine r_getr (q := 363) (some (1386, 0)) ck12 dX12_doTree_360 rfl (k := 86) (by decide) wt1362 rfl (hs.e (by decide)) (hs.r (by decide) (by decide)) ?_
    refine r_iload (q := 365) dX12_doTree_363 rfl rfl ?_
    refine r_ialdN (q := 366) 3 (by decide) rfl dX12_doTree_365 rfl (hs.e (by decide)) (hs.n rfl (by decide)) (by omega) (by decide) ?_
    refine r_topi (y := nI (o j)) hrj ?_
    refine r_iastN (q := 367) 24 (by decide) rfl dX12_doTree_366 rfl (hs.e (by decide)) (hs.n rfl (by decide)) (by omega) (by decide) ?_
    refine r_iincN (q := 370) (L' := [some (zr 12 0), some (zi cd0), some (zi num), some (zi (nI w)), some (zi (nI q)), some (zi (nI lf)), some (zi i0), none, none, none, some (zi (nI (j + 1))), none, none, none]) 1 rfl dX12_doTree_367 rfl rfl (by decide) rfl ?_
    refine r_goto (q := 342) dX12_doTree_370 (by decide) ?_
    refine ih (j + 1) (sI S 1385 0 (3 * q + j) (nI (o j))) (by omega) (hs.fr f1) (fun i hi => by rw [gI_sI, if_neg (by omega)]; exact hr i hi) (fun i hi => ?_) (fun S1 g h => K S1 (f1.tr g) h)
    rw [gI_sI]
    by_cases e1 : i = j
    · rw [if_pos ⟨rfl, rfl, by omega⟩, e1]
    · rw [if_neg (by omega)]; exact hlo i (by omega)

set_option maxRecDepth 100000 in
theorem lp_rd85 {w P : Nat} (h1 : 1 ≤ w) (h3 : w ≤ 3) (hP2 : 2 ≤ P) (hP97 : P ≤ 97) {cd0 num : Int32} {q lf wy : Nat} (hq : q < 8) (hlf : lf < 8) {i0 : Int32} {Po : Option zV → zS → Prop} (hwy : wy ≤ 3) : ∀ (d j : Nat) (S : zS), j + d = w → Sd S → gI S 1387 0 lf = nI wy → (∀ i, i < j → gI S 1385 0 (3 * q + i) = nI (if i = wy then 1 else 0)) → (∀ S1, Fr (tRqv q) S S1 → (∀ i, i < w → gI S1 1385 0 (3 * q + i) = nI (if i = wy then 1 else 0)) → Ok mX12_doTree 126 [some (zr 12 0), some (zi cd0), some (zi num), some (zi (nI w)), some (zi (nI q)), some (zi (nI lf)), some (zi i0), none, none, none, none, none, none, none] [] S1 Po) → Ok mX12_doTree 85 [some (zr 12 0), some (zi cd0), some (zi num), some (zi (nI w)), some (zi (nI q)), some (zi (nI lf)), some (zi i0), some (zi (nI j)), none, none, none, none, none, none] [] S Po := by
  intro d
  induction d with
  | zero =>
    intro j S hj hs hr hlo K
    obtain rfl : w = j := by omega
    refine r_iload (q := 87) dX12_doTree_85 rfl rfl ?_
    refine r_iload_n (q := 88) dX12_doTree_87 rfl rfl rfl ?_
    refine r_icmp_geN (q := 91) (t := 126) (by omega) (by omega) dX12_doTree_88 (by decide) rfl (fun h88 => ?_) (fun h88 => absurd h88 (by omega))
    refine r_mask [true, true, true, true, true, true, true, false, true, true, true, true, true, true] rfl ?_
    exact K S Fr.rf hlo
  | succ d ih =>
    intro j S hj hs hr hlo K
    refine r_iload (q := 87) dX12_doTree_85 rfl rfl ?_
    refine r_iload_n (q := 88) dX12_doTree_87 rfl rfl rfl ?_
    refine r_icmp_geN (q := 91) (t := 126) (by omega) (by omega) dX12_doTree_88 (by decide) rfl (fun h88 => absurd h88 (by omega)) (fun h88 => ?_)
    refine r_aload_n (q := 92) dX12_doTree_91 rfl rfl rfl ?_
    refine r_getr (q := 95) (some (1385, 0)) ck12 dX12_doTree_92 rfl (k := 85) (by decide) wt1361 rfl (hs.e (by decide)) (hs.r (by decide) (by decide)) ?_
    refine r_iconst (q := 96) (nI 3) dX12_doTree_95 rfl (by decide) ?_
    refine r_iload (q := 98) dX12_doTree_96 rfl rfl ?_
    refine r_imulN (q := 99) dX12_doTree_98 rfl ?_
    refine r_iload (q := 101) dX12_doTree_99 rfl rfl ?_
    refine r_iaddN (q := 102) dX12_doTree_101 rfl ?_
    refine r_iload (q := 104) dX12_doTree_102 rfl rfl ?_
    refine r_aload_n (q := 105) dX12_doTree_104 rfl rfl rfl ?_
    refine r_getr (q := 108) (some (1387, 0)) ck12 dX12_doTree_105 rfl (k := 87) (by decide) wt1363 rfl (hs.e (by decide)) (hs.r (by decide) (by decide)) ?_
    refine r_iload (q := 110) dX12_doTree_108 rfl rfl ?_
    refine r_ialdN (q := 111) 8 (by decide) rfl dX12_doTree_110 rfl (hs.e (by decide)) (hs.n rfl (by decide)) (by omega) (by decide) ?_
    refine r_topi (y := nI wy) hr ?_
    refine r_icmp_neN (q := 114) (t := 118) (by omega) (by omega) dX12_doTree_111 (by decide) rfl (fun h111 => ?_) (fun h111 => ?_)
    · skip
      refine r_iconst (q := 119) (nI 0) dX12_doTree_118 rfl (by decide) ?_
      refine r_iastN (q := 120) 24 (by decide) rfl dX12_doTree_119 rfl (hs.e (by decide)) (hs.n rfl (by decide)) (by omega) (by decide) ?_
      refine r_iincN (q := 123) (L' := [some (zr 12 0), some (zi cd0), some (zi num), some (zi (nI w)), some (zi (nI q)), some (zi (nI lf)), some (zi i0), some (zi (nI (j + 1))), none, none, none, none, none, none]) 1 rfl dX12_doTree_120 rfl rfl (by decide) rfl ?_
      refine r_goto (q := 85) dX12_doTree_123 (by decide) ?_
      have f1 : Fr (tRqv q) S (sI S 1385 0 ((3 * q) + j) (nI 0)) := (Fr.rf).i (by simp [tRqv]; omega)
      refine ih (j + 1) (sI S 1385 0 ((3 * q) + j) (nI 0)) (by omega) (hs.fr f1) (by rw [gI_sI, if_neg (by omega)]; exact hr) (fun i hi => ?_) (fun S1 g h => K S1 (f1.tr g) h)
      rw [gI_sI]
      by_cases e1 : i = j
      · rw [if_pos ⟨rfl, rfl, by omega⟩]
        first | rw [if_pos (by omega)] | rw [if_neg (by omega)]
      · rw [if_neg (by omega)]; exact hlo i (by omega)
    · skip
      refine r_iconst (q := 115) (nI 1) dX12_doTree_114 rfl (by decide) ?_
      refine r_goto (q := 119) dX12_doTree_115 (by decide) ?_
      refine r_iastN (q := 120) 24 (by decide) rfl dX12_doTree_119 rfl (hs.e (by decide)) (hs.n rfl (by decide)) (by omega) (by decide) ?_
      refine r_iincN (q := 123) (L' := [some (zr 12 0), some (zi cd0), some (zi num), some (zi (nI w)), some (zi (nI q)), some (zi (nI lf)), some (zi i0), some (zi (nI (j + 1))), none, none, none, none, none, none]) 1 rfl dX12_doTree_120 rfl rfl (by decide) rfl ?_
      refine r_goto (q := 85) dX12_doTree_123 (by decide) ?_
      have f1 : Fr (tRqv q) S (sI S 1385 0 ((3 * q) + j) (nI 1)) := (Fr.rf).i (by simp [tRqv]; omega)
      refine ih (j + 1) (sI S 1385 0 ((3 * q) + j) (nI 1)) (by omega) (hs.fr f1) (by rw [gI_sI, if_neg (by omega)]; exact hr) (fun i hi => ?_) (fun S1 g h => K S1 (f1.tr g) h)
      rw [gI_sI]
      by_cases e1 : i = j
      · rw [if_pos ⟨rfl, rfl, by omega⟩]
        first | rw [if_pos (by omega)] | rw [if_neg (by omega)]
      · rw [if_neg (by omega)]; exact hlo i (by omega)

