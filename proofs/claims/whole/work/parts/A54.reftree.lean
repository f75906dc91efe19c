/-! doing a tree, the reference -/
def tRqv (q x y k : Nat) : Bool := x == 1385 && y == 0 && decide (3 * q ≤ k) && decide (k < 3 * q + 3)
def tRst (x y _k : Nat) : Bool := (x == 1385 || x == 1386) && y == 0
theorem Fr.rq_st {q : Nat} {S S1 : zS} (f : Fr (tRqv q) S S1) : Fr tRst S S1 := f.mono (fun x y k h => by simp [tRqv] at h; simp [tRst, h.1])
theorem Fr.ro_st {S S1 : zS} (f : Fr tRou S S1) : Fr tRst S S1 := f.mono (fun x y k h => by simp [tRou] at h; simp [tRst, h])
theorem RSt.put2 {S S1 : zS} {w P sz q : Nat} (h3 : w ≤ 3) {v : Nat → Nat → Nat} (h : RSt S w P v sz) (hq : q ≤ sz) (f : Fr (tRqv q) S S1) {o : Nat → Nat} (ho : ∀ j, j < w → gI S1 1385 0 (3 * q + j) = nI (o j) ∧ o j < P) {v' : Nat → Nat → Nat} {sz' : Nat} (hv : v' = fun p j => if p = q then o j else v p j) (hz : sz' = q + 1) : RSt S1 w P v' sz' := by
  subst hv hz
  intro p j hp hj
  by_cases e : p = q
  · simp only [if_pos e]; rw [e]; exact ho j hj
  · simp only [if_neg e]
    obtain ⟨h1, h2⟩ := h p j (by omega) hj
    exact ⟨(f.1 _ _ _ (by simp [tRqv]; omega)).trans h1, h2⟩
theorem ok_tab0 {S : zS} (hs : Sd S) {a w e : Nat} (ha : a < 3) (h1 : 1 ≤ w) (h3 : w ≤ 3) (e2 : 2 ≤ e) (e4 : e ≤ 4) (hw : gI S 1306 0 3 = nI w) (he : gI S 1306 0 (4 + a) = nI e) : Ok mX12_table0 0 (ent 4 [zr 12 0, zi (nI a)]) [] S (fun r S1 => r = some (zi (nI (w ^ e * w))) ∧ S1 = S) := by
  have cw : w = 1 ∨ w = 2 ∨ w = 3 := by omega
  have ce : e = 2 ∨ e = 3 ∨ e = 4 := by omega
  rcases cw with rfl | rfl | rfl <;> rcases ce with rfl | rfl | rfl
  · exact ok_X12_table0_1_2 hs ha hw he
  · exact ok_X12_table0_1_3 hs ha hw he
  · exact ok_X12_table0_1_4 hs ha hw he
  · exact ok_X12_table0_2_2 hs ha hw he
  · exact ok_X12_table0_2_3 hs ha hw he
  · exact ok_X12_table0_2_4 hs ha hw he
  · exact ok_X12_table0_3_2 hs ha hw he
  · exact ok_X12_table0_3_3 hs ha hw he
  · exact ok_X12_table0_3_4 hs ha hw he

set_option maxRecDepth 100000 in
theorem lp_rd342 {w P : Nat} (h1 : 1 ≤ w) (h3 : w ≤ 3) (hP2 : 2 ≤ P) (hP97 : P ≤ 97) {cd0 num : Int32} {q lf : Nat} (hq : q < 8) {i0 : Int32} {o : Nat → Nat} {Po : Option zV → zS → Prop} : ∀ (d j : Nat) (S : zS), j + d = w → Sd S → (∀ i, i < w → gI S 1386 0 i = nI (o i)) → (∀ i, i < j → gI S 1385 0 (3 * q + i) = nI (o i)) → (∀ S1, Fr (tRqv q) S S1 → (∀ i, i < w → gI S1 1385 0 (3 * q + i) = nI (o i)) → Ok mX12_doTree 373 [some (zr 12 0), some (zi cd0), some (zi num), some (zi (nI w)), some (zi (nI q)), some (zi (nI lf)), some (zi i0), none, none, none, none, none, none, none] [] S1 Po) → Ok mX12_doTree 342 [some (zr 12 0), some (zi cd0), some (zi num), some (zi (nI w)), some (zi (nI q)), some (zi (nI lf)), some (zi i0), none, none, none, some (zi (nI j)), none, none, none] [] S Po := by
  intro d
  induction d with
  | zero =>
    intro j S hj hs hr hlo K
    obtain rfl : w = j := by omega
    refine r_iload (q := 344) dX12_doTree_342 rfl rfl ?_
    refine r_iload_n (q := 345) dX12_doTree_344 rfl rfl rfl ?_
    refine r_icmp_geN (q := 348) (t := 373) (by omega) (by omega) dX12_doTree_345 (by decide) rfl (fun h345 => ?_) (fun h345 => absurd h345 (by omega))
    refine r_mask [true, true, true, true, true, true, true, true, true, true, false, true, true, true] rfl ?_
    exact K S Fr.rf hlo
  | succ d ih =>
    intro j S hj hs hr hlo K
    have hrj := hr j (by omega)
    have f1 : Fr (tRqv q) S (sI S 1385 0 (3 * q + j) (nI (o j))) := (Fr.rf).i (by simp [tRqv]; omega)
    refine r_iload (q := 344) dX12_doTree_342 rfl rfl ?_
    refine r_iload_n (q := 345) dX12_doTree_344 rfl rfl rfl ?_
    refine r_icmp_geN (q := 348) (t := 373) (by omega) (by omega) dX12_doTree_345 (by decide) rfl (fun h345 => absurd h345 (by omega)) (fun h345 => ?_)
    refine r_aload_n (q := 349) dX12_doTree_348 rfl rfl rfl ?_
    refine r_getr (q := 352) (some (1385, 0)) ck12 dX12_doTree_349 rfl (k := 85) (by decide) wt1363 rfl (hs.e (by decide)) (hs.r (by decide) (by decide)) ?_
    refine r_iconst (q := 353) (nI 3) dX12_doTree_352 rfl (by decide) ?_
    refine r_iload (q := 355) dX12_doTree_353 rfl rfl ?_
    refine r_imulN (q := 356) dX12_doTree_355 rfl ?_
    refine r_iload (q := 358) dX12_doTree_356 rfl rfl ?_
    refine r_iaddN (q := 359) dX12_doTree_358 rfl ?_
    refine r_aload_n (q := 360) dX12_doTree_359 rfl rfl rfl ?_
    refine r_getr (q := 363) (some (1386, 0)) ck12 dX12_doTree_360 rfl (k := 86) (by decide) wt1364 rfl (hs.e (by decide)) (hs.r (by decide) (by decide)) ?_
    refine r_iload (q := 365) dX12_doTree_363 rfl rfl ?_
    refine r_ialdN (q := 366) 3 (by decide) rfl dX12_doTree_365 rfl (hs.e (by decide)) (hs.n rfl (by decide)) (by omega) (by decide) ?_
    refine r_topi (y := nI (o j)) hrj ?_
    refine r_iastN (q := 367) 24 (by decide) rfl dX12_doTree_366 rfl (hs.e (by decide)) (hs.n rfl (by decide)) (by omega) (by decide) ?_
    refine r_iincN (q := 370) (L' := [some (zr 12 0), some (zi cd0), some (zi num), some (zi (nI w)), some (zi (nI q)), some (zi (nI lf)), some (zi i0), none, none, none, some (zi (nI (j + 1))), none, none, none]) 1 rfl dX12_doTree_367 rfl rfl (by decide) rfl ?_
    refine r_goto (q := 342) dX12_doTree_370 (by decide) ?_
    refine ih (j + 1) (sI S 1385 0 (3 * q + j) (nI (o j))) (by omega) (hs.fr f1) (fun i hi => by rw [gI_sI, if_neg (by omega)]; exact hr i hi) (fun i hi => ?_) (fun S1 g h => K S1 (f1.tr g) h)
    rw [gI_sI]
    by_cases e1 : i = j
    · rw [if_pos ⟨rfl, rfl, by omega⟩, e1]
    · rw [if_neg (by omega)]; exact hlo i (by omega)

set_option maxRecDepth 100000 in
theorem lp_rd85 {w P : Nat} (h1 : 1 ≤ w) (h3 : w ≤ 3) (hP2 : 2 ≤ P) (hP97 : P ≤ 97) {cd0 num : Int32} {q lf wy : Nat} (hq : q < 8) (hlf : lf < 8) {i0 : Int32} {Po : Option zV → zS → Prop} (hwy : wy ≤ 3) : ∀ (d j : Nat) (S : zS), j + d = w → Sd S → gI S 1387 0 lf = nI wy → (∀ i, i < j → gI S 1385 0 (3 * q + i) = nI (if i = wy then 1 else 0)) → (∀ S1, Fr (tRqv q) S S1 → (∀ i, i < w → gI S1 1385 0 (3 * q + i) = nI (if i = wy then 1 else 0)) → Ok mX12_doTree 126 [some (zr 12 0), some (zi cd0), some (zi num), some (zi (nI w)), some (zi (nI q)), some (zi (nI lf)), some (zi i0), none, none, none, none, none, none, none] [] S1 Po) → Ok mX12_doTree 85 [some (zr 12 0), some (zi cd0), some (zi num), some (zi (nI w)), some (zi (nI q)), some (zi (nI lf)), some (zi i0), some (zi (nI j)), none, none, none, none, none, none] [] S Po := by
  intro d
  induction d with
  | zero =>
    intro j S hj hs hr hlo K
    obtain rfl : w = j := by omega
    refine r_iload (q := 87) dX12_doTree_85 rfl rfl ?_
    refine r_iload_n (q := 88) dX12_doTree_87 rfl rfl rfl ?_
    refine r_icmp_geN (q := 91) (t := 126) (by omega) (by omega) dX12_doTree_88 (by decide) rfl (fun h88 => ?_) (fun h88 => absurd h88 (by omega))
    refine r_mask [true, true, true, true, true, true, true, false, true, true, true, true, true, true] rfl ?_
    exact K S Fr.rf hlo
  | succ d ih =>
    intro j S hj hs hr hlo K
    refine r_iload (q := 87) dX12_doTree_85 rfl rfl ?_
    refine r_iload_n (q := 88) dX12_doTree_87 rfl rfl rfl ?_
    refine r_icmp_geN (q := 91) (t := 126) (by omega) (by omega) dX12_doTree_88 (by decide) rfl (fun h88 => absurd h88 (by omega)) (fun h88 => ?_)
    refine r_aload_n (q := 92) dX12_doTree_91 rfl rfl rfl ?_
    refine r_getr (q := 95) (some (1385, 0)) ck12 dX12_doTree_92 rfl (k := 85) (by decide) wt1363 rfl (hs.e (by decide)) (hs.r (by decide) (by decide)) ?_
    refine r_iconst (q := 96) (nI 3) dX12_doTree_95 rfl (by decide) ?_
    refine r_iload (q := 98) dX12_doTree_96 rfl rfl ?_
    refine r_imulN (q := 99) dX12_doTree_98 rfl ?_
    refine r_iload (q := 101) dX12_doTree_99 rfl rfl ?_
    refine r_iaddN (q := 102) dX12_doTree_101 rfl ?_
    refine r_iload (q := 104) dX12_doTree_102 rfl rfl ?_
    refine r_aload_n (q := 105) dX12_doTree_104 rfl rfl rfl ?_
    refine r_getr (q := 108) (some (1387, 0)) ck12 dX12_doTree_105 rfl (k := 87) (by decide) wt1365 rfl (hs.e (by decide)) (hs.r (by decide) (by decide)) ?_
    refine r_iload (q := 110) dX12_doTree_108 rfl rfl ?_
    refine r_ialdN (q := 111) 8 (by decide) rfl dX12_doTree_110 rfl (hs.e (by decide)) (hs.n rfl (by decide)) (by omega) (by decide) ?_
    refine r_topi (y := nI wy) hr ?_
    refine r_icmp_neN (q := 114) (t := 118) (by omega) (by omega) dX12_doTree_111 (by decide) rfl (fun h111 => ?_) (fun h111 => ?_)
    · skip
      refine r_iconst (q := 119) (nI 0) dX12_doTree_118 rfl (by decide) ?_
      refine r_iastN (q := 120) 24 (by decide) rfl dX12_doTree_119 rfl (hs.e (by decide)) (hs.n rfl (by decide)) (by omega) (by decide) ?_
      refine r_iincN (q := 123) (L' := [some (zr 12 0), some (zi cd0), some (zi num), some (zi (nI w)), some (zi (nI q)), some (zi (nI lf)), some (zi i0), some (zi (nI (j + 1))), none, none, none, none, none, none]) 1 rfl dX12_doTree_120 rfl rfl (by decide) rfl ?_
      refine r_goto (q := 85) dX12_doTree_123 (by decide) ?_
      have f1 : Fr (tRqv q) S (sI S 1385 0 ((3 * q) + j) (nI 0)) := (Fr.rf).i (by simp [tRqv]; omega)
      refine ih (j + 1) (sI S 1385 0 ((3 * q) + j) (nI 0)) (by omega) (hs.fr f1) (by rw [gI_sI, if_neg (by omega)]; exact hr) (fun i hi => ?_) (fun S1 g h => K S1 (f1.tr g) h)
      rw [gI_sI]
      by_cases e1 : i = j
      · rw [if_pos ⟨rfl, rfl, by omega⟩]
        first | rw [if_pos (by omega)] | rw [if_neg (by omega)]
      · rw [if_neg (by omega)]; exact hlo i (by omega)
    · skip
      refine r_iconst (q := 115) (nI 1) dX12_doTree_114 rfl (by decide) ?_
      refine r_goto (q := 119) dX12_doTree_115 (by decide) ?_
      refine r_iastN (q := 120) 24 (by decide) rfl dX12_doTree_119 rfl (hs.e (by decide)) (hs.n rfl (by decide)) (by omega) (by decide) ?_
      refine r_iincN (q := 123) (L' := [some (zr 12 0), some (zi cd0), some (zi num), some (zi (nI w)), some (zi (nI q)), some (zi (nI lf)), some (zi i0), some (zi (nI (j + 1))), none, none, none, none, none, none]) 1 rfl dX12_doTree_120 rfl rfl (by decide) rfl ?_
      refine r_goto (q := 85) dX12_doTree_123 (by decide) ?_
      have f1 : Fr (tRqv q) S (sI S 1385 0 ((3 * q) + j) (nI 1)) := (Fr.rf).i (by simp [tRqv]; omega)
      refine ih (j + 1) (sI S 1385 0 ((3 * q) + j) (nI 1)) (by omega) (hs.fr f1) (by rw [gI_sI, if_neg (by omega)]; exact hr) (fun i hi => ?_) (fun S1 g h => K S1 (f1.tr g) h)
      rw [gI_sI]
      by_cases e1 : i = j
      · rw [if_pos ⟨rfl, rfl, by omega⟩]
        first | rw [if_pos (by omega)] | rw [if_neg (by omega)]
      · rw [if_neg (by omega)]; exact hlo i (by omega)

set_option maxRecDepth 100000 in
theorem lp_rd64 {w P : Nat} (h1 : 1 ≤ w) (h3 : w ≤ 3) (hP2 : 2 ≤ P) (hP97 : P ≤ 97) {cd0 num : Int32} {n A : Nat} (hn7 : n ≤ 7) {e : Nat → Nat} (hE : Eok A e) {tb : Nat → Nat → Nat} {way : Nat → Nat} {t : List Nat} (ht : Tr A e n t) {Po : Option zV → zS → Prop} : ∀ (d : Nat) (x : Int32) (S : zS), x = nI d - 1 → d ≤ t.length → Sd S → gI S 1306 0 0 = nI P → (∀ a, a < A → gI S 1306 0 (4 + a) = nI (e a)) → gI S 1306 0 3 = nI w → (∀ a, a < A → TbR S a P (tb a)) → (∀ i, i < n → gI S 1387 0 i = nI (way i) ∧ way i ≤ 3) → (∀ i, i < t.length → gI S 1316 0 i = nI (t.getD i 0)) → RSt S w P (dvS w P e tb way n (t.drop d)).1 (dvS w P e tb way n (t.drop d)).2 → (∀ S1 lf', Fr tRst S S1 → RSt S1 w P (dvS w P e tb way n (t)).1 (dvS w P e tb way n (t)).2 → Ok mX12_doTree 382 [some (zr 12 0), some (zi cd0), some (zi num), some (zi (nI w)), some (zi (nI (dvS w P e tb way n (t)).2)), some (zi lf'), some (zi (-1)), none, none, none, none, none, none, none] [] S1 Po) → Ok mX12_doTree 64 [some (zr 12 0), some (zi cd0), some (zi num), some (zi (nI w)), some (zi (nI ((dvS w P e tb way n (t.drop d)).2))), some (zi (nI (n - lvs (t.drop d)))), some (zi x), none, none, none, none, none, none, none] [] S Po := by
  intro d
  induction d with
  | zero =>
    intro x S hx hd hs hp0 he hw hT hway hnd hv K
    have hxe : x = -1 := hx
    subst hxe
    rw [List.drop_zero] at hv ⊢
    refine r_iload (q := 66) dX12_doTree_64 rfl rfl ?_
    refine r_if_lt (q := 69) (t := 382) dX12_doTree_66 (by decide) rfl (fun h66 => ?_) (fun h66 => absurd h66 (by decide))
    exact K S _ Fr.rf hv
  | succ d ih =>
    intro x S hx hd hs hp0 he hw hT hway hnd hv K
    rw [nI_pred] at hx
    subst hx
    have hdl : d < t.length := by omega
    have hdr := drop_at hdl
    obtain ⟨m0, hF0⟩ := Fs.suf (p := t.take d) (r := t.drop d) (by rw [List.take_append_drop]; exact ht.1)
    have hlt : t.length ≤ 13 := by have := len_la t; have := ht.1.cnt (fun a ha => (hE.2 a ha).1); have := ht.2; omega
    have hl0 : lvs (t.drop d) ≤ n := by
      have := congrArg lvs (List.take_append_drop d t)
      rw [lvs_app, ht.2] at this
      omega
    have hnode := hnd d hdl
    obtain ⟨k, hk⟩ : ∃ k, k = t.getD d 0 := ⟨_, rfl⟩
    obtain ⟨l, hl⟩ : ∃ l, l = t.drop (d + 1) := ⟨_, rfl⟩
    rw [← hk, ← hl] at hdr
    rw [← hk] at hnode
    rw [hdr] at hF0 hl0 ih
    rw [← hl] at hv ⊢
    obtain ⟨hm0, hF⟩ := hF0
    by_cases e0 : k = 0
    · subst e0
      rw [if_pos rfl] at hF
      have hszl := dvS_sz (w := w) (P := P) (tb := tb) (way := way) (n := n) hF
      have hcl : acs l + (m0 - 1) ≤ lvs l := hF.cnt (fun a ha => (hE.2 a ha).1)
      have hl1 : lvs (0 :: l) = 1 + lvs l := rfl
      have hw1 := hway (n - lvs l - 1) (by omega)
      have d1 : (dvS w P e tb way n (0 :: l)).1 = fun p j => if p = (dvS w P e tb way n (l)).2 then (if j = way (n - lvs l - 1) then 1 else 0) else (dvS w P e tb way n (l)).1 p j := rfl
      have d2 : (dvS w P e tb way n (0 :: l)).2 = (dvS w P e tb way n (l)).2 + 1 := rfl
      have hlf : n - lvs (0 :: l) = n - lvs l - 1 := by omega
      rw [d2, hlf] at ih
      have hsz7 : (dvS w P e tb way n (l)).2 < 8 := by omega
      refine r_iload (q := 66) dX12_doTree_64 rfl rfl ?_
      refine r_if_ltN (q := 69) (t := 382) (by omega) dX12_doTree_66 (by decide) rfl ?_
      refine r_aload_n (q := 70) dX12_doTree_69 rfl rfl rfl ?_
      refine r_getr (q := 73) (some (1316, 0)) ck12 dX12_doTree_70 rfl (k := 16) (by decide) wt1294 rfl (hs.e (by decide)) (hs.r (by decide) (by decide)) ?_
      refine r_iload (q := 75) dX12_doTree_73 rfl rfl ?_
      refine r_ialdN (q := 76) 16 (by decide) rfl dX12_doTree_75 rfl (hs.e (by decide)) (hs.n rfl (by decide)) (by omega) (by decide) ?_
      refine r_topi (y := nI 0) hnode ?_
      refine r_if_neN (q := 79) (t := 132) (by omega) dX12_doTree_76 (by decide) rfl (fun h76 => absurd h76 (by omega)) (fun h76 => ?_)
      refine r_idecN (q := 82) (L' := [some (zr 12 0), some (zi cd0), some (zi num), some (zi (nI w)), some (zi (nI ((dvS w P e tb way n (l)).2))), some (zi (nI (n - lvs l - 1))), some (zi (nI d)), none, none, none, none, none, none, none]) 1 (by omega) rfl dX12_doTree_79 rfl rfl (by decide) rfl ?_
      refine r_iconst (q := 83) (nI 0) dX12_doTree_82 rfl (by decide) ?_
      refine r_istore (q := 85) (L' := [some (zr 12 0), some (zi cd0), some (zi num), some (zi (nI w)), some (zi (nI ((dvS w P e tb way n (l)).2))), some (zi (nI (n - lvs l - 1))), some (zi (nI d)), some (zi (nI 0)), none, none, none, none, none, none]) dX12_doTree_83 rfl (by decide) rfl ?_
      refine lp_rd85 h1 h3 hP2 hP97 hsz7 (by omega) hw1.2 w 0 S (by omega) hs hw1.1 (fun i hi => absurd hi (by omega)) (fun S1 g h => ?_)
      have hv1 : RSt S1 w P (dvS w P e tb way n (0 :: l)).1 ((dvS w P e tb way n (l)).2 + 1) := hv.put2 h3 (Nat.le_refl _) g (o := fun j => if j = way (n - lvs l - 1) then 1 else 0) (fun j hj => ⟨h j hj, by split <;> omega⟩) d1 rfl
      have f1 := g.rq_st
      have hs1 : Sd S1 := hs.fr g
      refine r_iincN (q := 129) (L' := [some (zr 12 0), some (zi cd0), some (zi num), some (zi (nI w)), some (zi (nI ((dvS w P e tb way n (l)).2 + 1))), some (zi (nI (n - lvs l - 1))), some (zi (nI d)), none, none, none, none, none, none, none]) 1 rfl dX12_doTree_126 rfl rfl (by decide) rfl ?_
      refine r_goto (q := 376) dX12_doTree_129 (by decide) ?_
      refine r_iinc (q := 379) (L' := [some (zr 12 0), some (zi cd0), some (zi num), some (zi (nI w)), some (zi (nI ((dvS w P e tb way n (l)).2 + 1))), some (zi (nI (n - lvs l - 1))), some (zi ((nI d) + (-1))), none, none, none, none, none, none, none]) ((nI d) + (-1)) dX12_doTree_376 rfl rfl (by decide) rfl rfl ?_
      refine r_goto (q := 64) dX12_doTree_379 (by decide) ?_
      exact ih (nI d + (-1)) S1 (Int32.sub_eq_add_neg _ _).symm (by omega) (hs.fr f1) ((f1.1 _ _ _ rfl).trans hp0) (fun a ha => (f1.1 _ _ _ rfl).trans (he a ha)) ((f1.1 _ _ _ rfl).trans hw) (fun a ha => (hT a ha).fr f1 (fun _ => rfl)) (fun i hi => ⟨(f1.1 _ _ _ rfl).trans (hway i hi).1, (hway i hi).2⟩) (fun i hi => (f1.1 _ _ _ rfl).trans (hnd i hi)) hv1 (fun S2 lf' g2 h2 => K S2 lf' (f1.tr g2) h2)
    · rw [if_neg e0] at hF
      obtain ⟨hkA', hF⟩ := hF
      have hkA : k - 1 < A := by omega
      have hA3 := hE.1
      have hek := hE.2 (k - 1) hkA
      have hszl := dvS_sz (w := w) (P := P) (tb := tb) (way := way) (n := n) hF
      have hcl := hF.cnt (fun a ha => (hE.2 a ha).1)
      have hl1 : lvs (k :: l) = lvs l := by show (if k = 0 then 1 else 0) + lvs l = _; rw [if_neg e0, Nat.zero_add]
      have d1 : (dvS w P e tb way n (k :: l)).1 = fun p j => if p = (dvS w P e tb way n (l)).2 - e (k - 1) then oaP w P (dvS w P e tb way n (l)).1 (dvS w P e tb way n (l)).2 (e (k - 1)) (tb (k - 1)) (w ^ e (k - 1)) j else (dvS w P e tb way n (l)).1 p j := by rw [dvS, if_neg e0]
      have d2 : (dvS w P e tb way n (k :: l)).2 = (dvS w P e tb way n (l)).2 - e (k - 1) + 1 := by rw [dvS, if_neg e0]
      have hek2 := he (k - 1) hkA
      have hwe : w ^ e (k - 1) ≤ 81 := pw_le h1 h3 hek.2
      have hwew : w ^ e (k - 1) * w ≤ 81 * 3 := Nat.mul_le_mul hwe h3
      rw [d2, hl1] at ih
      refine r_iload (q := 66) dX12_doTree_64 rfl rfl ?_
      refine r_if_ltN (q := 69) (t := 382) (by omega) dX12_doTree_66 (by decide) rfl ?_
      refine r_aload_n (q := 70) dX12_doTree_69 rfl rfl rfl ?_
      refine r_getr (q := 73) (some (1316, 0)) ck12 dX12_doTree_70 rfl (k := 16) (by decide) wt1294 rfl (hs.e (by decide)) (hs.r (by decide) (by decide)) ?_
      refine r_iload (q := 75) dX12_doTree_73 rfl rfl ?_
      refine r_ialdN (q := 76) 16 (by decide) rfl dX12_doTree_75 rfl (hs.e (by decide)) (hs.n rfl (by decide)) (by omega) (by decide) ?_
      refine r_topi (y := nI k) hnode ?_
      refine r_if_neN (q := 79) (t := 132) (by omega) dX12_doTree_76 (by decide) rfl (fun h76 => ?_) (fun h76 => absurd h76 (by omega))
      refine r_aload_n (q := 133) dX12_doTree_132 rfl rfl rfl ?_
      refine r_getr (q := 136) (some (1316, 0)) ck12 dX12_doTree_133 rfl (k := 16) (by decide) wt1294 rfl (hs.e (by decide)) (hs.r (by decide) (by decide)) ?_
      refine r_iload (q := 138) dX12_doTree_136 rfl rfl ?_
      refine r_ialdN (q := 139) 16 (by decide) rfl dX12_doTree_138 rfl (hs.e (by decide)) (hs.n rfl (by decide)) (by omega) (by decide) ?_
      refine r_topi (y := nI k) hnode ?_
      refine r_iconst (q := 140) (nI 1) dX12_doTree_139 rfl (by decide) ?_
      refine r_isubN (q := 141) (by omega) dX12_doTree_140 rfl ?_
      refine r_istore (q := 143) (L' := [some (zr 12 0), some (zi cd0), some (zi num), some (zi (nI w)), some (zi (nI ((dvS w P e tb way n (l)).2))), some (zi (nI (n - lvs l))), some (zi (nI d)), some (zi (nI (k - 1))), none, none, none, none, none, none]) dX12_doTree_141 rfl (by decide) rfl ?_
      refine r_aload_n (q := 144) dX12_doTree_143 rfl rfl rfl ?_
      refine r_getr (q := 147) (some (1306, 0)) ck12 dX12_doTree_144 rfl (k := 6) (by decide) wt1284 rfl (hs.e (by decide)) (hs.r (by decide) (by decide)) ?_
      refine r_iconst (q := 148) (nI 4) dX12_doTree_147 rfl (by decide) ?_
      refine r_iload (q := 150) dX12_doTree_148 rfl rfl ?_
      refine r_iaddN (q := 151) dX12_doTree_150 rfl ?_
      refine r_ialdN (q := 152) 3775 (by decide) rfl dX12_doTree_151 rfl (hs.e (by decide)) (hs.n rfl (by decide)) (by omega) (by decide) ?_
      refine r_topi (y := nI (e (k - 1))) hek2 ?_
      refine r_istore (q := 154) (L' := [some (zr 12 0), some (zi cd0), some (zi num), some (zi (nI w)), some (zi (nI ((dvS w P e tb way n (l)).2))), some (zi (nI (n - lvs l))), some (zi (nI d)), some (zi (nI (k - 1))), some (zi (nI (e (k - 1)))), none, none, none, none, none]) dX12_doTree_152 rfl (by decide) rfl ?_
      refine r_aload_n (q := 155) dX12_doTree_154 rfl rfl rfl ?_
      refine r_iload (q := 157) dX12_doTree_155 rfl rfl ?_
      refine r_callV (Mc := mX12_table0) (q := 160) (As := [zi (nI (k - 1))]) (st := []) ck12 dX12_doTree_157 rfl rfl mkX12_table0 wt1980 wt1982 wp140 rfl (Nat.le_of_ble_eq_true rfl) (Nat.le_of_ble_eq_true rfl) (by decide) (by decide) (by decide) (Or.inl rfl) (hs.e (by decide)) (ok_tab0 hs (by omega) h1 h3 hek.1 hek.2 hw hek2) (fun r157 S157 hp157 => ?_)
      obtain ⟨rfl, hq157⟩ := hp157
      rw [hq157]
      show Ok _ _ _ [zi (nI (w ^ e (k - 1) * w))] _ _
      refine r_iload_n (q := 161) dX12_doTree_160 rfl rfl rfl ?_
      refine r_idivN (q := 162) (by omega) (by omega) (by omega) dX12_doTree_161 rfl ?_
      refine r_topi (y := nI (w ^ e (k - 1))) (congrArg nI (Nat.mul_div_cancel _ (by omega))) ?_
      refine r_istore (q := 164) (L' := [some (zr 12 0), some (zi cd0), some (zi num), some (zi (nI w)), some (zi (nI ((dvS w P e tb way n (l)).2))), some (zi (nI (n - lvs l))), some (zi (nI d)), some (zi (nI (k - 1))), some (zi (nI (e (k - 1)))), some (zi (nI (w ^ e (k - 1)))), none, none, none, none]) dX12_doTree_162 rfl (by decide) rfl ?_
      refine r_iconst (q := 165) (nI 0) dX12_doTree_164 rfl (by decide) ?_
      refine r_istore (q := 167) (L' := [some (zr 12 0), some (zi cd0), some (zi num), some (zi (nI w)), some (zi (nI ((dvS w P e tb way n (l)).2))), some (zi (nI (n - lvs l))), some (zi (nI d)), some (zi (nI (k - 1))), some (zi (nI (e (k - 1)))), some (zi (nI (w ^ e (k - 1)))), some (zi (nI 0)), none, none, none]) dX12_doTree_165 rfl (by decide) rfl ?_
      refine lp_rd167 (P := P) (v := (dvS w P e tb way n (l)).1) (show k - 1 < 3 by omega) (show (dvS w P e tb way n (l)).2 ≤ 8 by omega) (show e (k - 1) ≤ (dvS w P e tb way n (l)).2 by omega) hek.2 h1 h3 hP2 hP97 w 0 S (by omega) hs (fun S2 g2 hz2 _ => ?_)
      have hs2 : Sd S2 := hs.fr g2
      refine r_iconst (q := 188) (nI 0) dX12_doTree_187 rfl (by decide) ?_
      refine r_istore (q := 190) (L' := [some (zr 12 0), some (zi cd0), some (zi num), some (zi (nI w)), some (zi (nI ((dvS w P e tb way n (l)).2))), some (zi (nI (n - lvs l))), some (zi (nI d)), some (zi (nI (k - 1))), some (zi (nI (e (k - 1)))), some (zi (nI (w ^ e (k - 1)))), some (zi (nI 0)), none, none, none]) dX12_doTree_188 rfl (by decide) rfl ?_
      refine lp_rd190 (P := P) (v := (dvS w P e tb way n (l)).1) (show k - 1 < 3 by omega) (show (dvS w P e tb way n (l)).2 ≤ 8 by omega) (show e (k - 1) ≤ (dvS w P e tb way n (l)).2 by omega) (show 1 ≤ e (k - 1) by omega) hek.2 h1 h3 hP2 hP97 (tb := tb (k - 1)) (w ^ e (k - 1)) 0 S2 (by omega) hs2 ((g2.1 _ _ _ rfl).trans hp0) (hv.fr g2 (fun _ => rfl)) ((hT (k - 1) hkA).fr g2 (fun _ => rfl)) (fun i hi => hz2 i (Nat.zero_le _) hi) (fun S3 g3 h3' => ?_)
      have hs3 : Sd S3 := hs2.fr g3
      refine r_iload (q := 334) dX12_doTree_332 rfl rfl ?_
      refine r_iload (q := 336) dX12_doTree_334 rfl rfl ?_
      refine r_isubN (q := 337) (by omega) dX12_doTree_336 rfl ?_
      refine r_istore (q := 339) (L' := [some (zr 12 0), some (zi cd0), some (zi num), some (zi (nI w)), some (zi (nI (((dvS w P e tb way n (l)).2) - (e (k - 1))))), some (zi (nI (n - lvs l))), some (zi (nI d)), some (zi (nI (k - 1))), some (zi (nI (e (k - 1)))), some (zi (nI (w ^ e (k - 1)))), none, none, none, none]) dX12_doTree_337 rfl (by decide) rfl ?_
      refine r_iconst (q := 340) (nI 0) dX12_doTree_339 rfl (by decide) ?_
      refine r_istore (q := 342) (L' := [some (zr 12 0), some (zi cd0), some (zi num), some (zi (nI w)), some (zi (nI (((dvS w P e tb way n (l)).2) - (e (k - 1))))), some (zi (nI (n - lvs l))), some (zi (nI d)), some (zi (nI (k - 1))), some (zi (nI (e (k - 1)))), some (zi (nI (w ^ e (k - 1)))), some (zi (nI 0)), none, none, none]) dX12_doTree_340 rfl (by decide) rfl ?_
      refine r_mask [true, true, true, true, true, true, true, false, false, false, true, true, true, true] rfl ?_
      refine lp_rd342 h1 h3 hP2 hP97 (show (dvS w P e tb way n (l)).2 - e (k - 1) < 8 by omega) w 0 S3 (by omega) hs3 h3' (fun i hi => absurd hi (by omega)) (fun S1 g h => ?_)
      have hv1 : RSt S1 w P (dvS w P e tb way n (k :: l)).1 ((dvS w P e tb way n (l)).2 - e (k - 1) + 1) := ((hv.fr g2 (fun _ => rfl)).fr g3 (fun _ => rfl)).put2 h3 (Nat.sub_le _ _) g (o := oaP w P (dvS w P e tb way n (l)).1 (dvS w P e tb way n (l)).2 (e (k - 1)) (tb (k - 1)) (w ^ e (k - 1))) (fun j hj => ⟨h j hj, oaP_lt (by omega) _ _⟩) d1 rfl
      have f1 := (g2.tr g3).ro_st.tr g.rq_st
      have hs1 : Sd S1 := hs3.fr g
      refine r_iincN (q := 376) (L' := [some (zr 12 0), some (zi cd0), some (zi num), some (zi (nI w)), some (zi (nI ((dvS w P e tb way n (l)).2 - e (k - 1) + 1))), some (zi (nI (n - lvs l))), some (zi (nI d)), none, none, none, none, none, none, none]) 1 rfl dX12_doTree_373 rfl rfl (by decide) rfl ?_
      refine r_iinc (q := 379) (L' := [some (zr 12 0), some (zi cd0), some (zi num), some (zi (nI w)), some (zi (nI ((dvS w P e tb way n (l)).2 - e (k - 1) + 1))), some (zi (nI (n - lvs l))), some (zi ((nI d) + (-1))), none, none, none, none, none, none, none]) ((nI d) + (-1)) dX12_doTree_376 rfl rfl (by decide) rfl rfl ?_
      refine r_goto (q := 64) dX12_doTree_379 (by decide) ?_
      exact ih (nI d + (-1)) S1 (Int32.sub_eq_add_neg _ _).symm (by omega) (hs.fr f1) ((f1.1 _ _ _ rfl).trans hp0) (fun a ha => (f1.1 _ _ _ rfl).trans (he a ha)) ((f1.1 _ _ _ rfl).trans hw) (fun a ha => (hT a ha).fr f1 (fun _ => rfl)) (fun i hi => ⟨(f1.1 _ _ _ rfl).trans (hway i hi).1, (hway i hi).2⟩) (fun i hi => (f1.1 _ _ _ rfl).trans (hnd i hi)) hv1 (fun S2 lf' g2 h2 => K S2 lf' (f1.tr g2) h2)

