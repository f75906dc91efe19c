/-! doing a tree -/
/-- the rows on the stack behind the tokens l, read from the right -/
def dvS (w P : Nat) (e : Nat → Nat) (tb : Nat → Nat → Nat) (way : Nat → Nat) (n : Nat) : List Nat → (Nat → Nat → Nat) × Nat
  | [] => (fun _ _ => 0, 0)
  | k :: l => if k = 0 then (fun p j => if p = (dvS w P e tb way n l).2 then (if j = way (n - lvs l - 1) then 1 else 0) else (dvS w P e tb way n l).1 p j, (dvS w P e tb way n l).2 + 1)
    else (fun p j => if p = (dvS w P e tb way n l).2 - e (k - 1) then oaP w P (dvS w P e tb way n l).1 (dvS w P e tb way n l).2 (e (k - 1)) (tb (k - 1)) (w ^ e (k - 1)) j else (dvS w P e tb way n l).1 p j, (dvS w P e tb way n l).2 - e (k - 1) + 1)
theorem dvS_sz {w P : Nat} {A : Nat} {e : Nat → Nat} {tb : Nat → Nat → Nat} {way : Nat → Nat} {n : Nat} : ∀ {l : List Nat} {m : Nat}, Fs A e l m → (dvS w P e tb way n l).2 = m
  | [], m, h => by
    have h : m = 0 := h
    rw [h]; rfl
  | k :: l, m, h => by
    obtain ⟨hm, h⟩ := h
    by_cases e0 : k = 0
    · rw [if_pos e0] at h
      rw [dvS, if_pos e0]
      show (dvS w P e tb way n l).2 + 1 = m
      rw [dvS_sz h]; omega
    · rw [if_neg e0] at h
      rw [dvS, if_neg e0]
      show (dvS w P e tb way n l).2 - e (k - 1) + 1 = m
      rw [dvS_sz h.2]; omega
theorem Fs.suf {A : Nat} {e : Nat → Nat} : ∀ {p r : List Nat} {m : Nat}, Fs A e (p ++ r) m → ∃ k, Fs A e r k
  | [], _, m, h => ⟨m, h⟩
  | x :: p, r, m, h => by
    obtain ⟨_, h⟩ := h
    by_cases e0 : x = 0
    · rw [if_pos e0] at h; exact Fs.suf (p := p) h
    · rw [if_neg e0] at h; exact Fs.suf (p := p) h.2
/-- what the class does with the rows: tape, nodes, tables, world -/
def tStk (x y _k : Nat) : Bool := (x == 204 || x == 205) && y == 0
def tSq (q w x y k : Nat) : Bool := x == 204 && y == 0 && decide (q * w ≤ k) && decide (k < q * w + w)
theorem ix_ap {p q w j i : Nat} (h : p < q) (hj : j < w) : p * w + j < q * w + i := by
  have a : (p + 1) * w ≤ q * w := Nat.mul_le_mul_right w h
  rw [Nat.succ_mul] at a
  omega
theorem CSt.put {S S1 : zS} {w P sz q : Nat} {v : Nat → Nat → Nat} (h : CSt S w P v sz) (hq : q ≤ sz) (f : Fr (tSq q w) S S1) {o : Nat → Nat} (ho : ∀ j, j < w → gI S1 204 0 (q * w + j) = nI (o j) ∧ o j < P) : CSt S1 w P (fun p j => if p = q then o j else v p j) (q + 1) := fun p j hp hj => by
  by_cases e : p = q
  · simp only [if_pos e]; rw [e]; exact ho j hj
  · simp only [if_neg e]
    obtain ⟨h1, h2⟩ := h p j (by omega) hj
    refine ⟨(f.1 _ _ _ ?_).trans h1, h2⟩
    have := ix_ap (i := 0) (show p < q by omega) hj
    simp [tSq]; omega
theorem CSt.put2 {S S1 : zS} {w P sz q : Nat} {v : Nat → Nat → Nat} (h : CSt S w P v sz) (hq : q ≤ sz) (f : Fr (tSq q w) S S1) {o : Nat → Nat} (ho : ∀ j, j < w → gI S1 204 0 (q * w + j) = nI (o j) ∧ o j < P) {v' : Nat → Nat → Nat} {sz' : Nat} (hv : v' = fun p j => if p = q then o j else v p j) (hz : sz' = q + 1) : CSt S1 w P v' sz' := by
  subst hv hz; exact h.put hq f ho

set_option maxRecDepth 100000 in
theorem lp_dt85 {c n w P : Nat} (hc4 : c < 4) (hn7 : n ≤ 7) (h1 : 1 ≤ w) (h3 : w ≤ 3) (hP2 : 2 ≤ P) (hP97 : P ≤ 97) {ky : Int32} {q lf : Nat} (hq : q < 13) {i : Int32} {o : Nat → Nat} {Po : Option zV → zS → Prop} : ∀ (d j : Nat) (S : zS), j + d = w → Sd S → (∀ i, i < w → gI S 205 0 i = nI (o i)) → (∀ i, i < j → gI S 204 0 (q * w + i) = nI (o i)) → (∀ S1, Fr (tSq q w) S S1 → (∀ i, i < w → gI S1 204 0 (q * w + i) = nI (o i)) → Ok mX1_doTree 123 [some (zr 1 0), some (zr 9 c), some (zi ky), some (zi (nI n)), some (zr 7 0), some (zr 1200 0), some (zi (nI w)), some (zi (nI q)), some (zi (nI lf)), some (zi i), none, none] [] S1 Po) → Ok mX1_doTree 85 [some (zr 1 0), some (zr 9 c), some (zi ky), some (zi (nI n)), some (zr 7 0), some (zr 1200 0), some (zi (nI w)), some (zi (nI q)), some (zi (nI lf)), some (zi i), none, some (zi (nI j))] [] S Po := by
  intro d
  induction d with
  | zero =>
    intro j S hj hs hr hlo K
    obtain rfl : w = j := by omega
    refine r_iload (q := 87) dX1_doTree_85 rfl rfl ?_
    refine r_iload (q := 89) dX1_doTree_87 rfl rfl ?_
    refine r_icmp_geN (q := 92) (t := 123) (by omega) (by omega) dX1_doTree_89 (by decide) rfl (fun h89 => ?_) (fun h89 => absurd h89 (by omega))
    refine r_mask [true, true, true, true, true, true, true, true, true, true, true, false] rfl ?_
    exact K S Fr.rf hlo
  | succ d ih =>
    intro j S hj hs hr hlo K
    have hix := pw_ix h3 hq (show j < w by omega) (Nat.le_refl 13)
    have hrj := hr j (by omega)
    have f1 : Fr (tSq q w) S (sI S 204 0 (q * w + j) (nI (o j))) := (Fr.rf).i (by simp [tSq]; omega)
    refine r_iload (q := 87) dX1_doTree_85 rfl rfl ?_
    refine r_iload (q := 89) dX1_doTree_87 rfl rfl ?_
    refine r_icmp_geN (q := 92) (t := 123) (by omega) (by omega) dX1_doTree_89 (by decide) rfl (fun h89 => absurd h89 (by omega)) (fun h89 => ?_)
    refine r_iload (q := 94) dX1_doTree_92 rfl rfl ?_
    refine r_if_ltN (q := 97) (t := 123) (by omega) dX1_doTree_94 (by decide) rfl ?_
    refine r_aload_n (q := 98) dX1_doTree_97 rfl rfl rfl ?_
    refine r_getr (q := 101) (some (204, 0)) ck1 dX1_doTree_98 rfl (k := 4) (by decide) wt232 rfl (hs.e (by decide)) (hs.r (by decide) (by decide)) ?_
    refine r_iload (q := 103) dX1_doTree_101 rfl rfl ?_
    refine r_iload (q := 105) dX1_doTree_103 rfl rfl ?_
    refine r_imulN (q := 106) dX1_doTree_105 rfl ?_
    refine r_iload (q := 108) dX1_doTree_106 rfl rfl ?_
    refine r_iaddN (q := 109) dX1_doTree_108 rfl ?_
    refine r_aload_n (q := 110) dX1_doTree_109 rfl rfl rfl ?_
    refine r_getr (q := 113) (some (205, 0)) ck1 dX1_doTree_110 rfl (k := 5) (by decide) wt233 rfl (hs.e (by decide)) (hs.r (by decide) (by decide)) ?_
    refine r_iload (q := 115) dX1_doTree_113 rfl rfl ?_
    refine r_ialdN (q := 116) 3 (by decide) rfl dX1_doTree_115 rfl (hs.e (by decide)) (hs.n rfl (by decide)) (by omega) (by decide) ?_
    refine r_topi (y := nI (o j)) hrj ?_
    refine r_iastN (q := 117) 39 (by decide) rfl dX1_doTree_116 rfl (hs.e (by decide)) (hs.n rfl (by decide)) (by omega) (by decide) ?_
    refine r_iincN (q := 120) (L' := [some (zr 1 0), some (zr 9 c), some (zi ky), some (zi (nI n)), some (zr 7 0), some (zr 1200 0), some (zi (nI w)), some (zi (nI q)), some (zi (nI lf)), some (zi i), none, some (zi (nI (j + 1)))]) 1 rfl dX1_doTree_117 rfl rfl (by decide) rfl ?_
    refine r_goto (q := 85) dX1_doTree_120 (by decide) ?_
    refine ih (j + 1) (sI S 204 0 (q * w + j) (nI (o j))) (by omega) (hs.fr f1) (fun i hi => by rw [gI_sI, if_neg (by omega)]; exact hr i hi) (fun i hi => ?_) (fun S1 g h => K S1 (f1.tr g) h)
    rw [gI_sI]
    by_cases e1 : i = j
    · rw [if_pos ⟨rfl, rfl, by omega⟩, e1]
    · rw [if_neg (by omega)]; exact hlo i (by omega)

set_option maxRecDepth 100000 in
theorem lp_dt132 {c n w P : Nat} (hc4 : c < 4) (hn7 : n ≤ 7) (h1 : 1 ≤ w) (h3 : w ≤ 3) (hP2 : 2 ≤ P) (hP97 : P ≤ 97) {ky : Int32} {q lf wy : Nat} (hq : q < 13) (hlf : lf < 940) (hwy : wy ≤ 3) {i : Int32} {Po : Option zV → zS → Prop} : ∀ (d j : Nat) (S : zS), j + d = w → Sd S → gI S 1200 0 lf = nI wy → (∀ i, i < j → gI S 204 0 (q * w + i) = nI (if i = wy then 1 else 0)) → (∀ S1, Fr (tSq q w) S S1 → (∀ i, i < w → gI S1 204 0 (q * w + i) = nI (if i = wy then 1 else 0)) → Ok mX1_doTree 186 [some (zr 1 0), some (zr 9 c), some (zi ky), some (zi (nI n)), some (zr 7 0), some (zr 1200 0), some (zi (nI w)), some (zi (nI q)), some (zi (nI lf)), some (zi i), none, none] [] S1 Po) → Ok mX1_doTree 132 [some (zr 1 0), some (zr 9 c), some (zi ky), some (zi (nI n)), some (zr 7 0), some (zr 1200 0), some (zi (nI w)), some (zi (nI q)), some (zi (nI lf)), some (zi i), some (zi (nI j)), none] [] S Po := by
  intro d
  induction d with
  | zero =>
    intro j S hj hs hr hlo K
    obtain rfl : w = j := by omega
    refine r_iload (q := 134) dX1_doTree_132 rfl rfl ?_
    refine r_iload (q := 136) dX1_doTree_134 rfl rfl ?_
    refine r_icmp_geN (q := 139) (t := 186) (by omega) (by omega) dX1_doTree_136 (by decide) rfl (fun h136 => ?_) (fun h136 => absurd h136 (by omega))
    refine r_mask [true, true, true, true, true, true, true, true, true, true, false, true] rfl ?_
    exact K S Fr.rf hlo
  | succ d ih =>
    intro j S hj hs hr hlo K
    have hix := pw_ix h3 hq (show j < w by omega) (Nat.le_refl 13)
    refine r_iload (q := 134) dX1_doTree_132 rfl rfl ?_
    refine r_iload (q := 136) dX1_doTree_134 rfl rfl ?_
    refine r_icmp_geN (q := 139) (t := 186) (by omega) (by omega) dX1_doTree_136 (by decide) rfl (fun h136 => absurd h136 (by omega)) (fun h136 => ?_)
    refine r_iload (q := 141) dX1_doTree_139 rfl rfl ?_
    refine r_if_ltN (q := 144) (t := 186) (by omega) dX1_doTree_141 (by decide) rfl ?_
    refine r_iload (q := 146) dX1_doTree_144 rfl rfl ?_
    refine r_aload (q := 148) dX1_doTree_146 rfl rfl ?_
    refine r_alen (q := 149) (by decide) (by decide) dX1_doTree_148 rfl (hs.e (by decide)) ?_
    refine r_topi (y := nI 940) (congrArg nI (hs.n rfl (by decide))) ?_
    refine r_icmp_geN (q := 152) (t := 186) (by omega) (by omega) dX1_doTree_149 (by decide) rfl (fun h149 => absurd h149 (by omega)) (fun h149 => ?_)
    refine r_aload_n (q := 153) dX1_doTree_152 rfl rfl rfl ?_
    refine r_getr (q := 156) (some (204, 0)) ck1 dX1_doTree_153 rfl (k := 4) (by decide) wt232 rfl (hs.e (by decide)) (hs.r (by decide) (by decide)) ?_
    refine r_iload (q := 158) dX1_doTree_156 rfl rfl ?_
    refine r_iload (q := 160) dX1_doTree_158 rfl rfl ?_
    refine r_imulN (q := 161) dX1_doTree_160 rfl ?_
    refine r_iload (q := 163) dX1_doTree_161 rfl rfl ?_
    refine r_iaddN (q := 164) dX1_doTree_163 rfl ?_
    refine r_aload (q := 166) dX1_doTree_164 rfl rfl ?_
    refine r_iload (q := 168) dX1_doTree_166 rfl rfl ?_
    refine r_baldN (q := 169) 940 (by decide) rfl dX1_doTree_168 rfl (hs.e (by decide)) (hs.n rfl (by decide)) (by omega) (by decide) ?_
    refine r_topi (y := nI wy) hr ?_
    refine r_iload (q := 171) dX1_doTree_169 rfl rfl ?_
    refine r_icmp_neN (q := 174) (t := 178) (by omega) (by omega) dX1_doTree_171 (by decide) rfl (fun h171 => ?_) (fun h171 => ?_)
    · skip
      refine r_iconst (q := 179) (nI 0) dX1_doTree_178 rfl (by decide) ?_
      refine r_iastN (q := 180) 39 (by decide) rfl dX1_doTree_179 rfl (hs.e (by decide)) (hs.n rfl (by decide)) (by omega) (by decide) ?_
      refine r_iincN (q := 183) (L' := [some (zr 1 0), some (zr 9 c), some (zi ky), some (zi (nI n)), some (zr 7 0), some (zr 1200 0), some (zi (nI w)), some (zi (nI q)), some (zi (nI lf)), some (zi i), some (zi (nI (j + 1))), none]) 1 rfl dX1_doTree_180 rfl rfl (by decide) rfl ?_
      refine r_goto (q := 132) dX1_doTree_183 (by decide) ?_
      have f1 : Fr (tSq q w) S (sI S 204 0 ((q * w) + j) (nI 0)) := (Fr.rf).i (by simp [tSq]; omega)
      refine ih (j + 1) (sI S 204 0 ((q * w) + j) (nI 0)) (by omega) (hs.fr f1) (by rw [gI_sI, if_neg (by omega)]; exact hr) (fun i hi => ?_) (fun S1 g h => K S1 (f1.tr g) h)
      rw [gI_sI]
      by_cases e1 : i = j
      · rw [if_pos ⟨rfl, rfl, by omega⟩]
        first | rw [if_pos (by omega)] | rw [if_neg (by omega)]
      · rw [if_neg (by omega)]; exact hlo i (by omega)
    · skip
      refine r_iconst (q := 175) (nI 1) dX1_doTree_174 rfl (by decide) ?_
      refine r_goto (q := 179) dX1_doTree_175 (by decide) ?_
      refine r_iastN (q := 180) 39 (by decide) rfl dX1_doTree_179 rfl (hs.e (by decide)) (hs.n rfl (by decide)) (by omega) (by decide) ?_
      refine r_iincN (q := 183) (L' := [some (zr 1 0), some (zr 9 c), some (zi ky), some (zi (nI n)), some (zr 7 0), some (zr 1200 0), some (zi (nI w)), some (zi (nI q)), some (zi (nI lf)), some (zi i), some (zi (nI (j + 1))), none]) 1 rfl dX1_doTree_180 rfl rfl (by decide) rfl ?_
      refine r_goto (q := 132) dX1_doTree_183 (by decide) ?_
      have f1 : Fr (tSq q w) S (sI S 204 0 ((q * w) + j) (nI 1)) := (Fr.rf).i (by simp [tSq]; omega)
      refine ih (j + 1) (sI S 204 0 ((q * w) + j) (nI 1)) (by omega) (hs.fr f1) (by rw [gI_sI, if_neg (by omega)]; exact hr) (fun i hi => ?_) (fun S1 g h => K S1 (f1.tr g) h)
      rw [gI_sI]
      by_cases e1 : i = j
      · rw [if_pos ⟨rfl, rfl, by omega⟩]
        first | rw [if_pos (by omega)] | rw [if_neg (by omega)]
      · rw [if_neg (by omega)]; exact hlo i (by omega)

theorem Fr.sq_stk {q w : Nat} {S S1 : zS} (f : Fr (tSq q w) S S1) : Fr tStk S S1 := f.mono (fun x y k h => by simp [tSq] at h; simp [tStk, h.1])
theorem Fr.da_stk {S S1 : zS} (f : Fr tDa S S1) : Fr tStk S S1 := f.mono (fun x y k h => by simp [tDa] at h; simp [tStk, h])
theorem drop_at {t : List Nat} {d : Nat} (h : d < t.length) : t.drop d = t.getD d 0 :: t.drop (d + 1) := by
  rw [List.drop_eq_getElem_cons h, List.getD_eq_getElem?_getD, List.getElem?_eq_getElem h]; rfl

set_option maxRecDepth 100000 in
theorem lp_dt26 {c n w P : Nat} (hc4 : c < 4) (hn7 : n ≤ 7) (h1 : 1 ≤ w) (h3 : w ≤ 3) (hP2 : 2 ≤ P) (hP97 : P ≤ 97) {ky : Int32} {A : Nat} {e : Nat → Nat} (hE : Eok A e) {tb : Nat → Nat → Nat} {way : Nat → Nat} {t : List Nat} (ht : Tr A e n t) : ∀ (d : Nat) (x : Int32) (S : zS), x = nI d - 1 → d ≤ t.length → Sd S → gI S 9 c 0 = nI P → gI S 9 c 1 = nI A → (∀ a, a < A → gI S 1003 c a = nI (e a)) → gI S 7 0 0 = nI w → (∀ a, a < A → TbC S a P (tb a)) → (∀ i, i < n → gI S 1200 0 i = nI (way i) ∧ way i ≤ 3) → (∀ i, i < t.length → gI S 203 0 i = nI (nd (t.getD i 0))) → CSt S w P (dvS w P e tb way n (t.drop d)).1 (dvS w P e tb way n (t.drop d)).2 → Ok mX1_doTree 26 [some (zr 1 0), some (zr 9 c), some (zi ky), some (zi (nI n)), some (zr 7 0), some (zr 1200 0), some (zi (nI w)), some (zi (nI ((dvS w P e tb way n (t.drop d)).2))), some (zi (nI (n - lvs (t.drop d)))), some (zi x), none, none] [] S (fun r S1 => r = none ∧ Fr tStk S S1 ∧ CSt S1 w P (dvS w P e tb way n (t)).1 (dvS w P e tb way n (t)).2) := by
  intro d
  induction d with
  | zero =>
    intro x S hx hd hs hp0 hA he hw hT hway hnd hv
    have hxe : x = -1 := hx
    subst hxe
    rw [List.drop_zero] at hv
    refine r_iload (q := 28) dX1_doTree_26 rfl rfl ?_
    refine r_if_lt (q := 31) (t := 195) dX1_doTree_28 (by decide) rfl (fun h28 => ?_) (fun h28 => absurd h28 (by decide))
    refine r_return dX1_doTree_195 rfl ?_
    exact ⟨rfl, Fr.rf, hv⟩
  | succ d ih =>
    intro x S hx hd hs hp0 hA he hw hT hway hnd hv
    rw [nI_pred] at hx
    subst hx
    have hdl : d < t.length := by omega
    have hdr := drop_at hdl
    obtain ⟨m0, hF0⟩ := Fs.suf (p := t.take d) (r := t.drop d) (by rw [List.take_append_drop]; exact ht.1)
    have hlt : t.length ≤ 13 := by have := len_la t; have := ht.1.cnt (fun a ha => (hE.2 a ha).1); have := ht.2; omega
    have hl0 : lvs (t.drop d) ≤ n := by
      have := congrArg lvs (List.take_append_drop d t)
      rw [lvs_app, ht.2] at this
      omega
    have hnode := hnd d hdl
    obtain ⟨k, hk⟩ : ∃ k, k = t.getD d 0 := ⟨_, rfl⟩
    obtain ⟨l, hl⟩ : ∃ l, l = t.drop (d + 1) := ⟨_, rfl⟩
    rw [← hk, ← hl] at hdr
    rw [← hk] at hnode
    rw [hdr] at hF0 hl0 ih
    rw [← hl] at hv ⊢
    obtain ⟨hm0, hF⟩ := hF0
    by_cases e0 : k = 0
    · subst e0
      rw [if_pos rfl] at hF
      have hszl := dvS_sz (w := w) (P := P) (tb := tb) (way := way) (n := n) hF
      have hcl : acs l + (m0 - 1) ≤ lvs l := hF.cnt (fun a ha => (hE.2 a ha).1)
      have hl1 : lvs (0 :: l) = 1 + lvs l := rfl
      have hw1 := hway (n - lvs l - 1) (by omega)
      have hnode : gI S 203 0 d = nI 3 := hnode
      have d1 : (dvS w P e tb way n (0 :: l)).1 = fun p j => if p = (dvS w P e tb way n (l)).2 then (if j = way (n - lvs l - 1) then 1 else 0) else (dvS w P e tb way n (l)).1 p j := rfl
      have d2 : (dvS w P e tb way n (0 :: l)).2 = (dvS w P e tb way n (l)).2 + 1 := rfl
      have hlf : n - lvs (0 :: l) = n - lvs l - 1 := by omega
      rw [d2, hlf] at ih
      have hsz7 : (dvS w P e tb way n (l)).2 < 13 := by omega
      refine r_iload (q := 28) dX1_doTree_26 rfl rfl ?_
      refine r_if_ltN (q := 31) (t := 195) (by omega) dX1_doTree_28 (by decide) rfl ?_
      refine r_aload_n (q := 32) dX1_doTree_31 rfl rfl rfl ?_
      refine r_aload_n (q := 33) dX1_doTree_32 rfl rfl rfl ?_
      refine r_getr (q := 36) (some (203, 0)) ck1 dX1_doTree_33 rfl (k := 3) (by decide) wt231 rfl (hs.e (by decide)) (hs.r (by decide) (by decide)) ?_
      refine r_iload (q := 38) dX1_doTree_36 rfl rfl ?_
      refine r_ialdN (q := 39) 13 (by decide) rfl dX1_doTree_38 rfl (hs.e (by decide)) (hs.n rfl (by decide)) (by omega) (by decide) ?_
      refine r_topi (y := nI 3) hnode ?_
      refine r_callV (Mc := mX9_hasAct) (q := 42) (As := [zi (nI 3)]) (st := []) ck9 dX1_doTree_39 rfl rfl mkX9_hasAct wt1115 wt683 wt684 rfl (Nat.le_of_ble_eq_true rfl) (Nat.le_of_ble_eq_true rfl) (by decide) (by decide) (by decide) (Or.inl rfl) (hs.e (show c < 4 by omega)) (ok_X9_hasAct_out hs hc4 hA hE.1 (a := nI 3) (fun z => absurd ((nI_ltI (by omega) (by have := hE.1; omega)).mp z.2) (by have := hE.1; omega))) (fun r39 S39 hp39 => ?_)
      obtain ⟨rfl, hq39⟩ := hp39
      rw [hq39]
      show Ok _ _ _ [zi (nI 0)] _ _
      refine r_if_eqN (q := 45) (t := 126) (by omega) dX1_doTree_42 (by decide) rfl (fun h42 => ?_) (fun h42 => absurd h42 (by omega))
      refine r_idecN (q := 129) (L' := [some (zr 1 0), some (zr 9 c), some (zi ky), some (zi (nI n)), some (zr 7 0), some (zr 1200 0), some (zi (nI w)), some (zi (nI ((dvS w P e tb way n (l)).2))), some (zi (nI (n - lvs l - 1))), some (zi (nI d)), none, none]) 1 (by omega) rfl dX1_doTree_126 rfl rfl (by decide) rfl ?_
      refine r_iconst (q := 130) (nI 0) dX1_doTree_129 rfl (by decide) ?_
      refine r_istore (q := 132) (L' := [some (zr 1 0), some (zr 9 c), some (zi ky), some (zi (nI n)), some (zr 7 0), some (zr 1200 0), some (zi (nI w)), some (zi (nI ((dvS w P e tb way n (l)).2))), some (zi (nI (n - lvs l - 1))), some (zi (nI d)), some (zi (nI 0)), none]) dX1_doTree_130 rfl (by decide) rfl ?_
      refine lp_dt132 hc4 hn7 h1 h3 hP2 hP97 hsz7 (by omega) hw1.2 w 0 S (by omega) hs hw1.1 (fun i hi => absurd hi (by omega)) (fun S1 g h => ?_)
      have hv1 : CSt S1 w P (dvS w P e tb way n (0 :: l)).1 ((dvS w P e tb way n (l)).2 + 1) := hv.put2 (Nat.le_refl _) g (o := fun j => if j = way (n - lvs l - 1) then 1 else 0) (fun j hj => ⟨h j hj, by split <;> omega⟩) d1 rfl
      have f1 := g.sq_stk
      have hs1 : Sd S1 := hs.fr g
      refine r_iincN (q := 189) (L' := [some (zr 1 0), some (zr 9 c), some (zi ky), some (zi (nI n)), some (zr 7 0), some (zr 1200 0), some (zi (nI w)), some (zi (nI ((dvS w P e tb way n (l)).2 + 1))), some (zi (nI (n - lvs l - 1))), some (zi (nI d)), none, none]) 1 rfl dX1_doTree_186 rfl rfl (by decide) rfl ?_
      refine r_iinc (q := 192) (L' := [some (zr 1 0), some (zr 9 c), some (zi ky), some (zi (nI n)), some (zr 7 0), some (zr 1200 0), some (zi (nI w)), some (zi (nI ((dvS w P e tb way n (l)).2 + 1))), some (zi (nI (n - lvs l - 1))), some (zi ((nI d) + (-1))), none, none]) ((nI d) + (-1)) dX1_doTree_189 rfl rfl (by decide) rfl rfl ?_
      refine r_goto (q := 26) dX1_doTree_192 (by decide) ?_
      exact Ok.mono (ih (nI d + (-1)) S1 (Int32.sub_eq_add_neg _ _).symm (by omega) (hs.fr f1) ((f1.1 _ _ _ rfl).trans hp0) ((f1.1 _ _ _ rfl).trans hA) (fun a ha => (f1.1 _ _ _ rfl).trans (he a ha)) ((f1.1 _ _ _ rfl).trans hw) (fun a ha => (hT a ha).fr f1 (fun _ => rfl)) (fun i hi => ⟨(f1.1 _ _ _ rfl).trans (hway i hi).1, (hway i hi).2⟩) (fun i hi => (f1.1 _ _ _ rfl).trans (hnd i hi)) hv1) (fun r S2 z => ⟨z.1, f1.tr z.2.1, z.2.2⟩)
    · rw [if_neg e0] at hF
      obtain ⟨hkA', hF⟩ := hF
      have hkA : k - 1 < A := by omega
      have hA3 := hE.1
      have hek := hE.2 (k - 1) hkA
      have hszl := dvS_sz (w := w) (P := P) (tb := tb) (way := way) (n := n) hF
      have hcl := hF.cnt (fun a ha => (hE.2 a ha).1)
      have hl1 : lvs (k :: l) = lvs l := by show (if k = 0 then 1 else 0) + lvs l = _; rw [if_neg e0, Nat.zero_add]
      have hnode : gI S 203 0 d = nI (k - 1) := by rw [hnode, nd, if_neg e0]
      have d1 : (dvS w P e tb way n (k :: l)).1 = fun p j => if p = (dvS w P e tb way n (l)).2 - e (k - 1) then oaP w P (dvS w P e tb way n (l)).1 (dvS w P e tb way n (l)).2 (e (k - 1)) (tb (k - 1)) (w ^ e (k - 1)) j else (dvS w P e tb way n (l)).1 p j := by rw [dvS, if_neg e0]
      have d2 : (dvS w P e tb way n (k :: l)).2 = (dvS w P e tb way n (l)).2 - e (k - 1) + 1 := by rw [dvS, if_neg e0]
      have hek2 := he (k - 1) hkA
      rw [d2, hl1] at ih
      refine r_iload (q := 28) dX1_doTree_26 rfl rfl ?_
      refine r_if_ltN (q := 31) (t := 195) (by omega) dX1_doTree_28 (by decide) rfl ?_
      refine r_aload_n (q := 32) dX1_doTree_31 rfl rfl rfl ?_
      refine r_aload_n (q := 33) dX1_doTree_32 rfl rfl rfl ?_
      refine r_getr (q := 36) (some (203, 0)) ck1 dX1_doTree_33 rfl (k := 3) (by decide) wt231 rfl (hs.e (by decide)) (hs.r (by decide) (by decide)) ?_
      refine r_iload (q := 38) dX1_doTree_36 rfl rfl ?_
      refine r_ialdN (q := 39) 13 (by decide) rfl dX1_doTree_38 rfl (hs.e (by decide)) (hs.n rfl (by decide)) (by omega) (by decide) ?_
      refine r_topi (y := nI (k - 1)) hnode ?_
      refine r_callV (Mc := mX9_hasAct) (q := 42) (As := [zi (nI (k - 1))]) (st := []) ck9 dX1_doTree_39 rfl rfl mkX9_hasAct wt1115 wt683 wt684 rfl (Nat.le_of_ble_eq_true rfl) (Nat.le_of_ble_eq_true rfl) (by decide) (by decide) (by decide) (Or.inl rfl) (hs.e (show c < 4 by omega)) (ok_X9_hasAct_in hs hc4 hA hE.1 hkA) (fun r39 S39 hp39 => ?_)
      obtain ⟨rfl, hq39⟩ := hp39
      rw [hq39]
      show Ok _ _ _ [zi (nI 1)] _ _
      refine r_if_eqN (q := 45) (t := 126) (by omega) dX1_doTree_42 (by decide) rfl (fun h42 => absurd h42 (by omega)) (fun h42 => ?_)
      refine r_aload_n (q := 46) dX1_doTree_45 rfl rfl rfl ?_
      refine r_getr (q := 49) (some (1003, c)) ck9 dX1_doTree_46 rfl (k := 3) (by decide) wt307 rfl (hs.e (show c < 4 by omega)) (hs.r (show c < 4 by omega) (by decide)) ?_
      refine r_aload_n (q := 50) dX1_doTree_49 rfl rfl rfl ?_
      refine r_getr (q := 53) (some (203, 0)) ck1 dX1_doTree_50 rfl (k := 3) (by decide) wt231 rfl (hs.e (by decide)) (hs.r (by decide) (by decide)) ?_
      refine r_iload (q := 55) dX1_doTree_53 rfl rfl ?_
      refine r_ialdN (q := 56) 13 (by decide) rfl dX1_doTree_55 rfl (hs.e (by decide)) (hs.n rfl (by decide)) (by omega) (by decide) ?_
      refine r_topi (y := nI (k - 1)) hnode ?_
      refine r_ialdN (q := 57) 3 (by decide) rfl dX1_doTree_56 rfl (hs.e (show c < 4 by omega)) (hs.n rfl (show c < 4 by omega)) (by omega) (by decide) ?_
      refine r_topi (y := nI (e (k - 1))) hek2 ?_
      refine r_istore (q := 59) (L' := [some (zr 1 0), some (zr 9 c), some (zi ky), some (zi (nI n)), some (zr 7 0), some (zr 1200 0), some (zi (nI w)), some (zi (nI ((dvS w P e tb way n (l)).2))), some (zi (nI (n - lvs l))), some (zi (nI d)), some (zi (nI (e (k - 1)))), none]) dX1_doTree_57 rfl (by decide) rfl ?_
      refine r_aload_n (q := 60) dX1_doTree_59 rfl rfl rfl ?_
      refine r_aload_n (q := 61) dX1_doTree_60 rfl rfl rfl ?_
      refine r_aload_n (q := 62) dX1_doTree_61 rfl rfl rfl ?_
      refine r_getr (q := 65) (some (203, 0)) ck1 dX1_doTree_62 rfl (k := 3) (by decide) wt231 rfl (hs.e (by decide)) (hs.r (by decide) (by decide)) ?_
      refine r_iload (q := 67) dX1_doTree_65 rfl rfl ?_
      refine r_ialdN (q := 68) 13 (by decide) rfl dX1_doTree_67 rfl (hs.e (by decide)) (hs.n rfl (by decide)) (by omega) (by decide) ?_
      refine r_topi (y := nI (k - 1)) hnode ?_
      refine r_aload (q := 70) dX1_doTree_68 rfl rfl ?_
      refine r_iload (q := 72) dX1_doTree_70 rfl rfl ?_
      refine r_callV (Mc := mX1_doAct) (q := 75) (As := [zr 9 c, zi (nI (k - 1)), zr 7 0, zi (nI ((dvS w P e tb way n (l)).2))]) (st := []) ck1 dX1_doTree_72 rfl rfl mkX1_doAct wt1137 wt1139 wp63 rfl (Nat.le_of_ble_eq_true rfl) (Nat.le_of_ble_eq_true rfl) (by decide) (by decide) (by decide) (Or.inl rfl) (hs.e (by decide)) (ok_doAct hs hc4 (by omega) (by omega) (show e (k - 1) ≤ (dvS w P e tb way n (l)).2 by omega) hek.2 h1 h3 hP2 hP97 hw hek2 hp0 hv (hT (k - 1) hkA)) (fun r72 S72 hp72 => ?_)
      obtain ⟨rfl, f0, hres⟩ := hp72
      have hs0 : Sd S72 := hs.fr f0
      show Ok _ _ _ [] _ _
      refine r_iload (q := 77) dX1_doTree_75 rfl rfl ?_
      refine r_iload (q := 79) dX1_doTree_77 rfl rfl ?_
      refine r_isubN (q := 80) (by omega) dX1_doTree_79 rfl ?_
      refine r_istore (q := 82) (L' := [some (zr 1 0), some (zr 9 c), some (zi ky), some (zi (nI n)), some (zr 7 0), some (zr 1200 0), some (zi (nI w)), some (zi (nI (((dvS w P e tb way n (l)).2) - (e (k - 1))))), some (zi (nI (n - lvs l))), some (zi (nI d)), some (zi (nI (e (k - 1)))), none]) dX1_doTree_80 rfl (by decide) rfl ?_
      refine r_iconst (q := 83) (nI 0) dX1_doTree_82 rfl (by decide) ?_
      refine r_istore (q := 85) (L' := [some (zr 1 0), some (zr 9 c), some (zi ky), some (zi (nI n)), some (zr 7 0), some (zr 1200 0), some (zi (nI w)), some (zi (nI (((dvS w P e tb way n (l)).2) - (e (k - 1))))), some (zi (nI (n - lvs l))), some (zi (nI d)), some (zi (nI (e (k - 1)))), some (zi (nI 0))]) dX1_doTree_83 rfl (by decide) rfl ?_
      refine r_mask [true, true, true, true, true, true, true, true, true, true, false, true] rfl ?_
      refine lp_dt85 hc4 hn7 h1 h3 hP2 hP97 (show (dvS w P e tb way n (l)).2 - e (k - 1) < 13 by omega) w 0 S72 (by omega) hs0 hres (fun i hi => absurd hi (by omega)) (fun S1 g h => ?_)
      have hv1 : CSt S1 w P (dvS w P e tb way n (k :: l)).1 ((dvS w P e tb way n (l)).2 - e (k - 1) + 1) := (hv.da f0).put2 (Nat.sub_le _ _) g (o := oaP w P (dvS w P e tb way n (l)).1 (dvS w P e tb way n (l)).2 (e (k - 1)) (tb (k - 1)) (w ^ e (k - 1))) (fun j hj => ⟨h j hj, oaP_lt (by omega) _ _⟩) d1 rfl
      have f1 := f0.da_stk.tr g.sq_stk
      have hs1 : Sd S1 := hs0.fr g
      refine r_goto (q := 186) dX1_doTree_123 (by decide) ?_
      refine r_iincN (q := 189) (L' := [some (zr 1 0), some (zr 9 c), some (zi ky), some (zi (nI n)), some (zr 7 0), some (zr 1200 0), some (zi (nI w)), some (zi (nI ((dvS w P e tb way n (l)).2 - e (k - 1) + 1))), some (zi (nI (n - lvs l))), some (zi (nI d)), none, none]) 1 rfl dX1_doTree_186 rfl rfl (by decide) rfl ?_
      refine r_iinc (q := 192) (L' := [some (zr 1 0), some (zr 9 c), some (zi ky), some (zi (nI n)), some (zr 7 0), some (zr 1200 0), some (zi (nI w)), some (zi (nI ((dvS w P e tb way n (l)).2 - e (k - 1) + 1))), some (zi (nI (n - lvs l))), some (zi ((nI d) + (-1))), none, none]) ((nI d) + (-1)) dX1_doTree_189 rfl rfl (by decide) rfl rfl ?_
      refine r_goto (q := 26) dX1_doTree_192 (by decide) ?_
      exact Ok.mono (ih (nI d + (-1)) S1 (Int32.sub_eq_add_neg _ _).symm (by omega) (hs.fr f1) ((f1.1 _ _ _ rfl).trans hp0) ((f1.1 _ _ _ rfl).trans hA) (fun a ha => (f1.1 _ _ _ rfl).trans (he a ha)) ((f1.1 _ _ _ rfl).trans hw) (fun a ha => (hT a ha).fr f1 (fun _ => rfl)) (fun i hi => ⟨(f1.1 _ _ _ rfl).trans (hway i hi).1, (hway i hi).2⟩) (fun i hi => (f1.1 _ _ _ rfl).trans (hnd i hi)) hv1) (fun r S2 z => ⟨z.1, f1.tr z.2.1, z.2.2⟩)

def tDt (x y _k : Nat) : Bool := (x == 203 || x == 204 || x == 205) && y == 0
theorem Fr.stk_dt {S S1 : zS} (f : Fr tStk S S1) : Fr tDt S S1 := f.mono (fun x y k h => by simp [tStk] at h; simp [tDt]; omega)

set_option maxRecDepth 100000 in
theorem ok_doTreeC {S : zS} (hs : Sd S) {c n w P : Nat} (hc4 : c < 4) (hn7 : n ≤ 7) (h1 : 1 ≤ w) (h3 : w ≤ 3) (hP2 : 2 ≤ P) (hP97 : P ≤ 97) {A : Nat} {e : Nat → Nat} (hE : Eok A e) {tb : Nat → Nat → Nat} {way : Nat → Nat} {t : List Nat} (ht : Tr A e n t) (hp0 : gI S 9 c 0 = nI P) (hA : gI S 9 c 1 = nI A) (he : ∀ a, a < A → gI S 1003 c a = nI (e a)) (hw : gI S 7 0 0 = nI w) (hT : ∀ a, a < A → TbC S a P (tb a)) (hway : ∀ i, i < n → gI S 1200 0 i = nI (way i) ∧ way i ≤ 3) : Ok mX1_doTree 0 (ent 12 [zr 1 0, zr 9 c, zi (nI (ky t)), zi (nI n), zr 7 0, zr 1200 0]) [] S (fun r S1 => r = none ∧ Fr tDt S S1 ∧ CSt S1 w P (dvS w P e tb way n (t)).1 (dvS w P e tb way n (t)).2) := by
  have hl1 : 1 ≤ t.length := by have := len_la t; have := ht.1.cnt (fun a ha => (hE.2 a ha).1); omega
  have hl13 : t.length ≤ 13 := by have := len_la t; have := ht.1.cnt (fun a ha => (hE.2 a ha).1); have := ht.2; omega
  show Ok mX1_doTree 0 [some (zr 1 0), some (zr 9 c), some (zi (nI (ky t))), some (zi (nI n)), some (zr 7 0), some (zr 1200 0), none, none, none, none, none, none] [] S _
  refine r_aload (q := 2) dX1_doTree_0 rfl rfl ?_
  refine r_geti (q := 5) ck7 dX1_doTree_2 rfl (k := 0) (by decide) wt38 (Or.inl rfl) (hs.e (by decide)) ?_
  refine r_topi (y := nI w) hw ?_
  refine r_istore (q := 7) (L' := [some (zr 1 0), some (zr 9 c), some (zi (nI (ky t))), some (zi (nI n)), some (zr 7 0), some (zr 1200 0), some (zi (nI w)), none, none, none, none, none]) dX1_doTree_5 rfl (by decide) rfl ?_
  refine r_iconst (q := 8) (nI 0) dX1_doTree_7 rfl (by decide) ?_
  refine r_istore (q := 10) (L' := [some (zr 1 0), some (zr 9 c), some (zi (nI (ky t))), some (zi (nI n)), some (zr 7 0), some (zr 1200 0), some (zi (nI w)), some (zi (nI 0)), none, none, none, none]) dX1_doTree_8 rfl (by decide) rfl ?_
  refine r_iload_n (q := 11) dX1_doTree_10 rfl rfl rfl ?_
  refine r_istore (q := 13) (L' := [some (zr 1 0), some (zr 9 c), some (zi (nI (ky t))), some (zi (nI n)), some (zr 7 0), some (zr 1200 0), some (zi (nI w)), some (zi (nI 0)), some (zi (nI n)), none, none, none]) dX1_doTree_11 rfl (by decide) rfl ?_
  refine r_iload_n (q := 14) dX1_doTree_13 rfl rfl rfl ?_
  refine r_iload_n (q := 15) dX1_doTree_14 rfl rfl rfl ?_
  refine r_aload_n (q := 16) dX1_doTree_15 rfl rfl rfl ?_
  refine r_getr (q := 19) (some (203, 0)) ck1 dX1_doTree_16 rfl (k := 3) (by decide) wt231 rfl (hs.e (by decide)) (hs.r (by decide) (by decide)) ?_
  refine r_callS (Mc := mX6_open) (q := 22) (As := [zi (nI (ky t)), zi (nI n), zr 203 0]) (st := []) dX1_doTree_19 rfl rfl mkX6_open wt1114 wt746 rfl (Nat.le_of_ble_eq_true rfl) (Nat.le_of_ble_eq_true rfl) (by decide) (by decide) (by decide) (Or.inl rfl) hs.some (ok_open_203 hs hE ht hn7) (fun r19 S19 hp19 => ?_)
  obtain ⟨rfl, hq19⟩ := hp19
  rw [hq19]
  show Ok _ _ _ [zi (nI t.length)] _ _
  refine r_iconst (q := 23) (nI 1) dX1_doTree_22 rfl (by decide) ?_
  refine r_isubN (q := 24) (by omega) dX1_doTree_23 rfl ?_
  refine r_istore (q := 26) (L' := [some (zr 1 0), some (zr 9 c), some (zi (nI (ky t))), some (zi (nI n)), some (zr 7 0), some (zr 1200 0), some (zi (nI w)), some (zi (nI 0)), some (zi (nI n)), some (zi (nI (t.length - 1))), none, none]) dX1_doTree_24 rfl (by decide) rfl ?_
  have f0 : Fr tDt S (stR S 203 0 (t.map nd)) := ⟨fun x y k h => gI_stR_x (fun z => by simp [tDt, z.1, z.2] at h), fun _ _ _ _ => rfl, rfl⟩
  have K := lp_dt26 hc4 hn7 h1 h3 hP2 hP97 (ky := nI (ky t)) hE (tb := tb) (way := way) ht t.length (nI (t.length - 1)) (stR S 203 0 (t.map nd)) (by obtain ⟨q, hq⟩ : ∃ q, t.length = q + 1 := ⟨t.length - 1, by omega⟩; rw [hq, nI_pred, Nat.add_sub_cancel]) (Nat.le_refl _) (hs.fr f0) ((f0.1 _ _ _ rfl).trans hp0) ((f0.1 _ _ _ rfl).trans hA) (fun a ha => (f0.1 _ _ _ rfl).trans (he a ha)) ((f0.1 _ _ _ rfl).trans hw) (fun a ha => (hT a ha).fr f0 (fun _ => rfl)) (fun i hi => ⟨(f0.1 _ _ _ rfl).trans (hway i hi).1, (hway i hi).2⟩) (fun i hi => by rw [gI_stR_k (by rw [List.length_map]; exact hi), List.getD_eq_getElem?_getD, List.getElem?_map, List.getD_eq_getElem?_getD, List.getElem?_eq_getElem hi]; rfl) (by rw [List.drop_length]; exact fun p j hp _ => absurd hp (Nat.not_lt_zero _))
  rw [List.drop_length] at K
  exact Ok.mono K (fun r S1 z => ⟨z.1, f0.tr z.2.1.stk_dt, z.2.2⟩)

