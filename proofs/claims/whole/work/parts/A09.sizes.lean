/-! the reference's parts in its rows -/
def tPt (x y k : Nat) : Bool := y == 0 && (x == 1336 || x == 1337 || x == 12 && (k == 38 || k == 39 || k == 40))
def tP2 (x y _k : Nat) : Bool := y == 0 && (x == 1336 || x == 1337)
theorem tPt_2 (x y k : Nat) (h : tP2 x y k = true) : tPt x y k = true := by simp [tP2] at h; simp [tPt]; omega
def Ps (S : zS) (e : Nat) (ss : List Nat) : Prop := ∀ k, k < e → gI S 1336 0 k = nI (ss.getD k 0)
def Pk (S : zS) (e : Nat) (ks : List Nat) : Prop := ∀ k, k < e → gI S 1337 0 k = nI (ks.getD k 0)
def Pw (S : zS) (q e : Nat) : Prop := gI S 12 0 38 = nI e ∧ gI S 12 0 40 = nI q
/-- how many trees there are of fewer than n leaves -/
def Mn (S : zS) (q n : Nat) (bnd : Nat → Nat) : Prop := ∀ s, 1 ≤ s → s < n → gI S 1324 0 (8 * q + s) = nI (bnd s) ∧ bnd s ≤ 300
theorem Mn.fr {S S1 : zS} {q n : Nat} {bnd : Nat → Nat} (h : Mn S q n bnd) (f : Fr tPt S S1) : Mn S1 q n bnd := fun s a b => ⟨(f.1 _ _ _ rfl).trans (h s a b).1, (h s a b).2⟩
theorem Pw.fr {S S1 : zS} {q e : Nat} (h : Pw S q e) (f : Fr tP2 S S1) : Pw S1 q e := ⟨(f.1 _ _ _ rfl).trans h.1, (f.1 _ _ _ rfl).trans h.2⟩
theorem sum_mem : ∀ {ss : List Nat} {s : Nat}, s ∈ ss → s ≤ ss.sum
  | [], s, h => absurd h List.not_mem_nil
  | a :: r, s, h => by
    rw [List.sum_cons]
    rcases List.mem_cons.mp h with rfl | h
    · omega
    · have := sum_mem h; omega
theorem sum_len : ∀ {ss : List Nat}, (∀ s, s ∈ ss → 1 ≤ s) → ss.length ≤ ss.sum
  | [], _ => Nat.le_refl _
  | a :: r, h => by
    rw [List.sum_cons, List.length_cons]
    have := h a List.mem_cons_self
    have := sum_len (ss := r) (fun s hs => h s (List.mem_cons_of_mem _ hs))
    omega
/-- what a parting is -/
theorem cmp_get {e n i : Nat} (hi : i < (cmp e n).length) (he2 : 2 ≤ e) : ((cmp e n).getD i []).length = e ∧ ((cmp e n).getD i []).sum = n ∧ ∀ k, k < e → 1 ≤ ((cmp e n).getD i []).getD k 0 ∧ ((cmp e n).getD i []).getD k 0 < n := by
  obtain ⟨h1, h2, h3⟩ := mem_cmp.mp (mem_gd hi)
  generalize (cmp e n).getD i [] = ss at *
  refine ⟨h1, h2, fun k hk => ?_⟩
  have hm : ss.getD k 0 ∈ ss := getD_mem (by omega)
  refine ⟨h3 _ hm, ?_⟩
  obtain ⟨l1, l2, e1⟩ := List.append_of_mem hm
  have hl : l1.length + l2.length + 1 = e := by rw [← h1, e1]; simp; omega
  have g1 := sum_len (ss := l1) (fun s hs => h3 s (by rw [e1]; exact List.mem_append_left _ hs))
  have g2 := sum_len (ss := l2) (fun s hs => h3 s (by rw [e1]; exact List.mem_append_right _ (List.mem_cons_of_mem _ hs)))
  have hs : ss.sum = l1.sum + (ss.getD k 0 + l2.sum) := by
    have := congrArg List.sum e1
    rw [List.sum_append, List.sum_cons] at this; exact this
  omega
theorem drop_sum {ss : List Nat} {k : Nat} (h : k < ss.length) : (ss.drop k).sum = ss.getD k 0 + (ss.drop (k + 1)).sum := by
  rw [List.drop_eq_getElem_cons h, List.sum_cons, List.getD_eq_getElem?_getD, List.getElem?_eq_getElem h]; rfl
theorem drop_le {ss : List Nat} {k : Nat} : (ss.drop k).sum ≤ ss.sum := by
  have := congrArg List.sum (List.take_append_drop k ss)
  rw [List.sum_append] at this; omega
theorem fmS_get {ss : List Nat} {e k : Nat} (hl : ss.length = e) (hk : k < e - 1) {j : Nat} (hj : j < e) : (fmS ss k).getD j 0 = if j < k then ss.getD j 0 else if j = k then ss.getD k 0 + 1 else if j < e - 1 then 1 else (ss.drop (k + 1)).sum - 1 - (e - 2 - k) := by
  unfold fmS
  rw [hl, List.append_assoc, List.append_assoc, getD_appN, List.length_take, Nat.min_eq_left (by omega)]
  by_cases h1 : j < k
  · rw [if_pos h1, if_pos h1, List.getD_eq_getElem?_getD, List.getElem?_take, if_pos h1, List.getD_eq_getElem?_getD]
  · rw [if_neg h1, if_neg h1]
    by_cases h2 : j = k
    · rw [if_pos h2, h2, Nat.sub_self]; rfl
    · rw [if_neg h2]
      obtain ⟨d, hd⟩ : ∃ d, j - k = d + 1 := ⟨j - k - 1, by omega⟩
      rw [hd]
      show (List.replicate (e - 2 - k) 1 ++ [(ss.drop (k + 1)).sum - 1 - (e - 2 - k)]).getD d 0 = _
      rw [getD_appN, List.length_replicate]
      by_cases h3 : j < e - 1
      · rw [if_pos (by omega), if_pos h3, List.getD_eq_getElem?_getD, List.getElem?_replicate, if_pos (by omega)]; rfl
      · rw [if_neg (by omega), if_neg h3, show d - (e - 2 - k) = 0 by omega]; rfl

set_option maxRecDepth 100000 in
theorem lp_hasP {q e n i : Nat} (hq : q ≤ 1) (he7 : e ≤ 7) (he2 : 2 ≤ e) (hn7 : n ≤ 7) {bnd : Nat → Nat} (hi : i < (cmp e n).length) {S : zS} (hs : Sd S) (hw : Pw S q e) (hS : Ps S e ((cmp e n).getD i [])) (hM : Mn S q n bnd) : ∀ (d k : Nat), k + d = e → (∀ j, j < k → bnd (((cmp e n).getD i []).getD j 0) ≠ 0) → Ok mX12_hasParts 2 [some (zr 12 0), some (zi (nI k))] [] S (fun r S1 => S1 = S ∧ (r = some (zi (nI 1)) ∧ (∀ s, s ∈ ((cmp e n).getD i []) → bnd s ≠ 0) ∨ r = some (zi (nI 0)) ∧ ∃ s, s ∈ ((cmp e n).getD i []) ∧ bnd s = 0)) := by
  obtain ⟨g1, g2, g3⟩ := cmp_get hi he2
  intro d
  induction d with
  | zero =>
    intro k hk hj
    obtain rfl : k = e := by omega
    refine r_iload_n (q := 3) dX12_hasParts_2 rfl rfl rfl ?_
    refine r_aload_n (q := 4) dX12_hasParts_3 rfl rfl rfl ?_
    refine r_geti (q := 7) ck12 dX12_hasParts_4 rfl (k := 38) (by decide) wt1316 (Or.inl rfl) (hs.e (by decide)) ?_
    refine r_topi (y := nI k) hw.1 ?_
    refine r_icmp_geN (q := 10) (t := 40) (by omega) (by omega) dX12_hasParts_7 (by decide) rfl (fun h7 => ?_) (fun h7 => absurd h7 (by omega))
    refine r_iconst (q := 41) (nI 1) dX12_hasParts_40 rfl (by decide) ?_
    refine r_zreturn (by decide) dX12_hasParts_41 rfl ?_
    exact ⟨rfl, Or.inl ⟨rfl, fun s hs => by obtain ⟨j, hj2, e2⟩ := List.mem_iff_getElem.mp hs; have := hj j (by omega); rw [List.getD_eq_getElem?_getD, List.getElem?_eq_getElem hj2] at this; rw [← e2]; exact this⟩⟩
  | succ d ih =>
    intro k hk hj
    obtain ⟨s1, s2⟩ := g3 k (by omega)
    have p1 := hS k (by omega)
    obtain ⟨m1, m2⟩ := hM _ s1 s2
    have hmem : ((cmp e n).getD i []).getD k 0 ∈ ((cmp e n).getD i []) := getD_mem (by omega)
    by_cases h0 : bnd (((cmp e n).getD i []).getD k 0) = 0
    · skip
      refine r_iload_n (q := 3) dX12_hasParts_2 rfl rfl rfl ?_
      refine r_aload_n (q := 4) dX12_hasParts_3 rfl rfl rfl ?_
      refine r_geti (q := 7) ck12 dX12_hasParts_4 rfl (k := 38) (by decide) wt1316 (Or.inl rfl) (hs.e (by decide)) ?_
      refine r_topi (y := nI e) hw.1 ?_
      refine r_icmp_geN (q := 10) (t := 40) (by omega) (by omega) dX12_hasParts_7 (by decide) rfl (fun h7 => absurd h7 (by omega)) (fun h7 => ?_)
      refine r_aload_n (q := 11) dX12_hasParts_10 rfl rfl rfl ?_
      refine r_getr (q := 14) (some (1324, 0)) ck12 dX12_hasParts_11 rfl (k := 24) (by decide) wt1302 rfl (hs.e (by decide)) (hs.r (by decide) (by decide)) ?_
      refine r_bipush (q := 16) (nI 8) dX12_hasParts_14 rfl (by decide) ?_
      refine r_aload_n (q := 17) dX12_hasParts_16 rfl rfl rfl ?_
      refine r_geti (q := 20) ck12 dX12_hasParts_17 rfl (k := 40) (by decide) wt1318 (Or.inl rfl) (hs.e (by decide)) ?_
      refine r_topi (y := nI q) hw.2 ?_
      refine r_imulN (q := 21) dX12_hasParts_20 rfl ?_
      refine r_aload_n (q := 22) dX12_hasParts_21 rfl rfl rfl ?_
      refine r_getr (q := 25) (some (1336, 0)) ck12 dX12_hasParts_22 rfl (k := 36) (by decide) wt1314 rfl (hs.e (by decide)) (hs.r (by decide) (by decide)) ?_
      refine r_iload_n (q := 26) dX12_hasParts_25 rfl rfl rfl ?_
      refine r_ialdN (q := 27) 8 (by decide) rfl dX12_hasParts_26 rfl (hs.e (by decide)) (hs.n rfl (by decide)) (by omega) (by decide) ?_
      refine r_topi (y := nI (((cmp e n).getD i []).getD k 0)) p1 ?_
      refine r_iaddN (q := 28) dX12_hasParts_27 rfl ?_
      refine r_ialdN (q := 29) 16 (by decide) rfl dX12_hasParts_28 rfl (hs.e (by decide)) (hs.n rfl (by decide)) (by omega) (by decide) ?_
      refine r_topi (y := nI (bnd (((cmp e n).getD i []).getD k 0))) m1 ?_
      refine r_if_neN (q := 32) (t := 34) (by omega) dX12_hasParts_29 (by decide) rfl (fun h29 => absurd h29 (by omega)) (fun h29 => ?_)
      refine r_iconst (q := 33) (nI 0) dX12_hasParts_32 rfl (by decide) ?_
      refine r_zreturn (by decide) dX12_hasParts_33 rfl ?_
      exact ⟨rfl, Or.inr ⟨rfl, _, hmem, h0⟩⟩
    · skip
      refine r_iload_n (q := 3) dX12_hasParts_2 rfl rfl rfl ?_
      refine r_aload_n (q := 4) dX12_hasParts_3 rfl rfl rfl ?_
      refine r_geti (q := 7) ck12 dX12_hasParts_4 rfl (k := 38) (by decide) wt1316 (Or.inl rfl) (hs.e (by decide)) ?_
      refine r_topi (y := nI e) hw.1 ?_
      refine r_icmp_geN (q := 10) (t := 40) (by omega) (by omega) dX12_hasParts_7 (by decide) rfl (fun h7 => absurd h7 (by omega)) (fun h7 => ?_)
      refine r_aload_n (q := 11) dX12_hasParts_10 rfl rfl rfl ?_
      refine r_getr (q := 14) (some (1324, 0)) ck12 dX12_hasParts_11 rfl (k := 24) (by decide) wt1302 rfl (hs.e (by decide)) (hs.r (by decide) (by decide)) ?_
      refine r_bipush (q := 16) (nI 8) dX12_hasParts_14 rfl (by decide) ?_
      refine r_aload_n (q := 17) dX12_hasParts_16 rfl rfl rfl ?_
      refine r_geti (q := 20) ck12 dX12_hasParts_17 rfl (k := 40) (by decide) wt1318 (Or.inl rfl) (hs.e (by decide)) ?_
      refine r_topi (y := nI q) hw.2 ?_
      refine r_imulN (q := 21) dX12_hasParts_20 rfl ?_
      refine r_aload_n (q := 22) dX12_hasParts_21 rfl rfl rfl ?_
      refine r_getr (q := 25) (some (1336, 0)) ck12 dX12_hasParts_22 rfl (k := 36) (by decide) wt1314 rfl (hs.e (by decide)) (hs.r (by decide) (by decide)) ?_
      refine r_iload_n (q := 26) dX12_hasParts_25 rfl rfl rfl ?_
      refine r_ialdN (q := 27) 8 (by decide) rfl dX12_hasParts_26 rfl (hs.e (by decide)) (hs.n rfl (by decide)) (by omega) (by decide) ?_
      refine r_topi (y := nI (((cmp e n).getD i []).getD k 0)) p1 ?_
      refine r_iaddN (q := 28) dX12_hasParts_27 rfl ?_
      refine r_ialdN (q := 29) 16 (by decide) rfl dX12_hasParts_28 rfl (hs.e (by decide)) (hs.n rfl (by decide)) (by omega) (by decide) ?_
      refine r_topi (y := nI (bnd (((cmp e n).getD i []).getD k 0))) m1 ?_
      refine r_if_neN (q := 32) (t := 34) (by omega) dX12_hasParts_29 (by decide) rfl (fun h29 => ?_) (fun h29 => absurd h29 (by omega))
      refine r_iincN (q := 37) (L' := [some (zr 12 0), some (zi (nI (k + 1)))]) 1 rfl dX12_hasParts_34 rfl rfl (by decide) rfl ?_
      refine r_goto (q := 2) dX12_hasParts_37 (by decide) ?_
      exact ih (k + 1) (by omega) (fun j a => if e3 : j = k then by rw [e3]; exact h0 else hj j (by omega))

set_option maxRecDepth 100000 in
theorem ok_hasParts {q e n i : Nat} (hq : q ≤ 1) (he7 : e ≤ 7) (he2 : 2 ≤ e) (hn7 : n ≤ 7) {bnd : Nat → Nat} (hi : i < (cmp e n).length) {S : zS} (hs : Sd S) (hw : Pw S q e) (hS : Ps S e ((cmp e n).getD i [])) (hM : Mn S q n bnd) : Ok mX12_hasParts 0 (ent 2 [zr 12 0]) [] S (fun r S1 => S1 = S ∧ (r = some (zi (nI 1)) ∧ (∀ s, s ∈ ((cmp e n).getD i []) → bnd s ≠ 0) ∨ r = some (zi (nI 0)) ∧ ∃ s, s ∈ ((cmp e n).getD i []) ∧ bnd s = 0)) := by
  show Ok mX12_hasParts 0 [some (zr 12 0), none] [] S _
  refine r_iconst (q := 1) (nI 0) dX12_hasParts_0 rfl (by decide) ?_
  refine r_istore_n (q := 2) (L' := [some (zr 12 0), some (zi (nI 0))]) dX12_hasParts_1 rfl rfl (by decide) rfl ?_
  exact lp_hasP hq he7 he2 hn7 hi hs hw hS hM e 0 (by omega) (fun j a => absurd a (by omega))

set_option maxRecDepth 100000 in
theorem lp_ns1 {q e n i : Nat} (hq : q ≤ 1) (he7 : e ≤ 7) (he2 : 2 ≤ e) (hn7 : n ≤ 7) (hi : i < (cmp e n).length) {S : zS} (hs : Sd S) (hw : Pw S q e) (hS : Ps S e ((cmp e n).getD i [])) {Po : Option zV → zS → Prop} (K0 : i + 1 = (cmp e n).length → ∀ w2, Ok mX12_nextSizes 61 [some (zr 12 0), some (zi (-1)), w2, none] [] S Po) (K1 : ∀ k, k < e - 1 → i + 1 < (cmp e n).length → (cmp e n).getD (i + 1) [] = fmS ((cmp e n).getD i []) k → e - 1 - k < (((cmp e n).getD i []).drop (k + 1)).sum → Ok mX12_nextSizes 61 [some (zr 12 0), some (zi (nI k)), some (zi (nI ((((cmp e n).getD i []).drop (k + 1)).sum))), none] [] S Po) : ∀ (d : Nat) (x : Int32), x = nI d - 1 → d ≤ e - 1 → (∀ k', d ≤ k' → k' < e - 1 → (((cmp e n).getD i []).drop (k' + 1)).sum = e - 1 - k') → Ok mX12_nextSizes 30 [some (zr 12 0), some (zi x), some (zi (nI (((cmp e n).getD i []).drop d).sum)), none] [] S Po := by
  obtain ⟨g1, g2, g3⟩ := cmp_get hi he2
  intro d
  induction d with
  | zero =>
    intro x hx hd hz
    obtain rfl : x = -1 := hx.trans (by decide)
    refine r_iload_n (q := 31) dX12_nextSizes_30 rfl rfl rfl ?_
    refine r_if_lt (q := 34) (t := 61) dX12_nextSizes_31 (by decide) rfl (fun h31 => ?_) (fun h31 => absurd h31 (by decide))
    exact K0 (cmp_last he7 hn7 hi (fun k hk => hz k (by omega) hk)) _
  | succ k ih =>
    intro x hx hd hz
    obtain rfl : x = nI k := hx.trans (nI_prd k)
    obtain ⟨s1, s2⟩ := g3 k (by omega)
    have p1 := hS k (by omega)
    have hdl := drop_le (ss := ((cmp e n).getD i [])) (k := k + 1)
    have hds := drop_sum (ss := ((cmp e n).getD i [])) (k := k) (by omega)
    by_cases hst : (((cmp e n).getD i []).drop (k + 1)).sum = e - 1 - k
    · skip
      refine r_iload_n (q := 31) dX12_nextSizes_30 rfl rfl rfl ?_
      refine r_if_ltN (q := 34) (t := 61) (by omega) dX12_nextSizes_31 (by decide) rfl ?_
      refine r_iload_n (q := 35) dX12_nextSizes_34 rfl rfl rfl ?_
      refine r_aload_n (q := 36) dX12_nextSizes_35 rfl rfl rfl ?_
      refine r_geti (q := 39) ck12 dX12_nextSizes_36 rfl (k := 38) (by decide) wt1316 (Or.inl rfl) (hs.e (by decide)) ?_
      refine r_topi (y := nI e) hw.1 ?_
      refine r_iconst (q := 40) (nI 1) dX12_nextSizes_39 rfl (by decide) ?_
      refine r_isubN (q := 41) (by omega) dX12_nextSizes_40 rfl ?_
      refine r_iload_n (q := 42) dX12_nextSizes_41 rfl rfl rfl ?_
      refine r_isubN (q := 43) (by omega) dX12_nextSizes_42 rfl ?_
      refine r_icmp_neN (q := 46) (t := 61) (by omega) (by omega) dX12_nextSizes_43 (by decide) rfl (fun h43 => absurd h43 (by omega)) (fun h43 => ?_)
      refine r_iload_n (q := 47) dX12_nextSizes_46 rfl rfl rfl ?_
      refine r_aload_n (q := 48) dX12_nextSizes_47 rfl rfl rfl ?_
      refine r_getr (q := 51) (some (1336, 0)) ck12 dX12_nextSizes_48 rfl (k := 36) (by decide) wt1314 rfl (hs.e (by decide)) (hs.r (by decide) (by decide)) ?_
      refine r_iload_n (q := 52) dX12_nextSizes_51 rfl rfl rfl ?_
      refine r_ialdN (q := 53) 8 (by decide) rfl dX12_nextSizes_52 rfl (hs.e (by decide)) (hs.n rfl (by decide)) (by omega) (by decide) ?_
      refine r_topi (y := nI (((cmp e n).getD i []).getD k 0)) p1 ?_
      refine r_iaddN (q := 54) dX12_nextSizes_53 rfl ?_
      refine r_istore_n (q := 55) (L' := [some (zr 12 0), some (zi (nI k)), some (zi (nI (((((cmp e n).getD i []).drop (k + 1)).sum) + (((cmp e n).getD i []).getD k 0)))), none]) dX12_nextSizes_54 rfl rfl (by decide) rfl ?_
      refine r_iinc (q := 58) (L' := [some (zr 12 0), some (zi ((nI k) + (-1))), some (zi (nI (((((cmp e n).getD i []).drop (k + 1)).sum) + (((cmp e n).getD i []).getD k 0)))), none]) ((nI k) + (-1)) dX12_nextSizes_55 rfl rfl (by decide) rfl rfl ?_
      refine r_goto (q := 30) dX12_nextSizes_58 (by decide) ?_
      rw [show (((cmp e n).getD i []).drop (k + 1)).sum + ((cmp e n).getD i []).getD k 0 = (((cmp e n).getD i []).drop k).sum by omega]
      exact ih _ (Int32.sub_eq_add_neg _ _).symm (by omega) (fun k' a b => if e3 : k' = k then by rw [e3]; exact hst else hz k' (by omega) b)
    · have hcn := cmp_next he7 hn7 hi (show k < e - 1 by omega) hst (fun k' a b => hz k' (by omega) b)
      have hsl := sum_len (ss := ((cmp e n).getD i []).drop (k + 1)) (fun s hs => (mem_cmp.mp (mem_gd hi)).2.2 s (List.mem_of_mem_drop hs))
      rw [List.length_drop, g1] at hsl
      refine r_iload_n (q := 31) dX12_nextSizes_30 rfl rfl rfl ?_
      refine r_if_ltN (q := 34) (t := 61) (by omega) dX12_nextSizes_31 (by decide) rfl ?_
      refine r_iload_n (q := 35) dX12_nextSizes_34 rfl rfl rfl ?_
      refine r_aload_n (q := 36) dX12_nextSizes_35 rfl rfl rfl ?_
      refine r_geti (q := 39) ck12 dX12_nextSizes_36 rfl (k := 38) (by decide) wt1316 (Or.inl rfl) (hs.e (by decide)) ?_
      refine r_topi (y := nI e) hw.1 ?_
      refine r_iconst (q := 40) (nI 1) dX12_nextSizes_39 rfl (by decide) ?_
      refine r_isubN (q := 41) (by omega) dX12_nextSizes_40 rfl ?_
      refine r_iload_n (q := 42) dX12_nextSizes_41 rfl rfl rfl ?_
      refine r_isubN (q := 43) (by omega) dX12_nextSizes_42 rfl ?_
      refine r_icmp_neN (q := 46) (t := 61) (by omega) (by omega) dX12_nextSizes_43 (by decide) rfl (fun h43 => ?_) (fun h43 => absurd h43 (by omega))
      exact K1 k (by omega) hcn.1 hcn.2 (by omega)

set_option maxRecDepth 100000 in
theorem lp_ns2 {e k B : Nat} (he7 : e ≤ 7) (he2 : 2 ≤ e) (hk : k < e - 1) {w1 : Int32} (hB : e - 2 - k ≤ B) (hB9 : B ≤ 9) {Po : Option zV → zS → Prop} : ∀ (d j : Nat) (S : zS), j + d = e - 1 → k + 1 ≤ j → Sd S → gI S 12 0 38 = nI e → (∀ S1, Fr tP2 S S1 → (∀ z, gI S1 1336 0 z = if j ≤ z ∧ z < e - 1 then nI 1 else gI S 1336 0 z) → (∀ z, gI S1 1337 0 z = gI S 1337 0 z) → Ok mX12_nextSizes 110 [some (zr 12 0), some (zi w1), some (zi (nI (B - (e - 2 - k)))), some (zi (nI (e - 1)))] [] S1 Po) → Ok mX12_nextSizes 84 [some (zr 12 0), some (zi w1), some (zi (nI (B - (j - (k + 1))))), some (zi (nI j))] [] S Po := by
  intro d
  induction d with
  | zero =>
    intro j S hj hkj hs hw K
    obtain rfl : j = e - 1 := by omega
    refine r_iload_n (q := 85) dX12_nextSizes_84 rfl rfl rfl ?_
    refine r_aload_n (q := 86) dX12_nextSizes_85 rfl rfl rfl ?_
    refine r_geti (q := 89) ck12 dX12_nextSizes_86 rfl (k := 38) (by decide) wt1316 (Or.inl rfl) (hs.e (by decide)) ?_
    refine r_topi (y := nI e) hw ?_
    refine r_iconst (q := 90) (nI 1) dX12_nextSizes_89 rfl (by decide) ?_
    refine r_isubN (q := 91) (by omega) dX12_nextSizes_90 rfl ?_
    refine r_icmp_geN (q := 94) (t := 110) (by omega) (by omega) dX12_nextSizes_91 (by decide) rfl (fun h91 => ?_) (fun h91 => absurd h91 (by omega))
    have := K S Fr.rf (fun z => (if_neg (by omega)).symm) (fun z => rfl)
    rw [show e - 2 - k = e - 1 - (k + 1) by omega] at this; exact this
  | succ d ih =>
    intro j S hj hkj hs hw K
    refine r_iload_n (q := 85) dX12_nextSizes_84 rfl rfl rfl ?_
    refine r_aload_n (q := 86) dX12_nextSizes_85 rfl rfl rfl ?_
    refine r_geti (q := 89) ck12 dX12_nextSizes_86 rfl (k := 38) (by decide) wt1316 (Or.inl rfl) (hs.e (by decide)) ?_
    refine r_topi (y := nI e) hw ?_
    refine r_iconst (q := 90) (nI 1) dX12_nextSizes_89 rfl (by decide) ?_
    refine r_isubN (q := 91) (by omega) dX12_nextSizes_90 rfl ?_
    refine r_icmp_geN (q := 94) (t := 110) (by omega) (by omega) dX12_nextSizes_91 (by decide) rfl (fun h91 => absurd h91 (by omega)) (fun h91 => ?_)
    refine r_aload_n (q := 95) dX12_nextSizes_94 rfl rfl rfl ?_
    refine r_getr (q := 98) (some (1336, 0)) ck12 dX12_nextSizes_95 rfl (k := 36) (by decide) wt1314 rfl (hs.e (by decide)) (hs.r (by decide) (by decide)) ?_
    refine r_iload_n (q := 99) dX12_nextSizes_98 rfl rfl rfl ?_
    refine r_iconst (q := 100) (nI 1) dX12_nextSizes_99 rfl (by decide) ?_
    refine r_iastN (q := 101) 8 (by decide) rfl dX12_nextSizes_100 rfl (hs.e (by decide)) (hs.n rfl (by decide)) (by omega) (by decide) ?_
    refine r_idecN (q := 104) (L' := [some (zr 12 0), some (zi w1), some (zi (nI (B - (j - (k + 1)) - 1))), some (zi (nI j))]) 1 (by omega) rfl dX12_nextSizes_101 rfl rfl (by decide) rfl ?_
    refine r_iincN (q := 107) (L' := [some (zr 12 0), some (zi w1), some (zi (nI (B - (j - (k + 1)) - 1))), some (zi (nI (j + 1)))]) 1 rfl dX12_nextSizes_104 rfl rfl (by decide) rfl ?_
    refine r_goto (q := 84) dX12_nextSizes_107 (by decide) ?_
    have f1 : Fr tP2 S (sI S 1336 0 j (nI 1)) := (Fr.rf).i rfl
    rw [show B - (j - (k + 1)) - 1 = B - (j + 1 - (k + 1)) by omega]
    refine ih (j + 1) _ (by omega) (by omega) hs (by rw [gI_sI, if_neg (by omega)]; exact hw) (fun S1 g1 g2 g3 => K S1 (f1.tr g1) (fun z => ?_) (fun z => by rw [g3 z, gI_sI, if_neg (by omega)]))
    rw [g2 z, gI_sI]
    by_cases q : j + 1 ≤ z ∧ z < e - 1
    · rw [if_pos q, if_pos (by omega)]
    · rw [if_neg q]
      by_cases q2 : z = j
      · rw [if_pos ⟨rfl, rfl, q2⟩, if_pos (by omega)]
      · rw [if_neg (fun z' => q2 z'.2.2), if_neg (by omega)]

set_option maxRecDepth 100000 in
theorem lp_ns3 {e : Nat} (he7 : e ≤ 7) {w1 w2 : Int32} {Po : Option zV → zS → Prop} : ∀ (d j : Nat) (S : zS), j + d = e → Sd S → gI S 12 0 38 = nI e → (∀ S1, Fr tP2 S S1 → (∀ z, gI S1 1336 0 z = gI S 1336 0 z) → (∀ z, j ≤ z → z < e → gI S1 1337 0 z = nI 0) → (∀ z, z < j → gI S1 1337 0 z = gI S 1337 0 z) → Ok mX12_nextSizes 145 [some (zr 12 0), some (zi w1), some (zi w2), some (zi (nI e))] [] S1 Po) → Ok mX12_nextSizes 124 [some (zr 12 0), some (zi w1), some (zi w2), some (zi (nI j))] [] S Po := by
  intro d
  induction d with
  | zero =>
    intro j S hj hs hw K
    obtain rfl : j = e := by omega
    refine r_iload_n (q := 125) dX12_nextSizes_124 rfl rfl rfl ?_
    refine r_aload_n (q := 126) dX12_nextSizes_125 rfl rfl rfl ?_
    refine r_geti (q := 129) ck12 dX12_nextSizes_126 rfl (k := 38) (by decide) wt1316 (Or.inl rfl) (hs.e (by decide)) ?_
    refine r_topi (y := nI j) hw ?_
    refine r_icmp_geN (q := 132) (t := 145) (by omega) (by omega) dX12_nextSizes_129 (by decide) rfl (fun h129 => ?_) (fun h129 => absurd h129 (by omega))
    exact K S Fr.rf (fun z => rfl) (fun z a b => absurd a (by omega)) (fun z _ => rfl)
  | succ d ih =>
    intro j S hj hs hw K
    refine r_iload_n (q := 125) dX12_nextSizes_124 rfl rfl rfl ?_
    refine r_aload_n (q := 126) dX12_nextSizes_125 rfl rfl rfl ?_
    refine r_geti (q := 129) ck12 dX12_nextSizes_126 rfl (k := 38) (by decide) wt1316 (Or.inl rfl) (hs.e (by decide)) ?_
    refine r_topi (y := nI e) hw ?_
    refine r_icmp_geN (q := 132) (t := 145) (by omega) (by omega) dX12_nextSizes_129 (by decide) rfl (fun h129 => absurd h129 (by omega)) (fun h129 => ?_)
    refine r_aload_n (q := 133) dX12_nextSizes_132 rfl rfl rfl ?_
    refine r_getr (q := 136) (some (1337, 0)) ck12 dX12_nextSizes_133 rfl (k := 37) (by decide) wt1315 rfl (hs.e (by decide)) (hs.r (by decide) (by decide)) ?_
    refine r_iload_n (q := 137) dX12_nextSizes_136 rfl rfl rfl ?_
    refine r_iconst (q := 138) (nI 0) dX12_nextSizes_137 rfl (by decide) ?_
    refine r_iastN (q := 139) 8 (by decide) rfl dX12_nextSizes_138 rfl (hs.e (by decide)) (hs.n rfl (by decide)) (by omega) (by decide) ?_
    refine r_iincN (q := 142) (L' := [some (zr 12 0), some (zi w1), some (zi w2), some (zi (nI (j + 1)))]) 1 rfl dX12_nextSizes_139 rfl rfl (by decide) rfl ?_
    refine r_goto (q := 124) dX12_nextSizes_142 (by decide) ?_
    have f1 : Fr tP2 S (sI S 1337 0 j (nI 0)) := (Fr.rf).i rfl
    refine ih (j + 1) _ (by omega) hs (by rw [gI_sI, if_neg (by omega)]; exact hw) (fun S1 g1 g2 g3 g4 => K S1 (f1.tr g1) (fun z => by rw [g2 z, gI_sI, if_neg (by omega)]) (fun z a b => ?_) (fun z a => by rw [g4 z (by omega), gI_sI, if_neg (by omega)]))
    by_cases q : z = j
    · rw [q, g4 j (by omega), gI_sI, if_pos ⟨rfl, rfl, rfl⟩]
    · exact g3 z (by omega) b

