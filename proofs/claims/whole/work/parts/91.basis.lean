/-! the rows of a basis: level n of slot b -/
def tri (t : Nat) : Nat := t * (t - 1) / 2
def Lx (S : zS) (b n f0 : Nat) (T : List (List Nat)) : Prop := gI S 103 b n = nI f0 ∧ gI S 103 b (n + 1) = nI (f0 + T.length) ∧ f0 + T.length ≤ 400 ∧ T.length ≤ 300 ∧ ∀ i, i < T.length → gI S 104 b (f0 + i) = nI (ky (T.getD i []))
def Mx (S : zS) (b f0 m : Nat) (mk : Nat → Nat) : Prop := ∀ i, i < m → gI S 105 b (f0 + i) = nI (mk i) ∧ mk i ≤ 2
def Ux (S : zS) (b n rf m P : Nat) (mk : Nat → Nat) (rl : Nat → Nat → Nat) : Prop := gI S 106 b n = nI rf ∧ rf + tri m ≤ gN S 107 b ∧ gN S 107 b ≤ 160000 ∧ ∀ t, t < m → mk t ≠ 0 → ∀ j, j < t → gI S 107 b (rf + tri t + j) = nI (rl t j) ∧ rl t j < P
def Vx (S : zS) (b m P : Nat) (v : Nat → Nat) : Prop := ∀ j, j < m → gI S 703 b j = nI (v j) ∧ v j < P
theorem tri_succ (t : Nat) : tri (t + 1) = tri t + t := by
  unfold tri
  have h : (t + 1) * (t + 1 - 1) = t * (t - 1) + t * 2 := by
    cases t with
    | zero => rfl
    | succ t => rw [Nat.add_sub_cancel, Nat.add_sub_cancel, Nat.add_mul (t + 1) 1, Nat.mul_add (t + 1)]; omega
  rw [h, Nat.add_mul_div_right _ _ (by omega)]
theorem tri_mono : ∀ {t m : Nat}, t ≤ m → tri t ≤ tri m
  | t, 0, h => by rw [show t = 0 by omega]; exact Nat.le_refl _
  | t, m + 1, h => by
    by_cases e : t = m + 1
    · rw [e]; exact Nat.le_refl _
    · rw [tri_succ]; have := tri_mono (t := t) (m := m) (by omega); omega
theorem tri_lt {t j m : Nat} (h : t < m) (hj : j < t) : tri t + j < tri m := by
  have := tri_mono (t := t + 1) (m := m) h
  rw [tri_succ] at this; omega
theorem tri_le {t m : Nat} (h : t < m) : tri t + t ≤ tri m := by
  have := tri_mono (t := t + 1) (m := m) h
  rw [tri_succ] at this; omega
theorem mul_300 {t : Nat} (h : t ≤ 300) : t * (t - 1) < 100000 := Nat.lt_of_le_of_lt (Nat.mul_le_mul h (show t - 1 ≤ 300 by omega)) (by decide)

set_option maxRecDepth 100000 in
theorem ok_treesOf {S : zS} (hs : Sd S) {b n f0 : Nat} (hb4 : b < 4) (hn7 : n ≤ 7) {T : List (List Nat)} (hL : Lx S b n f0 T) : Ok mX0_treesOf 0 (ent 2 [zr 0 b, zi (nI n)]) [] S (fun r S1 => r = some (zi (nI T.length)) ∧ S1 = S) := by
  obtain ⟨l1, l2, l3, l4, l5⟩ := hL
  show Ok mX0_treesOf 0 [some (zr 0 b), some (zi (nI n))] [] S _
  refine r_aload_n (q := 1) dX0_treesOf_0 rfl rfl rfl ?_
  refine r_getr (q := 4) (some (103, b)) ck0 dX0_treesOf_1 rfl (k := 3) (by decide) wt380 rfl (hs.e (show b < 4 by omega)) (hs.r (show b < 4 by omega) (by decide)) ?_
  refine r_iload_n (q := 5) dX0_treesOf_4 rfl rfl rfl ?_
  refine r_iconst (q := 6) (nI 1) dX0_treesOf_5 rfl (by decide) ?_
  refine r_iaddN (q := 7) dX0_treesOf_6 rfl ?_
  refine r_ialdN (q := 8) 9 (by decide) rfl dX0_treesOf_7 rfl (hs.e (show b < 4 by omega)) (hs.n rfl (show b < 4 by omega)) (by omega) (by decide) ?_
  refine r_topi (y := nI (f0 + T.length)) l2 ?_
  refine r_aload_n (q := 9) dX0_treesOf_8 rfl rfl rfl ?_
  refine r_getr (q := 12) (some (103, b)) ck0 dX0_treesOf_9 rfl (k := 3) (by decide) wt380 rfl (hs.e (show b < 4 by omega)) (hs.r (show b < 4 by omega) (by decide)) ?_
  refine r_iload_n (q := 13) dX0_treesOf_12 rfl rfl rfl ?_
  refine r_ialdN (q := 14) 9 (by decide) rfl dX0_treesOf_13 rfl (hs.e (show b < 4 by omega)) (hs.n rfl (show b < 4 by omega)) (by omega) (by decide) ?_
  refine r_topi (y := nI f0) l1 ?_
  refine r_isubN (q := 15) (by omega) dX0_treesOf_14 rfl ?_
  refine r_topi (y := nI T.length) (congrArg nI (by omega)) ?_
  refine r_ireturn dX0_treesOf_15 rfl ?_
  exact ⟨rfl, rfl⟩

set_option maxRecDepth 100000 in
theorem ok_keyOf {S : zS} (hs : Sd S) {b n f0 : Nat} (hb4 : b < 4) (hn7 : n ≤ 7) {T : List (List Nat)} (hL : Lx S b n f0 T) {i : Nat} (hi : i < T.length) : Ok mX0_keyOf 0 (ent 4 [zr 0 b, zi (nI n), zi (nI i)]) [] S (fun r S1 => r = some (zi (nI (ky (T.getD i [])))) ∧ S1 = S) := by
  obtain ⟨l1, l2, l3, l4, l5⟩ := hL
  show Ok mX0_keyOf 0 [some (zr 0 b), some (zi (nI n)), some (zi (nI i)), none] [] S _
  refine r_aload_n (q := 1) dX0_keyOf_0 rfl rfl rfl ?_
  refine r_getr (q := 4) (some (103, b)) ck0 dX0_keyOf_1 rfl (k := 3) (by decide) wt380 rfl (hs.e (show b < 4 by omega)) (hs.r (show b < 4 by omega) (by decide)) ?_
  refine r_iload_n (q := 5) dX0_keyOf_4 rfl rfl rfl ?_
  refine r_ialdN (q := 6) 9 (by decide) rfl dX0_keyOf_5 rfl (hs.e (show b < 4 by omega)) (hs.n rfl (show b < 4 by omega)) (by omega) (by decide) ?_
  refine r_topi (y := nI f0) l1 ?_
  refine r_iload_n (q := 7) dX0_keyOf_6 rfl rfl rfl ?_
  refine r_iaddN (q := 8) dX0_keyOf_7 rfl ?_
  refine r_istore_n (q := 9) (L' := [some (zr 0 b), some (zi (nI n)), some (zi (nI i)), some (zi (nI (f0 + i)))]) dX0_keyOf_8 rfl rfl (by decide) rfl ?_
  refine r_iload_n (q := 10) dX0_keyOf_9 rfl rfl rfl ?_
  refine r_if_ltN (q := 13) (t := 31) (by omega) dX0_keyOf_10 (by decide) rfl ?_
  refine r_iload_n (q := 14) dX0_keyOf_13 rfl rfl rfl ?_
  refine r_aload_n (q := 15) dX0_keyOf_14 rfl rfl rfl ?_
  refine r_getr (q := 18) (some (104, b)) ck0 dX0_keyOf_15 rfl (k := 4) (by decide) wt381 rfl (hs.e (show b < 4 by omega)) (hs.r (show b < 4 by omega) (by decide)) ?_
  refine r_alen (q := 19) (by decide) (by decide) dX0_keyOf_18 rfl (hs.e (show b < 4 by omega)) ?_
  refine r_topi (y := nI 400) (congrArg nI (hs.n rfl (show b < 4 by omega))) ?_
  refine r_icmp_geN (q := 22) (t := 31) (by omega) (by omega) dX0_keyOf_19 (by decide) rfl (fun h19 => absurd h19 (by omega)) (fun h19 => ?_)
  refine r_aload_n (q := 23) dX0_keyOf_22 rfl rfl rfl ?_
  refine r_getr (q := 26) (some (104, b)) ck0 dX0_keyOf_23 rfl (k := 4) (by decide) wt381 rfl (hs.e (show b < 4 by omega)) (hs.r (show b < 4 by omega) (by decide)) ?_
  refine r_iload_n (q := 27) dX0_keyOf_26 rfl rfl rfl ?_
  refine r_ialdN (q := 28) 400 (by decide) rfl dX0_keyOf_27 rfl (hs.e (show b < 4 by omega)) (hs.n rfl (show b < 4 by omega)) (by omega) (by decide) ?_
  refine r_topi (y := nI (ky (T.getD i []))) (l5 i hi) ?_
  refine r_goto (q := 32) dX0_keyOf_28 (by decide) ?_
  refine r_ireturn dX0_keyOf_32 rfl ?_
  exact ⟨rfl, rfl⟩

set_option maxRecDepth 100000 in
theorem ok_isNormal_y {S : zS} (hs : Sd S) {b n f0 : Nat} (hb4 : b < 4) (hn7 : n ≤ 7) {T : List (List Nat)} (hL : Lx S b n f0 T) {mk : Nat → Nat} (hM : Mx S b f0 T.length mk) {i : Nat} (hi : i < T.length) (h0 : mk i = 0) : Ok mX0_isNormal 0 (ent 4 [zr 0 b, zi (nI n), zi (nI i)]) [] S (fun r S1 => r = some (zi (nI 1)) ∧ S1 = S) := by
  obtain ⟨l1, l2, l3, l4, l5⟩ := hL
  have hm2 := (hM i hi).2
  show Ok mX0_isNormal 0 [some (zr 0 b), some (zi (nI n)), some (zi (nI i)), none] [] S _
  refine r_aload_n (q := 1) dX0_isNormal_0 rfl rfl rfl ?_
  refine r_getr (q := 4) (some (103, b)) ck0 dX0_isNormal_1 rfl (k := 3) (by decide) wt380 rfl (hs.e (show b < 4 by omega)) (hs.r (show b < 4 by omega) (by decide)) ?_
  refine r_iload_n (q := 5) dX0_isNormal_4 rfl rfl rfl ?_
  refine r_ialdN (q := 6) 9 (by decide) rfl dX0_isNormal_5 rfl (hs.e (show b < 4 by omega)) (hs.n rfl (show b < 4 by omega)) (by omega) (by decide) ?_
  refine r_topi (y := nI f0) l1 ?_
  refine r_iload_n (q := 7) dX0_isNormal_6 rfl rfl rfl ?_
  refine r_iaddN (q := 8) dX0_isNormal_7 rfl ?_
  refine r_istore_n (q := 9) (L' := [some (zr 0 b), some (zi (nI n)), some (zi (nI i)), some (zi (nI (f0 + i)))]) dX0_isNormal_8 rfl rfl (by decide) rfl ?_
  refine r_iload_n (q := 10) dX0_isNormal_9 rfl rfl rfl ?_
  refine r_if_ltN (q := 13) (t := 31) (by omega) dX0_isNormal_10 (by decide) rfl ?_
  refine r_iload_n (q := 14) dX0_isNormal_13 rfl rfl rfl ?_
  refine r_aload_n (q := 15) dX0_isNormal_14 rfl rfl rfl ?_
  refine r_getr (q := 18) (some (105, b)) ck0 dX0_isNormal_15 rfl (k := 5) (by decide) wt382 rfl (hs.e (show b < 4 by omega)) (hs.r (show b < 4 by omega) (by decide)) ?_
  refine r_alen (q := 19) (by decide) (by decide) dX0_isNormal_18 rfl (hs.e (show b < 4 by omega)) ?_
  refine r_topi (y := nI 400) (congrArg nI (hs.n rfl (show b < 4 by omega))) ?_
  refine r_icmp_geN (q := 22) (t := 31) (by omega) (by omega) dX0_isNormal_19 (by decide) rfl (fun h19 => absurd h19 (by omega)) (fun h19 => ?_)
  refine r_aload_n (q := 23) dX0_isNormal_22 rfl rfl rfl ?_
  refine r_getr (q := 26) (some (105, b)) ck0 dX0_isNormal_23 rfl (k := 5) (by decide) wt382 rfl (hs.e (show b < 4 by omega)) (hs.r (show b < 4 by omega) (by decide)) ?_
  refine r_iload_n (q := 27) dX0_isNormal_26 rfl rfl rfl ?_
  refine r_ialdN (q := 28) 400 (by decide) rfl dX0_isNormal_27 rfl (hs.e (show b < 4 by omega)) (hs.n rfl (show b < 4 by omega)) (by omega) (by decide) ?_
  refine r_topi (y := nI (mk i)) (hM i hi).1 ?_
  refine r_if_neN (q := 31) (t := 35) (by omega) dX0_isNormal_28 (by decide) rfl (fun h28 => absurd h28 (by omega)) (fun h28 => ?_)
  refine r_iconst (q := 32) (nI 1) dX0_isNormal_31 rfl (by decide) ?_
  refine r_goto (q := 36) dX0_isNormal_32 (by decide) ?_
  refine r_zreturn (by decide) dX0_isNormal_36 rfl ?_
  exact ⟨rfl, rfl⟩

set_option maxRecDepth 100000 in
theorem ok_isNormal_n {S : zS} (hs : Sd S) {b n f0 : Nat} (hb4 : b < 4) (hn7 : n ≤ 7) {T : List (List Nat)} (hL : Lx S b n f0 T) {mk : Nat → Nat} (hM : Mx S b f0 T.length mk) {i : Nat} (hi : i < T.length) (h0 : mk i ≠ 0) : Ok mX0_isNormal 0 (ent 4 [zr 0 b, zi (nI n), zi (nI i)]) [] S (fun r S1 => r = some (zi (nI 0)) ∧ S1 = S) := by
  obtain ⟨l1, l2, l3, l4, l5⟩ := hL
  have hm2 := (hM i hi).2
  show Ok mX0_isNormal 0 [some (zr 0 b), some (zi (nI n)), some (zi (nI i)), none] [] S _
  refine r_aload_n (q := 1) dX0_isNormal_0 rfl rfl rfl ?_
  refine r_getr (q := 4) (some (103, b)) ck0 dX0_isNormal_1 rfl (k := 3) (by decide) wt380 rfl (hs.e (show b < 4 by omega)) (hs.r (show b < 4 by omega) (by decide)) ?_
  refine r_iload_n (q := 5) dX0_isNormal_4 rfl rfl rfl ?_
  refine r_ialdN (q := 6) 9 (by decide) rfl dX0_isNormal_5 rfl (hs.e (show b < 4 by omega)) (hs.n rfl (show b < 4 by omega)) (by omega) (by decide) ?_
  refine r_topi (y := nI f0) l1 ?_
  refine r_iload_n (q := 7) dX0_isNormal_6 rfl rfl rfl ?_
  refine r_iaddN (q := 8) dX0_isNormal_7 rfl ?_
  refine r_istore_n (q := 9) (L' := [some (zr 0 b), some (zi (nI n)), some (zi (nI i)), some (zi (nI (f0 + i)))]) dX0_isNormal_8 rfl rfl (by decide) rfl ?_
  refine r_iload_n (q := 10) dX0_isNormal_9 rfl rfl rfl ?_
  refine r_if_ltN (q := 13) (t := 31) (by omega) dX0_isNormal_10 (by decide) rfl ?_
  refine r_iload_n (q := 14) dX0_isNormal_13 rfl rfl rfl ?_
  refine r_aload_n (q := 15) dX0_isNormal_14 rfl rfl rfl ?_
  refine r_getr (q := 18) (some (105, b)) ck0 dX0_isNormal_15 rfl (k := 5) (by decide) wt382 rfl (hs.e (show b < 4 by omega)) (hs.r (show b < 4 by omega) (by decide)) ?_
  refine r_alen (q := 19) (by decide) (by decide) dX0_isNormal_18 rfl (hs.e (show b < 4 by omega)) ?_
  refine r_topi (y := nI 400) (congrArg nI (hs.n rfl (show b < 4 by omega))) ?_
  refine r_icmp_geN (q := 22) (t := 31) (by omega) (by omega) dX0_isNormal_19 (by decide) rfl (fun h19 => absurd h19 (by omega)) (fun h19 => ?_)
  refine r_aload_n (q := 23) dX0_isNormal_22 rfl rfl rfl ?_
  refine r_getr (q := 26) (some (105, b)) ck0 dX0_isNormal_23 rfl (k := 5) (by decide) wt382 rfl (hs.e (show b < 4 by omega)) (hs.r (show b < 4 by omega) (by decide)) ?_
  refine r_iload_n (q := 27) dX0_isNormal_26 rfl rfl rfl ?_
  refine r_ialdN (q := 28) 400 (by decide) rfl dX0_isNormal_27 rfl (hs.e (show b < 4 by omega)) (hs.n rfl (show b < 4 by omega)) (by omega) (by decide) ?_
  refine r_topi (y := nI (mk i)) (hM i hi).1 ?_
  refine r_if_neN (q := 31) (t := 35) (by omega) dX0_isNormal_28 (by decide) rfl (fun h28 => ?_) (fun h28 => absurd h28 (by omega))
  refine r_iconst (q := 36) (nI 0) dX0_isNormal_35 rfl (by decide) ?_
  refine r_zreturn (by decide) dX0_isNormal_36 rfl ?_
  exact ⟨rfl, rfl⟩

theorem ok_isNormal {S : zS} (hs : Sd S) {b n f0 : Nat} (hb4 : b < 4) (hn7 : n ≤ 7) {T : List (List Nat)} (hL : Lx S b n f0 T) {mk : Nat → Nat} (hM : Mx S b f0 T.length mk) {i : Nat} (hi : i < T.length) : Ok mX0_isNormal 0 (ent 4 [zr 0 b, zi (nI n), zi (nI i)]) [] S (fun r S1 => r = some (zi (nI (if mk i = 0 then 1 else 0))) ∧ S1 = S) := by
  by_cases h : mk i = 0
  · rw [if_pos h]; exact ok_isNormal_y hs hb4 hn7 hL hM hi h
  · rw [if_neg h]; exact ok_isNormal_n hs hb4 hn7 hL hM hi h

set_option maxRecDepth 100000 in
theorem ok_ruleOf_s {S : zS} (hs : Sd S) {b n rf t : Nat} (hb4 : b < 4) (hn7 : n ≤ 7) (h6 : gI S 106 b n = nI rf) (ht : t < 300) (ht1 : 1 ≤ t) : Ok mX0_ruleOf 0 (ent 3 [zr 0 b, zi (nI n), zi (nI t)]) [] S (fun r S1 => r = some (zi (nI (rf + (t * (t - 1)) / 2))) ∧ S1 = S) := by
  have hq := mul_300 (t := t) (by omega)
  show Ok mX0_ruleOf 0 [some (zr 0 b), some (zi (nI n)), some (zi (nI t))] [] S _
  refine r_aload_n (q := 1) dX0_ruleOf_0 rfl rfl rfl ?_
  refine r_getr (q := 4) (some (106, b)) ck0 dX0_ruleOf_1 rfl (k := 6) (by decide) wt383 rfl (hs.e (show b < 4 by omega)) (hs.r (show b < 4 by omega) (by decide)) ?_
  refine r_iload_n (q := 5) dX0_ruleOf_4 rfl rfl rfl ?_
  refine r_ialdN (q := 6) 9 (by decide) rfl dX0_ruleOf_5 rfl (hs.e (show b < 4 by omega)) (hs.n rfl (show b < 4 by omega)) (by omega) (by decide) ?_
  refine r_topi (y := nI rf) h6 ?_
  refine r_iload_n (q := 7) dX0_ruleOf_6 rfl rfl rfl ?_
  refine r_iload_n (q := 8) dX0_ruleOf_7 rfl rfl rfl ?_
  refine r_iconst (q := 9) (nI 1) dX0_ruleOf_8 rfl (by decide) ?_
  refine r_isubN (q := 10) (by omega) dX0_ruleOf_9 rfl ?_
  refine r_imulN (q := 11) dX0_ruleOf_10 rfl ?_
  refine r_iconst (q := 12) (nI 2) dX0_ruleOf_11 rfl (by decide) ?_
  refine r_idivN (q := 13) (by omega) (by omega) (by omega) dX0_ruleOf_12 rfl ?_
  refine r_iaddN (q := 14) dX0_ruleOf_13 rfl ?_
  refine r_ireturn dX0_ruleOf_14 rfl ?_
  exact ⟨rfl, rfl⟩

set_option maxRecDepth 100000 in
theorem ok_ruleOf_0 {S : zS} (hs : Sd S) {b n rf : Nat} (hb4 : b < 4) (hn7 : n ≤ 7) (h6 : gI S 106 b n = nI rf) : Ok mX0_ruleOf 0 (ent 3 [zr 0 b, zi (nI n), zi (nI 0)]) [] S (fun r S1 => r = some (zi (nI (rf + tri 0))) ∧ S1 = S) := by
  show Ok mX0_ruleOf 0 [some (zr 0 b), some (zi (nI n)), some (zi (nI 0))] [] S _
  refine r_aload_n (q := 1) dX0_ruleOf_0 rfl rfl rfl ?_
  refine r_getr (q := 4) (some (106, b)) ck0 dX0_ruleOf_1 rfl (k := 6) (by decide) wt383 rfl (hs.e (show b < 4 by omega)) (hs.r (show b < 4 by omega) (by decide)) ?_
  refine r_iload_n (q := 5) dX0_ruleOf_4 rfl rfl rfl ?_
  refine r_ialdN (q := 6) 9 (by decide) rfl dX0_ruleOf_5 rfl (hs.e (show b < 4 by omega)) (hs.n rfl (show b < 4 by omega)) (by omega) (by decide) ?_
  refine r_topi (y := nI rf) h6 ?_
  refine r_iload_n (q := 7) dX0_ruleOf_6 rfl rfl rfl ?_
  refine r_iload_n (q := 8) dX0_ruleOf_7 rfl rfl rfl ?_
  refine r_iconst (q := 9) (nI 1) dX0_ruleOf_8 rfl (by decide) ?_
  refine r_isub (q := 10) dX0_ruleOf_9 rfl ?_
  refine r_imul (q := 11) dX0_ruleOf_10 rfl ?_
  refine r_iconst (q := 12) (nI 2) dX0_ruleOf_11 rfl (by decide) ?_
  refine r_idiv (q := 13) dX0_ruleOf_12 rfl (by decide) ?_
  refine r_iadd (q := 14) dX0_ruleOf_13 rfl ?_
  refine r_ireturn dX0_ruleOf_14 rfl ?_
  exact ⟨by show some (zi (nI rf + nI 0 * (nI 0 - nI 1) / nI 2)) = _; rw [show nI 0 * (nI 0 - nI 1) / nI 2 = nI 0 by decide, nI_add]; rfl, rfl⟩

theorem ok_ruleOf {S : zS} (hs : Sd S) {b n rf t : Nat} (hb4 : b < 4) (hn7 : n ≤ 7) (h6 : gI S 106 b n = nI rf) (ht : t < 300) : Ok mX0_ruleOf 0 (ent 3 [zr 0 b, zi (nI n), zi (nI t)]) [] S (fun r S1 => r = some (zi (nI (rf + tri t))) ∧ S1 = S) := by
  by_cases h : t = 0
  · subst h; exact ok_ruleOf_0 hs hb4 hn7 h6
  · exact ok_ruleOf_s hs hb4 hn7 h6 ht (by omega)

theorem sort_le {T : List (List Nat)} (hT : T.Pairwise (fun a b => ky a < ky b)) {i k : Nat} (h : i ≤ k) (hk : k < T.length) : ky (T.getD i []) ≤ ky (T.getD k []) := by
  rcases Nat.lt_or_eq_of_le h with q | q
  · have := List.pairwise_iff_getElem.mp hT i k (by omega) hk q
    rw [List.getD_eq_getElem?_getD, List.getD_eq_getElem?_getD, List.getElem?_eq_getElem (by omega), List.getElem?_eq_getElem hk]
    exact Nat.le_of_lt this
  · rw [q]; exact Nat.le_refl _
theorem sort_lt {T : List (List Nat)} (hT : T.Pairwise (fun a b => ky a < ky b)) {i k : Nat} (h : i < k) (hk : k < T.length) : ky (T.getD i []) < ky (T.getD k []) := by
  have := List.pairwise_iff_getElem.mp hT i k (by omega) hk h
  rw [List.getD_eq_getElem?_getD, List.getD_eq_getElem?_getD, List.getElem?_eq_getElem (by omega), List.getElem?_eq_getElem hk]
  exact this

set_option maxRecDepth 100000 in
theorem lp_bplace {S : zS} (hs : Sd S) {b n f0 : Nat} (hb4 : b < 4) (hn7 : n ≤ 7) {T : List (List Nat)} (hL : Lx S b n f0 T) (hT : T.Pairwise (fun a b => ky a < ky b)) (hB : ∀ t, t ∈ T → ky t < 2 ^ 30) {key : Nat} (hkey : key < 2 ^ 30) : ∀ (d lo hi : Nat), hi ≤ lo + d → lo ≤ hi → hi ≤ T.length → (∀ k, k < lo → ky (T.getD k []) < key) → (∀ k, hi ≤ k → k < T.length → key ≤ ky (T.getD k [])) → Ok mX0_placeOf 17 [some (zr 0 b), some (zi (nI n)), some (zi (nI key)), some (zi (nI (f0 + lo))), some (zi (nI (f0 + hi))), none] [] S (fun r S1 => S1 = S ∧ ∃ a, a ≤ T.length ∧ r = some (zi (nI (f0 + a))) ∧ (∀ k, k < a → ky (T.getD k []) < key) ∧ ∀ k, a ≤ k → k < T.length → key ≤ ky (T.getD k [])) := by
  obtain ⟨l1, l2, l3, l4, l5⟩ := hL
  intro d
  induction d with
  | zero =>
    intro lo hi hd hle hie hl hh
    refine r_iload_n (q := 18) dX0_placeOf_17 rfl rfl rfl ?_
    refine r_iload (q := 20) dX0_placeOf_18 rfl rfl ?_
    refine r_icmp_geN (q := 23) (t := 57) (by omega) (by omega) dX0_placeOf_20 (by decide) rfl (fun h20 => ?_) (fun h20 => absurd h20 (by omega))
    refine r_iload_n (q := 58) dX0_placeOf_57 rfl rfl rfl ?_
    refine r_ireturn dX0_placeOf_58 rfl ?_
    exact ⟨rfl, lo, by omega, rfl, hl, fun k h1 h2 => hh k (by omega) h2⟩
  | succ d ih =>
    intro lo hi hd hle hie hl hh
    by_cases hlt : lo < hi
    · have hmid : (f0 + lo + (f0 + hi)) / 2 = f0 + (lo + hi) / 2 := by omega
      have hkb := hB _ (mem_gd (T := T) (k := (lo + hi) / 2) (by omega))
      refine r_iload_n (q := 18) dX0_placeOf_17 rfl rfl rfl ?_
      refine r_iload (q := 20) dX0_placeOf_18 rfl rfl ?_
      refine r_icmp_geN (q := 23) (t := 57) (by omega) (by omega) dX0_placeOf_20 (by decide) rfl (fun h20 => absurd h20 (by omega)) (fun h20 => ?_)
      refine r_iload_n (q := 24) dX0_placeOf_23 rfl rfl rfl ?_
      refine r_iload (q := 26) dX0_placeOf_24 rfl rfl ?_
      refine r_iaddN (q := 27) dX0_placeOf_26 rfl ?_
      refine r_iconst (q := 28) (nI 1) dX0_placeOf_27 rfl (by decide) ?_
      refine r_iushr (q := 29) dX0_placeOf_28 rfl ?_
      refine r_topi (y := nI (f0 + (lo + hi) / 2)) ((pk_ushrN (by omega) _ 1 (by decide)).trans (congrArg nI hmid)) ?_
      refine r_istore (q := 31) (L' := [some (zr 0 b), some (zi (nI n)), some (zi (nI key)), some (zi (nI (f0 + lo))), some (zi (nI (f0 + hi))), some (zi (nI (f0 + (lo + hi) / 2)))]) dX0_placeOf_29 rfl (by decide) rfl ?_
      refine r_aload_n (q := 32) dX0_placeOf_31 rfl rfl rfl ?_
      refine r_getr (q := 35) (some (104, b)) ck0 dX0_placeOf_32 rfl (k := 4) (by decide) wt381 rfl (hs.e (show b < 4 by omega)) (hs.r (show b < 4 by omega) (by decide)) ?_
      refine r_iload (q := 37) dX0_placeOf_35 rfl rfl ?_
      refine r_ialdN (q := 38) 400 (by decide) rfl dX0_placeOf_37 rfl (hs.e (show b < 4 by omega)) (hs.n rfl (show b < 4 by omega)) (by omega) (by decide) ?_
      refine r_topi (y := nI (ky (T.getD ((lo + hi) / 2) []))) (l5 _ (by omega)) ?_
      refine r_iload_n (q := 39) dX0_placeOf_38 rfl rfl rfl ?_
      refine r_icmp_geN (q := 42) (t := 50) (by omega) (by omega) dX0_placeOf_39 (by decide) rfl (fun h39 => ?_) (fun h39 => ?_)
      · skip
        refine r_iload (q := 52) dX0_placeOf_50 rfl rfl ?_
        refine r_istore (q := 54) (L' := [some (zr 0 b), some (zi (nI n)), some (zi (nI key)), some (zi (nI (f0 + lo))), some (zi (nI (f0 + (lo + hi) / 2))), some (zi (nI (f0 + (lo + hi) / 2)))]) dX0_placeOf_52 rfl (by decide) rfl ?_
        refine r_goto (q := 17) dX0_placeOf_54 (by decide) ?_
        refine r_mask [true, true, true, true, true, false] rfl ?_
        exact ih lo ((lo + hi) / 2) (by omega) (by omega) (by omega) hl (fun k h1 h2 => Nat.le_trans (by omega) (sort_le hT h1 h2))
      · skip
        refine r_iload (q := 44) dX0_placeOf_42 rfl rfl ?_
        refine r_iconst (q := 45) (nI 1) dX0_placeOf_44 rfl (by decide) ?_
        refine r_iaddN (q := 46) dX0_placeOf_45 rfl ?_
        refine r_istore_n (q := 47) (L' := [some (zr 0 b), some (zi (nI n)), some (zi (nI key)), some (zi (nI ((f0 + (lo + hi) / 2) + 1))), some (zi (nI (f0 + hi))), some (zi (nI (f0 + (lo + hi) / 2)))]) dX0_placeOf_46 rfl rfl (by decide) rfl ?_
        refine r_goto (q := 54) dX0_placeOf_47 (by decide) ?_
        refine r_goto (q := 17) dX0_placeOf_54 (by decide) ?_
        refine r_mask [true, true, true, true, true, false] rfl ?_
        have := ih ((lo + hi) / 2 + 1) hi (by omega) (by omega) hie (fun k hk => Nat.lt_of_le_of_lt (sort_le hT (k := (lo + hi) / 2) (by omega) (by omega)) (by omega)) hh
        rw [← Nat.add_assoc] at this; exact this
    · skip
      refine r_iload_n (q := 18) dX0_placeOf_17 rfl rfl rfl ?_
      refine r_iload (q := 20) dX0_placeOf_18 rfl rfl ?_
      refine r_icmp_geN (q := 23) (t := 57) (by omega) (by omega) dX0_placeOf_20 (by decide) rfl (fun h20 => ?_) (fun h20 => absurd h20 (by omega))
      refine r_iload_n (q := 58) dX0_placeOf_57 rfl rfl rfl ?_
      refine r_ireturn dX0_placeOf_58 rfl ?_
      exact ⟨rfl, lo, by omega, rfl, hl, fun k h1 h2 => hh k (by omega) h2⟩

set_option maxRecDepth 100000 in
theorem ok_bplace {S : zS} (hs : Sd S) {b n f0 : Nat} (hb4 : b < 4) (hn7 : n ≤ 7) {T : List (List Nat)} (hL : Lx S b n f0 T) (hT : T.Pairwise (fun a b => ky a < ky b)) (hB : ∀ t, t ∈ T → ky t < 2 ^ 30) {key : Nat} (hkey : key < 2 ^ 30) : Ok mX0_placeOf 0 (ent 6 [zr 0 b, zi (nI n), zi (nI key)]) [] S (fun r S1 => S1 = S ∧ ∃ a, a ≤ T.length ∧ r = some (zi (nI (f0 + a))) ∧ (∀ k, k < a → ky (T.getD k []) < key) ∧ ∀ k, a ≤ k → k < T.length → key ≤ ky (T.getD k [])) := by
  obtain ⟨l1, l2, l3, l4, l5⟩ := hL
  show Ok mX0_placeOf 0 [some (zr 0 b), some (zi (nI n)), some (zi (nI key)), none, none, none] [] S _
  refine r_aload_n (q := 1) dX0_placeOf_0 rfl rfl rfl ?_
  refine r_getr (q := 4) (some (103, b)) ck0 dX0_placeOf_1 rfl (k := 3) (by decide) wt380 rfl (hs.e (show b < 4 by omega)) (hs.r (show b < 4 by omega) (by decide)) ?_
  refine r_iload_n (q := 5) dX0_placeOf_4 rfl rfl rfl ?_
  refine r_ialdN (q := 6) 9 (by decide) rfl dX0_placeOf_5 rfl (hs.e (show b < 4 by omega)) (hs.n rfl (show b < 4 by omega)) (by omega) (by decide) ?_
  refine r_topi (y := nI f0) l1 ?_
  refine r_istore_n (q := 7) (L' := [some (zr 0 b), some (zi (nI n)), some (zi (nI key)), some (zi (nI f0)), none, none]) dX0_placeOf_6 rfl rfl (by decide) rfl ?_
  refine r_aload_n (q := 8) dX0_placeOf_7 rfl rfl rfl ?_
  refine r_getr (q := 11) (some (103, b)) ck0 dX0_placeOf_8 rfl (k := 3) (by decide) wt380 rfl (hs.e (show b < 4 by omega)) (hs.r (show b < 4 by omega) (by decide)) ?_
  refine r_iload_n (q := 12) dX0_placeOf_11 rfl rfl rfl ?_
  refine r_iconst (q := 13) (nI 1) dX0_placeOf_12 rfl (by decide) ?_
  refine r_iaddN (q := 14) dX0_placeOf_13 rfl ?_
  refine r_ialdN (q := 15) 9 (by decide) rfl dX0_placeOf_14 rfl (hs.e (show b < 4 by omega)) (hs.n rfl (show b < 4 by omega)) (by omega) (by decide) ?_
  refine r_topi (y := nI (f0 + T.length)) l2 ?_
  refine r_istore (q := 17) (L' := [some (zr 0 b), some (zi (nI n)), some (zi (nI key)), some (zi (nI f0)), some (zi (nI (f0 + T.length))), none]) dX0_placeOf_15 rfl (by decide) rfl ?_
  exact lp_bplace hs hb4 hn7 ⟨l1, l2, l3, l4, l5⟩ hT hB hkey T.length 0 T.length (by omega) (by omega) (by omega) (fun k hk => absurd hk (by omega)) (fun k h1 h2 => absurd h1 (by omega))

theorem ok_bplace_in {S : zS} (hs : Sd S) {b n f0 : Nat} (hb4 : b < 4) (hn7 : n ≤ 7) {T : List (List Nat)} (hL : Lx S b n f0 T) (hT : T.Pairwise (fun a b => ky a < ky b)) (hB : ∀ t, t ∈ T → ky t < 2 ^ 30) {i : Nat} (hi : i < T.length) : Ok mX0_placeOf 0 (ent 6 [zr 0 b, zi (nI n), zi (nI (ky (T.getD i [])))]) [] S (fun r S1 => r = some (zi (nI (f0 + i))) ∧ S1 = S) := by
  refine Ok.mono (ok_bplace hs hb4 hn7 hL hT hB (hB _ (mem_gd hi))) fun r S1 z => ?_
  obtain ⟨z1, a, z2, z3, z4, z5⟩ := z
  have : a = i := by
    rcases Nat.lt_trichotomy a i with g | g | g
    · have := z5 a (Nat.le_refl _) (by omega)
      have := sort_lt hT g hi
      omega
    · exact g
    · have := z4 i g; omega
  rw [this] at z3
  exact ⟨z3, z1⟩

