/-! holds: the class's rows for a block made new -/
theorem flt_le {N M : Nat} (h : N ≤ M) : ∀ (l : List Nat), (l.filter (fun c => decide (M < c))).length ≤ (l.filter (fun c => decide (N < c))).length ∧ (l.filter (fun c => decide (M < c))).sum ≤ (l.filter (fun c => decide (N < c))).sum
  | [] => ⟨Nat.le_refl _, Nat.le_refl _⟩
  | c :: l => by
    obtain ⟨i1, i2⟩ := flt_le h l
    by_cases h1 : M < c
    · have h2 : N < c := by omega
      rw [List.filter_cons_of_pos (by simp [h1]), List.filter_cons_of_pos (by simp [h2])]
      simp only [List.length_cons, List.sum_cons]
      omega
    · rw [List.filter_cons_of_neg (by simp [h1])]
      by_cases h2 : N < c
      · rw [List.filter_cons_of_pos (by simp [h2])]
        simp only [List.length_cons, List.sum_cons]
        omega
      · rw [List.filter_cons_of_neg (by simp [h2])]
        exact ⟨i1, i2⟩
theorem bks_step : ∀ n, n ∈ bks → c1 n + 3 ≤ c1 (n - 1) ∧ q1 n + 3 * n ≤ q1 (n - 1) ∧ 1 ≤ n ∧ n ≤ 6561 := by decide
theorem c1_step {n N : Nat} (hn : n ∈ bks) (h : N < n) : c1 n + 3 ≤ c1 N ∧ q1 n + 3 * n ≤ q1 N := by
  obtain ⟨h1, h2, h3, h4⟩ := bks_step n hn
  obtain ⟨i1, i2⟩ := flt_le (show N ≤ n - 1 by omega) bks
  have e1 : c1 (n - 1) ≤ c1 N := Nat.mul_le_mul_left 3 i1
  have e2 : q1 (n - 1) ≤ q1 N := Nat.mul_le_mul_left 3 i2
  omega
theorem pw_bks (n : Nat) (h : n < 8) (w : Nat) (hw : w < 4) (h2 : 2 ≤ n) (h1 : 1 ≤ w) : w ^ (n + 1) ∈ bks := by
  have key : ∀ i : Fin 6, ∀ j : Fin 3, (j.1 + 1) ^ (i.1 + 3) ∈ bks := by decide
  have := key ⟨n - 2, by omega⟩ ⟨w - 1, by omega⟩
  simp only at this
  rw [show n - 2 + 3 = n + 1 by omega, show w - 1 + 1 = w by omega] at this
  exact this
/-- a row made new -/
def nw (S : zS) (a n : Nat) : zS := swS (al S 99999 (gC S) n n) a 0 99999 (gC S)
theorem Sd.nw {S : zS} (h : Sd S) {a n : Nat} (ha : gw a = true) : Sd (nw S a n) := Sd.sw (S := al S 99999 (gC S) n n) (Sd.al9 h) ha
theorem gC_nw {S : zS} {a n : Nat} : gC (nw S a n) = gC S + 1 := rfl
theorem gQ_nw {S : zS} {a n : Nat} : gQ (nw S a n) = gQ S + n := rfl
theorem gJ_nw {S : zS} {a n x y k : Nat} (hx : x ≠ 99999) : gJ (nw S a n) x y k = gJ S x y k := if_neg fun z => hx z.1
theorem gN_nw {S : zS} {a n x y : Nat} (ha : a ≠ 99999) (hx : x ≠ 99999) : gN (nw S a n) x y = if x = a ∧ y = 0 then n else gN S x y := by
  unfold nw
  rw [gN_sw]
  by_cases e : x = a ∧ y = 0
  · rw [if_pos e, e.1, e.2, swp_1]
    exact if_pos ⟨rfl, rfl⟩
  · rw [if_neg e, swp_x e (fun z => hx z.1)]
    exact if_neg fun z => hx z.1
theorem gI_nw {S : zS} {a n x y k : Nat} (ha : a ≠ 99999) (hx : x ≠ 99999) : gI (nw S a n) x y k = if x = a ∧ y = 0 then 0 else gI S x y k := by
  unfold nw
  rw [gI_sw]
  by_cases e : x = a ∧ y = 0
  · rw [if_pos e, e.1, e.2, swp_1, gI_al, if_pos ⟨rfl, rfl⟩]
  · rw [if_neg e, swp_x e (fun z => hx z.1), gI_al, if_neg (fun z => hx z.1)]
def roomT (S : zS) (n : Nat) : zS := if n ≤ gN S 202 0 then S else nw (nw (nw S 200 n) 201 n) 202 n
def tRm (a b _k : Nat) : Prop := (a = 200 ∨ a = 201 ∨ a = 202) ∧ b = 0
theorem fg_roomT {S : zS} (hs : Sd S) {n N : Nat} (hn : n ∈ bks) (h0 : gN S 200 0 = N) (h1 : gN S 201 0 = N) (h2 : gN S 202 0 = N) (hN : N ≤ 6561) : Fg tRm S (roomT S n) ∧ ∃ L, n ≤ L ∧ L ≤ 6561 ∧ gN (roomT S n) 200 0 = L ∧ gN (roomT S n) 201 0 = L ∧ gN (roomT S n) 202 0 = L := by
  unfold roomT
  rw [h2]
  by_cases h : n ≤ N
  · rw [if_pos h]
    exact ⟨Fg.rf hs, N, h, hN, h0, h1, h2⟩
  · rw [if_neg h]
    obtain ⟨-, -, -, h4⟩ := bks_step n hn
    obtain ⟨c3, q3⟩ := c1_step hn (show N < n by omega)
    have eN : ∀ x y, x ≠ 99999 → ¬ tRm x y 0 → gN (nw (nw (nw S 200 n) 201 n) 202 n) x y = gN S x y := fun x y hx hz => by
      rw [gN_nw (by decide) hx, if_neg (fun z => hz ⟨by omega, z.2⟩), gN_nw (by decide) hx, if_neg (fun z => hz ⟨by omega, z.2⟩), gN_nw (by decide) hx, if_neg (fun z => hz ⟨by omega, z.2⟩)]
    have e0 : gN (nw (nw (nw S 200 n) 201 n) 202 n) 200 0 = n := by rw [gN_nw (by decide) (by decide), if_neg (by omega), gN_nw (by decide) (by decide), if_neg (by omega), gN_nw (by decide) (by decide), if_pos ⟨rfl, rfl⟩]
    have e1 : gN (nw (nw (nw S 200 n) 201 n) 202 n) 201 0 = n := by rw [gN_nw (by decide) (by decide), if_neg (by omega), gN_nw (by decide) (by decide), if_pos ⟨rfl, rfl⟩]
    have e2 : gN (nw (nw (nw S 200 n) 201 n) 202 n) 202 0 = n := by rw [gN_nw (by decide) (by decide), if_pos ⟨rfl, rfl⟩]
    have s1 : sm (fun j => c8 (gN (nw (nw (nw S 200 n) 201 n) 202 n) 902 j)) 19 = sm (fun j => c8 (gN S 902 j)) 19 := sm_cong fun i _ => by rw [eN _ _ (by omega) (by unfold tRm; omega)]
    have s2 : sm (fun j => c0 (gN (nw (nw (nw S 200 n) 201 n) 202 n) 107 j)) 4 = sm (fun j => c0 (gN S 107 j)) 4 := sm_cong fun i _ => by rw [eN _ _ (by omega) (by unfold tRm; omega)]
    have s3 : sm (fun j => q8 (gN (nw (nw (nw S 200 n) 201 n) 202 n) 902 j)) 19 = sm (fun j => q8 (gN S 902 j)) 19 := sm_cong fun i _ => by rw [eN _ _ (by omega) (by unfold tRm; omega)]
    have s4 : sm (fun j => q0 (gN (nw (nw (nw S 200 n) 201 n) 202 n) 107 j)) 4 = sm (fun j => q0 (gN S 107 j)) 4 := sm_cong fun i _ => by rw [eN _ _ (by omega) (by unfold tRm; omega)]
    refine ⟨⟨Sd.nw (Sd.nw (Sd.nw hs rfl) rfl) rfl, fun x y k hx hz => ?_, fun x y k hx _ => (gJ_nw hx).trans ((gJ_nw hx).trans (gJ_nw hx)), eN, ?_, ?_⟩, n, Nat.le_refl _, h4, e0, e1, e2⟩
    · rw [gI_nw (by decide) hx, if_neg (fun z => hz ⟨by omega, z.2⟩), gI_nw (by decide) hx, if_neg (fun z => hz ⟨by omega, z.2⟩), gI_nw (by decide) hx, if_neg (fun z => hz ⟨by omega, z.2⟩)]
    · have eC : gC (nw (nw (nw S 200 n) 201 n) 202 n) = gC S + 3 := rfl
      unfold pC
      rw [s1, s2, e2, h2, eC]
      omega
    · have eQ : gQ (nw (nw (nw S 200 n) 201 n) 202 n) = gQ S + n + n + n := rfl
      unfold pQ
      rw [s3, s4, e2, h2, eQ]
      omega

set_option maxRecDepth 100000 in
theorem ok_X1_makeRoom {S : zS} (hs : Sd S) {n N : Nat} (hn9 : n ≤ 6561) (hN : gN S 202 0 = N) (hN9 : N ≤ 6561) : Ok mX1_makeRoom 0 (ent 2 [zr 1 0, zi (nI n)]) [] S (fun r S1 => r = none ∧ S1 = roomT S n) := by
  show Ok mX1_makeRoom 0 [some (zr 1 0), some (zi (nI n))] [] S _
  refine r_iload_n (q := 1) dX1_makeRoom_0 rfl rfl rfl ?_
  refine r_aload_n (q := 2) dX1_makeRoom_1 rfl rfl rfl ?_
  refine r_getr (q := 5) (some (202, 0)) ck1 dX1_makeRoom_2 rfl (k := 2) (by decide) wt230 rfl (hs.e (by decide)) (hs.r (by decide) (by decide)) ?_
  refine r_alen (q := 6) (by decide) (by decide) dX1_makeRoom_5 rfl (hs.e (by decide)) ?_
  refine r_topi (y := nI N) (congrArg nI hN) ?_
  refine r_icmp_leN (q := 9) (t := 37) (by omega) (by omega) dX1_makeRoom_6 (by decide) rfl (fun h6 => ?_) (fun h6 => ?_)
  · skip
    refine r_return dX1_makeRoom_37 rfl ?_
    exact ⟨rfl, by unfold roomT; rw [hN]; first | rw [if_pos (by omega)] | rw [if_neg (by omega)]⟩
  · skip
    refine r_iload_n (q := 10) dX1_makeRoom_9 rfl rfl rfl ?_
    refine r_sipush (q := 13) (nI 6561) dX1_makeRoom_10 rfl (by decide) ?_
    refine r_icmp_gtN (q := 16) (t := 37) (by omega) (by omega) dX1_makeRoom_13 (by decide) rfl (fun h13 => absurd h13 (by omega)) (fun h13 => ?_)
    refine r_aload_n (q := 17) dX1_makeRoom_16 rfl rfl rfl ?_
    refine r_iload_n (q := 18) dX1_makeRoom_17 rfl rfl rfl ?_
    refine r_newa (q := 20) (a := 99999) (b := gC (S)) (n := n) (Or.inr ⟨by decide, rfl⟩) (by decide) (by decide) (by decide) rfl dX1_makeRoom_18 rfl wt47 (by omega) (hs.2.2.2.2 _ (Nat.le_refl _)) rfl rfl ?_
    refine r_putg (q := 23) (a1 := 200) (m := gC (S)) (Sd.al9 (n := n) hs) (show 0 < 1 by decide) (by decide) rfl (by decide) rfl rfl (show 0 < 1 by decide) (by decide) rfl (by decide) (by decide) rfl rfl (show gE (al (S) 99999 (gC (S)) n n) 99999 (gC (S)) = true by rw [gE_al, if_pos ⟨rfl, rfl⟩]) ck1 dX1_makeRoom_20 rfl (k := 0) (by decide) wt228 (Or.inl rfl) rfl ?_
    show Ok _ _ _ _ (nw (S) 200 n) _
    refine r_aload_n (q := 24) dX1_makeRoom_23 rfl rfl rfl ?_
    refine r_iload_n (q := 25) dX1_makeRoom_24 rfl rfl rfl ?_
    refine r_newa (q := 27) (a := 99999) (b := gC (nw (S) 200 n)) (n := n) (Or.inr ⟨by decide, rfl⟩) (by decide) (by decide) (by decide) rfl dX1_makeRoom_25 rfl wt47 (by omega) ((Sd.nw (a := 200) (n := n) hs rfl).2.2.2.2 _ (Nat.le_refl _)) rfl rfl ?_
    refine r_putg (q := 30) (a1 := 201) (m := gC (nw (S) 200 n)) (Sd.al9 (n := n) (Sd.nw (a := 200) (n := n) hs rfl)) (show 0 < 1 by decide) (by decide) rfl (by decide) rfl rfl (show 0 < 1 by decide) (by decide) rfl (by decide) (by decide) rfl rfl (show gE (al (nw (S) 200 n) 99999 (gC (nw (S) 200 n)) n n) 99999 (gC (nw (S) 200 n)) = true by rw [gE_al, if_pos ⟨rfl, rfl⟩]) ck1 dX1_makeRoom_27 rfl (k := 1) (by decide) wt229 (Or.inl rfl) rfl ?_
    show Ok _ _ _ _ (nw (nw (S) 200 n) 201 n) _
    refine r_aload_n (q := 31) dX1_makeRoom_30 rfl rfl rfl ?_
    refine r_iload_n (q := 32) dX1_makeRoom_31 rfl rfl rfl ?_
    refine r_newa (q := 34) (a := 99999) (b := gC (nw (nw (S) 200 n) 201 n)) (n := n) (Or.inr ⟨by decide, rfl⟩) (by decide) (by decide) (by decide) rfl dX1_makeRoom_32 rfl wt47 (by omega) ((Sd.nw (a := 201) (n := n) (Sd.nw (a := 200) (n := n) hs rfl) rfl).2.2.2.2 _ (Nat.le_refl _)) rfl rfl ?_
    refine r_putg (q := 37) (a1 := 202) (m := gC (nw (nw (S) 200 n) 201 n)) (Sd.al9 (n := n) (Sd.nw (a := 201) (n := n) (Sd.nw (a := 200) (n := n) hs rfl) rfl)) (show 0 < 1 by decide) (by decide) rfl (by decide) rfl rfl (show 0 < 1 by decide) (by decide) rfl (by decide) (by decide) rfl rfl (show gE (al (nw (nw (S) 200 n) 201 n) 99999 (gC (nw (nw (S) 200 n) 201 n)) n n) 99999 (gC (nw (nw (S) 200 n) 201 n)) = true by rw [gE_al, if_pos ⟨rfl, rfl⟩]) ck1 dX1_makeRoom_34 rfl (k := 2) (by decide) wt230 (Or.inl rfl) rfl ?_
    show Ok _ _ _ _ (nw (nw (nw (S) 200 n) 201 n) 202 n) _
    refine r_return dX1_makeRoom_37 rfl ?_
    exact ⟨rfl, by unfold roomT; rw [hN]; first | rw [if_pos (by omega)] | rw [if_neg (by omega)]⟩

def t202 (a b _k : Nat) : Bool := a == 202 && b == 0
def tNo (a b k : Nat) : Prop := tFb a b k ∨ tRm a b k
/-- what isNothing reads -/
def NoI (S : zS) (c w P A n l f L : Nat) (e : Nat → Nat) (tb : Nat → Nat → Nat) (cs : List zT) : Prop := Sd S ∧ gI S 9 c 0 = nI P ∧ gI S 9 c 1 = nI A ∧ (∀ a, a < A → gI S 1003 c a = nI (e a)) ∧ gI S 7 0 0 = nI w ∧ (∀ a, a < A → TbC S a P (tb a)) ∧ gN S 200 0 = L ∧ gN S 201 0 = L ∧ gN S 202 0 = L ∧ gI S 1005 c l = nI n ∧ gI S 1006 c l = nI f ∧ gI S 1006 c (l + 1) = nI (f + cs.length) ∧ ∀ k, k < cs.length → gI S 1007 c (f + k) = nI (ky (cs.getD k zd).1) ∧ gI S 1008 c (f + k) = nI (cs.getD k zd).2
theorem NoI.fg {S S1 : zS} {c w P A n l f L L1 : Nat} {e : Nat → Nat} {tb : Nat → Nat → Nat} {cs : List zT} (h : NoI S c w P A n l f L e tb cs) (g : Fg tNo S S1) (n0 : gN S1 200 0 = L1) (n1 : gN S1 201 0 = L1) (n2 : gN S1 202 0 = L1) : NoI S1 c w P A n l f L1 e tb cs := by
  obtain ⟨h1, h2, h3, h4, h5, h6, _, _, _, h7, h8, h9, h10⟩ := h
  have k1 : ∀ x y k, ¬ (200 ≤ x ∧ x ≤ 203) → x ≠ 99999 → gI S1 x y k = gI S x y k := fun x y k a b => g.I b (by unfold tNo tFb tBk1 tRm; omega)
  exact ⟨g.sd, (k1 _ _ _ (by omega) (by omega)).trans h2, (k1 _ _ _ (by omega) (by omega)).trans h3, fun a ha => (k1 _ _ _ (by omega) (by omega)).trans (h4 a ha), (k1 _ _ _ (by omega) (by omega)).trans h5, fun a ha i hi => ⟨(k1 _ _ _ (by omega) (by omega)).trans (h6 a ha i hi).1, (h6 a ha i hi).2⟩, n0, n1, n2, (k1 _ _ _ (by omega) (by omega)).trans h7, (k1 _ _ _ (by omega) (by omega)).trans h8, (k1 _ _ _ (by omega) (by omega)).trans h9, fun k hk => ⟨(k1 _ _ _ (by omega) (by omega)).trans (h10 k hk).1, (k1 _ _ _ (by omega) (by omega)).trans (h10 k hk).2⟩⟩
theorem fg_202 {S S1 : zS} (hs : Sd S) (f : Fr t202 S S1) : Fg tNo S S1 := f.fg hs (fun a b k z => Or.inr (by simp [t202] at z; exact ⟨Or.inr (Or.inr z.1), z.2⟩))

set_option maxRecDepth 100000 in
theorem lp_no83 {c w P A n l f L rm : Nat} {e : Nat → Nat} {tb : Nat → Nat → Nat} {cs : List zT} (hc4 : c < 4) (hl18 : l < 18) (hP2 : 2 ≤ P) (hP97 : P ≤ 97) (hrL : rm ≤ L) (hL9 : L ≤ 6561) (hf : f + cs.length ≤ 200) {i : Nat} (hi : i < cs.length) (hm : (cs.getD i zd).2 < P) {D B : Nat → Nat} (hD : ∀ x, x < rm → D x < P) {Po : Option zV → zS → Prop} : ∀ (d x : Nat) (S : zS), x + d = rm → NoI S c w P A n l f L e tb cs → (∀ y, y < rm → gI S 200 0 y = nI (B y) ∧ B y < P) → (∀ y, y < x → gI S 202 0 y = nI ((D y + (cs.getD i zd).2 * B y) % P)) → (∀ y, x ≤ y → y < rm → gI S 202 0 y = nI (D y)) → (∀ S1, Fr t202 S S1 → (∀ y, y < rm → gI S1 202 0 y = nI ((D y + (cs.getD i zd).2 * B y) % P)) → Ok mX1_isNothing 133 [some (zr 1 0), some (zr 9 c), some (zi (nI l)), some (zr 7 0), some (zi (nI n)), some (zi (nI rm)), some (zi (nI (f + i))), some (zi (nI rm))] [] S1 Po) → Ok mX1_isNothing 83 [some (zr 1 0), some (zr 9 c), some (zi (nI l)), some (zr 7 0), some (zi (nI n)), some (zi (nI rm)), some (zi (nI (f + i))), some (zi (nI x))] [] S Po := by
  intro d
  induction d with
  | zero =>
    intro x S hx hI hB hlo hhi K
    have hs := hI.1
    obtain rfl : rm = x := by omega
    refine r_iload (q := 85) dX1_isNothing_83 rfl rfl ?_
    refine r_iload (q := 87) dX1_isNothing_85 rfl rfl ?_
    refine r_icmp_geN (q := 90) (t := 133) (by omega) (by omega) dX1_isNothing_87 (by decide) rfl (fun h87 => ?_) (fun h87 => absurd h87 (by omega))
    exact K S Fr.rf hlo
  | succ d ih =>
    intro x S hx hI hB hlo hhi K
    have hs := hI.1
    have hp0 := hI.2.1
    have hn0 := hI.2.2.2.2.2.2.1
    have hn2 := hI.2.2.2.2.2.2.2.2.1
    have hxr : x < rm := by omega
    have hdx := hhi x (Nat.le_refl _) hxr
    have hbx := hB x hxr
    have hk2 := (hI.2.2.2.2.2.2.2.2.2.2.2.2 i hi).2
    have hmm : (cs.getD i zd).2 * B x ≤ 97 * 97 := Nat.mul_le_mul (by omega) (by omega)
    have hDx := hD x hxr
    refine r_iload (q := 85) dX1_isNothing_83 rfl rfl ?_
    refine r_iload (q := 87) dX1_isNothing_85 rfl rfl ?_
    refine r_icmp_geN (q := 90) (t := 133) (by omega) (by omega) dX1_isNothing_87 (by decide) rfl (fun h87 => absurd h87 (by omega)) (fun h87 => ?_)
    refine r_aload_n (q := 91) dX1_isNothing_90 rfl rfl rfl ?_
    refine r_getr (q := 94) (some (202, 0)) ck1 dX1_isNothing_91 rfl (k := 2) (by decide) wt230 rfl (hs.e (by decide)) (hs.r (by decide) (by decide)) ?_
    refine r_iload (q := 96) dX1_isNothing_94 rfl rfl ?_
    refine r_aload_n (q := 97) dX1_isNothing_96 rfl rfl rfl ?_
    refine r_getr (q := 100) (some (202, 0)) ck1 dX1_isNothing_97 rfl (k := 2) (by decide) wt230 rfl (hs.e (by decide)) (hs.r (by decide) (by decide)) ?_
    refine r_iload (q := 102) dX1_isNothing_100 rfl rfl ?_
    refine r_ialdN (q := 103) L (by decide) rfl dX1_isNothing_102 rfl (hs.e (by decide)) hn2 (by omega) (by omega) ?_
    refine r_topi (y := nI (D x)) hdx ?_
    refine r_aload_n (q := 104) dX1_isNothing_103 rfl rfl rfl ?_
    refine r_getr (q := 107) (some (1008, c)) ck9 dX1_isNothing_104 rfl (k := 8) (by decide) wt334 rfl (hs.e (show c < 4 by omega)) (hs.r (show c < 4 by omega) (by decide)) ?_
    refine r_iload (q := 109) dX1_isNothing_107 rfl rfl ?_
    refine r_ialdN (q := 110) 200 (by decide) rfl dX1_isNothing_109 rfl (hs.e (show c < 4 by omega)) (hs.n rfl (show c < 4 by omega)) (by omega) (by decide) ?_
    refine r_topi (y := nI ((cs.getD i zd).2)) hk2 ?_
    refine r_aload_n (q := 111) dX1_isNothing_110 rfl rfl rfl ?_
    refine r_getr (q := 114) (some (200, 0)) ck1 dX1_isNothing_111 rfl (k := 0) (by decide) wt228 rfl (hs.e (by decide)) (hs.r (by decide) (by decide)) ?_
    refine r_iload (q := 116) dX1_isNothing_114 rfl rfl ?_
    refine r_ialdN (q := 117) L (by decide) rfl dX1_isNothing_116 rfl (hs.e (by decide)) hn0 (by omega) (by omega) ?_
    refine r_topi (y := nI (B x)) hbx.1 ?_
    refine r_imulN (q := 118) dX1_isNothing_117 rfl ?_
    refine r_iaddN (q := 119) dX1_isNothing_118 rfl ?_
    refine r_aload_n (q := 120) dX1_isNothing_119 rfl rfl rfl ?_
    refine r_geti (q := 123) ck9 dX1_isNothing_120 rfl (k := 0) (by decide) wt291 (Or.inl rfl) (hs.e (show c < 4 by omega)) ?_
    refine r_topi (y := nI P) hp0 ?_
    refine r_callSN (Mc := mX11_rest) (q := 126) (As := [zi (nI ((D x) + (((cs.getD i zd).2) * (B x)))), zi (nI P)]) (st := [zi (nI x), zr 202 0]) dX1_isNothing_123 rfl rfl mkX11_rest wn1124 wt614 rfl (Nat.le_of_ble_eq_true rfl) (Nat.le_of_ble_eq_true rfl) (by decide) (by decide) (by decide) (Or.inl rfl) hs.some (ok_X11_rest (by omega) hP2 (by omega)) (fun r123 S123 hp123 => ?_)
    obtain ⟨rfl, hq123⟩ := hp123
    rw [hq123]
    show Ok _ _ _ [zi (nI ((D x + (cs.getD i zd).2 * B x) % P)), zi (nI x), zr 202 0] _ _
    refine r_iastN (q := 127) L (by decide) rfl dX1_isNothing_126 rfl (hs.e (by decide)) hn2 (by omega) (by omega) ?_
    refine r_iincN (q := 130) (L' := [some (zr 1 0), some (zr 9 c), some (zi (nI l)), some (zr 7 0), some (zi (nI n)), some (zi (nI rm)), some (zi (nI (f + i))), some (zi (nI (x + 1)))]) 1 rfl dX1_isNothing_127 rfl rfl (by decide) rfl ?_
    refine r_goto (q := 83) dX1_isNothing_130 (by decide) ?_
    have f1 : Fr t202 S (sI S 202 0 x (nI ((D x + (cs.getD i zd).2 * B x) % P))) := Fr.rf.i (by simp [t202])
    refine ih (x + 1) (sI S 202 0 x (nI ((D x + (cs.getD i zd).2 * B x) % P))) (by omega) (hI.fg (fg_202 hs f1) hn0 hI.2.2.2.2.2.2.2.1 hn2) (fun y hy => ⟨(f1.1 _ _ _ rfl).trans (hB y hy).1, (hB y hy).2⟩) (fun y hy => ?_) (fun y hy hy2 => ?_) (fun S1 f2 h2 => K S1 (f1.tr f2) h2)
    · rw [gI_sI]
      by_cases e1 : y = x
      · rw [if_pos ⟨rfl, rfl, e1⟩, e1]
      · rw [if_neg (by omega)]; exact hlo y (by omega)
    · rw [gI_sI, if_neg (by omega)]; exact hhi y (by omega) hy2

set_option maxRecDepth 100000 in
theorem lp_no52 {c w P A n l f L : Nat} {e : Nat → Nat} (hE : Eok A e) {tb : Nat → Nat → Nat} {cs : List zT} (hq : Ce A e P n cs) (hc4 : c < 4) (hl18 : l < 18) (h1 : 1 ≤ w) (h3 : w ≤ 3) (hP2 : 2 ≤ P) (hP97 : P ≤ 97) (hn1 : 1 ≤ n) (hn7 : n ≤ 7) (hrL : w ^ (n + 1) ≤ L) (hL9 : L ≤ 6561) (hf : f + cs.length ≤ 200) {Po : Option zV → zS → Prop} : ∀ (d i : Nat) (S : zS), i + d = cs.length → NoI S c w P A n l f L e tb cs → (∀ y, y < w ^ (n + 1) → gI S 202 0 y = nI (dsA (fun t => bkS w P e tb t 0 1 (idB w) y) P cs i)) → (∀ S1, Fg tNo S S1 → NoI S1 c w P A n l f L e tb cs → (∀ y, y < w ^ (n + 1) → gI S1 202 0 y = nI (dsA (fun t => bkS w P e tb t 0 1 (idB w) y) P cs cs.length)) → Ok mX1_isNothing 139 [some (zr 1 0), some (zr 9 c), some (zi (nI l)), some (zr 7 0), some (zi (nI n)), some (zi (nI (w ^ (n + 1)))), some (zi (nI (f + cs.length))), none] [] S1 Po) → Ok mX1_isNothing 52 [some (zr 1 0), some (zr 9 c), some (zi (nI l)), some (zr 7 0), some (zi (nI n)), some (zi (nI (w ^ (n + 1)))), some (zi (nI (f + i))), none] [] S Po := by
  intro d
  induction d with
  | zero =>
    intro i S hi hI hD K
    have hs := hI.1
    have hto := hI.2.2.2.2.2.2.2.2.2.2.2.1
    obtain rfl : i = cs.length := by omega
    refine r_iload (q := 54) dX1_isNothing_52 rfl rfl ?_
    refine r_aload_n (q := 55) dX1_isNothing_54 rfl rfl rfl ?_
    refine r_getr (q := 58) (some (1006, c)) ck9 dX1_isNothing_55 rfl (k := 6) (by decide) wt323 rfl (hs.e (show c < 4 by omega)) (hs.r (show c < 4 by omega) (by decide)) ?_
    refine r_iload_n (q := 59) dX1_isNothing_58 rfl rfl rfl ?_
    refine r_iconst (q := 60) (nI 1) dX1_isNothing_59 rfl (by decide) ?_
    refine r_iaddN (q := 61) dX1_isNothing_60 rfl ?_
    refine r_ialdN (q := 62) 19 (by decide) rfl dX1_isNothing_61 rfl (hs.e (show c < 4 by omega)) (hs.n rfl (show c < 4 by omega)) (by omega) (by decide) ?_
    refine r_topi (y := nI (f + cs.length)) hto ?_
    refine r_icmp_geN (q := 65) (t := 139) (by omega) (by omega) dX1_isNothing_62 (by decide) rfl (fun h62 => ?_) (fun h62 => absurd h62 (by omega))
    exact K S (Fg.rf hs) hI hD
  | succ d ih =>
    intro i S hi hI hD K
    have hil : i < cs.length := by omega
    obtain ⟨hs, i2, i3, i4, i5, i6, i7, i8, i9, i10, i11, hto, i13⟩ := id hI
    obtain ⟨htr, hnum⟩ := hq.1.2 _ (mem_getD hil)
    have hk1 := (i13 i hil).1
    refine r_iload (q := 54) dX1_isNothing_52 rfl rfl ?_
    refine r_aload_n (q := 55) dX1_isNothing_54 rfl rfl rfl ?_
    refine r_getr (q := 58) (some (1006, c)) ck9 dX1_isNothing_55 rfl (k := 6) (by decide) wt323 rfl (hs.e (show c < 4 by omega)) (hs.r (show c < 4 by omega) (by decide)) ?_
    refine r_iload_n (q := 59) dX1_isNothing_58 rfl rfl rfl ?_
    refine r_iconst (q := 60) (nI 1) dX1_isNothing_59 rfl (by decide) ?_
    refine r_iaddN (q := 61) dX1_isNothing_60 rfl ?_
    refine r_ialdN (q := 62) 19 (by decide) rfl dX1_isNothing_61 rfl (hs.e (show c < 4 by omega)) (hs.n rfl (show c < 4 by omega)) (by omega) (by decide) ?_
    refine r_topi (y := nI (f + cs.length)) hto ?_
    refine r_icmp_geN (q := 65) (t := 139) (by omega) (by omega) dX1_isNothing_62 (by decide) rfl (fun h62 => absurd h62 (by omega)) (fun h62 => ?_)
    refine r_aload_n (q := 66) dX1_isNothing_65 rfl rfl rfl ?_
    refine r_aload_n (q := 67) dX1_isNothing_66 rfl rfl rfl ?_
    refine r_aload_n (q := 68) dX1_isNothing_67 rfl rfl rfl ?_
    refine r_getr (q := 71) (some (1007, c)) ck9 dX1_isNothing_68 rfl (k := 7) (by decide) wt329 rfl (hs.e (show c < 4 by omega)) (hs.r (show c < 4 by omega) (by decide)) ?_
    refine r_iload (q := 73) dX1_isNothing_71 rfl rfl ?_
    refine r_ialdN (q := 74) 200 (by decide) rfl dX1_isNothing_73 rfl (hs.e (show c < 4 by omega)) (hs.n rfl (show c < 4 by omega)) (by omega) (by decide) ?_
    refine r_topi (y := nI (ky (cs.getD i zd).1)) hk1 ?_
    refine r_iload (q := 76) dX1_isNothing_74 rfl rfl ?_
    refine r_aload_n (q := 77) dX1_isNothing_76 rfl rfl rfl ?_
    refine r_callV (Mc := mX1_fillBlock1) (q := 80) (As := [zr 9 c, zi (nI (ky (cs.getD i zd).1)), zi (nI n), zr 7 0]) (st := []) ck1 dX1_isNothing_77 rfl rfl mkX1_fillBlock1 wt1110 wt1112 wp60 rfl (Nat.le_of_ble_eq_true rfl) (Nat.le_of_ble_eq_true rfl) (by decide) (by decide) (by decide) (Or.inr ⟨Nat.le_of_ble_eq_true rfl, rfl, rfl⟩) (hs.e (by decide)) (ok_fillBlock hs hE hc4 h1 h3 hP2 hP97 hn1 hn7 hrL hL9 htr i2 i3 i4 i5 i6 i7 i8) (fun r77 S77 hp77 => ?_)
    obtain ⟨rfl, f77, n0, n1, hB⟩ := hp77
    have n2 : gN S77 202 0 = L := (f77.N (by omega) (by unfold tFb tBk1; omega)).trans i9
    have g77 : Fg tNo S S77 := f77.mono fun _ _ _ z => Or.inl z
    have hI7 := hI.fg g77 n0 n1 n2
    show Ok _ _ _ [] _ _
    refine r_iconst (q := 81) (nI 0) dX1_isNothing_80 rfl (by decide) ?_
    refine r_istore (q := 83) (L' := [some (zr 1 0), some (zr 9 c), some (zi (nI l)), some (zr 7 0), some (zi (nI n)), some (zi (nI (w ^ (n + 1)))), some (zi (nI (f + i))), some (zi (nI 0))]) dX1_isNothing_81 rfl (by decide) rfl ?_
    refine lp_no83 hc4 hl18 hP2 hP97 hrL hL9 hf hil hnum (D := fun x => dsA (fun t => bkS w P e tb t 0 1 (idB w) x) P cs i) (B := fun x => bkS w P e tb (cs.getD i zd).1 0 1 (idB w) x) (fun x _ => dsA_lt (by omega) i) (w ^ (n + 1)) 0 S77 (by omega) hI7 hB (fun y hy => absurd hy (Nat.not_lt_zero y)) (fun y _ hy => (f77.I (by omega) (by unfold tFb tBk1; omega)).trans (hD y hy)) (fun S1 g1 hD1 => ?_)
    have hs1 : Sd S1 := f77.sd.fr g1
    have g2 := fg_202 f77.sd g1
    refine r_iincN (q := 136) (L' := [some (zr 1 0), some (zr 9 c), some (zi (nI l)), some (zr 7 0), some (zi (nI n)), some (zi (nI (w ^ (n + 1)))), some (zi (nI (f + i + 1))), some (zi (nI (w ^ (n + 1))))]) 1 rfl dX1_isNothing_133 rfl rfl (by decide) rfl ?_
    refine r_goto (q := 52) dX1_isNothing_136 (by decide) ?_
    refine r_mask [true, true, true, true, true, true, true, false] rfl ?_
    exact ih (i + 1) S1 (by omega) (hI7.fg g2 ((gN_22 g1.2.2).trans n0) ((gN_22 g1.2.2).trans n1) ((gN_22 g1.2.2).trans n2)) hD1 (fun S2 g3 hI2 hD2 => K S2 ((g77.tr g2).tr g3) hI2 hD2)

set_option maxRecDepth 100000 in
theorem lp_no142 {S : zS} (hs : Sd S) {c l n rm L : Nat} (hrL : rm ≤ L) (hL9 : L ≤ 6561) (hn2 : gN S 202 0 = L) {D : Nat → Nat} (hD : ∀ x, x < rm → gI S 202 0 x = nI (D x) ∧ D x < 97) : ∀ (d i : Nat), i + d = rm → (∀ x, x < i → D x = 0) → Ok mX1_isNothing 142 [some (zr 1 0), some (zr 9 c), some (zi (nI l)), some (zr 7 0), some (zi (nI n)), some (zi (nI rm)), some (zi (nI i)), none] [] S (fun r S1 => S1 = S ∧ ∃ v, v ≤ 1 ∧ r = some (zi (nI v)) ∧ (v = 1 ↔ ∀ x, x < rm → D x = 0)) := by
  intro d
  induction d with
  | zero =>
    intro i hi hlo
    obtain rfl : rm = i := by omega
    refine r_iload (q := 144) dX1_isNothing_142 rfl rfl ?_
    refine r_iload (q := 146) dX1_isNothing_144 rfl rfl ?_
    refine r_icmp_geN (q := 149) (t := 167) (by omega) (by omega) dX1_isNothing_146 (by decide) rfl (fun h146 => ?_) (fun h146 => absurd h146 (by omega))
    refine r_iconst (q := 168) (nI 1) dX1_isNothing_167 rfl (by decide) ?_
    refine r_zreturn (by decide) dX1_isNothing_168 rfl ?_
    exact ⟨rfl, 1, Nat.le_refl _, rfl, fun _ => hlo, fun _ => rfl⟩
  | succ d ih =>
    intro i hi hlo
    have hir : i < rm := by omega
    have hdi := hD i hir
    by_cases z0 : D i = 0
    · skip
      refine r_iload (q := 144) dX1_isNothing_142 rfl rfl ?_
      refine r_iload (q := 146) dX1_isNothing_144 rfl rfl ?_
      refine r_icmp_geN (q := 149) (t := 167) (by omega) (by omega) dX1_isNothing_146 (by decide) rfl (fun h146 => absurd h146 (by omega)) (fun h146 => ?_)
      refine r_aload_n (q := 150) dX1_isNothing_149 rfl rfl rfl ?_
      refine r_getr (q := 153) (some (202, 0)) ck1 dX1_isNothing_150 rfl (k := 2) (by decide) wt230 rfl (hs.e (by decide)) (hs.r (by decide) (by decide)) ?_
      refine r_iload (q := 155) dX1_isNothing_153 rfl rfl ?_
      refine r_ialdN (q := 156) L (by decide) rfl dX1_isNothing_155 rfl (hs.e (by decide)) hn2 (by omega) (by omega) ?_
      refine r_topi (y := nI (D i)) hdi.1 ?_
      refine r_if_eqN (q := 159) (t := 161) (by omega) dX1_isNothing_156 (by decide) rfl (fun h156 => ?_) (fun h156 => absurd h156 (by omega))
      refine r_iincN (q := 164) (L' := [some (zr 1 0), some (zr 9 c), some (zi (nI l)), some (zr 7 0), some (zi (nI n)), some (zi (nI rm)), some (zi (nI (i + 1))), none]) 1 rfl dX1_isNothing_161 rfl rfl (by decide) rfl ?_
      refine r_goto (q := 142) dX1_isNothing_164 (by decide) ?_
      exact ih (i + 1) (by omega) (fun x hx => by by_cases e : x = i; (rw [e]; exact z0); exact hlo x (by omega))
    · skip
      refine r_iload (q := 144) dX1_isNothing_142 rfl rfl ?_
      refine r_iload (q := 146) dX1_isNothing_144 rfl rfl ?_
      refine r_icmp_geN (q := 149) (t := 167) (by omega) (by omega) dX1_isNothing_146 (by decide) rfl (fun h146 => absurd h146 (by omega)) (fun h146 => ?_)
      refine r_aload_n (q := 150) dX1_isNothing_149 rfl rfl rfl ?_
      refine r_getr (q := 153) (some (202, 0)) ck1 dX1_isNothing_150 rfl (k := 2) (by decide) wt230 rfl (hs.e (by decide)) (hs.r (by decide) (by decide)) ?_
      refine r_iload (q := 155) dX1_isNothing_153 rfl rfl ?_
      refine r_ialdN (q := 156) L (by decide) rfl dX1_isNothing_155 rfl (hs.e (by decide)) hn2 (by omega) (by omega) ?_
      refine r_topi (y := nI (D i)) hdi.1 ?_
      refine r_if_eqN (q := 159) (t := 161) (by omega) dX1_isNothing_156 (by decide) rfl (fun h156 => absurd h156 (by omega)) (fun h156 => ?_)
      refine r_iconst (q := 160) (nI 0) dX1_isNothing_159 rfl (by decide) ?_
      refine r_zreturn (by decide) dX1_isNothing_160 rfl ?_
      exact ⟨rfl, 0, Nat.zero_le _, rfl, fun z => absurd z (by decide), fun z => absurd (z i hir) z0⟩

set_option maxRecDepth 100000 in
theorem ok_isNothing {S : zS} {c w P A n l f L0 : Nat} {e : Nat → Nat} (hE : Eok A e) {tb : Nat → Nat → Nat} {cs : List zT} (hI : NoI S c w P A n l f L0 e tb cs) (hL0 : L0 ≤ 6561) (hq : Ce A e P n cs) (hc4 : c < 4) (hl18 : l < 18) (h1 : 1 ≤ w) (h3 : w ≤ 3) (hP2 : 2 ≤ P) (hP97 : P ≤ 97) (hn1 : 2 ≤ n) (hn7 : n ≤ 7) (hf : f + cs.length ≤ 200) : Ok mX1_isNothing 0 (ent 8 [zr 1 0, zr 9 c, zi (nI l), zr 7 0]) [] S (fun r S1 => Fg tNo S S1 ∧ (∃ L, L ≤ 6561 ∧ gN S1 200 0 = L ∧ gN S1 201 0 = L ∧ gN S1 202 0 = L) ∧ ∃ v, v ≤ 1 ∧ r = some (zi (nI v)) ∧ (v = 1 ↔ hoP w P e tb n cs)) := by
  have hs := hI.1
  have hpw := pw_bks n (by omega) w (by omega) hn1 h1
  obtain ⟨-, -, p1, p9⟩ := bks_step _ hpw
  show Ok mX1_isNothing 0 [some (zr 1 0), some (zr 9 c), some (zi (nI l)), some (zr 7 0), none, none, none, none] [] S _
  refine r_aload_n (q := 1) dX1_isNothing_0 rfl rfl rfl ?_
  refine r_getr (q := 4) (some (1005, c)) ck9 dX1_isNothing_1 rfl (k := 5) (by decide) wt318 rfl (hI.1.e (show c < 4 by omega)) (hI.1.r (show c < 4 by omega) (by decide)) ?_
  refine r_iload_n (q := 5) dX1_isNothing_4 rfl rfl rfl ?_
  refine r_ialdN (q := 6) 18 (by decide) rfl dX1_isNothing_5 rfl (hI.1.e (show c < 4 by omega)) (hI.1.n rfl (show c < 4 by omega)) (by omega) (by decide) ?_
  refine r_topi (y := nI n) hI.2.2.2.2.2.2.2.2.2.1 ?_
  refine r_istore (q := 8) (L' := [some (zr 1 0), some (zr 9 c), some (zi (nI l)), some (zr 7 0), some (zi (nI n)), none, none, none]) dX1_isNothing_6 rfl (by decide) rfl ?_
  refine r_sipush (q := 11) (nI 6561) dX1_isNothing_8 rfl (by decide) ?_
  refine r_aload_n (q := 12) dX1_isNothing_11 rfl rfl rfl ?_
  refine r_geti (q := 15) ck7 dX1_isNothing_12 rfl (k := 0) (by decide) wt38 (Or.inl rfl) (hI.1.e (by decide)) ?_
  refine r_topi (y := nI w) hI.2.2.2.2.1 ?_
  refine r_iload (q := 17) dX1_isNothing_15 rfl rfl ?_
  refine r_iconst (q := 18) (nI 1) dX1_isNothing_17 rfl (by decide) ?_
  refine r_iaddN (q := 19) dX1_isNothing_18 rfl ?_
  refine r_callSN (Mc := mX11_power) (q := 22) (As := [zi (nI w), zi (nI (n + 1))]) (st := [zi (nI 6561)]) dX1_isNothing_19 rfl rfl mkX11_power wn1103 wt1089 rfl (Nat.le_of_ble_eq_true rfl) (Nat.le_of_ble_eq_true rfl) (by decide) (by decide) (by decide) (Or.inl rfl) hI.1.some (ok_pow h1 h3 (by omega)) (fun r19 S19 hp19 => ?_)
  obtain ⟨rfl, hq19⟩ := hp19
  rw [hq19]
  show Ok _ _ _ [zi (nI (w ^ (n + 1))), zi (nI 6561)] _ _
  refine r_mmin (q := 25) dX1_isNothing_22 rfl wt1104 wt512 wt15 wt513 (Nat.le_of_ble_eq_true rfl) (by decide) (by decide) ?_
  refine r_topi (y := nI (w ^ (n + 1))) (by rw [nI_min (by omega) (by omega), Nat.min_eq_right (by omega)]) ?_
  refine r_istore (q := 27) (L' := [some (zr 1 0), some (zr 9 c), some (zi (nI l)), some (zr 7 0), some (zi (nI n)), some (zi (nI (w ^ (n + 1)))), none, none]) dX1_isNothing_25 rfl (by decide) rfl ?_
  refine r_aload_n (q := 28) dX1_isNothing_27 rfl rfl rfl ?_
  refine r_iload (q := 30) dX1_isNothing_28 rfl rfl ?_
  refine r_callV (Mc := mX1_makeRoom) (q := 33) (As := [zi (nI (w ^ (n + 1)))]) (st := []) ck1 dX1_isNothing_30 rfl rfl mkX1_makeRoom wt1105 wt1107 wp59 rfl (Nat.le_of_ble_eq_true rfl) (Nat.le_of_ble_eq_true rfl) (by decide) (by decide) (by decide) (Or.inr ⟨Nat.le_of_ble_eq_true rfl, rfl, rfl⟩) (hI.1.e (by decide)) (ok_X1_makeRoom hI.1 (by omega) hI.2.2.2.2.2.2.2.2.1 hL0) (fun r30 S30 hp30 => ?_)
  obtain ⟨rfl, hq30⟩ := hp30
  have hF := fg_roomT hI.1 hpw hI.2.2.2.2.2.2.1 hI.2.2.2.2.2.2.2.1 hI.2.2.2.2.2.2.2.2.1 hL0
  rw [← hq30] at hF
  obtain ⟨f30, L, l1, l2, n0, n1, n2⟩ := hF
  have g30 : Fg tNo S S30 := f30.mono fun _ _ _ z => Or.inr z
  have hI3 := hI.fg g30 n0 n1 n2
  show Ok _ _ _ [] _ _
  refine r_aload_n (q := 34) dX1_isNothing_33 rfl rfl rfl ?_
  refine r_getr (q := 37) (some (202, 0)) ck1 dX1_isNothing_34 rfl (k := 2) (by decide) wt230 rfl (f30.sd.e (by decide)) (f30.sd.r (by decide) (by decide)) ?_
  refine r_iconst (q := 38) (nI 0) dX1_isNothing_37 rfl (by decide) ?_
  refine r_iload (q := 40) dX1_isNothing_38 rfl rfl ?_
  refine r_iconst (q := 41) (nI 0) dX1_isNothing_40 rfl (by decide) ?_
  refine r_callS (Mc := mJ7_fill_fda19) (q := 44) (As := [zr 202 0, zi (nI 0), zi (nI (w ^ (n + 1))), zi (nI 0)]) (st := []) dX1_isNothing_41 rfl rfl mkJ7_fill_fda19 wt1109 wt823 rfl (Nat.le_of_ble_eq_true rfl) (Nat.le_of_ble_eq_true rfl) (by decide) (by decide) (by decide) (Or.inl rfl) f30.sd.some (ok_fill4 (n := L) (by decide) rfl (f30.sd.e (by decide)) n2 (Nat.zero_le _) l1 (by omega)) (fun r41 S41 hp41 => ?_)
  obtain ⟨rfl, hq41⟩ := hp41
  have f5 : Fr t202 S30 S41 := by
    rw [hq41]
    exact ⟨fun x y k h => by rw [gI_fl, if_neg (fun z => by simp [t202, z.1, z.2.1] at h)], fun _ _ _ _ => rfl, rfl⟩
  have hz5 : ∀ y, y < w ^ (n + 1) → gI S41 202 0 y = nI 0 := fun y hy => by rw [hq41, gI_fl, if_pos ⟨rfl, rfl, Nat.zero_le _, hy⟩]
  have g41 := g30.tr (fg_202 f30.sd f5)
  have hI5 := hI.fg g41 ((gN_22 f5.2.2).trans n0) ((gN_22 f5.2.2).trans n1) ((gN_22 f5.2.2).trans n2)
  show Ok _ _ _ [] _ _
  refine r_aload_n (q := 45) dX1_isNothing_44 rfl rfl rfl ?_
  refine r_getr (q := 48) (some (1006, c)) ck9 dX1_isNothing_45 rfl (k := 6) (by decide) wt323 rfl (hI5.1.e (show c < 4 by omega)) (hI5.1.r (show c < 4 by omega) (by decide)) ?_
  refine r_iload_n (q := 49) dX1_isNothing_48 rfl rfl rfl ?_
  refine r_ialdN (q := 50) 19 (by decide) rfl dX1_isNothing_49 rfl (hI5.1.e (show c < 4 by omega)) (hI5.1.n rfl (show c < 4 by omega)) (by omega) (by decide) ?_
  refine r_topi (y := nI f) hI5.2.2.2.2.2.2.2.2.2.2.1 ?_
  refine r_istore (q := 52) (L' := [some (zr 1 0), some (zr 9 c), some (zi (nI l)), some (zr 7 0), some (zi (nI n)), some (zi (nI (w ^ (n + 1)))), some (zi (nI f)), none]) dX1_isNothing_50 rfl (by decide) rfl ?_
  refine lp_no52 hE hq hc4 hl18 h1 h3 hP2 hP97 (by omega) hn7 l1 l2 hf cs.length 0 S41 (by omega) hI5 hz5 (fun S2 g2 hI2 hD2 => ?_)
  have hs2 := hI2.1
  refine r_iconst (q := 140) (nI 0) dX1_isNothing_139 rfl (by decide) ?_
  refine r_istore (q := 142) (L' := [some (zr 1 0), some (zr 9 c), some (zi (nI l)), some (zr 7 0), some (zi (nI n)), some (zi (nI (w ^ (n + 1)))), some (zi (nI 0)), none]) dX1_isNothing_140 rfl (by decide) rfl ?_
  refine Ok.mono (lp_no142 hs2 l1 l2 hI2.2.2.2.2.2.2.2.2.1 (D := fun x => dsA (fun t => bkS w P e tb t 0 1 (idB w) x) P cs cs.length) (fun x hx => ⟨hD2 x hx, Nat.lt_of_lt_of_le (dsA_lt (by omega) _) hP97⟩) (w ^ (n + 1)) 0 (by omega) (fun x hx => absurd hx (Nat.not_lt_zero x))) (fun r S3 z => ?_)
  obtain ⟨rfl, v, v1, v2, v3⟩ := z
  exact ⟨g41.tr g2, ⟨L, l2, hI2.2.2.2.2.2.2.1, hI2.2.2.2.2.2.2.2.1, hI2.2.2.2.2.2.2.2.2.1⟩, v, v1, v2, v3.trans (hoP_c (by omega) (fun k hk => (hq.1.2 _ (mem_getD hk)).1)).symm⟩

set_option maxRecDepth 100000 in
theorem cm_ho_y {S : zS} {c w P A n l f L0 : Nat} {e : Nat → Nat} (hE : Eok A e) {tb : Nat → Nat → Nat} {cs : List zT} (hI : NoI S c w P A n l f L0 e tb cs) (hL0 : L0 ≤ 6561) (hq : Ce A e P n cs) (hc4 : c < 4) (h1 : 1 ≤ w) (h3 : w ≤ 3) (hP2 : 2 ≤ P) (hP97 : P ≤ 97) (hn1 : 2 ≤ n) (hn7 : n ≤ 7) (hf : f + cs.length ≤ 200) (hcc : gI S 11 0 3 = nI c) {m : Nat} (hwL : gI S 9 c 4 = nI m) (hm18 : m ≤ 18) (hlm : l < m) : Ok mX11_holds 0 (ent 3 [zr 11 0, zi (nI l)]) [] S (fun r S1 => Fg tNo S S1 ∧ (∃ L, L ≤ 6561 ∧ gN S1 200 0 = L ∧ gN S1 201 0 = L ∧ gN S1 202 0 = L) ∧ ∃ v, v ≤ 1 ∧ r = some (zi (nI v)) ∧ (v = 1 ↔ hoP w P e tb n cs)) := by
  have hs := hI.1
  show Ok mX11_holds 0 [some (zr 11 0), some (zi (nI l)), none] [] S _
  refine r_aload_n (q := 1) dX11_holds_0 rfl rfl rfl ?_
  refine r_callV (Mc := mX11_worldHere) (q := 4) (As := []) (st := []) ck11 dX11_holds_1 rfl rfl mkX11_worldHere wt678 wt680 wp20 rfl (Nat.le_of_ble_eq_true rfl) (Nat.le_of_ble_eq_true rfl) (by decide) (by decide) (by decide) (Or.inl rfl) (hI.1.e (by decide)) (ok_X11_worldHere (S := S) hI.1 hcc hc4) (fun r1 S1 hp1 => ?_)
  obtain ⟨rfl, hq1⟩ := hp1
  rw [hq1]
  show Ok _ _ _ [zr 9 c] _ _
  refine r_astore_n (q := 5) (L' := [some (zr 11 0), some (zi (nI l)), some (zr 9 c)]) dX11_holds_4 rfl rfl (by decide) rfl ?_
  refine r_aload_n (q := 6) dX11_holds_5 rfl rfl rfl ?_
  refine r_iload_n (q := 7) dX11_holds_6 rfl rfl rfl ?_
  refine r_callV (Mc := mX9_hasLaw) (q := 10) (As := [zi (nI l)]) (st := []) ck9 dX11_holds_7 rfl rfl mkX9_hasLaw wt690 wt691 wt692 rfl (Nat.le_of_ble_eq_true rfl) (Nat.le_of_ble_eq_true rfl) (by decide) (by decide) (by decide) (Or.inl rfl) (hI.1.e (show c < 4 by omega)) (ok_X9_hasLaw_in hI.1 hc4 hwL hm18 hlm) (fun r7 S7 hp7 => ?_)
  obtain ⟨rfl, hq7⟩ := hp7
  rw [hq7]
  show Ok _ _ _ [zi (nI 1)] _ _
  refine r_if_neN (q := 13) (t := 15) (by omega) dX11_holds_10 (by decide) rfl (fun h10 => ?_) (fun h10 => absurd h10 (by omega))
  refine r_aload_n (q := 16) dX11_holds_15 rfl rfl rfl ?_
  refine r_getr (q := 19) (some (1, 0)) ck11 dX11_holds_16 rfl (k := 17) (by decide) wt439 rfl (hI.1.e (by decide)) (hI.1.r (by decide) (by decide)) ?_
  refine r_aload_n (q := 20) dX11_holds_19 rfl rfl rfl ?_
  refine r_iload_n (q := 21) dX11_holds_20 rfl rfl rfl ?_
  refine r_aload_n (q := 22) dX11_holds_21 rfl rfl rfl ?_
  refine r_getr (q := 25) (some (7, 0)) ck11 dX11_holds_22 rfl (k := 5) (by decide) wt427 rfl (hI.1.e (by decide)) (hI.1.r (by decide) (by decide)) ?_
  refine r_callV (Mc := mX1_isNothing) (q := 28) (As := [zr 9 c, zi (nI l), zr 7 0]) (st := []) ck1 dX11_holds_25 rfl rfl mkX1_isNothing wt1099 wt1100 wt1101 rfl (Nat.le_of_ble_eq_true rfl) (Nat.le_of_ble_eq_true rfl) (by decide) (by decide) (by decide) (Or.inr ⟨Nat.le_of_ble_eq_true rfl, rfl, rfl⟩) (hI.1.e (by decide)) (ok_isNothing hE hI hL0 hq hc4 (by omega) h1 h3 hP2 hP97 hn1 hn7 hf) (fun r25 S25 hp25 => ?_)
  obtain ⟨f25, hl25, v, hv1, rfl, hv⟩ := hp25
  show Ok _ _ _ [zi (nI v)] _ _
  refine r_if_eqN (q := 31) (t := 35) (by omega) dX11_holds_28 (by decide) rfl (fun h28 => ?_) (fun h28 => ?_)
  · skip
    refine r_iconst (q := 36) (nI 0) dX11_holds_35 rfl (by decide) ?_
    refine r_ireturn dX11_holds_36 rfl ?_
    exact ⟨f25, hl25, _, by omega, rfl, by rw [← hv]; omega⟩
  · skip
    refine r_iconst (q := 32) (nI 1) dX11_holds_31 rfl (by decide) ?_
    refine r_goto (q := 36) dX11_holds_32 (by decide) ?_
    refine r_ireturn dX11_holds_36 rfl ?_
    exact ⟨f25, hl25, _, by omega, rfl, by rw [← hv]; omega⟩

set_option maxRecDepth 100000 in
theorem cm_ho_n {S : zS} (hs : Sd S) {c m : Nat} (hc4 : c < 4) (hcc : gI S 11 0 3 = nI c) (hwL : gI S 9 c 4 = nI m) (hm18 : m ≤ 18) {a : Int32} (ha : ¬ (0 ≤ a ∧ a < nI m)) : Ok mX11_holds 0 (ent 3 [zr 11 0, zi a]) [] S (fun r S1 => r = some (zi (-1)) ∧ S1 = S) := by
  show Ok mX11_holds 0 [some (zr 11 0), some (zi a), none] [] S _
  refine r_aload_n (q := 1) dX11_holds_0 rfl rfl rfl ?_
  refine r_callV (Mc := mX11_worldHere) (q := 4) (As := []) (st := []) ck11 dX11_holds_1 rfl rfl mkX11_worldHere wt678 wt680 wp20 rfl (Nat.le_of_ble_eq_true rfl) (Nat.le_of_ble_eq_true rfl) (by decide) (by decide) (by decide) (Or.inl rfl) (hs.e (by decide)) (ok_X11_worldHere (S := S) hs hcc hc4) (fun r1 S1 hp1 => ?_)
  obtain ⟨rfl, hq1⟩ := hp1
  rw [hq1]
  show Ok _ _ _ [zr 9 c] _ _
  refine r_astore_n (q := 5) (L' := [some (zr 11 0), some (zi a), some (zr 9 c)]) dX11_holds_4 rfl rfl (by decide) rfl ?_
  refine r_aload_n (q := 6) dX11_holds_5 rfl rfl rfl ?_
  refine r_iload_n (q := 7) dX11_holds_6 rfl rfl rfl ?_
  refine r_callV (Mc := mX9_hasLaw) (q := 10) (As := [zi a]) (st := []) ck9 dX11_holds_7 rfl rfl mkX9_hasLaw wt690 wt691 wt692 rfl (Nat.le_of_ble_eq_true rfl) (Nat.le_of_ble_eq_true rfl) (by decide) (by decide) (by decide) (Or.inl rfl) (hs.e (show c < 4 by omega)) (ok_X9_hasLaw_out hs hc4 hwL hm18 ha) (fun r7 S7 hp7 => ?_)
  obtain ⟨rfl, hq7⟩ := hp7
  rw [hq7]
  show Ok _ _ _ [zi (nI 0)] _ _
  refine r_if_neN (q := 13) (t := 15) (by omega) dX11_holds_10 (by decide) rfl (fun h10 => absurd h10 (by omega)) (fun h10 => ?_)
  refine r_iconst (q := 14) ((-1 : Int32)) dX11_holds_13 rfl (by decide) ?_
  refine r_ireturn dX11_holds_14 rfl ?_
  exact ⟨rfl, rfl⟩

