/-! a row moved down by d -/
def shf (S : zS) (a b d lo hi : Nat) : zS := (fun x y k => if x = a ∧ y = b ∧ lo ≤ k ∧ k < hi then gI S a b (k + d) else S.1 x y k, S.2)
theorem gI_shf {S : zS} {a b d lo hi x y k : Nat} : gI (shf S a b d lo hi) x y k = if x = a ∧ y = b ∧ lo ≤ k ∧ k < hi then gI S a b (k + d) else gI S x y k := rfl
theorem shf_all {S : zS} {a b d hi : Nat} : shf S a b d hi hi = S := by
  refine Prod.ext ?_ rfl
  funext x y k
  exact if_neg fun z => by omega
theorem shf_step {S : zS} {a b d i hi : Nat} (h : i < hi) (hd : 0 < d) : shf (sI S a b i (gI S a b (i + d))) a b d (i + 1) hi = shf S a b d i hi := by
  refine Prod.ext ?_ rfl
  funext x y k
  show gI (shf (sI S a b i (gI S a b (i + d))) a b d (i + 1) hi) x y k = gI (shf S a b d i hi) x y k
  rw [gI_shf, gI_shf, gI_sI, gI_sI]
  by_cases e : x = a ∧ y = b
  · obtain ⟨rfl, rfl⟩ := e
    by_cases h1 : k = i
    · subst h1
      rw [if_neg (by omega), if_pos ⟨rfl, rfl, rfl⟩, if_pos ⟨rfl, rfl, by omega, h⟩]
    · by_cases h2 : i + 1 ≤ k ∧ k < hi
      · rw [if_pos ⟨rfl, rfl, h2.1, h2.2⟩, if_neg (by omega), if_pos ⟨rfl, rfl, by omega, h2.2⟩]
      · rw [if_neg (by omega), if_neg (by omega), if_neg (by omega)]
  · rw [if_neg (fun z => e ⟨z.1, z.2.1⟩), if_neg (fun z => e ⟨z.1, z.2.1⟩), if_neg (fun z => e ⟨z.1, z.2.1⟩)]
/-- the sum made, from place lo up to e, into the row s -/
def cp2 (S : zS) (lo e : Nat) : zS := (fun x y k => if x = 1306 ∧ y = 0 ∧ 1175 + lo ≤ k ∧ k < 1175 + e then gI S 1344 0 (k - 1175) else if x = 1306 ∧ y = 0 ∧ 2475 + lo ≤ k ∧ k < 2475 + e then gI S 1345 0 (k - 2475) else S.1 x y k, S.2)
theorem gI_cp2 {S : zS} {lo e x y k : Nat} : gI (cp2 S lo e) x y k = if x = 1306 ∧ y = 0 ∧ 1175 + lo ≤ k ∧ k < 1175 + e then gI S 1344 0 (k - 1175) else if x = 1306 ∧ y = 0 ∧ 2475 + lo ≤ k ∧ k < 2475 + e then gI S 1345 0 (k - 2475) else gI S x y k := rfl
theorem cp2_all {S : zS} {e : Nat} : cp2 S e e = S := by
  refine Prod.ext ?_ rfl
  funext x y k
  show gI (cp2 S e e) x y k = gI S x y k
  rw [gI_cp2, if_neg (by omega), if_neg (by omega)]
theorem cp2_step {S : zS} {i e : Nat} (h : i < e) (he : e ≤ 1300) : cp2 (sI (sI S 1306 0 (1175 + i) (gI S 1344 0 i)) 1306 0 (2475 + i) (gI S 1345 0 i)) (i + 1) e = cp2 S i e := by
  refine Prod.ext ?_ rfl
  funext x y k
  show gI (cp2 (sI (sI S 1306 0 (1175 + i) (gI S 1344 0 i)) 1306 0 (2475 + i) (gI S 1345 0 i)) (i + 1) e) x y k = gI (cp2 S i e) x y k
  rw [gI_cp2, gI_cp2]
  have e4 : ∀ v w q, gI (sI (sI S 1306 0 (1175 + i) v) 1306 0 (2475 + i) w) 1344 0 q = gI S 1344 0 q := fun v w q => by rw [gI_sI, if_neg (fun z => absurd z.1 (by decide)), gI_sI, if_neg (fun z => absurd z.1 (by decide))]
  have e5 : ∀ v w q, gI (sI (sI S 1306 0 (1175 + i) v) 1306 0 (2475 + i) w) 1345 0 q = gI S 1345 0 q := fun v w q => by rw [gI_sI, if_neg (fun z => absurd z.1 (by decide)), gI_sI, if_neg (fun z => absurd z.1 (by decide))]
  rw [e4, e5, gI_sI, gI_sI]
  by_cases c : x = 1306 ∧ y = 0
  · obtain ⟨rfl, rfl⟩ := c
    by_cases h1 : k = 1175 + i
    · subst h1
      rw [if_neg (by omega), if_neg (by omega), if_neg (by omega), if_pos ⟨rfl, rfl, rfl⟩, if_pos (by omega)]
      rw [Nat.add_sub_cancel_left]
    · by_cases h2 : k = 2475 + i
      · subst h2
        rw [if_neg (by omega), if_neg (by omega), if_pos ⟨rfl, rfl, rfl⟩, if_neg (by omega), if_pos (by omega)]
        rw [Nat.add_sub_cancel_left]
      · rw [if_neg (c := 1306 = 1306 ∧ 0 = 0 ∧ k = 2475 + i) (by omega), if_neg (c := 1306 = 1306 ∧ 0 = 0 ∧ k = 1175 + i) (by omega)]
        by_cases h3 : 1175 + (i + 1) ≤ k ∧ k < 1175 + e
        · rw [if_pos (by omega), if_pos (by omega)]
        · rw [if_neg (by omega), if_neg (c := 1306 = 1306 ∧ 0 = 0 ∧ 1175 + i ≤ k ∧ k < 1175 + e) (by omega)]
          by_cases h4 : 2475 + (i + 1) ≤ k ∧ k < 2475 + e
          · rw [if_pos (by omega), if_pos (by omega)]
          · rw [if_neg (by omega), if_neg (by omega)]
  · rw [if_neg (fun z => c ⟨z.1, z.2.1⟩), if_neg (fun z => c ⟨z.1, z.2.1⟩), if_neg (fun z => c ⟨z.1, z.2.1⟩), if_neg (fun z => c ⟨z.1, z.2.1⟩), if_neg (fun z => c ⟨z.1, z.2.1⟩), if_neg (fun z => c ⟨z.1, z.2.1⟩)]
theorem Sd.shf {S : zS} (h : Sd S) {a b d lo hi : Nat} : Sd (shf S a b d lo hi) := h
theorem Sd.cp2 {S : zS} (h : Sd S) {lo e : Nat} : Sd (cp2 S lo e) := h
set_option maxRecDepth 100000 in
theorem lp_hold1 {Po : Option zV → zS → Prop}  : ∀ (d i : Nat) (S : zS), i + d = 18214 → Sd S → (∀ S2, S2 = shf S 1357 0 2602 i 18214 → Ok mX12_hold 40 [some (zr 12 0), some (zi (nI 18214))] [] S2 Po) → Ok mX12_hold 11 [some (zr 12 0), some (zi (nI i))] [] S Po := by
  intro d
  induction d with
  | zero =>
    intro i S hi hs  K
    obtain rfl : i = 18214 := by omega
    refine r_iload_n (q := 12) dX12_hold_11 rfl rfl rfl ?_
    refine r_sipush (q := 15) (nI 18214) dX12_hold_12 rfl (by decide) ?_
    refine r_icmp_geN (q := 18) (t := 40) (by omega) (by omega) dX12_hold_15 (by decide) rfl (fun h15 => ?_) (fun h15 => absurd h15 (by omega))
    exact K _ (shf_all.symm)
  | succ d ih =>
    intro i S hi hs  K
    refine r_iload_n (q := 12) dX12_hold_11 rfl rfl rfl ?_
    refine r_sipush (q := 15) (nI 18214) dX12_hold_12 rfl (by decide) ?_
    refine r_icmp_geN (q := 18) (t := 40) (by omega) (by omega) dX12_hold_15 (by decide) rfl (fun h15 => absurd h15 (by omega)) (fun h15 => ?_)
    refine r_aload_n (q := 19) dX12_hold_18 rfl rfl rfl ?_
    refine r_getr (q := 22) (some (1357, 0)) ck12 dX12_hold_19 rfl (k := 57) (by decide) wt1335 rfl (hs.e (by decide)) (hs.r (by decide) (by decide)) ?_
    refine r_iload_n (q := 23) dX12_hold_22 rfl rfl rfl ?_
    refine r_aload_n (q := 24) dX12_hold_23 rfl rfl rfl ?_
    refine r_getr (q := 27) (some (1357, 0)) ck12 dX12_hold_24 rfl (k := 57) (by decide) wt1335 rfl (hs.e (by decide)) (hs.r (by decide) (by decide)) ?_
    refine r_iload_n (q := 28) dX12_hold_27 rfl rfl rfl ?_
    refine r_sipush (q := 31) (nI 2602) dX12_hold_28 rfl (by decide) ?_
    refine r_iaddN (q := 32) dX12_hold_31 rfl ?_
    refine r_ialdN (q := 33) 20816 (by decide) rfl dX12_hold_32 rfl (hs.e (by decide)) (hs.n rfl (by decide)) (by omega) (by decide) ?_
    refine r_iastN (q := 34) 20816 (by decide) rfl dX12_hold_33 rfl (hs.e (by decide)) (hs.n rfl (by decide)) (by omega) (by decide) ?_
    refine r_iincN (q := 37) (L' := [some (zr 12 0), some (zi (nI (i + 1)))]) 1 rfl dX12_hold_34 rfl rfl (by decide) rfl ?_
    refine r_goto (q := 11) dX12_hold_37 (by decide) ?_
    exact ih (i + 1) _ (by omega) hs  (fun S2 h => K S2 (h.trans (shf_step (by omega) (by omega))))

set_option maxRecDepth 100000 in
theorem lp_hold2 {Po : Option zV → zS → Prop} {h : Nat} (h7 : h ≤ 7) : ∀ (d i : Nat) (S : zS), i + d = 2602 → Sd S → gI S 12 0 58 = nI h → (∀ S2, S2 = cpR S 1306 0 1357 0 1173 (2602 * h) i 2602 → Ok mX12_hold 90 [some (zr 12 0), some (zi (nI 2602))] [] S2 Po) → Ok mX12_hold 52 [some (zr 12 0), some (zi (nI i))] [] S Po := by
  intro d
  induction d with
  | zero =>
    intro i S hi hs hh K
    obtain rfl : i = 2602 := by omega
    refine r_iload_n (q := 53) dX12_hold_52 rfl rfl rfl ?_
    refine r_sipush (q := 56) (nI 2602) dX12_hold_53 rfl (by decide) ?_
    refine r_icmp_geN (q := 59) (t := 90) (by omega) (by omega) dX12_hold_56 (by decide) rfl (fun h56 => ?_) (fun h56 => absurd h56 (by omega))
    exact K _ (cpR_all.symm)
  | succ d ih =>
    intro i S hi hs hh K
    refine r_iload_n (q := 53) dX12_hold_52 rfl rfl rfl ?_
    refine r_sipush (q := 56) (nI 2602) dX12_hold_53 rfl (by decide) ?_
    refine r_icmp_geN (q := 59) (t := 90) (by omega) (by omega) dX12_hold_56 (by decide) rfl (fun h56 => absurd h56 (by omega)) (fun h56 => ?_)
    refine r_aload_n (q := 60) dX12_hold_59 rfl rfl rfl ?_
    refine r_getr (q := 63) (some (1357, 0)) ck12 dX12_hold_60 rfl (k := 57) (by decide) wt1335 rfl (hs.e (by decide)) (hs.r (by decide) (by decide)) ?_
    refine r_sipush (q := 66) (nI 2602) dX12_hold_63 rfl (by decide) ?_
    refine r_aload_n (q := 67) dX12_hold_66 rfl rfl rfl ?_
    refine r_geti (q := 70) ck12 dX12_hold_67 rfl (k := 58) (by decide) wt1336 (Or.inl rfl) (hs.e (by decide)) ?_
    refine r_topi (y := nI h) hh ?_
    refine r_imulN (q := 71) dX12_hold_70 rfl ?_
    refine r_iload_n (q := 72) dX12_hold_71 rfl rfl rfl ?_
    refine r_iaddN (q := 73) dX12_hold_72 rfl ?_
    refine r_aload_n (q := 74) dX12_hold_73 rfl rfl rfl ?_
    refine r_getr (q := 77) (some (1306, 0)) ck12 dX12_hold_74 rfl (k := 6) (by decide) wt1284 rfl (hs.e (by decide)) (hs.r (by decide) (by decide)) ?_
    refine r_sipush (q := 80) (nI 1173) dX12_hold_77 rfl (by decide) ?_
    refine r_iload_n (q := 81) dX12_hold_80 rfl rfl rfl ?_
    refine r_iaddN (q := 82) dX12_hold_81 rfl ?_
    refine r_ialdN (q := 83) 3775 (by decide) rfl dX12_hold_82 rfl (hs.e (by decide)) (hs.n rfl (by decide)) (by omega) (by decide) ?_
    refine r_iastN (q := 84) 20816 (by decide) rfl dX12_hold_83 rfl (hs.e (by decide)) (hs.n rfl (by decide)) (by omega) (by decide) ?_
    refine r_iincN (q := 87) (L' := [some (zr 12 0), some (zi (nI (i + 1)))]) 1 rfl dX12_hold_84 rfl rfl (by decide) rfl ?_
    refine r_goto (q := 52) dX12_hold_87 (by decide) ?_
    exact ih (i + 1) _ (by omega) hs (hh) (fun S2 h => K S2 (h.trans (cpR_step (by omega) (by decide))))

set_option maxRecDepth 100000 in
theorem ok_X12_hold {S : zS} (hs : Sd S) {h : Nat} (hh : gI S 12 0 58 = nI h) (h7 : h ≤ 7) : Ok mX12_hold 0 (ent 2 [zr 12 0]) [] S (fun r S1 => r = none ∧ S1 = sI (cpR S 1306 0 1357 0 1173 (2602 * h) 0 2602) 12 0 58 (nI (h + 1))) := by
  show Ok mX12_hold 0 [some (zr 12 0), none] [] S _
  refine r_aload_n (q := 1) dX12_hold_0 rfl rfl rfl ?_
  refine r_geti (q := 4) ck12 dX12_hold_1 rfl (k := 58) (by decide) wt1336 (Or.inl rfl) (hs.e (by decide)) ?_
  refine r_topi (y := nI h) hh ?_
  refine r_bipush (q := 6) (nI 8) dX12_hold_4 rfl (by decide) ?_
  refine r_icmp_neN (q := 9) (t := 50) (by omega) (by omega) dX12_hold_6 (by decide) rfl (fun h6 => ?_) (fun h6 => absurd h6 (by omega))
  refine r_iconst (q := 51) (nI 0) dX12_hold_50 rfl (by decide) ?_
  refine r_istore_n (q := 52) (L' := [some (zr 12 0), some (zi (nI 0))]) dX12_hold_51 rfl rfl (by decide) rfl ?_
  refine lp_hold2 (h := h) (by omega) 2602 0 S rfl hs hh (fun S2 h2 => ?_)
  subst h2
  refine r_aload_n (q := 91) dX12_hold_90 rfl rfl rfl ?_
  refine r_dup (q := 92) dX12_hold_91 rfl rfl ?_
  refine r_geti (q := 95) ck12 dX12_hold_92 rfl (k := 58) (by decide) wt1336 (Or.inl rfl) (hs.e (by decide)) ?_
  refine r_topi (y := nI h) (show gI S 12 0 58 = nI h from hh) ?_
  refine r_iconst (q := 96) (nI 1) dX12_hold_95 rfl (by decide) ?_
  refine r_iaddN (q := 97) dX12_hold_96 rfl ?_
  refine r_puti (q := 100) ck12 dX12_hold_97 rfl (k := 58) (by decide) wt1336 (Or.inl rfl) rfl (hs.e (by decide)) ?_
  refine r_return dX12_hold_100 rfl ?_
  exact ⟨rfl, rfl⟩

set_option maxRecDepth 100000 in
theorem ok_X12_hold_8 {S : zS} (hs : Sd S) (hh : gI S 12 0 58 = nI 8) : Ok mX12_hold 0 (ent 2 [zr 12 0]) [] S (fun r S1 => r = none ∧ S1 = sI (cpR (sI (shf S 1357 0 2602 0 18214) 12 0 58 (nI 7)) 1306 0 1357 0 1173 (2602 * 7) 0 2602) 12 0 58 (nI 8)) := by
  show Ok mX12_hold 0 [some (zr 12 0), none] [] S _
  refine r_aload_n (q := 1) dX12_hold_0 rfl rfl rfl ?_
  refine r_geti (q := 4) ck12 dX12_hold_1 rfl (k := 58) (by decide) wt1336 (Or.inl rfl) (hs.e (by decide)) ?_
  refine r_topi (y := nI 8) hh ?_
  refine r_bipush (q := 6) (nI 8) dX12_hold_4 rfl (by decide) ?_
  refine r_icmp_neN (q := 9) (t := 50) (by omega) (by omega) dX12_hold_6 (by decide) rfl (fun h6 => absurd h6 (by omega)) (fun h6 => ?_)
  refine r_iconst (q := 10) (nI 0) dX12_hold_9 rfl (by decide) ?_
  refine r_istore_n (q := 11) (L' := [some (zr 12 0), some (zi (nI 0))]) dX12_hold_10 rfl rfl (by decide) rfl ?_
  refine lp_hold1 18214 0 S rfl hs (fun S2 h2 => ?_)
  subst h2
  refine r_aload_n (q := 41) dX12_hold_40 rfl rfl rfl ?_
  refine r_dup (q := 42) dX12_hold_41 rfl rfl ?_
  refine r_geti (q := 45) ck12 dX12_hold_42 rfl (k := 58) (by decide) wt1336 (Or.inl rfl) (hs.e (by decide)) ?_
  refine r_topi (y := nI 8) hh ?_
  refine r_iconst (q := 46) (nI 1) dX12_hold_45 rfl (by decide) ?_
  refine r_isubN (q := 47) (by omega) dX12_hold_46 rfl ?_
  refine r_puti (q := 50) ck12 dX12_hold_47 rfl (k := 58) (by decide) wt1336 (Or.inl rfl) rfl (hs.e (by decide)) ?_
  refine r_iconst (q := 51) (nI 0) dX12_hold_50 rfl (by decide) ?_
  refine r_istore_n (q := 52) (L' := [some (zr 12 0), some (zi (nI 0))]) dX12_hold_51 rfl rfl (by decide) rfl ?_
  refine lp_hold2 (h := 7) (by omega) 2602 0 (sI (shf S 1357 0 2602 0 18214) 12 0 58 (nI 7)) rfl hs (by rw [gI_sI, if_pos ⟨rfl, rfl, rfl⟩]) (fun S2 h2 => ?_)
  subst h2
  refine r_aload_n (q := 91) dX12_hold_90 rfl rfl rfl ?_
  refine r_dup (q := 92) dX12_hold_91 rfl rfl ?_
  refine r_geti (q := 95) ck12 dX12_hold_92 rfl (k := 58) (by decide) wt1336 (Or.inl rfl) (hs.e (by decide)) ?_
  refine r_topi (y := nI 7) (show gI (sI (shf S 1357 0 2602 0 18214) 12 0 58 (nI 7)) 12 0 58 = nI 7 from (by rw [gI_sI, if_pos ⟨rfl, rfl, rfl⟩])) ?_
  refine r_iconst (q := 96) (nI 1) dX12_hold_95 rfl (by decide) ?_
  refine r_iaddN (q := 97) dX12_hold_96 rfl ?_
  refine r_puti (q := 100) ck12 dX12_hold_97 rfl (k := 58) (by decide) wt1336 (Or.inl rfl) rfl (hs.e (by decide)) ?_
  refine r_return dX12_hold_100 rfl ?_
  exact ⟨rfl, rfl⟩

/-- the past, with the sum at hand put on it -/
def held (S : zS) (h : Nat) : zS := if h ≤ 7 then sI (cpR S 1306 0 1357 0 1173 (2602 * h) 0 2602) 12 0 58 (nI (h + 1)) else sI (cpR (sI (shf S 1357 0 2602 0 18214) 12 0 58 (nI 7)) 1306 0 1357 0 1173 (2602 * 7) 0 2602) 12 0 58 (nI 8)
theorem ok_hold {S : zS} (hs : Sd S) {h : Nat} (hh : gI S 12 0 58 = nI h) (h8 : h ≤ 8) : Ok mX12_hold 0 (ent 2 [zr 12 0]) [] S (fun r S1 => r = none ∧ S1 = held S h) := by
  by_cases h7 : h ≤ 7
  · refine Ok.mono (ok_X12_hold hs hh h7) fun r S1 z => ⟨z.1, ?_⟩
    unfold held
    rw [if_pos h7]; exact z.2
  · obtain rfl : h = 8 := by omega
    refine Ok.mono (ok_X12_hold_8 hs hh) fun r S1 z => ⟨z.1, ?_⟩
    unfold held
    rw [if_neg h7]; exact z.2
theorem sd_held {S : zS} (h : Sd S) {n : Nat} : Sd (held S n) := by
  unfold held
  split <;> exact h
theorem held_x {S : zS} {h x y k : Nat} (h1 : ¬ (x = 1357 ∧ y = 0)) (h2 : ¬ (x = 12 ∧ y = 0 ∧ k = 58)) : gI (held S h) x y k = gI S x y k := by
  unfold held
  split
  · rw [gI_sI, if_neg h2, gI_cpR, if_neg (fun z => h1 ⟨z.1, z.2.1⟩)]
  · rw [gI_sI, if_neg h2, gI_cpR, if_neg (fun z => h1 ⟨z.1, z.2.1⟩), gI_sI, if_neg h2, gI_shf, if_neg (fun z => h1 ⟨z.1, z.2.1⟩)]
theorem held_J {S : zS} {h x y k : Nat} : gJ (held S h) x y k = gJ S x y k := by
  unfold held
  split <;> rfl
theorem held_r {S : zS} {h : Nat} : (held S h).2.2 = S.2.2 := by
  unfold held
  split <;> rfl
set_option maxRecDepth 100000 in
theorem lp_keepSum {Po : Option zV → zS → Prop} {e : Nat} (he : e ≤ 1300) : ∀ (d i : Nat) (S : zS), i + d = e → Sd S → gI S 12 0 47 = nI e → (∀ S2, S2 = cp2 S i e → Ok mX12_keepSum 76 [some (zr 12 0), some (zi (nI e))] [] S2 Po) → Ok mX12_keepSum 30 [some (zr 12 0), some (zi (nI i))] [] S Po := by
  intro d
  induction d with
  | zero =>
    intro i S hi hs hm K
    obtain rfl : e = i := by omega
    refine r_iload_n (q := 31) dX12_keepSum_30 rfl rfl rfl ?_
    refine r_aload_n (q := 32) dX12_keepSum_31 rfl rfl rfl ?_
    refine r_geti (q := 35) ck12 dX12_keepSum_32 rfl (k := 47) (by decide) wt1325 (Or.inl rfl) (hs.e (by decide)) ?_
    refine r_topi (y := nI e) hm ?_
    refine r_icmp_geN (q := 38) (t := 76) (by omega) (by omega) dX12_keepSum_35 (by decide) rfl (fun h35 => ?_) (fun h35 => absurd h35 (by omega))
    exact K _ (cp2_all.symm)
  | succ d ih =>
    intro i S hi hs hm K
    refine r_iload_n (q := 31) dX12_keepSum_30 rfl rfl rfl ?_
    refine r_aload_n (q := 32) dX12_keepSum_31 rfl rfl rfl ?_
    refine r_geti (q := 35) ck12 dX12_keepSum_32 rfl (k := 47) (by decide) wt1325 (Or.inl rfl) (hs.e (by decide)) ?_
    refine r_topi (y := nI e) hm ?_
    refine r_icmp_geN (q := 38) (t := 76) (by omega) (by omega) dX12_keepSum_35 (by decide) rfl (fun h35 => absurd h35 (by omega)) (fun h35 => ?_)
    refine r_aload_n (q := 39) dX12_keepSum_38 rfl rfl rfl ?_
    refine r_getr (q := 42) (some (1306, 0)) ck12 dX12_keepSum_39 rfl (k := 6) (by decide) wt1284 rfl (hs.e (by decide)) (hs.r (by decide) (by decide)) ?_
    refine r_sipush (q := 45) (nI 1175) dX12_keepSum_42 rfl (by decide) ?_
    refine r_iload_n (q := 46) dX12_keepSum_45 rfl rfl rfl ?_
    refine r_iaddN (q := 47) dX12_keepSum_46 rfl ?_
    refine r_aload_n (q := 48) dX12_keepSum_47 rfl rfl rfl ?_
    refine r_getr (q := 51) (some (1344, 0)) ck12 dX12_keepSum_48 rfl (k := 44) (by decide) wt1322 rfl (hs.e (by decide)) (hs.r (by decide) (by decide)) ?_
    refine r_iload_n (q := 52) dX12_keepSum_51 rfl rfl rfl ?_
    refine r_ialdN (q := 53) 1400 (by decide) rfl dX12_keepSum_52 rfl (hs.e (by decide)) (hs.n rfl (by decide)) (by omega) (by decide) ?_
    refine r_iastN (q := 54) 3775 (by decide) rfl dX12_keepSum_53 rfl (hs.e (by decide)) (hs.n rfl (by decide)) (by omega) (by decide) ?_
    refine r_aload_n (q := 55) dX12_keepSum_54 rfl rfl rfl ?_
    refine r_getr (q := 58) (some (1306, 0)) ck12 dX12_keepSum_55 rfl (k := 6) (by decide) wt1284 rfl (hs.e (by decide)) (hs.r (by decide) (by decide)) ?_
    refine r_sipush (q := 61) (nI 2475) dX12_keepSum_58 rfl (by decide) ?_
    refine r_iload_n (q := 62) dX12_keepSum_61 rfl rfl rfl ?_
    refine r_iaddN (q := 63) dX12_keepSum_62 rfl ?_
    refine r_aload_n (q := 64) dX12_keepSum_63 rfl rfl rfl ?_
    refine r_getr (q := 67) (some (1345, 0)) ck12 dX12_keepSum_64 rfl (k := 45) (by decide) wt1323 rfl (hs.e (by decide)) (hs.r (by decide) (by decide)) ?_
    refine r_iload_n (q := 68) dX12_keepSum_67 rfl rfl rfl ?_
    refine r_ialdN (q := 69) 1400 (by decide) rfl dX12_keepSum_68 rfl (hs.e (by decide)) (hs.n rfl (by decide)) (by omega) (by decide) ?_
    refine r_topi (y := gI S 1345 0 i) (by simp [gI_sI, gJ_sJ, gI_sJ, gJ_sI]) ?_
    refine r_iastN (q := 70) 3775 (by decide) rfl dX12_keepSum_69 rfl (hs.e (by decide)) (hs.n rfl (by decide)) (by omega) (by decide) ?_
    refine r_iincN (q := 73) (L' := [some (zr 12 0), some (zi (nI (i + 1)))]) 1 rfl dX12_keepSum_70 rfl rfl (by decide) rfl ?_
    refine r_goto (q := 30) dX12_keepSum_73 (by decide) ?_
    exact ih (i + 1) _ (by omega) hs (hm) (fun S2 h => K S2 (h.trans (cp2_step (by omega) (by omega))))

def kpS (S : zS) (h e : Nat) : zS := cp2 (sI (sI (held S h) 1306 0 1173 (gI S 12 0 48)) 1306 0 1174 (nI e)) 0 e
set_option maxRecDepth 100000 in
theorem ok_X12_keepSum {S : zS} (hs : Sd S) {h e : Nat} (hh : gI S 12 0 58 = nI h) (h8 : h ≤ 8) (hm : gI S 12 0 47 = nI e) (he : e ≤ 1300) : Ok mX12_keepSum 0 (ent 2 [zr 12 0]) [] S (fun r S1 => r = some (zi (nI e)) ∧ S1 = kpS S h e) := by
  show Ok mX12_keepSum 0 [some (zr 12 0), none] [] S _
  refine r_aload_n (q := 1) dX12_keepSum_0 rfl rfl rfl ?_
  refine r_callV (Mc := mX12_hold) (q := 4) (As := []) (st := []) ck12 dX12_keepSum_1 rfl rfl mkX12_hold wt1714 wt1716 wp95 rfl (Nat.le_of_ble_eq_true rfl) (Nat.le_of_ble_eq_true rfl) (by decide) (by decide) (by decide) (Or.inl rfl) (hs.e (by decide)) (ok_hold hs hh h8) (fun r1 S1 hp1 => ?_)
  obtain ⟨rfl, hq1⟩ := hp1
  subst hq1
  have hs1 : Sd (held S h) := sd_held hs
  have hm1 : gI (held S h) 12 0 47 = nI e := (held_x (by decide) (by decide)).trans hm
  have hl1 : gI (held S h) 12 0 48 = gI S 12 0 48 := held_x (by decide) (by decide)
  show Ok _ _ _ [] _ _
  refine r_aload_n (q := 5) dX12_keepSum_4 rfl rfl rfl ?_
  refine r_getr (q := 8) (some (1306, 0)) ck12 dX12_keepSum_5 rfl (k := 6) (by decide) wt1284 rfl (hs1.e (by decide)) (hs1.r (by decide) (by decide)) ?_
  refine r_sipush (q := 11) (nI 1173) dX12_keepSum_8 rfl (by decide) ?_
  refine r_aload_n (q := 12) dX12_keepSum_11 rfl rfl rfl ?_
  refine r_geti (q := 15) ck12 dX12_keepSum_12 rfl (k := 48) (by decide) wt1326 (Or.inl rfl) (hs1.e (by decide)) ?_
  refine r_topi (y := gI S 12 0 48) hl1 ?_
  refine r_iastN (q := 16) 3775 (by decide) rfl dX12_keepSum_15 rfl (hs1.e (by decide)) (hs1.n rfl (by decide)) (by omega) (by decide) ?_
  refine r_aload_n (q := 17) dX12_keepSum_16 rfl rfl rfl ?_
  refine r_getr (q := 20) (some (1306, 0)) ck12 dX12_keepSum_17 rfl (k := 6) (by decide) wt1284 rfl (hs1.e (by decide)) (hs1.r (by decide) (by decide)) ?_
  refine r_sipush (q := 23) (nI 1174) dX12_keepSum_20 rfl (by decide) ?_
  refine r_aload_n (q := 24) dX12_keepSum_23 rfl rfl rfl ?_
  refine r_geti (q := 27) ck12 dX12_keepSum_24 rfl (k := 47) (by decide) wt1325 (Or.inl rfl) (hs1.e (by decide)) ?_
  refine r_topi (y := gI (held S h) 12 0 47) (by simp [gI_sI, gJ_sJ, gI_sJ, gJ_sI]) ?_
  refine r_topi (y := nI e) hm1 ?_
  refine r_iastN (q := 28) 3775 (by decide) rfl dX12_keepSum_27 rfl (hs1.e (by decide)) (hs1.n rfl (by decide)) (by omega) (by decide) ?_
  refine r_iconst (q := 29) (nI 0) dX12_keepSum_28 rfl (by decide) ?_
  refine r_istore_n (q := 30) (L' := [some (zr 12 0), some (zi (nI 0))]) dX12_keepSum_29 rfl rfl (by decide) rfl ?_
  refine lp_keepSum he e 0 (sI (sI (held S h) 1306 0 1173 (gI S 12 0 48)) 1306 0 1174 (nI e)) (by omega) hs1 hm1 (fun S2 h2 => ?_)
  subst h2
  refine r_aload_n (q := 77) dX12_keepSum_76 rfl rfl rfl ?_
  refine r_geti (q := 80) ck12 dX12_keepSum_77 rfl (k := 47) (by decide) wt1325 (Or.inl rfl) (hs1.e (by decide)) ?_
  refine r_topi (y := nI e) (show gI (sI (sI (held S h) 1306 0 1173 (gI S 12 0 48)) 1306 0 1174 (nI e)) 12 0 47 = nI e from hm1) ?_
  refine r_ireturn dX12_keepSum_80 rfl ?_
  exact ⟨rfl, rfl⟩

def kpM (S : zS) (q p h e0 n1 e1 o : Nat) : zS := tcp (sI (sI (tcp S (q + 3) 0 e0 n1) 11 0 11 (nI p)) 11 0 10 (nI (min 8 (h + 1)))) 0 11 e1 o
set_option maxRecDepth 100000 in
theorem ok_X11_keepMade {S : zS} (hs : Sd S) {h q p e0 n1 e1 o om : Nat} (hh : gI S 11 0 10 = nI h) (hq : gI S 11 0 11 = nI q) (h8 : h ≤ 8) (q8 : q < 8) (hp : (q + 1) % 8 = p) (p2 : gN S 902 (q + 3) = n1) (p3 : gN S 903 (q + 3) = n1) (hn1 : 1 ≤ n1) (hn19 : n1 ≤ 1200) (ht0 : gI S 8 0 1 = nI e0) (a2 : gN S 902 0 = o) (a3 : gN S 903 0 = o) (h0o : e0 ≤ o) (ho1 : 1 ≤ o) (ho : o ≤ 1200) (ht1 : gI S 8 11 1 = nI e1) (m2 : gN S 902 11 = om) (m3 : gN S 903 11 = om) (h1o : e1 ≤ om) (hom : om ≤ 1200) (he1 : e1 ≤ 1200) : Ok mX11_keepMade 0 (ent 1 [zr 11 0]) [] S (fun r S1 => r = some (zi (nI e1)) ∧ S1 = kpM S q p h e0 n1 e1 o) := by
  show Ok mX11_keepMade 0 [some (zr 11 0)] [] S _
  refine r_aload_n (q := 1) dX11_keepMade_0 rfl rfl rfl ?_
  refine r_getr (q := 4) (some (1209, 0)) ck11 dX11_keepMade_1 rfl (k := 9) (by decide) wt431 rfl (hs.e (by decide)) (hs.r (by decide) (by decide)) ?_
  refine r_aload_n (q := 5) dX11_keepMade_4 rfl rfl rfl ?_
  refine r_geti (q := 8) ck11 dX11_keepMade_5 rfl (k := 11) (by decide) wt433 (Or.inl rfl) (hs.e (by decide)) ?_
  refine r_topi (y := nI q) hq ?_
  refine r_aaldN (q := 9) (some (8, q + 3)) 8 (by decide) (by decide) (by decide) dX11_keepMade_8 rfl (hs.e (by decide)) (hs.n rfl (by decide)) (show q < 8 by omega) (by decide) ((hs.r (by decide) (show q < 8 by omega)).trans (if_pos (show q < 8 by omega))) ?_
  refine r_aload_n (q := 10) dX11_keepMade_9 rfl rfl rfl ?_
  refine r_getr (q := 13) (some (8, 0)) ck11 dX11_keepMade_10 rfl (k := 7) (by decide) wt429 rfl (hs.e (by decide)) (hs.r (by decide) (by decide)) ?_
  refine r_callV (Mc := mX8_copy) (q := 16) (As := [zr 8 0]) (st := []) ck8 dX11_keepMade_13 rfl rfl mkX8_copy wt707 wt708 wt709 rfl (Nat.le_of_ble_eq_true rfl) (Nat.le_of_ble_eq_true rfl) (by decide) (by decide) (by decide) (Or.inr ⟨Nat.le_of_ble_eq_true rfl, rfl, rfl⟩) (hs.e (show q + 3 < 19 by omega)) (ok_X8_copy (S := S) (e := e0) (n := n1) hs (by omega) p2 p3 hn1 hn19 (by omega) (i := 0) (by omega) (by omega) ht0 a2 a3 h0o ho) (fun r13 S13 hp13 => ?_)
  obtain ⟨rfl, hq13⟩ := hp13
  subst hq13
  have hs13 : Sd (tcp S (q + 3) 0 e0 n1) := sd_tcp (S := S) hs
  have hh1 : gI (tcp S (q + 3) 0 e0 n1) 11 0 10 = nI h := (tcp_x (by decide) (by omega) (by omega)).trans hh
  have hq1 : gI (tcp S (q + 3) 0 e0 n1) 11 0 11 = nI q := (tcp_x (by decide) (by omega) (by omega)).trans hq
  have hm1 : gI (tcp S (q + 3) 0 e0 n1) 8 11 1 = nI e1 := (tcp_x (by decide) (by omega) (by omega)).trans ht1
  have b2 : gN (tcp S (q + 3) 0 e0 n1) 902 0 = o := (gN_room8_x (by decide) (by omega)).trans a2
  have b3 : gN (tcp S (q + 3) 0 e0 n1) 903 0 = o := (gN_room8_x (by decide) (by omega)).trans a3
  have c2 : gN (tcp S (q + 3) 0 e0 n1) 902 11 = om := (gN_room8_x (by decide) (by omega)).trans m2
  have c3 : gN (tcp S (q + 3) 0 e0 n1) 903 11 = om := (gN_room8_x (by decide) (by omega)).trans m3
  show Ok _ _ _ [] _ _
  refine r_aload_n (q := 17) dX11_keepMade_16 rfl rfl rfl ?_
  refine r_aload_n (q := 18) dX11_keepMade_17 rfl rfl rfl ?_
  refine r_geti (q := 21) ck11 dX11_keepMade_18 rfl (k := 11) (by decide) wt433 (Or.inl rfl) (hs13.e (by decide)) ?_
  refine r_topi (y := nI q) hq1 ?_
  refine r_iconst (q := 22) (nI 1) dX11_keepMade_21 rfl (by decide) ?_
  refine r_iaddN (q := 23) dX11_keepMade_22 rfl ?_
  refine r_bipush (q := 25) (nI 8) dX11_keepMade_23 rfl (by decide) ?_
  refine r_iremN (q := 26) (by omega) (by omega) (by omega) dX11_keepMade_25 rfl ?_
  refine r_topi (y := nI p) (congrArg nI hp) ?_
  refine r_puti (q := 29) ck11 dX11_keepMade_26 rfl (k := 11) (by decide) wt433 (Or.inl rfl) rfl (hs13.e (by decide)) ?_
  refine r_aload_n (q := 30) dX11_keepMade_29 rfl rfl rfl ?_
  refine r_bipush (q := 32) (nI 8) dX11_keepMade_30 rfl (by decide) ?_
  refine r_aload_n (q := 33) dX11_keepMade_32 rfl rfl rfl ?_
  refine r_geti (q := 36) ck11 dX11_keepMade_33 rfl (k := 10) (by decide) wt432 (Or.inl rfl) (hs13.e (by decide)) ?_
  refine r_topi (y := gI (tcp S (q + 3) 0 e0 n1) 11 0 10) (by simp [gI_sI, gJ_sJ, gI_sJ, gJ_sI]) ?_
  refine r_topi (y := nI h) hh1 ?_
  refine r_iconst (q := 37) (nI 1) dX11_keepMade_36 rfl (by decide) ?_
  refine r_iaddN (q := 38) dX11_keepMade_37 rfl ?_
  refine r_mmin (q := 41) dX11_keepMade_38 rfl wt711 wt512 wt15 wt513 (Nat.le_of_ble_eq_true rfl) (by decide) (by decide) ?_
  refine r_topi (y := nI (min 8 (h + 1))) (nI_min (by omega) (by omega)) ?_
  refine r_puti (q := 44) ck11 dX11_keepMade_41 rfl (k := 10) (by decide) wt432 (Or.inl rfl) rfl (hs13.e (by decide)) ?_
  refine r_aload_n (q := 45) dX11_keepMade_44 rfl rfl rfl ?_
  refine r_getr (q := 48) (some (8, 0)) ck11 dX11_keepMade_45 rfl (k := 7) (by decide) wt429 rfl (hs13.e (by decide)) (hs13.r (by decide) (by decide)) ?_
  refine r_aload_n (q := 49) dX11_keepMade_48 rfl rfl rfl ?_
  refine r_getr (q := 52) (some (8, 11)) ck11 dX11_keepMade_49 rfl (k := 12) (by decide) wt434 rfl (hs13.e (by decide)) (hs13.r (by decide) (by decide)) ?_
  refine r_callV (Mc := mX8_copy) (q := 55) (As := [zr 8 11]) (st := []) ck8 dX11_keepMade_52 rfl rfl mkX8_copy wt707 wt708 wt709 rfl (Nat.le_of_ble_eq_true rfl) (Nat.le_of_ble_eq_true rfl) (by decide) (by decide) (by decide) (Or.inr ⟨Nat.le_of_ble_eq_true rfl, rfl, rfl⟩) (hs13.e (by decide)) (ok_X8_copy (S := sI (sI (tcp S (q + 3) 0 e0 n1) 11 0 11 (nI p)) 11 0 10 (nI (min 8 (h + 1)))) (e := e1) (n := o) hs13 (by omega) b2 b3 (by omega) ho he1 (i := 11) (by omega) (by omega) (by rw [gI_sI, if_neg (fun z => absurd z.1 (by decide)), gI_sI, if_neg (fun z => absurd z.1 (by decide))]; exact hm1) c2 c3 h1o hom) (fun r52 S52 hp52 => ?_)
  obtain ⟨rfl, hq52⟩ := hp52
  subst hq52
  have hs52 : Sd (tcp (sI (sI (tcp S (q + 3) 0 e0 n1) 11 0 11 (nI p)) 11 0 10 (nI (min 8 (h + 1)))) 0 11 e1 o) := sd_tcp (S := sI (sI (tcp S (q + 3) 0 e0 n1) 11 0 11 (nI p)) 11 0 10 (nI (min 8 (h + 1)))) hs13
  show Ok _ _ _ [] _ _
  refine r_aload_n (q := 56) dX11_keepMade_55 rfl rfl rfl ?_
  refine r_getr (q := 59) (some (8, 0)) ck11 dX11_keepMade_56 rfl (k := 7) (by decide) wt429 rfl (hs52.e (by decide)) (hs52.r (by decide) (by decide)) ?_
  refine r_geti (q := 62) ck8 dX11_keepMade_59 rfl (k := 1) (by decide) wt67 (Or.inl rfl) (hs52.e (by decide)) ?_
  refine r_ireturn dX11_keepMade_62 rfl ?_
  exact ⟨congrArg (fun z => some (zi z)) tcp_1, rfl⟩

