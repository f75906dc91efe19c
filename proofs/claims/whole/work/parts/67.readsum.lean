/-- a sum, and the rest of the tokens -/
def sumQ (nm e : Nat → Nat) (A P wn0 ls : Nat) (ts : List zTk) : zEr ⊕ ((Nat × List zT) × List zTk) := termsP nm e A P wn0 ls (if (hdT ts).1 = 45 then adv ts else ts).length ((hdT ts).1 == 45) 0 [] (if (hdT ts).1 = 45 then adv ts else ts)
theorem Rc.n {S : zS} {ts : List zTk} (h : Rc S ts) : ∃ tn, gI S 4 0 3 = nI tn ∧ tn ≤ 941 ∧ ts.length ≤ tn := by
  obtain ⟨all, i, a1, a2, a3, a4, _⟩ := h
  exact ⟨all.length, a4, a2, by rw [a3, List.length_drop]; omega⟩

set_option maxRecDepth 100000 in
theorem ok_readTerms {nm e : Nat → Nat} {A s : Nat} (hs4 : s < 4) (hE : Eok A e) (hnb : ∀ a, a < A → nm a < 2 ^ 48) (hd : ∀ a b, a < A → b < A → nm a = nm b → a = b) {P : Nat} (hP2 : 2 ≤ P) (hP : P ≤ 97) {j : Nat} (hj : j < 19) {S : zS} (hs : Sd S) (hw : Wn S s A nm e) (hp0 : gI S 9 s 0 = nI P) {ts : List zTk} (hr : Rc S ts) (hkt : Tks ts) (hlk : Lk ts) (hTL : TL S j) {wn0 ls : Nat} (hw7 : wn0 ≤ 7) (hls : ls ≤ 2) : Ok mX4_readTerms 0 (ent 10 [zr 4 0, zr 9 s, zr 8 j, zi (nI wn0), zi (nI ls)]) [] S (fun r S1 => TmR S S1 j A P e r (sumQ nm e A P wn0 ls ts)) := by
  obtain ⟨f5, f6, f7⟩ := hr.f
  obtain ⟨t1, t2, t3, t4⟩ := hkt.hd
  obtain ⟨tn, n1, n2, n3⟩ := hr.n
  unfold sumQ
  show Ok mX4_readTerms 0 [some (zr 4 0), some (zr 9 s), some (zr 8 j), some (zi (nI wn0)), some (zi (nI ls)), none, none, none, none, none] [] S _
  refine r_aload_n (q := 1) dX4_readTerms_0 rfl rfl rfl ?_
  refine r_geti (q := 4) ck4 dX4_readTerms_1 rfl (k := 5) (by decide) wt126 (Or.inl rfl) (hs.e (by decide)) ?_
  refine r_topi (y := nI ((hdT ts).1)) f5 ?_
  refine r_bipush (q := 6) (nI 45) dX4_readTerms_4 rfl (by decide) ?_
  refine r_icmp_neN (q := 9) (t := 13) (by omega) (by omega) dX4_readTerms_6 (by decide) rfl (fun h6 => ?_) (fun h6 => ?_)
  · skip
    refine r_iconst (q := 14) (nI 0) dX4_readTerms_13 rfl (by decide) ?_
    refine r_istore (q := 16) (L' := [some (zr 4 0), some (zr 9 s), some (zr 8 j), some (zi (nI wn0)), some (zi (nI ls)), some (zi (nI 0)), none, none, none, none]) dX4_readTerms_14 rfl (by decide) rfl ?_
    refine r_iload (q := 18) dX4_readTerms_16 rfl rfl ?_
    refine r_if_eqN (q := 21) (t := 25) (by omega) dX4_readTerms_18 (by decide) rfl (fun h18 => ?_) (fun h18 => absurd h18 (by omega))
    refine r_iconst (q := 26) (nI 0) dX4_readTerms_25 rfl (by decide) ?_
    refine r_istore (q := 28) (L' := [some (zr 4 0), some (zr 9 s), some (zr 8 j), some (zi (nI wn0)), some (zi (nI ls)), some (zi (nI 0)), some (zi (nI 0)), none, none, none]) dX4_readTerms_26 rfl (by decide) rfl ?_
    rw [if_neg h6, show ((hdT ts).1 == 45) = false by simp [h6]]
    exact lp_terms hs4 hE hnb hd hP2 hP hj hw7 hls n2 ts.length S false 0 [] ts 0 (by omega) (Nat.le_refl _) hs hw hp0 n1 hr hkt hlk (Nat.le_refl _) (Or.inl ⟨rfl, rfl, rfl, hTL⟩)
  · skip
    refine r_iconst (q := 10) (nI 1) dX4_readTerms_9 rfl (by decide) ?_
    refine r_goto (q := 14) dX4_readTerms_10 (by decide) ?_
    refine r_istore (q := 16) (L' := [some (zr 4 0), some (zr 9 s), some (zr 8 j), some (zi (nI wn0)), some (zi (nI ls)), some (zi (nI 1)), none, none, none, none]) dX4_readTerms_14 rfl (by decide) rfl ?_
    refine r_iload (q := 18) dX4_readTerms_16 rfl rfl ?_
    refine r_if_eqN (q := 21) (t := 25) (by omega) dX4_readTerms_18 (by decide) rfl (fun h18 => absurd h18 (by omega)) (fun h18 => ?_)
    refine r_aload_n (q := 22) dX4_readTerms_21 rfl rfl rfl ?_
    refine r_callV (Mc := mX4_advance) (q := 25) (As := []) (st := []) ck4 dX4_readTerms_22 rfl rfl mkX4_advance wt529 wt531 wp4 rfl (Nat.le_of_ble_eq_true rfl) (Nat.le_of_ble_eq_true rfl) (by decide) (by decide) (by decide) (Or.inl rfl) (hs.e (by decide)) (ok_advance hs hr) (fun r22 S22 hp22 => ?_)
    obtain ⟨rfl, a1, a2⟩ := hp22
    show Ok _ _ _ [] _ _
    refine r_iconst (q := 26) (nI 0) dX4_readTerms_25 rfl (by decide) ?_
    refine r_istore (q := 28) (L' := [some (zr 4 0), some (zr 9 s), some (zr 8 j), some (zi (nI wn0)), some (zi (nI ls)), some (zi (nI 1)), some (zi (nI 0)), none, none, none]) dX4_readTerms_26 rfl (by decide) rfl ?_
    rw [if_pos h6, show ((hdT ts).1 == 45) = true by simp [h6]]
    have l1 := adv_len ts
    have fA : Fg (tTm j) S S22 := a1.fg hs (fun a b k z => Or.inr (Or.inr (tTr_ca a b k (tCa_sk a b k (tSk_av a b k z)))))
    exact Ok.mono (lp_terms hs4 hE hnb hd hP2 hP hj hw7 hls n2 (adv ts).length S22 true 0 [] (adv ts) 0 (by omega) (Nat.le_refl _) (hs.fr a1) (hw.fr a1 (fun _ _ => ⟨rfl, rfl, rfl⟩)) ((a1.1 _ _ _ rfl).trans hp0) ((a1.1 _ _ _ rfl).trans n1) a2 hkt.adv hlk.ad (Nat.le_refl _) (Or.inl ⟨rfl, rfl, rfl, hTL.cong (gN_22 a1.2.2) (gN_22 a1.2.2) (a1.1 _ _ _ rfl)⟩)) (fun r S1 z => TmR.pre z fA (a1.1 _ _ _ rfl))

theorem termsP_n {nm e : Nat → Nat} {A P wn0 ls : Nat} (hE : Eok A e) : ∀ (f : Nat) (mi : Bool) (n0 : Nat) (acc : List zT) (ts : List zTk) (x : Nat × List zT) (ts' : List zTk), Tks ts → Lk ts → n0 ≠ 0 → termsP nm e A P wn0 ls f mi n0 acc ts = Sum.inr (x, ts') → x.1 = n0
  | 0, _, _, _, _, _, _, _, _, _, h => by cases h
  | f + 1, mi, n0, acc, ts, x, ts', hk, hlk, hn, h => by
    rw [termsP] at h
    have hk1 := tks_if hk ((hdT ts).1 = 3)
    have hlk1 := lk_if hlk ((hdT ts).1 = 3)
    cases q : treeP nm e A 480 [] [] 0 (if (hdT ts).1 = 3 then adv ts else ts) with
    | inl y => rw [q] at h; cases h
    | inr y =>
      obtain ⟨t, ts2⟩ := y
      obtain ⟨ht, hl1, hl7, hl13, hk2, hlk2, hlt2⟩ := treeP_tr hE hk1 hlk1 q
      rw [q] at h
      simp only at h
      by_cases hb : lvs t ≠ (if n0 = 0 then (if wn0 = 0 then lvs t else wn0) else n0) ∨ lvs t < ls
      · rw [if_pos hb] at h; cases h
      · rw [if_neg hb] at h
        rw [if_neg hn] at hb
        by_cases hc : (hdT ts2).1 = 43 ∨ (hdT ts2).1 = 45
        · rw [if_pos hc] at h
          rw [termsP_n hE f _ _ _ _ _ _ hk2.adv hlk2.ad (by omega) h]; omega
        · rw [if_neg hc] at h
          cases h; show lvs t = n0; omega
def sumA (nm e : Nat → Nat) (A P : Nat) (ts : List zTk) : zEr ⊕ (Nat × List zT) := match sumQ nm e A P 0 1 ts with
  | Sum.inl x => Sum.inl x
  | Sum.inr (na, ts') => if (hdT ts').1 = 0 then Sum.inr na else Sum.inl (1, (hdT ts').2.1)
def SaR (S S1 : zS) (A P : Nat) (e : Nat → Nat) (r : Option zV) : zEr ⊕ (Nat × List zT) → Prop
  | Sum.inl x => r = some (zi (nI 0)) ∧ Fg (tTm 12) S S1 ∧ Fl S1 x ∧ TL S1 12
  | Sum.inr (n, acc) => r = some (zi (nI 1)) ∧ Fg (tTm 12) S S1 ∧ gI S1 4 0 14 = gI S 4 0 14 ∧ Sr S1 12 A P e n acc
theorem termsP_tks {nm e : Nat → Nat} {A P wn0 ls : Nat} (hE : Eok A e) : ∀ (f : Nat) (mi : Bool) (n0 : Nat) (acc : List zT) (ts : List zTk) (x : Nat × List zT) (ts' : List zTk), Tks ts → Lk ts → termsP nm e A P wn0 ls f mi n0 acc ts = Sum.inr (x, ts') → Tks ts' ∧ Lk ts' ∧ ts'.length < ts.length ∧ 1 ≤ x.1 ∧ x.1 ≤ 7 ∧ x.2.length ≤ acc.length + ts.length ∧ ls ≤ x.1 ∧ (n0 = 0 → wn0 ≠ 0 → x.1 = wn0)
  | 0, _, _, _, _, _, _, _, _, h => by cases h
  | f + 1, mi, n0, acc, ts, x, ts', hk, hlk, h => by
    rw [termsP] at h
    have hk1 := tks_if hk ((hdT ts).1 = 3)
    have hlk1 := lk_if hlk ((hdT ts).1 = 3)
    have hle1 := len_if ts ((hdT ts).1 = 3)
    cases q : treeP nm e A 480 [] [] 0 (if (hdT ts).1 = 3 then adv ts else ts) with
    | inl y => rw [q] at h; cases h
    | inr y =>
      obtain ⟨t, ts2⟩ := y
      obtain ⟨ht, hl1, hl7, hl13, hk2, hlk2, hlt2⟩ := treeP_tr hE hk1 hlk1 q
      have zl := adv_len ts2
      rw [q] at h
      simp only at h
      by_cases hb : lvs t ≠ (if n0 = 0 then (if wn0 = 0 then lvs t else wn0) else n0) ∨ lvs t < ls
      · rw [if_pos hb] at h; cases h
      · rw [if_neg hb] at h
        have hn : n0 = 0 → wn0 ≠ 0 → lvs t = wn0 := fun a b => by
          rw [if_pos a, if_neg b] at hb; omega
        by_cases hc : (hdT ts2).1 = 43 ∨ (hdT ts2).1 = 45
        · rw [if_pos hc] at h
          have := termsP_tks hE f _ _ _ _ _ _ hk2.adv hlk2.ad h
          obtain ⟨c1, c2, c3, c4, c5, c6, c7, c8⟩ := this
          rw [List.length_append, List.length_singleton] at c6
          refine ⟨c1, c2, by omega, c4, c5, by omega, c7, fun a b => ?_⟩
          have := termsP_n hE f _ _ _ _ _ _ hk2.adv hlk2.ad (show lvs t ≠ 0 by omega) h
          rw [this]; exact hn a b
        · rw [if_neg hc] at h
          cases h
          refine ⟨hk2, hlk2, by omega, hl1, hl7, ?_, by show ls ≤ lvs t; omega, hn⟩
          rw [List.length_append, List.length_singleton]; omega

set_option maxRecDepth 100000 in
theorem ok_readSumAlone {nm e : Nat → Nat} {A s : Nat} (hs4 : s < 4) (hE : Eok A e) (hnb : ∀ a, a < A → nm a < 2 ^ 48) (hd : ∀ a b, a < A → b < A → nm a = nm b → a = b) {P : Nat} (hP2 : 2 ≤ P) (hP : P ≤ 97) {S : zS} (hs : Sd S) (hw : Wn S s A nm e) (hp0 : gI S 9 s 0 = nI P) {ts : List zTk} (hr : Rc S ts) (hkt : Tks ts) (hlk : Lk ts) (hTL : TL S 12) : Ok mX4_readSumAlone 0 (ent 2 [zr 4 0, zr 9 s]) [] S (fun r S1 => SaR S S1 A P e r (sumA nm e A P ts)) := by
  show Ok mX4_readSumAlone 0 [some (zr 4 0), some (zr 9 s)] [] S _
  unfold sumA
  cases q : sumQ nm e A P 0 1 ts with
  | inl x =>
    skip
    refine r_aload_n (q := 1) dX4_readSumAlone_0 rfl rfl rfl ?_
    refine r_aload_n (q := 2) dX4_readSumAlone_1 rfl rfl rfl ?_
    refine r_aload_n (q := 3) dX4_readSumAlone_2 rfl rfl rfl ?_
    refine r_getr (q := 6) (some (8, 12)) ck4 dX4_readSumAlone_3 rfl (k := 13) (by decide) wt134 rfl (hs.e (by decide)) (hs.r (by decide) (by decide)) ?_
    refine r_iconst (q := 7) (nI 0) dX4_readSumAlone_6 rfl (by decide) ?_
    refine r_iconst (q := 8) (nI 1) dX4_readSumAlone_7 rfl (by decide) ?_
    refine r_callV (Mc := mX4_readTerms) (q := 11) (As := [zr 9 s, zr 8 12, zi (nI 0), zi (nI 1)]) (st := []) ck4 dX4_readSumAlone_8 rfl rfl mkX4_readTerms wt582 wt584 wp11 rfl (Nat.le_of_ble_eq_true rfl) (Nat.le_of_ble_eq_true rfl) (by decide) (by decide) (by decide) (Or.inr ⟨Nat.le_of_ble_eq_true rfl, rfl, rfl⟩) (hs.e (by decide)) (ok_readTerms hs4 hE hnb hd hP2 hP (show 12 < 19 by omega) hs hw hp0 hr hkt hlk hTL (by omega) (by omega)) (fun r8 S8 hp8 => ?_)
    rw [q] at hp8
    obtain ⟨rfl, y1, y2, y3⟩ := hp8
    show Ok _ _ _ [zi (nI 0)] _ _
    refine r_if_neN (q := 14) (t := 16) (by omega) dX4_readSumAlone_11 (by decide) rfl (fun h11 => absurd h11 (by omega)) (fun h11 => ?_)
    refine r_iconst (q := 15) (nI 0) dX4_readSumAlone_14 rfl (by decide) ?_
    refine r_zreturn (by decide) dX4_readSumAlone_15 rfl ?_
    exact ⟨rfl, y1, y2, y3⟩
  | inr x =>
    obtain ⟨⟨n, acc⟩, ts'⟩ := x
    obtain ⟨c1, c2, c3, c4, c5, c6, c7, c8⟩ := termsP_tks hE _ _ _ _ _ _ _ (tks_if hkt ((hdT ts).1 = 45)) (lk_if hlk ((hdT ts).1 = 45)) q
    obtain ⟨t1, t2, t3, t4⟩ := c1.hd
    show Ok _ _ _ _ _ (fun r S1 => SaR S S1 A P e r (if (hdT ts').1 = 0 then Sum.inr (n, acc) else Sum.inl (1, (hdT ts').2.1)))
    refine r_aload_n (q := 1) dX4_readSumAlone_0 rfl rfl rfl ?_
    refine r_aload_n (q := 2) dX4_readSumAlone_1 rfl rfl rfl ?_
    refine r_aload_n (q := 3) dX4_readSumAlone_2 rfl rfl rfl ?_
    refine r_getr (q := 6) (some (8, 12)) ck4 dX4_readSumAlone_3 rfl (k := 13) (by decide) wt134 rfl (hs.e (by decide)) (hs.r (by decide) (by decide)) ?_
    refine r_iconst (q := 7) (nI 0) dX4_readSumAlone_6 rfl (by decide) ?_
    refine r_iconst (q := 8) (nI 1) dX4_readSumAlone_7 rfl (by decide) ?_
    refine r_callV (Mc := mX4_readTerms) (q := 11) (As := [zr 9 s, zr 8 12, zi (nI 0), zi (nI 1)]) (st := []) ck4 dX4_readSumAlone_8 rfl rfl mkX4_readTerms wt582 wt584 wp11 rfl (Nat.le_of_ble_eq_true rfl) (Nat.le_of_ble_eq_true rfl) (by decide) (by decide) (by decide) (Or.inr ⟨Nat.le_of_ble_eq_true rfl, rfl, rfl⟩) (hs.e (by decide)) (ok_readTerms hs4 hE hnb hd hP2 hP (show 12 < 19 by omega) hs hw hp0 hr hkt hlk hTL (by omega) (by omega)) (fun r8 S8 hp8 => ?_)
    rw [q] at hp8
    obtain ⟨rfl, y1, y2, y3, y4⟩ := hp8
    obtain ⟨f5, f6, f7⟩ := y3.f
    show Ok _ _ _ [zi (nI 1)] _ _
    refine r_if_neN (q := 14) (t := 16) (by omega) dX4_readSumAlone_11 (by decide) rfl (fun h11 => ?_) (fun h11 => absurd h11 (by omega))
    refine r_aload_n (q := 17) dX4_readSumAlone_16 rfl rfl rfl ?_
    refine r_geti (q := 20) ck4 dX4_readSumAlone_17 rfl (k := 5) (by decide) wt126 (Or.inl rfl) (y1.sd.e (by decide)) ?_
    refine r_topi (y := nI ((hdT ts').1)) f5 ?_
    refine r_if_eqN (q := 23) (t := 35) (by omega) dX4_readSumAlone_20 (by decide) rfl (fun h20 => ?_) (fun h20 => ?_)
    · skip
      refine r_iconst (q := 36) (nI 1) dX4_readSumAlone_35 rfl (by decide) ?_
      refine r_goto (q := 40) dX4_readSumAlone_36 (by decide) ?_
      refine r_zreturn (by decide) dX4_readSumAlone_40 rfl ?_
      rw [if_pos (by omega)]
      exact ⟨rfl, y1, y2, y4⟩
    · skip
      refine r_aload_n (q := 24) dX4_readSumAlone_23 rfl rfl rfl ?_
      refine r_iconst (q := 25) (nI 1) dX4_readSumAlone_24 rfl (by decide) ?_
      refine r_aload_n (q := 26) dX4_readSumAlone_25 rfl rfl rfl ?_
      refine r_geti (q := 29) ck4 dX4_readSumAlone_26 rfl (k := 6) (by decide) wt127 (Or.inl rfl) (y1.sd.e (by decide)) ?_
      refine r_topi (y := nI ((hdT ts').2.1)) f6 ?_
      refine r_callV (Mc := mX4_fail) (q := 32) (As := [zi (nI 1), zi (nI ((hdT ts').2.1))]) (st := []) ck4 dX4_readSumAlone_29 rfl rfl mkX4_fail wt550 wt552 wp7 rfl (Nat.le_of_ble_eq_true rfl) (Nat.le_of_ble_eq_true rfl) (by decide) (by decide) (by decide) (Or.inl rfl) (y1.sd.e (by decide)) (ok_fail y1.sd 1 (hdT ts').2.1) (fun r29 S29 hp29 => ?_)
      obtain ⟨rfl, w29, x29⟩ := hp29
      show Ok _ _ _ [zi (nI 0)] _ _
      refine r_if_eqN (q := 35) (t := 39) (by omega) dX4_readSumAlone_32 (by decide) rfl (fun h32 => ?_) (fun h32 => absurd h32 (by omega))
      refine r_iconst (q := 40) (nI 0) dX4_readSumAlone_39 rfl (by decide) ?_
      refine r_zreturn (by decide) dX4_readSumAlone_40 rfl ?_
      rw [if_neg (by omega)]
      exact ⟨rfl, y1.tr (w29.fg y1.sd (fun a b k z => Or.inr (Or.inr (tTr_ca a b k (tCa_sk a b k (tSk_fl a b k z)))))), x29, y4.2.1.tl.cong (gN_22 w29.2.2) (gN_22 w29.2.2) (w29.1 _ _ _ rfl)⟩

