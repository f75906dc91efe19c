set_option maxRecDepth 100000 in
theorem ok_X12_readSum {nm e : Nat → Nat} {A q nf : Nat} (hq : q ≤ 1) (hnf : nf ≤ 3) (hE : Eok A e) (hnb : ∀ a, a < A → nm a < 2 ^ 48) {bs : List Nat} {lim : Nat} (hbl : bs.length ≤ 940) (hlim : lim ≤ 940) {P : Nat} (hP2 : 2 ≤ P) (hP : P ≤ 97) {S : zS} (hs : Sd S) (hw : Wm S q nf A nm e) (hp0 : gI S 1322 0 (1173 * q) = nI P) {ts : List zTk} (hr : Rr S bs lim ts) (hkt : Tks ts) (hlk : Lk ts) (h901 : ts.length ≤ 901) {wn0 ls il : Nat} (hw7 : wn0 ≤ 7) (hil : il = 1 ∧ ls = 2 ∨ il = 0 ∧ ls = 1) : Ok mX12_readSum 0 (ent 6 [zr 12 0, zi (nI il), zi (nI wn0)]) [] S (fun r S1 => SmR S S1 bs lim P r (sumQ nm e A P wn0 ls ts)) := by
  unfold sumQ
  show Ok mX12_readSum 0 [some (zr 12 0), some (zi (nI il)), some (zi (nI wn0)), none, none, none] [] S _
  by_cases h45 : (hdT ts).1 = 45
  · rw [if_pos h45, show ((hdT ts).1 == 45) = true by simp [h45]]
    have l1 := adv_len ts
    refine r_aload_n (q := 1) dX12_readSum_0 rfl rfl rfl ?_
    refine r_getr (q := 4) (some (1322, 0)) ck12 dX12_readSum_1 rfl (k := 22) (by decide) wt1300 rfl (hs.e (by decide)) (hs.r (by decide) (by decide)) ?_
    refine r_sipush (q := 7) (nI 1173) dX12_readSum_4 rfl (by decide) ?_
    refine r_aload_n (q := 8) dX12_readSum_7 rfl rfl rfl ?_
    refine r_geti (q := 11) ck12 dX12_readSum_8 rfl (k := 54) (by decide) wt1332 (Or.inl rfl) (hs.e (by decide)) ?_
    refine r_topi (y := nI q) hw.1 ?_
    refine r_imulN (q := 12) dX12_readSum_11 rfl ?_
    refine r_iconst (q := 13) (nI 0) dX12_readSum_12 rfl (by decide) ?_
    refine r_iaddN (q := 14) dX12_readSum_13 rfl ?_
    refine r_topi (y := nI (1173 * q)) rfl ?_
    refine r_ialdN (q := 15) 2346 (by decide) rfl dX12_readSum_14 rfl (hs.e (by decide)) (hs.n rfl (by decide)) (by omega) (by decide) ?_
    refine r_topi (y := nI P) hp0 ?_
    refine r_istore_n (q := 16) (L' := [some (zr 12 0), some (zi (nI il)), some (zi (nI wn0)), some (zi (nI P)), none, none]) dX12_readSum_15 rfl rfl (by decide) rfl ?_
    refine r_aload_n (q := 17) dX12_readSum_16 rfl rfl rfl ?_
    refine r_bipush (q := 19) (nI 45) dX12_readSum_17 rfl (by decide) ?_
    refine r_callV (Mc := mX12_isSign) (q := 22) (As := [zi (nI 45)]) (st := []) ck12 dX12_readSum_19 rfl rfl mkX12_isSign wt1621 wt1623 wp78 rfl (Nat.le_of_ble_eq_true rfl) (Nat.le_of_ble_eq_true rfl) (by decide) (by decide) (by decide) (Or.inl rfl) (hs.e (by decide)) (ok_isSignR hs hbl hlim hr hkt (c := 45) (by omega) (by omega)) (fun r19 S19 hp19 => ?_)
    obtain ⟨rfl, hq19⟩ := hp19
    rw [hq19]
    rw [if_pos h45]
    show Ok _ _ _ [zi (nI 1)] _ _
    refine r_istore (q := 24) (L' := [some (zr 12 0), some (zi (nI il)), some (zi (nI wn0)), some (zi (nI P)), some (zi (nI 1)), none]) dX12_readSum_22 rfl (by decide) rfl ?_
    refine r_iload (q := 26) dX12_readSum_24 rfl rfl ?_
    refine r_if_eqN (q := 29) (t := 33) (by omega) dX12_readSum_26 (by decide) rfl (fun h26 => absurd h26 (by omega)) (fun h26 => ?_)
    refine r_aload_n (q := 30) dX12_readSum_29 rfl rfl rfl ?_
    refine r_callV (Mc := mX12_next) (q := 33) (As := []) (st := []) ck12 dX12_readSum_30 rfl rfl mkX12_next wt1573 wt1575 wp70 rfl (Nat.le_of_ble_eq_true rfl) (Nat.le_of_ble_eq_true rfl) (by decide) (by decide) (by decide) (Or.inl rfl) (hs.e (by decide)) (ok_nextR hs hbl hlim hr) (fun r30 S30 hp30 => ?_)
    obtain ⟨rfl, a1, a2⟩ := hp30
    show Ok _ _ _ [] _ _
    refine r_aload_n (q := 34) dX12_readSum_33 rfl rfl rfl ?_
    refine r_iconst (q := 35) (nI 0) dX12_readSum_34 rfl (by decide) ?_
    refine r_callV (Mc := mX12_noSum) (q := 38) (As := [zi (nI 0)]) (st := []) ck12 dX12_readSum_35 rfl rfl mkX12_noSum wt1625 wt1627 wp79 rfl (Nat.le_of_ble_eq_true rfl) (Nat.le_of_ble_eq_true rfl) (by decide) (by decide) (by decide) (Or.inl rfl) ((hs.fr a1).e (by decide)) (ok_X12_noSum (hs.fr a1) (nI 0)) (fun r35 S35 hp35 => ?_)
    obtain ⟨rfl, hq35⟩ := hp35
    rw [hq35]
    show Ok _ _ _ [] _ _
    have f0 : Fr tRs S30 (sI (sI S30 12 0 47 (nI 0)) 12 0 48 (nI 0)) := (Fr.rf.i rfl).i rfl
    have gx : ∀ a b k, ¬ (a = 12 ∧ b = 0 ∧ (k = 47 ∨ k = 48)) → gI (sI (sI S30 12 0 47 (nI 0)) 12 0 48 (nI 0)) a b k = gI S30 a b k := fun a b k q1 => by rw [gI_sI, if_neg (by omega), gI_sI, if_neg (by omega)]
    have hw0 : Wm S30 q nf A nm e := hw.fr a1 (fun _ => ⟨rfl, rfl, rfl, rfl⟩)
    have q4 := lp_rsum hq hnf hE hnb hbl hlim hP2 hP hw7 hil (adv ts).length (sI (sI S30 12 0 47 (nI 0)) 12 0 48 (nI 0)) true 0 [] (adv ts) (Nat.le_refl _) (by simp; omega) (show Sd S30 from hs.fr a1) ⟨(gx _ _ _ (by omega)).trans hw0.1, (gx _ _ _ (by omega)).trans hw0.2.1, (gx _ _ _ (by omega)).trans hw0.2.2.1, fun a ha => ⟨(gx _ _ _ (by omega)).trans (hw0.2.2.2 a ha).1, (hw0.2.2.2 a ha).2⟩⟩ (a2.cong (fun k => gx _ _ _ (by omega)) (fun k hk => gx _ _ _ (by omega)) rfl) hkt.adv hlk.ad (by rw [gI_sI, if_pos ⟨rfl, rfl, rfl⟩]) (by omega) (fun z => absurd rfl z) (fun _ => rfl) ⟨by rw [gI_sI, if_neg (by omega), gI_sI, if_pos ⟨rfl, rfl, rfl⟩]; rfl, fun k hk => absurd hk (by simp [adds])⟩ (fun p hp => absurd hp List.not_mem_nil)
    exact Ok.mono q4 (fun r S1 z => SmR.pre z ((a1.mono tRs_b).tr f0) ((gx _ _ _ (by omega)).trans (a1.1 _ _ _ rfl)))
  · rw [if_neg h45, show ((hdT ts).1 == 45) = false by simp [h45]]
    refine r_aload_n (q := 1) dX12_readSum_0 rfl rfl rfl ?_
    refine r_getr (q := 4) (some (1322, 0)) ck12 dX12_readSum_1 rfl (k := 22) (by decide) wt1300 rfl (hs.e (by decide)) (hs.r (by decide) (by decide)) ?_
    refine r_sipush (q := 7) (nI 1173) dX12_readSum_4 rfl (by decide) ?_
    refine r_aload_n (q := 8) dX12_readSum_7 rfl rfl rfl ?_
    refine r_geti (q := 11) ck12 dX12_readSum_8 rfl (k := 54) (by decide) wt1332 (Or.inl rfl) (hs.e (by decide)) ?_
    refine r_topi (y := nI q) hw.1 ?_
    refine r_imulN (q := 12) dX12_readSum_11 rfl ?_
    refine r_iconst (q := 13) (nI 0) dX12_readSum_12 rfl (by decide) ?_
    refine r_iaddN (q := 14) dX12_readSum_13 rfl ?_
    refine r_topi (y := nI (1173 * q)) rfl ?_
    refine r_ialdN (q := 15) 2346 (by decide) rfl dX12_readSum_14 rfl (hs.e (by decide)) (hs.n rfl (by decide)) (by omega) (by decide) ?_
    refine r_topi (y := nI P) hp0 ?_
    refine r_istore_n (q := 16) (L' := [some (zr 12 0), some (zi (nI il)), some (zi (nI wn0)), some (zi (nI P)), none, none]) dX12_readSum_15 rfl rfl (by decide) rfl ?_
    refine r_aload_n (q := 17) dX12_readSum_16 rfl rfl rfl ?_
    refine r_bipush (q := 19) (nI 45) dX12_readSum_17 rfl (by decide) ?_
    refine r_callV (Mc := mX12_isSign) (q := 22) (As := [zi (nI 45)]) (st := []) ck12 dX12_readSum_19 rfl rfl mkX12_isSign wt1621 wt1623 wp78 rfl (Nat.le_of_ble_eq_true rfl) (Nat.le_of_ble_eq_true rfl) (by decide) (by decide) (by decide) (Or.inl rfl) (hs.e (by decide)) (ok_isSignR hs hbl hlim hr hkt (c := 45) (by omega) (by omega)) (fun r19 S19 hp19 => ?_)
    obtain ⟨rfl, hq19⟩ := hp19
    rw [hq19]
    rw [if_neg h45]
    show Ok _ _ _ [zi (nI 0)] _ _
    refine r_istore (q := 24) (L' := [some (zr 12 0), some (zi (nI il)), some (zi (nI wn0)), some (zi (nI P)), some (zi (nI 0)), none]) dX12_readSum_22 rfl (by decide) rfl ?_
    refine r_iload (q := 26) dX12_readSum_24 rfl rfl ?_
    refine r_if_eqN (q := 29) (t := 33) (by omega) dX12_readSum_26 (by decide) rfl (fun h26 => ?_) (fun h26 => absurd h26 (by omega))
    refine r_aload_n (q := 34) dX12_readSum_33 rfl rfl rfl ?_
    refine r_iconst (q := 35) (nI 0) dX12_readSum_34 rfl (by decide) ?_
    refine r_callV (Mc := mX12_noSum) (q := 38) (As := [zi (nI 0)]) (st := []) ck12 dX12_readSum_35 rfl rfl mkX12_noSum wt1625 wt1627 wp79 rfl (Nat.le_of_ble_eq_true rfl) (Nat.le_of_ble_eq_true rfl) (by decide) (by decide) (by decide) (Or.inl rfl) (hs.e (by decide)) (ok_X12_noSum hs (nI 0)) (fun r35 S35 hp35 => ?_)
    obtain ⟨rfl, hq35⟩ := hp35
    rw [hq35]
    show Ok _ _ _ [] _ _
    have f0 : Fr tRs S (sI (sI S 12 0 47 (nI 0)) 12 0 48 (nI 0)) := (Fr.rf.i rfl).i rfl
    have gx : ∀ a b k, ¬ (a = 12 ∧ b = 0 ∧ (k = 47 ∨ k = 48)) → gI (sI (sI S 12 0 47 (nI 0)) 12 0 48 (nI 0)) a b k = gI S a b k := fun a b k q1 => by rw [gI_sI, if_neg (by omega), gI_sI, if_neg (by omega)]
    have hw0 := hw
    have q4 := lp_rsum hq hnf hE hnb hbl hlim hP2 hP hw7 hil ts.length (sI (sI S 12 0 47 (nI 0)) 12 0 48 (nI 0)) false 0 [] ts (Nat.le_refl _) (by simp; omega) hs ⟨(gx _ _ _ (by omega)).trans hw0.1, (gx _ _ _ (by omega)).trans hw0.2.1, (gx _ _ _ (by omega)).trans hw0.2.2.1, fun a ha => ⟨(gx _ _ _ (by omega)).trans (hw0.2.2.2 a ha).1, (hw0.2.2.2 a ha).2⟩⟩ (hr.cong (fun k => gx _ _ _ (by omega)) (fun k hk => gx _ _ _ (by omega)) rfl) hkt hlk (by rw [gI_sI, if_pos ⟨rfl, rfl, rfl⟩]) (by omega) (fun z => absurd rfl z) (fun _ => rfl) ⟨by rw [gI_sI, if_neg (by omega), gI_sI, if_pos ⟨rfl, rfl, rfl⟩]; rfl, fun k hk => absurd hk (by simp [adds])⟩ (fun p hp => absurd hp List.not_mem_nil)
    exact Ok.mono q4 (fun r S1 z => SmR.pre z (f0) (gx _ _ _ (by omega)))

/-- the tape of both sides -/
def TapeR (S : zS) (bs : List Nat) : Prop := bs.length ≤ 940 ∧ gI S 11 0 1 = nI bs.length ∧ gI S 12 0 2 = nI bs.length ∧ Bs S 1200 bs ∧ Bs S 1301 bs
theorem lex_len {bs : List Nat} {lim : Nat} (h : lim ≤ 900) : (lexA bs lim 0).length ≤ 901 := by
  have := lexA_len (bs := bs) (lim := lim) (min bs.length lim) 0 (by omega)
  omega
theorem sumA_q {nm e : Nat → Nat} {A P : Nat} {ts : List zTk} {x : zEr} (h : sumA nm e A P ts = Sum.inl x) : sumQ nm e A P 0 1 ts = Sum.inl x ∨ ∃ na ts', sumQ nm e A P 0 1 ts = Sum.inr (na, ts') ∧ (hdT ts').1 ≠ 0 ∧ x = (1, (hdT ts').2.1) := by
  unfold sumA at h
  cases q : sumQ nm e A P 0 1 ts with
  | inl y => rw [q] at h; cases h; exact Or.inl rfl
  | inr y =>
    obtain ⟨na, ts'⟩ := y
    rw [q] at h
    simp only at h
    split at h
    · cases h
    · rename_i hn; cases h; exact Or.inr ⟨na, ts', rfl, hn, rfl⟩
theorem sumA_r {nm e : Nat → Nat} {A P : Nat} {ts : List zTk} {na : Nat × List zT} (h : sumA nm e A P ts = Sum.inr na) : ∃ ts', sumQ nm e A P 0 1 ts = Sum.inr (na, ts') ∧ (hdT ts').1 = 0 := by
  unfold sumA at h
  cases q : sumQ nm e A P 0 1 ts with
  | inl y => rw [q] at h; cases h
  | inr y =>
    obtain ⟨nb, ts'⟩ := y
    rw [q] at h
    simp only at h
    split at h
    · rename_i hn; cases h; exact ⟨ts', rfl, hn⟩
    · cases h
theorem rkt_0 {k : Nat} : rkt k = 0 ↔ k = 0 := by
  unfold rkt
  split
  · omega
  · split
    · omega
    · split
      · omega
      · split <;> omega
theorem wn_lt {W : zWd} (hW : Wok W) : ∀ a, a < wA W → wn W a < 2 ^ 48 := fun a ha => (hW.2.2.1.2.1 a ha).1
theorem wn_inj {W : zWd} (hW : Wok W) : ∀ a b, a < wA W → b < wA W → wn W a = wn W b → a = b := fun a b ha hb h => by
  rcases Nat.lt_trichotomy a b with g | g | g
  · exact absurd h (hW.2.2.1.2.2 a b g hb)
  · exact g
  · exact absurd h.symm (hW.2.2.1.2.2 b a g ha)
/-- what the reference touches when it reads a sum -/
def tOwn (a b k : Nat) : Prop := tRef a b k ∨ tRs a b k = true ∨ a = 12 ∧ b = 0 ∧ (k = 2 ∨ k = 3 ∨ k = 4 ∨ k = 5 ∨ k = 13 ∨ k = 53 ∨ k = 54)
def OwR (S S1 : zS) (bs : List Nat) (P : Nat) (r : Option zV) : zEr ⊕ (Nat × List zT) → Prop
  | Sum.inl x => r = some (zi (nI 0)) ∧ Fg tOwn S S1 ∧ Fq S1 x ∧ gI S1 12 0 2 = nI 0 ∧ OwS S S1
  | Sum.inr (n, acc) => r = some (zi (nI 1)) ∧ Fg tOwn S S1 ∧ gI S1 12 0 13 = nI 0 ∧ gI S1 12 0 2 = nI 0 ∧ OwS S S1 ∧ gI S1 12 0 48 = nI n ∧ Rz S1 (cl (adds P 1 [] acc))
theorem OwS.rs {S T T1 : zS} (h : OwS S T) (f : Fr tRs T T1) : OwS S T1 := by
  have e1 : gI T1 12 0 33 = gI T 12 0 33 := f.1 _ _ _ rfl
  have e2 : ∀ k, gI T1 1322 0 k = gI T 1322 0 k := fun k => f.1 _ _ _ rfl
  have e3 : gI T1 1323 0 0 = gI T 1323 0 0 := f.1 _ _ _ rfl
  rcases h with ⟨h1, h2, h3, h4⟩ | ⟨h1, h2, h3, h4⟩
  · exact Or.inl ⟨h1, e1.trans h2, fun k hk => (e2 k).trans (h3 k hk), e3.trans h4⟩
  · exact Or.inr ⟨h1, e1.trans h2, e3.trans h3, fun k hk => (e2 k).trans (h4 k hk)⟩

set_option maxRecDepth 100000 in
theorem ok_readOwn {S : zS} (hs : Sd S) {W : zWd} (hO : Cw S) (hW : Wok W) (hR : wqR W (fun k => gI S 1306 0 k) (fun i => gJ S 1308 0 i)) {bs : List Nat} (hbl : bs.length ≤ 940) (h2 : gI S 12 0 2 = nI bs.length) (hb : Bs S 1301 bs) : Ok mX12_readOwn 0 (ent 1 [zr 12 0]) [] S (fun r S1 => OwR S S1 bs (wP W) r (sumA (wn W) (we W) (wA W) (wP W) (lexA bs 400 0))) := by
  have hP2 := hW.1.1
  have hP97 := hW.1.2.1
  have htk : Tks (lexA bs 400 0) := lex_tks hb.2 hbl
  have hlk : Lk (lexA bs 400 0) := lex_lk _ _
  show Ok mX12_readOwn 0 [some (zr 12 0)] [] S _
  unfold sumA
  cases qs : sumQ (wn W) (we W) (wA W) (wP W) 0 1 (lexA bs 400 0) with
  | inl x =>
    skip
    refine r_aload_n (q := 1) dX12_readOwn_0 rfl rfl rfl ?_
    refine r_sipush (q := 4) (nI 400) dX12_readOwn_1 rfl (by decide) ?_
    refine r_callV (Mc := mX12_taken) (q := 7) (As := [zi (nI 400)]) (st := []) ck12 dX12_readOwn_4 rfl rfl mkX12_taken wt1565 wt1567 wp68 rfl (Nat.le_of_ble_eq_true rfl) (Nat.le_of_ble_eq_true rfl) (by decide) (by decide) (by decide) (Or.inl rfl) (hs.e (by decide)) (ok_X12_taken hs (nI 400)) (fun r4 S4 hp4 => ?_)
    obtain ⟨rfl, hq4⟩ := hp4
    rw [h2] at hq4
    rw [hq4]
    show Ok _ _ _ [] _ _
    refine r_aload_n (q := 8) dX12_readOwn_7 rfl rfl rfl ?_
    refine r_iconst (q := 9) (nI 0) dX12_readOwn_8 rfl (by decide) ?_
    refine r_puti (q := 12) ck12 dX12_readOwn_9 rfl (k := 13) (by decide) wt1291 (Or.inl rfl) rfl (hs.e (by decide)) ?_
    refine r_aload_n (q := 13) dX12_readOwn_12 rfl rfl rfl ?_
    refine r_callV (Mc := mX12_ownWorld) (q := 16) (As := []) (st := []) ck12 dX12_readOwn_13 rfl rfl mkX12_ownWorld wt1686 wt1688 wp90 rfl (Nat.le_of_ble_eq_true rfl) (Nat.le_of_ble_eq_true rfl) (by decide) (by decide) (by decide) (Or.inl rfl) (hs.e (by decide)) (ok_X12_ownWorld (S := sI (sI (sI (sI (sI S 12 0 3 (nI bs.length)) 12 0 2 (nI 0)) 12 0 4 (nI 0)) 12 0 5 (nI 400)) 12 0 13 (nI 0)) hs (fun z k hk h3 => hO z k hk h3)) (fun r13 S13 hp13 => ?_)
    obtain ⟨rfl, o1, o2, o3⟩ := hp13
    have gS : Sd S13 := Sd.fr (S := sI (sI (sI (sI (sI S 12 0 3 (nI bs.length)) 12 0 2 (nI 0)) 12 0 4 (nI 0)) 12 0 5 (nI 400)) 12 0 13 (nI 0)) hs o1
    show Ok _ _ _ [] _ _
    refine r_aload_n (q := 17) dX12_readOwn_16 rfl rfl rfl ?_
    refine r_iconst (q := 18) (nI 0) dX12_readOwn_17 rfl (by decide) ?_
    refine r_puti (q := 21) ck12 dX12_readOwn_18 rfl (k := 53) (by decide) wt1331 (Or.inl rfl) rfl (gS.e (by decide)) ?_
    refine r_aload_n (q := 22) dX12_readOwn_21 rfl rfl rfl ?_
    refine r_iconst (q := 23) (nI 0) dX12_readOwn_22 rfl (by decide) ?_
    refine r_puti (q := 26) ck12 dX12_readOwn_23 rfl (k := 54) (by decide) wt1332 (Or.inl rfl) rfl (gS.e (by decide)) ?_
    refine r_aload_n (q := 27) dX12_readOwn_26 rfl rfl rfl ?_
    refine r_callV (Mc := mX12_next) (q := 30) (As := []) (st := []) ck12 dX12_readOwn_27 rfl rfl mkX12_next wt1573 wt1575 wp70 rfl (Nat.le_of_ble_eq_true rfl) (Nat.le_of_ble_eq_true rfl) (by decide) (by decide) (by decide) (Or.inl rfl) (gS.e (by decide)) (ok_X12_next (S := sI (sI S13 12 0 53 (nI 0)) 12 0 54 (nI 0)) gS (p := 0) hbl ⟨⟨fun k hk => (o1.1 _ _ _ rfl).trans (hb.1 k hk), hb.2⟩, o1.1 _ _ _ rfl, o1.1 _ _ _ rfl, o1.1 _ _ _ rfl⟩ (show 400 ≤ 940 by omega) (by omega)) (fun r27 S27 hp27 => ?_)
    obtain ⟨rfl, n1, n2⟩ := hp27
    have gS2 : Sd S27 := Sd.fr (S := sI (sI S13 12 0 53 (nI 0)) 12 0 54 (nI 0)) gS n1
    have gF : Fg tOwn S S27 := ((Fg.of22 (S1 := sI (sI (sI (sI (sI S 12 0 3 (nI bs.length)) 12 0 2 (nI 0)) 12 0 4 (nI 0)) 12 0 5 (nI 400)) 12 0 13 (nI 0)) hs rfl (fun a b k _ hz => by (repeat rw [gI_sI, if_neg (fun z => hz (Or.inr (Or.inr (by omega))))])) (fun _ _ _ _ _ => rfl)).tr ((o1.fg (S := sI (sI (sI (sI (sI S 12 0 3 (nI bs.length)) 12 0 2 (nI 0)) 12 0 4 (nI 0)) 12 0 5 (nI 400)) 12 0 13 (nI 0)) hs (fun a b k z => Or.inl (tOw_ref a b k z))).tr (Fg.of22 (S1 := sI (sI S13 12 0 53 (nI 0)) 12 0 54 (nI 0)) gS rfl (fun a b k _ hz => by (repeat rw [gI_sI, if_neg (fun z => hz (Or.inr (Or.inr (by omega))))])) (fun _ _ _ _ _ => rfl)))).tr (n1.fg gS (fun a b k z => Or.inr (Or.inl (tRs_b a b k z))))
    have gs : ∀ k, gI S27 1306 0 k = gI S 1306 0 k := fun k => gF.I (by omega) (by unfold tOwn tRef; simp [tRs, tRq, tNb, tNx, tAT, tPa])
    have gw : ∀ k, gI S27 1322 0 k = gI S13 1322 0 k := fun k => n1.1 _ _ _ rfl
    have g1306 : ∀ k, gI S13 1306 0 k = gI S 1306 0 k := fun k => o1.1 _ _ _ rfl
    have gW : Wm S27 0 0 (wA W) (wn W) (we W) := ⟨n1.1 _ _ _ rfl, n1.1 _ _ _ rfl, by rw [gw, o3 _ (by omega) (by omega), g1306]; exact hR.2.1, fun a ha => ⟨by rw [gw, o3 _ (by have := hW.2.1.1; omega) (by omega), g1306]; have := (hR.2.2.2.1 a ha).1; simpa using this, by rw [Nat.zero_add]; exact (n1.2.1 _ _ _ rfl).trans ((o1.2.1 _ _ _ rfl).trans (hR.2.2.2.1 a ha).2)⟩⟩
    have gP : gI S27 1322 0 (1173 * 0) = nI (wP W) := by rw [gw, o3 _ (by omega) (by omega), g1306]; exact hR.1
    have gRr : Rr S27 bs 400 (lexA bs 400 0) := n2
    have g13 : gI S27 12 0 13 = nI 0 := (n1.1 _ _ _ rfl).trans (o1.1 _ _ _ rfl)
    have g2 : gI S27 12 0 2 = nI 0 := (n1.1 _ _ _ rfl).trans (o1.1 _ _ _ rfl)
    have gO : OwS S S27 := OwS.rs (T := sI (sI S13 12 0 53 (nI 0)) 12 0 54 (nI 0)) (o2.imp (fun z => ⟨z.1, z.2.1, fun k hk => z.2.2.1 k hk, z.2.2.2⟩) (fun z => ⟨z.1, z.2.1, z.2.2.1, fun k hk => z.2.2.2 k hk⟩)) (n1.mono tRs_b)
    show Ok _ _ _ [] _ _
    refine r_aload_n (q := 31) dX12_readOwn_30 rfl rfl rfl ?_
    refine r_iconst (q := 32) (nI 0) dX12_readOwn_31 rfl (by decide) ?_
    refine r_iconst (q := 33) (nI 0) dX12_readOwn_32 rfl (by decide) ?_
    refine r_callV (Mc := mX12_readSum) (q := 36) (As := [zi (nI 0), zi (nI 0)]) (st := []) ck12 dX12_readOwn_33 rfl rfl mkX12_readSum wt1617 wt1619 wp77 rfl (Nat.le_of_ble_eq_true rfl) (Nat.le_of_ble_eq_true rfl) (by decide) (by decide) (by decide) (Or.inl rfl) (gS2.e (by decide)) (ok_X12_readSum (q := 0) (nf := 0) (by omega) (by omega) hW.2.1 (wn_lt hW) hbl (lim := 400) (by omega) hP2 hP97 gS2 gW gP gRr htk hlk (lex_len (by omega)) (wn0 := 0) (ls := 1) (il := 0) (by omega) (by omega)) (fun r33 S33 hp33 => ?_)
    rw [qs] at hp33
    obtain ⟨rfl, y1, y2⟩ := hp33
    have hF : Fg tOwn S S33 := gF.tr (y1.fg gS2 (fun a b k z => Or.inr (Or.inl z)))
    have h2' : gI S33 12 0 2 = nI 0 := (y1.1 _ _ _ rfl).trans g2
    have hO' : OwS S S33 := OwS.rs gO y1
    show Ok _ _ _ [zi (nI 0)] _ _
    refine r_if_eqN (q := 39) (t := 58) (by omega) dX12_readOwn_36 (by decide) rfl (fun h36 => ?_) (fun h36 => absurd h36 (by omega))
    refine r_iconst (q := 59) (nI 0) dX12_readOwn_58 rfl (by decide) ?_
    refine r_zreturn (by decide) dX12_readOwn_59 rfl ?_
    exact ⟨rfl, hF, y2, h2', hO'⟩
  | inr x =>
    obtain ⟨⟨n, acc⟩, ts'⟩ := x
    obtain ⟨c1, c2, c3, c4, c5, c6, c7, c8⟩ := termsP_tks hW.2.1 _ _ _ _ _ _ _ (tks_if htk ((hdT (lexA bs 400 0)).1 = 45)) (lk_if hlk ((hdT (lexA bs 400 0)).1 = 45)) qs
    have hrl := rkt_le (k := (hdT ts').1)
    show Ok _ _ _ _ _ (fun r S1 => OwR S S1 bs (wP W) r (if (hdT ts').1 = 0 then Sum.inr (n, acc) else Sum.inl (1, (hdT ts').2.1)))
    by_cases h0 : (hdT ts').1 = 0
    · rw [if_pos h0]
      refine r_aload_n (q := 1) dX12_readOwn_0 rfl rfl rfl ?_
      refine r_sipush (q := 4) (nI 400) dX12_readOwn_1 rfl (by decide) ?_
      refine r_callV (Mc := mX12_taken) (q := 7) (As := [zi (nI 400)]) (st := []) ck12 dX12_readOwn_4 rfl rfl mkX12_taken wt1565 wt1567 wp68 rfl (Nat.le_of_ble_eq_true rfl) (Nat.le_of_ble_eq_true rfl) (by decide) (by decide) (by decide) (Or.inl rfl) (hs.e (by decide)) (ok_X12_taken hs (nI 400)) (fun r4 S4 hp4 => ?_)
      obtain ⟨rfl, hq4⟩ := hp4
      rw [h2] at hq4
      rw [hq4]
      show Ok _ _ _ [] _ _
      refine r_aload_n (q := 8) dX12_readOwn_7 rfl rfl rfl ?_
      refine r_iconst (q := 9) (nI 0) dX12_readOwn_8 rfl (by decide) ?_
      refine r_puti (q := 12) ck12 dX12_readOwn_9 rfl (k := 13) (by decide) wt1291 (Or.inl rfl) rfl (hs.e (by decide)) ?_
      refine r_aload_n (q := 13) dX12_readOwn_12 rfl rfl rfl ?_
      refine r_callV (Mc := mX12_ownWorld) (q := 16) (As := []) (st := []) ck12 dX12_readOwn_13 rfl rfl mkX12_ownWorld wt1686 wt1688 wp90 rfl (Nat.le_of_ble_eq_true rfl) (Nat.le_of_ble_eq_true rfl) (by decide) (by decide) (by decide) (Or.inl rfl) (hs.e (by decide)) (ok_X12_ownWorld (S := sI (sI (sI (sI (sI S 12 0 3 (nI bs.length)) 12 0 2 (nI 0)) 12 0 4 (nI 0)) 12 0 5 (nI 400)) 12 0 13 (nI 0)) hs (fun z k hk h3 => hO z k hk h3)) (fun r13 S13 hp13 => ?_)
      obtain ⟨rfl, o1, o2, o3⟩ := hp13
      have gS : Sd S13 := Sd.fr (S := sI (sI (sI (sI (sI S 12 0 3 (nI bs.length)) 12 0 2 (nI 0)) 12 0 4 (nI 0)) 12 0 5 (nI 400)) 12 0 13 (nI 0)) hs o1
      show Ok _ _ _ [] _ _
      refine r_aload_n (q := 17) dX12_readOwn_16 rfl rfl rfl ?_
      refine r_iconst (q := 18) (nI 0) dX12_readOwn_17 rfl (by decide) ?_
      refine r_puti (q := 21) ck12 dX12_readOwn_18 rfl (k := 53) (by decide) wt1331 (Or.inl rfl) rfl (gS.e (by decide)) ?_
      refine r_aload_n (q := 22) dX12_readOwn_21 rfl rfl rfl ?_
      refine r_iconst (q := 23) (nI 0) dX12_readOwn_22 rfl (by decide) ?_
      refine r_puti (q := 26) ck12 dX12_readOwn_23 rfl (k := 54) (by decide) wt1332 (Or.inl rfl) rfl (gS.e (by decide)) ?_
      refine r_aload_n (q := 27) dX12_readOwn_26 rfl rfl rfl ?_
      refine r_callV (Mc := mX12_next) (q := 30) (As := []) (st := []) ck12 dX12_readOwn_27 rfl rfl mkX12_next wt1573 wt1575 wp70 rfl (Nat.le_of_ble_eq_true rfl) (Nat.le_of_ble_eq_true rfl) (by decide) (by decide) (by decide) (Or.inl rfl) (gS.e (by decide)) (ok_X12_next (S := sI (sI S13 12 0 53 (nI 0)) 12 0 54 (nI 0)) gS (p := 0) hbl ⟨⟨fun k hk => (o1.1 _ _ _ rfl).trans (hb.1 k hk), hb.2⟩, o1.1 _ _ _ rfl, o1.1 _ _ _ rfl, o1.1 _ _ _ rfl⟩ (show 400 ≤ 940 by omega) (by omega)) (fun r27 S27 hp27 => ?_)
      obtain ⟨rfl, n1, n2⟩ := hp27
      have gS2 : Sd S27 := Sd.fr (S := sI (sI S13 12 0 53 (nI 0)) 12 0 54 (nI 0)) gS n1
      have gF : Fg tOwn S S27 := ((Fg.of22 (S1 := sI (sI (sI (sI (sI S 12 0 3 (nI bs.length)) 12 0 2 (nI 0)) 12 0 4 (nI 0)) 12 0 5 (nI 400)) 12 0 13 (nI 0)) hs rfl (fun a b k _ hz => by (repeat rw [gI_sI, if_neg (fun z => hz (Or.inr (Or.inr (by omega))))])) (fun _ _ _ _ _ => rfl)).tr ((o1.fg (S := sI (sI (sI (sI (sI S 12 0 3 (nI bs.length)) 12 0 2 (nI 0)) 12 0 4 (nI 0)) 12 0 5 (nI 400)) 12 0 13 (nI 0)) hs (fun a b k z => Or.inl (tOw_ref a b k z))).tr (Fg.of22 (S1 := sI (sI S13 12 0 53 (nI 0)) 12 0 54 (nI 0)) gS rfl (fun a b k _ hz => by (repeat rw [gI_sI, if_neg (fun z => hz (Or.inr (Or.inr (by omega))))])) (fun _ _ _ _ _ => rfl)))).tr (n1.fg gS (fun a b k z => Or.inr (Or.inl (tRs_b a b k z))))
      have gs : ∀ k, gI S27 1306 0 k = gI S 1306 0 k := fun k => gF.I (by omega) (by unfold tOwn tRef; simp [tRs, tRq, tNb, tNx, tAT, tPa])
      have gw : ∀ k, gI S27 1322 0 k = gI S13 1322 0 k := fun k => n1.1 _ _ _ rfl
      have g1306 : ∀ k, gI S13 1306 0 k = gI S 1306 0 k := fun k => o1.1 _ _ _ rfl
      have gW : Wm S27 0 0 (wA W) (wn W) (we W) := ⟨n1.1 _ _ _ rfl, n1.1 _ _ _ rfl, by rw [gw, o3 _ (by omega) (by omega), g1306]; exact hR.2.1, fun a ha => ⟨by rw [gw, o3 _ (by have := hW.2.1.1; omega) (by omega), g1306]; have := (hR.2.2.2.1 a ha).1; simpa using this, by rw [Nat.zero_add]; exact (n1.2.1 _ _ _ rfl).trans ((o1.2.1 _ _ _ rfl).trans (hR.2.2.2.1 a ha).2)⟩⟩
      have gP : gI S27 1322 0 (1173 * 0) = nI (wP W) := by rw [gw, o3 _ (by omega) (by omega), g1306]; exact hR.1
      have gRr : Rr S27 bs 400 (lexA bs 400 0) := n2
      have g13 : gI S27 12 0 13 = nI 0 := (n1.1 _ _ _ rfl).trans (o1.1 _ _ _ rfl)
      have g2 : gI S27 12 0 2 = nI 0 := (n1.1 _ _ _ rfl).trans (o1.1 _ _ _ rfl)
      have gO : OwS S S27 := OwS.rs (T := sI (sI S13 12 0 53 (nI 0)) 12 0 54 (nI 0)) (o2.imp (fun z => ⟨z.1, z.2.1, fun k hk => z.2.2.1 k hk, z.2.2.2⟩) (fun z => ⟨z.1, z.2.1, z.2.2.1, fun k hk => z.2.2.2 k hk⟩)) (n1.mono tRs_b)
      show Ok _ _ _ [] _ _
      refine r_aload_n (q := 31) dX12_readOwn_30 rfl rfl rfl ?_
      refine r_iconst (q := 32) (nI 0) dX12_readOwn_31 rfl (by decide) ?_
      refine r_iconst (q := 33) (nI 0) dX12_readOwn_32 rfl (by decide) ?_
      refine r_callV (Mc := mX12_readSum) (q := 36) (As := [zi (nI 0), zi (nI 0)]) (st := []) ck12 dX12_readOwn_33 rfl rfl mkX12_readSum wt1617 wt1619 wp77 rfl (Nat.le_of_ble_eq_true rfl) (Nat.le_of_ble_eq_true rfl) (by decide) (by decide) (by decide) (Or.inl rfl) (gS2.e (by decide)) (ok_X12_readSum (q := 0) (nf := 0) (by omega) (by omega) hW.2.1 (wn_lt hW) hbl (lim := 400) (by omega) hP2 hP97 gS2 gW gP gRr htk hlk (lex_len (by omega)) (wn0 := 0) (ls := 1) (il := 0) (by omega) (by omega)) (fun r33 S33 hp33 => ?_)
      rw [qs] at hp33
      obtain ⟨rfl, y1, y2, y3, y4, y5⟩ := hp33
      have hF : Fg tOwn S S33 := gF.tr (y1.fg gS2 (fun a b k z => Or.inr (Or.inl z)))
      have h2' : gI S33 12 0 2 = nI 0 := (y1.1 _ _ _ rfl).trans g2
      have hO' : OwS S S33 := OwS.rs gO y1
      show Ok _ _ _ [zi (nI 1)] _ _
      refine r_if_eqN (q := 39) (t := 58) (by omega) dX12_readOwn_36 (by decide) rfl (fun h36 => absurd h36 (by omega)) (fun h36 => ?_)
      refine r_aload_n (q := 40) dX12_readOwn_39 rfl rfl rfl ?_
      refine r_geti (q := 43) ck12 dX12_readOwn_40 rfl (k := 9) (by decide) wt1287 (Or.inl rfl) (hF.sd.e (by decide)) ?_
      refine r_topi (y := nI (rkt (hdT ts').1)) y3.1.1 ?_
      refine r_if_eqN (q := 46) (t := 54) (by omega) dX12_readOwn_43 (by decide) rfl (fun h43 => ?_) (fun h43 => absurd h43 (by have := rkt_0.mpr h0; omega))
      refine r_iconst (q := 55) (nI 1) dX12_readOwn_54 rfl (by decide) ?_
      refine r_goto (q := 59) dX12_readOwn_55 (by decide) ?_
      refine r_zreturn (by decide) dX12_readOwn_59 rfl ?_
      exact ⟨rfl, hF, y2.trans g13, h2', hO', y4, y5⟩
    · rw [if_neg h0]
      have h0' : ¬ rkt (hdT ts').1 = 0 := fun z => h0 (rkt_0.mp z)
      refine r_aload_n (q := 1) dX12_readOwn_0 rfl rfl rfl ?_
      refine r_sipush (q := 4) (nI 400) dX12_readOwn_1 rfl (by decide) ?_
      refine r_callV (Mc := mX12_taken) (q := 7) (As := [zi (nI 400)]) (st := []) ck12 dX12_readOwn_4 rfl rfl mkX12_taken wt1565 wt1567 wp68 rfl (Nat.le_of_ble_eq_true rfl) (Nat.le_of_ble_eq_true rfl) (by decide) (by decide) (by decide) (Or.inl rfl) (hs.e (by decide)) (ok_X12_taken hs (nI 400)) (fun r4 S4 hp4 => ?_)
      obtain ⟨rfl, hq4⟩ := hp4
      rw [h2] at hq4
      rw [hq4]
      show Ok _ _ _ [] _ _
      refine r_aload_n (q := 8) dX12_readOwn_7 rfl rfl rfl ?_
      refine r_iconst (q := 9) (nI 0) dX12_readOwn_8 rfl (by decide) ?_
      refine r_puti (q := 12) ck12 dX12_readOwn_9 rfl (k := 13) (by decide) wt1291 (Or.inl rfl) rfl (hs.e (by decide)) ?_
      refine r_aload_n (q := 13) dX12_readOwn_12 rfl rfl rfl ?_
      refine r_callV (Mc := mX12_ownWorld) (q := 16) (As := []) (st := []) ck12 dX12_readOwn_13 rfl rfl mkX12_ownWorld wt1686 wt1688 wp90 rfl (Nat.le_of_ble_eq_true rfl) (Nat.le_of_ble_eq_true rfl) (by decide) (by decide) (by decide) (Or.inl rfl) (hs.e (by decide)) (ok_X12_ownWorld (S := sI (sI (sI (sI (sI S 12 0 3 (nI bs.length)) 12 0 2 (nI 0)) 12 0 4 (nI 0)) 12 0 5 (nI 400)) 12 0 13 (nI 0)) hs (fun z k hk h3 => hO z k hk h3)) (fun r13 S13 hp13 => ?_)
      obtain ⟨rfl, o1, o2, o3⟩ := hp13
      have gS : Sd S13 := Sd.fr (S := sI (sI (sI (sI (sI S 12 0 3 (nI bs.length)) 12 0 2 (nI 0)) 12 0 4 (nI 0)) 12 0 5 (nI 400)) 12 0 13 (nI 0)) hs o1
      show Ok _ _ _ [] _ _
      refine r_aload_n (q := 17) dX12_readOwn_16 rfl rfl rfl ?_
      refine r_iconst (q := 18) (nI 0) dX12_readOwn_17 rfl (by decide) ?_
      refine r_puti (q := 21) ck12 dX12_readOwn_18 rfl (k := 53) (by decide) wt1331 (Or.inl rfl) rfl (gS.e (by decide)) ?_
      refine r_aload_n (q := 22) dX12_readOwn_21 rfl rfl rfl ?_
      refine r_iconst (q := 23) (nI 0) dX12_readOwn_22 rfl (by decide) ?_
      refine r_puti (q := 26) ck12 dX12_readOwn_23 rfl (k := 54) (by decide) wt1332 (Or.inl rfl) rfl (gS.e (by decide)) ?_
      refine r_aload_n (q := 27) dX12_readOwn_26 rfl rfl rfl ?_
      refine r_callV (Mc := mX12_next) (q := 30) (As := []) (st := []) ck12 dX12_readOwn_27 rfl rfl mkX12_next wt1573 wt1575 wp70 rfl (Nat.le_of_ble_eq_true rfl) (Nat.le_of_ble_eq_true rfl) (by decide) (by decide) (by decide) (Or.inl rfl) (gS.e (by decide)) (ok_X12_next (S := sI (sI S13 12 0 53 (nI 0)) 12 0 54 (nI 0)) gS (p := 0) hbl ⟨⟨fun k hk => (o1.1 _ _ _ rfl).trans (hb.1 k hk), hb.2⟩, o1.1 _ _ _ rfl, o1.1 _ _ _ rfl, o1.1 _ _ _ rfl⟩ (show 400 ≤ 940 by omega) (by omega)) (fun r27 S27 hp27 => ?_)
      obtain ⟨rfl, n1, n2⟩ := hp27
      have gS2 : Sd S27 := Sd.fr (S := sI (sI S13 12 0 53 (nI 0)) 12 0 54 (nI 0)) gS n1
      have gF : Fg tOwn S S27 := ((Fg.of22 (S1 := sI (sI (sI (sI (sI S 12 0 3 (nI bs.length)) 12 0 2 (nI 0)) 12 0 4 (nI 0)) 12 0 5 (nI 400)) 12 0 13 (nI 0)) hs rfl (fun a b k _ hz => by (repeat rw [gI_sI, if_neg (fun z => hz (Or.inr (Or.inr (by omega))))])) (fun _ _ _ _ _ => rfl)).tr ((o1.fg (S := sI (sI (sI (sI (sI S 12 0 3 (nI bs.length)) 12 0 2 (nI 0)) 12 0 4 (nI 0)) 12 0 5 (nI 400)) 12 0 13 (nI 0)) hs (fun a b k z => Or.inl (tOw_ref a b k z))).tr (Fg.of22 (S1 := sI (sI S13 12 0 53 (nI 0)) 12 0 54 (nI 0)) gS rfl (fun a b k _ hz => by (repeat rw [gI_sI, if_neg (fun z => hz (Or.inr (Or.inr (by omega))))])) (fun _ _ _ _ _ => rfl)))).tr (n1.fg gS (fun a b k z => Or.inr (Or.inl (tRs_b a b k z))))
      have gs : ∀ k, gI S27 1306 0 k = gI S 1306 0 k := fun k => gF.I (by omega) (by unfold tOwn tRef; simp [tRs, tRq, tNb, tNx, tAT, tPa])
      have gw : ∀ k, gI S27 1322 0 k = gI S13 1322 0 k := fun k => n1.1 _ _ _ rfl
      have g1306 : ∀ k, gI S13 1306 0 k = gI S 1306 0 k := fun k => o1.1 _ _ _ rfl
      have gW : Wm S27 0 0 (wA W) (wn W) (we W) := ⟨n1.1 _ _ _ rfl, n1.1 _ _ _ rfl, by rw [gw, o3 _ (by omega) (by omega), g1306]; exact hR.2.1, fun a ha => ⟨by rw [gw, o3 _ (by have := hW.2.1.1; omega) (by omega), g1306]; have := (hR.2.2.2.1 a ha).1; simpa using this, by rw [Nat.zero_add]; exact (n1.2.1 _ _ _ rfl).trans ((o1.2.1 _ _ _ rfl).trans (hR.2.2.2.1 a ha).2)⟩⟩
      have gP : gI S27 1322 0 (1173 * 0) = nI (wP W) := by rw [gw, o3 _ (by omega) (by omega), g1306]; exact hR.1
      have gRr : Rr S27 bs 400 (lexA bs 400 0) := n2
      have g13 : gI S27 12 0 13 = nI 0 := (n1.1 _ _ _ rfl).trans (o1.1 _ _ _ rfl)
      have g2 : gI S27 12 0 2 = nI 0 := (n1.1 _ _ _ rfl).trans (o1.1 _ _ _ rfl)
      have gO : OwS S S27 := OwS.rs (T := sI (sI S13 12 0 53 (nI 0)) 12 0 54 (nI 0)) (o2.imp (fun z => ⟨z.1, z.2.1, fun k hk => z.2.2.1 k hk, z.2.2.2⟩) (fun z => ⟨z.1, z.2.1, z.2.2.1, fun k hk => z.2.2.2 k hk⟩)) (n1.mono tRs_b)
      show Ok _ _ _ [] _ _
      refine r_aload_n (q := 31) dX12_readOwn_30 rfl rfl rfl ?_
      refine r_iconst (q := 32) (nI 0) dX12_readOwn_31 rfl (by decide) ?_
      refine r_iconst (q := 33) (nI 0) dX12_readOwn_32 rfl (by decide) ?_
      refine r_callV (Mc := mX12_readSum) (q := 36) (As := [zi (nI 0), zi (nI 0)]) (st := []) ck12 dX12_readOwn_33 rfl rfl mkX12_readSum wt1617 wt1619 wp77 rfl (Nat.le_of_ble_eq_true rfl) (Nat.le_of_ble_eq_true rfl) (by decide) (by decide) (by decide) (Or.inl rfl) (gS2.e (by decide)) (ok_X12_readSum (q := 0) (nf := 0) (by omega) (by omega) hW.2.1 (wn_lt hW) hbl (lim := 400) (by omega) hP2 hP97 gS2 gW gP gRr htk hlk (lex_len (by omega)) (wn0 := 0) (ls := 1) (il := 0) (by omega) (by omega)) (fun r33 S33 hp33 => ?_)
      rw [qs] at hp33
      obtain ⟨rfl, y1, y2, y3, y4, y5⟩ := hp33
      have hF : Fg tOwn S S33 := gF.tr (y1.fg gS2 (fun a b k z => Or.inr (Or.inl z)))
      have h2' : gI S33 12 0 2 = nI 0 := (y1.1 _ _ _ rfl).trans g2
      have hO' : OwS S S33 := OwS.rs gO y1
      show Ok _ _ _ [zi (nI 1)] _ _
      refine r_if_eqN (q := 39) (t := 58) (by omega) dX12_readOwn_36 (by decide) rfl (fun h36 => absurd h36 (by omega)) (fun h36 => ?_)
      refine r_aload_n (q := 40) dX12_readOwn_39 rfl rfl rfl ?_
      refine r_geti (q := 43) ck12 dX12_readOwn_40 rfl (k := 9) (by decide) wt1287 (Or.inl rfl) (hF.sd.e (by decide)) ?_
      refine r_topi (y := nI (rkt (hdT ts').1)) y3.1.1 ?_
      refine r_if_eqN (q := 46) (t := 54) (by omega) dX12_readOwn_43 (by decide) rfl (fun h43 => absurd h43 (h0')) (fun h43 => ?_)
      refine r_aload_n (q := 47) dX12_readOwn_46 rfl rfl rfl ?_
      refine r_iconst (q := 48) (nI 1) dX12_readOwn_47 rfl (by decide) ?_
      refine r_callV (Mc := mX12_bad) (q := 51) (As := [zi (nI 1)]) (st := []) ck12 dX12_readOwn_48 rfl rfl mkX12_bad wt1596 wt1598 wp74 rfl (Nat.le_of_ble_eq_true rfl) (Nat.le_of_ble_eq_true rfl) (by decide) (by decide) (by decide) (Or.inl rfl) (hF.sd.e (by decide)) (ok_bad hF.sd hbl (show 400 ≤ 940 by omega) y3 c1 1) (fun r48 S48 hp48 => ?_)
      obtain ⟨rfl, w48, x48⟩ := hp48
      show Ok _ _ _ [zi (nI 0)] _ _
      refine r_if_eqN (q := 54) (t := 58) (by omega) dX12_readOwn_51 (by decide) rfl (fun h51 => ?_) (fun h51 => absurd h51 (by omega))
      refine r_iconst (q := 59) (nI 0) dX12_readOwn_58 rfl (by decide) ?_
      refine r_zreturn (by decide) dX12_readOwn_59 rfl ?_
      exact ⟨rfl, hF.tr (w48.fg hF.sd (fun a b k z => Or.inr (Or.inl (tRs_q a b k (tRq_b a b k (tNb_d a b k z)))))), x48, (w48.1 _ _ _ rfl).trans h2', OwS.rs hO' (w48.mono (fun a b k z => tRs_q a b k (tRq_b a b k (tNb_d a b k z))))⟩

def tSu (a b k : Nat) : Prop := tTm 12 a b k ∨ tBg a b k = true ∨ a = 11 ∧ b = 0 ∧ k = 1
def ShR (S S1 : zS) (W : zWd) (r : Option zV) : zEr ⊕ (Nat × List zT) → Prop
  | Sum.inl x => r = some (zi (nI 0)) ∧ Fg tSu S S1 ∧ gI S1 11 0 1 = nI 0 ∧ Fl S1 x ∧ TL S1 12
  | Sum.inr (n, acc) => r = some (zi (nI 1)) ∧ Fg tSu S S1 ∧ gI S1 11 0 1 = nI 0 ∧ gI S1 4 0 14 = nI 0 ∧ Sr S1 12 (wA W) (wP W) (we W) n acc

set_option maxRecDepth 100000 in
theorem ok_readSumHere {S : zS} (hs : Sd S) {W : zWd} {cc : Nat} (hcc : gI S 11 0 3 = nI cc) (hc4 : cc < 4) (hW : Wok W) (hC : wqC W (fun a k => gI S a cc k) (fun a k => gJ S a cc k)) {bs : List Nat} (hbl : bs.length ≤ 940) (h1 : gI S 11 0 1 = nI bs.length) (hb : Bs S 1200 bs) (hTL : TL S 12) : Ok mX11_readSumHere 0 (ent 1 [zr 11 0]) [] S (fun r S1 => ShR S S1 W r (sumA (wn W) (we W) (wA W) (wP W) (lexA bs 400 0))) := by
  have hP2 := hW.1.1
  have hP97 := hW.1.2.1
  have htk : Tks (lexA bs 400 0) := lex_tks hb.2 hbl
  have hlk : Lk (lexA bs 400 0) := lex_lk _ _
  show Ok mX11_readSumHere 0 [some (zr 11 0)] [] S _
  cases qa : sumA (wn W) (we W) (wA W) (wP W) (lexA bs 400 0) with
  | inl x =>
    skip
    refine r_aload_n (q := 1) dX11_readSumHere_0 rfl rfl rfl ?_
    refine r_getr (q := 4) (some (4, 0)) ck11 dX11_readSumHere_1 rfl (k := 14) (by decide) wt436 rfl (hs.e (by decide)) (hs.r (by decide) (by decide)) ?_
    refine r_aload_n (q := 5) dX11_readSumHere_4 rfl rfl rfl ?_
    refine r_getr (q := 8) (some (1200, 0)) ck11 dX11_readSumHere_5 rfl (k := 0) (by decide) wt422 rfl (hs.e (by decide)) (hs.r (by decide) (by decide)) ?_
    refine r_aload_n (q := 9) dX11_readSumHere_8 rfl rfl rfl ?_
    refine r_callV (Mc := mX11_emptyTape) (q := 12) (As := []) (st := [zr 1200 0, zr 4 0]) ck11 dX11_readSumHere_9 rfl rfl mkX11_emptyTape wt503 wt505 wp2 rfl (Nat.le_of_ble_eq_true rfl) (Nat.le_of_ble_eq_true rfl) (by decide) (by decide) (by decide) (Or.inl rfl) (hs.e (by decide)) (ok_X11_emptyTape hs) (fun r9 S9 hp9 => ?_)
    obtain ⟨rfl, hq9⟩ := hp9
    rw [hq9]
    rw [h1]
    show Ok _ _ _ [zi (nI bs.length), zr 1200 0, zr 4 0] _ _
    refine r_sipush (q := 15) (nI 400) dX11_readSumHere_12 rfl (by decide) ?_
    refine r_callV (Mc := mX4_begin) (q := 18) (As := [zr 1200 0, zi (nI bs.length), zi (nI 400)]) (st := []) ck4 dX11_readSumHere_15 rfl rfl mkX4_begin wt507 wt508 wt509 rfl (Nat.le_of_ble_eq_true rfl) (Nat.le_of_ble_eq_true rfl) (by decide) (by decide) (by decide) (Or.inl rfl) (hs.e (by decide)) (ok_begin (S := sI S 11 0 1 (nI 0)) hs ⟨fun k hk => by rw [gI_sI, if_neg (by omega)]; exact hb.1 k hk, hb.2⟩ hbl (show 400 ≤ 940 by omega)) (fun r15 S15 hp15 => ?_)
    obtain ⟨rfl, b1, b2, b3⟩ := hp15
    have gS : Sd S15 := Sd.fr (S := sI S 11 0 1 (nI 0)) hs b1
    have hcc' : gI S15 11 0 3 = nI cc := (b1.1 _ _ _ rfl).trans (by rw [gI_sI, if_neg (by omega)]; exact hcc)
    have gF : Fg tSu S S15 := (Fg.of22 (S1 := sI S 11 0 1 (nI 0)) hs rfl (fun a b k _ hz => by rw [gI_sI, if_neg (fun z => hz (Or.inr (Or.inr z)))]) (fun _ _ _ _ _ => rfl)).tr (b1.fg (S := sI S 11 0 1 (nI 0)) hs (fun a b k z => Or.inr (Or.inl z)))
    have gW : Wn S15 cc (wA W) (wn W) (we W) := ⟨(b1.1 _ _ _ rfl).trans hC.2.1, fun a ha => ⟨(b1.1 _ _ _ rfl).trans (hC.2.2.2.1 a ha).1, (b1.2.1 _ _ _ rfl).trans (hC.2.2.2.1 a ha).2⟩⟩
    have gTL : TL S15 12 := hTL.cong (gN_22 b1.2.2) (gN_22 b1.2.2) (b1.1 _ _ _ rfl)
    show Ok _ _ _ [] _ _
    refine r_aload_n (q := 19) dX11_readSumHere_18 rfl rfl rfl ?_
    refine r_getr (q := 22) (some (4, 0)) ck11 dX11_readSumHere_19 rfl (k := 14) (by decide) wt436 rfl (gS.e (by decide)) (gS.r (by decide) (by decide)) ?_
    refine r_aload_n (q := 23) dX11_readSumHere_22 rfl rfl rfl ?_
    refine r_callV (Mc := mX11_worldHere) (q := 26) (As := []) (st := [zr 4 0]) ck11 dX11_readSumHere_23 rfl rfl mkX11_worldHere wt678 wt680 wp20 rfl (Nat.le_of_ble_eq_true rfl) (Nat.le_of_ble_eq_true rfl) (by decide) (by decide) (by decide) (Or.inl rfl) (gS.e (by decide)) (ok_X11_worldHere gS hcc' hc4) (fun r23 S23 hp23 => ?_)
    obtain ⟨rfl, hq23⟩ := hp23
    rw [hq23]
    show Ok _ _ _ [zr 9 cc, zr 4 0] _ _
    refine r_callV (Mc := mX4_readSumAlone) (q := 29) (As := [zr 9 cc]) (st := []) ck4 dX11_readSumHere_26 rfl rfl mkX4_readSumAlone wt725 wt726 wt727 rfl (Nat.le_of_ble_eq_true rfl) (Nat.le_of_ble_eq_true rfl) (by decide) (by decide) (by decide) (Or.inr ⟨Nat.le_of_ble_eq_true rfl, rfl, rfl⟩) (gS.e (by decide)) (ok_readSumAlone hc4 hW.2.1 (wn_lt hW) (wn_inj hW) hP2 hP97 gS gW ((b1.1 _ _ _ rfl).trans hC.1) b3 htk hlk gTL) (fun r26 S26 hp26 => ?_)
    rw [qa] at hp26
    obtain ⟨rfl, y1, y2, y3⟩ := hp26
    have g1 : gI S26 11 0 1 = nI 0 := (y1.I (by omega) (by unfold tTm tTy; simp [tTr, tCa, tSk])).trans ((b1.1 _ _ _ rfl).trans (by rw [gI_sI, if_pos ⟨rfl, rfl, rfl⟩]))
    show Ok _ _ _ [zi (nI 0)] _ _
    refine r_zreturn (by decide) dX11_readSumHere_29 rfl ?_
    exact ⟨rfl, gF.tr (y1.mono fun a b k z => Or.inl z), g1, y2, y3⟩
  | inr x =>
    obtain ⟨n, acc⟩ := x
    refine r_aload_n (q := 1) dX11_readSumHere_0 rfl rfl rfl ?_
    refine r_getr (q := 4) (some (4, 0)) ck11 dX11_readSumHere_1 rfl (k := 14) (by decide) wt436 rfl (hs.e (by decide)) (hs.r (by decide) (by decide)) ?_
    refine r_aload_n (q := 5) dX11_readSumHere_4 rfl rfl rfl ?_
    refine r_getr (q := 8) (some (1200, 0)) ck11 dX11_readSumHere_5 rfl (k := 0) (by decide) wt422 rfl (hs.e (by decide)) (hs.r (by decide) (by decide)) ?_
    refine r_aload_n (q := 9) dX11_readSumHere_8 rfl rfl rfl ?_
    refine r_callV (Mc := mX11_emptyTape) (q := 12) (As := []) (st := [zr 1200 0, zr 4 0]) ck11 dX11_readSumHere_9 rfl rfl mkX11_emptyTape wt503 wt505 wp2 rfl (Nat.le_of_ble_eq_true rfl) (Nat.le_of_ble_eq_true rfl) (by decide) (by decide) (by decide) (Or.inl rfl) (hs.e (by decide)) (ok_X11_emptyTape hs) (fun r9 S9 hp9 => ?_)
    obtain ⟨rfl, hq9⟩ := hp9
    rw [hq9]
    rw [h1]
    show Ok _ _ _ [zi (nI bs.length), zr 1200 0, zr 4 0] _ _
    refine r_sipush (q := 15) (nI 400) dX11_readSumHere_12 rfl (by decide) ?_
    refine r_callV (Mc := mX4_begin) (q := 18) (As := [zr 1200 0, zi (nI bs.length), zi (nI 400)]) (st := []) ck4 dX11_readSumHere_15 rfl rfl mkX4_begin wt507 wt508 wt509 rfl (Nat.le_of_ble_eq_true rfl) (Nat.le_of_ble_eq_true rfl) (by decide) (by decide) (by decide) (Or.inl rfl) (hs.e (by decide)) (ok_begin (S := sI S 11 0 1 (nI 0)) hs ⟨fun k hk => by rw [gI_sI, if_neg (by omega)]; exact hb.1 k hk, hb.2⟩ hbl (show 400 ≤ 940 by omega)) (fun r15 S15 hp15 => ?_)
    obtain ⟨rfl, b1, b2, b3⟩ := hp15
    have gS : Sd S15 := Sd.fr (S := sI S 11 0 1 (nI 0)) hs b1
    have hcc' : gI S15 11 0 3 = nI cc := (b1.1 _ _ _ rfl).trans (by rw [gI_sI, if_neg (by omega)]; exact hcc)
    have gF : Fg tSu S S15 := (Fg.of22 (S1 := sI S 11 0 1 (nI 0)) hs rfl (fun a b k _ hz => by rw [gI_sI, if_neg (fun z => hz (Or.inr (Or.inr z)))]) (fun _ _ _ _ _ => rfl)).tr (b1.fg (S := sI S 11 0 1 (nI 0)) hs (fun a b k z => Or.inr (Or.inl z)))
    have gW : Wn S15 cc (wA W) (wn W) (we W) := ⟨(b1.1 _ _ _ rfl).trans hC.2.1, fun a ha => ⟨(b1.1 _ _ _ rfl).trans (hC.2.2.2.1 a ha).1, (b1.2.1 _ _ _ rfl).trans (hC.2.2.2.1 a ha).2⟩⟩
    have gTL : TL S15 12 := hTL.cong (gN_22 b1.2.2) (gN_22 b1.2.2) (b1.1 _ _ _ rfl)
    show Ok _ _ _ [] _ _
    refine r_aload_n (q := 19) dX11_readSumHere_18 rfl rfl rfl ?_
    refine r_getr (q := 22) (some (4, 0)) ck11 dX11_readSumHere_19 rfl (k := 14) (by decide) wt436 rfl (gS.e (by decide)) (gS.r (by decide) (by decide)) ?_
    refine r_aload_n (q := 23) dX11_readSumHere_22 rfl rfl rfl ?_
    refine r_callV (Mc := mX11_worldHere) (q := 26) (As := []) (st := [zr 4 0]) ck11 dX11_readSumHere_23 rfl rfl mkX11_worldHere wt678 wt680 wp20 rfl (Nat.le_of_ble_eq_true rfl) (Nat.le_of_ble_eq_true rfl) (by decide) (by decide) (by decide) (Or.inl rfl) (gS.e (by decide)) (ok_X11_worldHere gS hcc' hc4) (fun r23 S23 hp23 => ?_)
    obtain ⟨rfl, hq23⟩ := hp23
    rw [hq23]
    show Ok _ _ _ [zr 9 cc, zr 4 0] _ _
    refine r_callV (Mc := mX4_readSumAlone) (q := 29) (As := [zr 9 cc]) (st := []) ck4 dX11_readSumHere_26 rfl rfl mkX4_readSumAlone wt725 wt726 wt727 rfl (Nat.le_of_ble_eq_true rfl) (Nat.le_of_ble_eq_true rfl) (by decide) (by decide) (by decide) (Or.inr ⟨Nat.le_of_ble_eq_true rfl, rfl, rfl⟩) (gS.e (by decide)) (ok_readSumAlone hc4 hW.2.1 (wn_lt hW) (wn_inj hW) hP2 hP97 gS gW ((b1.1 _ _ _ rfl).trans hC.1) b3 htk hlk gTL) (fun r26 S26 hp26 => ?_)
    rw [qa] at hp26
    obtain ⟨rfl, y1, y2, y3⟩ := hp26
    have g1 : gI S26 11 0 1 = nI 0 := (y1.I (by omega) (by unfold tTm tTy; simp [tTr, tCa, tSk])).trans ((b1.1 _ _ _ rfl).trans (by rw [gI_sI, if_pos ⟨rfl, rfl, rfl⟩]))
    show Ok _ _ _ [zi (nI 1)] _ _
    refine r_zreturn (by decide) dX11_readSumHere_29 rfl ?_
    exact ⟨rfl, gF.tr (y1.mono fun a b k z => Or.inl z), g1, y2.trans b2, y3⟩

