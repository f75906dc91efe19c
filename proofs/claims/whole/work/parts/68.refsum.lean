def tRs (a b k : Nat) : Bool := tRq a b k || tAT a b k || a == 12 && b == 0 && k == 48
theorem tRs_q (a b k : Nat) (h : tRq a b k = true) : tRs a b k = true := by simp [tRs, h]
theorem tRs_a (a b k : Nat) (h : tAT a b k = true) : tRs a b k = true := by simp [tRs, h]
theorem tRs_b (a b k : Nat) (h : tNx a b k = true) : tRs a b k = true := tRs_q a b k (tRq_b a b k (tNb_x a b k h))
def SmR (S S1 : zS) (bs : List Nat) (lim P : Nat) (r : Option zV) : zEr ⊕ ((Nat × List zT) × List zTk) → Prop
  | Sum.inl x => r = some (zi (nI 0)) ∧ Fr tRs S S1 ∧ Fq S1 x
  | Sum.inr ((n, acc), ts) => r = some (zi (nI 1)) ∧ Fr tRs S S1 ∧ gI S1 12 0 13 = gI S 12 0 13 ∧ Rr S1 bs lim ts ∧ gI S1 12 0 48 = nI n ∧ Rz S1 (cl (adds P 1 [] acc))
theorem SmR.pre {S S1 S2 : zS} {bs : List Nat} {lim P : Nat} {r : Option zV} {x : zEr ⊕ ((Nat × List zT) × List zTk)} (h : SmR S1 S2 bs lim P r x) (f : Fr tRs S S1) (h13 : gI S1 12 0 13 = gI S 12 0 13) : SmR S S2 bs lim P r x := by
  cases x with
  | inl x => exact ⟨h.1, f.tr h.2.1, h.2.2⟩
  | inr x => obtain ⟨⟨n, acc⟩, ts⟩ := x; exact ⟨h.1, f.tr h.2.1, h.2.2.1.trans h13, h.2.2.2⟩
theorem Rr.at {S S1 : zS} {bs : List Nat} {lim : Nat} {ts : List zTk} (h : Rr S bs lim ts) (f : Fr tAT S S1) : Rr S1 bs lim ts := h.cong (fun k => f.1 _ _ _ rfl) (fun k hk => by rcases hk with rfl | rfl | rfl | rfl | rfl | rfl <;> exact f.1 _ _ _ rfl) (f.2.1 _ _ _ rfl)
theorem rkt_2 {k : Nat} : rkt k = 2 ↔ k = 3 := by
  unfold rkt
  split
  · omega
  · split
    · omega
    · split
      · omega
      · split <;> omega

set_option maxRecDepth 100000 in
theorem ok_badAt {S : zS} (hs : Sd S) (k p : Nat) : Ok mX12_badAt 0 (ent 3 [zr 12 0, zi (nI k), zi (nI p)]) [] S (fun r S1 => r = some (zi (nI 0)) ∧ Fr tBd S S1 ∧ Fq S1 (k, p)) := by
  show Ok mX12_badAt 0 [some (zr 12 0), some (zi (nI k)), some (zi (nI p))] [] S _
  refine r_aload_n (q := 1) dX12_badAt_0 rfl rfl rfl ?_
  refine r_iload_n (q := 2) dX12_badAt_1 rfl rfl rfl ?_
  refine r_puti (q := 5) ck12 dX12_badAt_2 rfl (k := 13) (by decide) wt1291 (Or.inl rfl) rfl (hs.e (by decide)) ?_
  refine r_aload_n (q := 6) dX12_badAt_5 rfl rfl rfl ?_
  refine r_iload_n (q := 7) dX12_badAt_6 rfl rfl rfl ?_
  refine r_puti (q := 10) ck12 dX12_badAt_7 rfl (k := 14) (by decide) wt1292 (Or.inl rfl) rfl (hs.e (by decide)) ?_
  refine r_iconst (q := 11) (nI 0) dX12_badAt_10 rfl (by decide) ?_
  refine r_zreturn (by decide) dX12_badAt_11 rfl ?_
  exact ⟨rfl, (Fr.rf.i rfl).i rfl, by rw [gI_sI, if_neg (by omega), gI_sI, if_pos ⟨rfl, rfl, rfl⟩], by rw [gI_sI, if_pos ⟨rfl, rfl, rfl⟩]⟩

set_option maxRecDepth 100000 in
theorem lp_rsum {nm e : Nat → Nat} {A q nf : Nat} (hq : q ≤ 1) (hnf : nf ≤ 3) (hE : Eok A e) (hnb : ∀ a, a < A → nm a < 2 ^ 48) {bs : List Nat} {lim : Nat} (hbl : bs.length ≤ 940) (hlim : lim ≤ 940) {P : Nat} (hP2 : 2 ≤ P) (hP : P ≤ 97) {wn0 ls il : Nat} (hw7 : wn0 ≤ 7) (hil : il = 1 ∧ ls = 2 ∨ il = 0 ∧ ls = 1) : ∀ (f : Nat) (S : zS) (mi : Bool) (n0 : Nat) (acc : List zT) (ts : List zTk), ts.length ≤ f → acc.length + ts.length ≤ 901 → Sd S → Wm S q nf A nm e → Rr S bs lim ts → Tks ts → Lk ts → gI S 12 0 48 = nI n0 → n0 ≤ 7 → (n0 ≠ 0 → ls ≤ n0) → (n0 = 0 → acc = []) → Rs e S (adds P 1 [] acc) → (∀ p, p ∈ acc → Tr A e n0 p.1 ∧ p.2 < P) → Ok mX12_readSum 38 [some (zr 12 0), some (zi (nI il)), some (zi (nI wn0)), some (zi (nI P)), some (zi (nI (if mi = true then 1 else 0))), none] [] S (fun r S1 => SmR S S1 bs lim P r (termsP nm e A P wn0 ls f mi n0 acc ts)) := by
  intro f
  induction f with
  | zero =>
    intro S mi n0 acc ts hts h901 hs hw hr hkt
    exact absurd (List.length_eq_zero_iff.mp (by omega)) hkt.1
  | succ f ih =>
    intro S mi n0 acc ts hts h901 hs hw hr hkt hlk h48 hn7 hnl hn0 hrs hacc
    obtain ⟨m1, m2, m3, m4, m5⟩ := hr.1
    obtain ⟨t1, t2, t3, t4⟩ := hkt.hd
    have hrl := rkt_le (k := (hdT ts).1)
    rw [termsP]
    have hk1 := tks_if hkt ((hdT ts).1 = 3)
    have hlk1 := lk_if hlk ((hdT ts).1 = 3)
    have hle1 := len_if ts ((hdT ts).1 = 3)
    generalize hv : (if (hdT ts).1 = 3 then (hdT ts).2.2 else 1) = v
    have hv100 : v < 100 := by rw [← hv]; split; exact t4 (by assumption); omega
    have hvP := Nat.mod_lt v (show 0 < P by omega)
    have main : ∀ (S1 : zS) (ts1 : List zTk), ts1 = (if (hdT ts).1 = 3 then adv ts else ts) → Fr tNx S S1 → Rr S1 bs lim ts1 → Ok mX12_readSum 61 [some (zr 12 0), some (zi (nI il)), some (zi (nI wn0)), some (zi (nI P)), some (zi (nI (if mi = true then 1 else 0))), some (zi (nI (v % P)))] [] S1 (fun r S2 => SmR S S2 bs lim P r (match treeP nm e A 480 [] [] 0 (if (hdT ts).1 = 3 then adv ts else ts) with | Sum.inl x => Sum.inl x | Sum.inr (t, ts2) => if lvs t ≠ (if n0 = 0 then (if wn0 = 0 then lvs t else wn0) else n0) ∨ lvs t < ls then Sum.inl (3, (hdT (if (hdT ts).1 = 3 then adv ts else ts)).2.1) else if (hdT ts2).1 = 43 ∨ (hdT ts2).1 = 45 then termsP nm e A P wn0 ls f ((hdT ts2).1 == 45) (lvs t) (acc ++ [(t, tval P mi v)]) (adv ts2) else Sum.inr ((lvs t, acc ++ [(t, tval P mi v)]), ts2))) := by
      intro S1 ts1 ets fS hr1
      rw [← ets] at hk1 hlk1 hle1 ⊢
      have hs1 := hs.fr fS
      have u2 := hk1.hd.2.1
      have hw1 := hw.fr fS (fun _ => ⟨rfl, rfl, rfl, rfl⟩)
      have f1 : Fr tRs S S1 := fS.mono tRs_b
      cases qt : treeP nm e A 480 [] [] 0 ts1 with
      | inl x =>
        skip
        refine r_aload_n (q := 62) dX12_readSum_61 rfl rfl rfl ?_
        refine r_callV (Mc := mX12_readTree) (q := 65) (As := []) (st := []) ck12 dX12_readSum_62 rfl rfl mkX12_readTree wt1629 wt1631 wp80 rfl (Nat.le_of_ble_eq_true rfl) (Nat.le_of_ble_eq_true rfl) (by decide) (by decide) (by decide) (Or.inl rfl) (hs1.e (by decide)) (ok_readTreeR hs1 hq hnf hE hnb hbl hlim hw1 hr1 hk1 hlk1 (by omega)) (fun r62 S62 hp62 => ?_)
        rw [qt] at hp62
        obtain ⟨rfl, y1, y2⟩ := hp62
        show Ok _ _ _ [zi (nI 0)] _ _
        refine r_if_neN (q := 68) (t := 70) (by omega) dX12_readSum_65 (by decide) rfl (fun h65 => absurd h65 (by omega)) (fun h65 => ?_)
        refine r_iconst (q := 69) (nI 0) dX12_readSum_68 rfl (by decide) ?_
        refine r_zreturn (by decide) dX12_readSum_69 rfl ?_
        exact ⟨rfl, f1.tr (y1.mono tRs_q), y2⟩
      | inr x =>
        obtain ⟨t, ts2⟩ := x
        obtain ⟨ht, hl1, hl7, hl13, hk2, hlk2, hlt2⟩ := treeP_tr hE hk1 hlk1 qt
        have zl := adv_len ts2
        have zky := cd_le (ht.tok hE) (by omega)
        show Ok _ _ _ _ _ (fun r S2 => SmR S S2 bs lim P r (if lvs t ≠ (if n0 = 0 then (if wn0 = 0 then lvs t else wn0) else n0) ∨ lvs t < ls then Sum.inl (3, (hdT ts1).2.1) else if (hdT ts2).1 = 43 ∨ (hdT ts2).1 = 45 then termsP nm e A P wn0 ls f ((hdT ts2).1 == 45) (lvs t) (acc ++ [(t, tval P mi v)]) (adv ts2) else Sum.inr ((lvs t, acc ++ [(t, tval P mi v)]), ts2)))
        refine r_aload_n (q := 62) dX12_readSum_61 rfl rfl rfl ?_
        refine r_callV (Mc := mX12_readTree) (q := 65) (As := []) (st := []) ck12 dX12_readSum_62 rfl rfl mkX12_readTree wt1629 wt1631 wp80 rfl (Nat.le_of_ble_eq_true rfl) (Nat.le_of_ble_eq_true rfl) (by decide) (by decide) (by decide) (Or.inl rfl) (hs1.e (by decide)) (ok_readTreeR hs1 hq hnf hE hnb hbl hlim hw1 hr1 hk1 hlk1 (by omega)) (fun r62 S62 hp62 => ?_)
        rw [qt] at hp62
        obtain ⟨rfl, y1, y2, y3, y4, y5, y6⟩ := hp62
        show Ok _ _ _ [zi (nI 1)] _ _
        refine r_if_neN (q := 68) (t := 70) (by omega) dX12_readSum_65 (by decide) rfl (fun h65 => ?_) (fun h65 => absurd h65 (by omega))
        have hs2 := hs1.fr y1
        have f2 : Fr tRs S S62 := f1.tr (y1.mono tRs_q)
        have g13 : gI S62 12 0 13 = gI S 12 0 13 := y2.trans (fS.1 _ _ _ rfl)
        have g48 : gI S62 12 0 48 = nI n0 := (y1.1 _ _ _ rfl).trans ((fS.1 _ _ _ rfl).trans h48)
        have g50 := y5 (by omega)
        have grs : Rs e S62 (adds P 1 [] acc) := ⟨(y1.1 _ _ _ rfl).trans ((fS.1 _ _ _ rfl).trans hrs.1), fun k hk => ⟨(y1.1 _ _ _ rfl).trans ((fS.1 _ _ _ rfl).trans (hrs.2 k hk).1), (y1.1 _ _ _ rfl).trans ((fS.1 _ _ _ rfl).trans (hrs.2 k hk).2.1), fun j hj => (y1.1 _ _ _ rfl).trans ((fS.1 _ _ _ rfl).trans ((hrs.2 k hk).2.2 j hj))⟩⟩
        have hw2 := hw1.fr y1 (fun _ => ⟨rfl, rfl, rfl, rfl⟩)
        have hmul : (adds P 1 [] (acc ++ [(t, tval P mi v)])) = addT P t (tval P mi v) (adds P 1 [] acc) := by rw [adds_snoc, addT_mod]
        have tail : ∀ S3, Sd S3 → Fr tRs S S3 → gI S3 12 0 13 = gI S 12 0 13 → Rr S3 bs lim ts2 → Wm S3 q nf A nm e → gI S3 12 0 48 = nI (lvs t) → ls ≤ lvs t → Rs e S3 (adds P 1 [] (acc ++ [(t, tval P mi v)])) → (∀ p, p ∈ acc ++ [(t, tval P mi v)] → Tr A e (lvs t) p.1 ∧ p.2 < P) → Ok mX12_readSum 162 [some (zr 12 0), some (zi (nI il)), some (zi (nI wn0)), some (zi (nI P)), some (zi (nI (if mi = true then 1 else 0))), some (zi (nI (v % P)))] [] S3 (fun r S2 => SmR S S2 bs lim P r (if (hdT ts2).1 = 43 ∨ (hdT ts2).1 = 45 then termsP nm e A P wn0 ls f ((hdT ts2).1 == 45) (lvs t) (acc ++ [(t, tval P mi v)]) (adv ts2) else Sum.inr ((lvs t, acc ++ [(t, tval P mi v)]), ts2))) := by
          intro S3 hs3 f3 j13 hr3 hw3 j48 hlsl hrs3 hacc3
          have hRe : Re A e P (lvs t) (adds P 1 [] (acc ++ [(t, tval P mi v)])) := Re.adds hE (by omega) hl7 ⟨List.Pairwise.nil, fun p hp => absurd hp List.not_mem_nil⟩ (fun p hp => (hacc3 p hp).1)
          have hlen := len_U hRe (mem_adds (U := (acc ++ [(t, tval P mi v)]).map Prod.fst) (fun q hq => absurd hq List.not_mem_nil) (fun q hq => List.mem_map.mpr ⟨q, hq, rfl⟩))
          rw [List.length_map, List.length_append, List.length_singleton] at hlen
          by_cases c43 : (hdT ts2).1 = 43
          · skip
            refine r_aload_n (q := 163) dX12_readSum_162 rfl rfl rfl ?_
            refine r_bipush (q := 165) (nI 43) dX12_readSum_163 rfl (by decide) ?_
            refine r_callV (Mc := mX12_isSign) (q := 168) (As := [zi (nI 43)]) (st := []) ck12 dX12_readSum_165 rfl rfl mkX12_isSign wt1621 wt1623 wp78 rfl (Nat.le_of_ble_eq_true rfl) (Nat.le_of_ble_eq_true rfl) (by decide) (by decide) (by decide) (Or.inl rfl) (hs3.e (by decide)) (ok_isSignR hs3 hbl hlim hr3 hk2 (c := 43) (by omega) (by omega)) (fun r165 S165 hp165 => ?_)
            obtain ⟨rfl, hq165⟩ := hp165
            rw [hq165]
            rw [if_pos c43]
            show Ok _ _ _ [zi (nI 1)] _ _
            refine r_if_neN (q := 171) (t := 183) (by omega) dX12_readSum_168 (by decide) rfl (fun h168 => ?_) (fun h168 => absurd h168 (by omega))
            refine r_aload_n (q := 184) dX12_readSum_183 rfl rfl rfl ?_
            refine r_bipush (q := 186) (nI 45) dX12_readSum_184 rfl (by decide) ?_
            refine r_callV (Mc := mX12_isSign) (q := 189) (As := [zi (nI 45)]) (st := []) ck12 dX12_readSum_186 rfl rfl mkX12_isSign wt1621 wt1623 wp78 rfl (Nat.le_of_ble_eq_true rfl) (Nat.le_of_ble_eq_true rfl) (by decide) (by decide) (by decide) (Or.inl rfl) (hs3.e (by decide)) (ok_isSignR hs3 hbl hlim hr3 hk2 (c := 45) (by omega) (by omega)) (fun r186 S186 hp186 => ?_)
            obtain ⟨rfl, hq186⟩ := hp186
            rw [hq186]
            rw [if_neg (show ¬ (hdT ts2).1 = 45 by omega)]
            show Ok _ _ _ [zi (nI 0)] _ _
            refine r_istore (q := 191) (L' := [some (zr 12 0), some (zi (nI il)), some (zi (nI wn0)), some (zi (nI P)), some (zi (nI 0)), some (zi (nI (v % P)))]) dX12_readSum_189 rfl (by decide) rfl ?_
            refine r_aload_n (q := 192) dX12_readSum_191 rfl rfl rfl ?_
            refine r_callV (Mc := mX12_next) (q := 195) (As := []) (st := []) ck12 dX12_readSum_192 rfl rfl mkX12_next wt1573 wt1575 wp70 rfl (Nat.le_of_ble_eq_true rfl) (Nat.le_of_ble_eq_true rfl) (by decide) (by decide) (by decide) (Or.inl rfl) (hs3.e (by decide)) (ok_nextR hs3 hbl hlim hr3) (fun r192 S192 hp192 => ?_)
            obtain ⟨rfl, a1, a2⟩ := hp192
            show Ok _ _ _ [] _ _
            refine r_goto (q := 38) dX12_readSum_195 (by decide) ?_
            refine r_mask [true, true, true, true, true, false] rfl ?_
            rw [if_pos (show (hdT ts2).1 = 43 ∨ (hdT ts2).1 = 45 by omega)]
            rw [show ((hdT ts2).1 == 45) = false by simp; omega]
            have q4 := ih S192 false (lvs t) (acc ++ [(t, tval P mi v)]) (adv ts2) (by omega) (by rw [List.length_append, List.length_singleton]; omega) (hs3.fr a1) (hw3.fr a1 (fun _ => ⟨rfl, rfl, rfl, rfl⟩)) a2 hk2.adv hlk2.ad ((a1.1 _ _ _ rfl).trans j48) hl7 (fun _ => hlsl) (fun z => absurd z (by omega)) ⟨(a1.1 _ _ _ rfl).trans hrs3.1, fun k hk => ⟨(a1.1 _ _ _ rfl).trans (hrs3.2 k hk).1, (a1.1 _ _ _ rfl).trans (hrs3.2 k hk).2.1, fun j hj => (a1.1 _ _ _ rfl).trans ((hrs3.2 k hk).2.2 j hj)⟩⟩ hacc3
            exact Ok.mono q4 (fun r S2 z => SmR.pre z (f3.tr (a1.mono tRs_b)) ((a1.1 _ _ _ rfl).trans j13))
          · by_cases c45 : (hdT ts2).1 = 45
            · skip
              refine r_aload_n (q := 163) dX12_readSum_162 rfl rfl rfl ?_
              refine r_bipush (q := 165) (nI 43) dX12_readSum_163 rfl (by decide) ?_
              refine r_callV (Mc := mX12_isSign) (q := 168) (As := [zi (nI 43)]) (st := []) ck12 dX12_readSum_165 rfl rfl mkX12_isSign wt1621 wt1623 wp78 rfl (Nat.le_of_ble_eq_true rfl) (Nat.le_of_ble_eq_true rfl) (by decide) (by decide) (by decide) (Or.inl rfl) (hs3.e (by decide)) (ok_isSignR hs3 hbl hlim hr3 hk2 (c := 43) (by omega) (by omega)) (fun r165 S165 hp165 => ?_)
              obtain ⟨rfl, hq165⟩ := hp165
              rw [hq165]
              rw [if_neg c43]
              show Ok _ _ _ [zi (nI 0)] _ _
              refine r_if_neN (q := 171) (t := 183) (by omega) dX12_readSum_168 (by decide) rfl (fun h168 => absurd h168 (by omega)) (fun h168 => ?_)
              refine r_aload_n (q := 172) dX12_readSum_171 rfl rfl rfl ?_
              refine r_bipush (q := 174) (nI 45) dX12_readSum_172 rfl (by decide) ?_
              refine r_callV (Mc := mX12_isSign) (q := 177) (As := [zi (nI 45)]) (st := []) ck12 dX12_readSum_174 rfl rfl mkX12_isSign wt1621 wt1623 wp78 rfl (Nat.le_of_ble_eq_true rfl) (Nat.le_of_ble_eq_true rfl) (by decide) (by decide) (by decide) (Or.inl rfl) (hs3.e (by decide)) (ok_isSignR hs3 hbl hlim hr3 hk2 (c := 45) (by omega) (by omega)) (fun r174 S174 hp174 => ?_)
              obtain ⟨rfl, hq174⟩ := hp174
              rw [hq174]
              rw [if_pos c45]
              show Ok _ _ _ [zi (nI 1)] _ _
              refine r_if_neN (q := 180) (t := 183) (by omega) dX12_readSum_177 (by decide) rfl (fun h177 => ?_) (fun h177 => absurd h177 (by omega))
              refine r_aload_n (q := 184) dX12_readSum_183 rfl rfl rfl ?_
              refine r_bipush (q := 186) (nI 45) dX12_readSum_184 rfl (by decide) ?_
              refine r_callV (Mc := mX12_isSign) (q := 189) (As := [zi (nI 45)]) (st := []) ck12 dX12_readSum_186 rfl rfl mkX12_isSign wt1621 wt1623 wp78 rfl (Nat.le_of_ble_eq_true rfl) (Nat.le_of_ble_eq_true rfl) (by decide) (by decide) (by decide) (Or.inl rfl) (hs3.e (by decide)) (ok_isSignR hs3 hbl hlim hr3 hk2 (c := 45) (by omega) (by omega)) (fun r186 S186 hp186 => ?_)
              obtain ⟨rfl, hq186⟩ := hp186
              rw [hq186]
              rw [if_pos c45]
              show Ok _ _ _ [zi (nI 1)] _ _
              refine r_istore (q := 191) (L' := [some (zr 12 0), some (zi (nI il)), some (zi (nI wn0)), some (zi (nI P)), some (zi (nI 1)), some (zi (nI (v % P)))]) dX12_readSum_189 rfl (by decide) rfl ?_
              refine r_aload_n (q := 192) dX12_readSum_191 rfl rfl rfl ?_
              refine r_callV (Mc := mX12_next) (q := 195) (As := []) (st := []) ck12 dX12_readSum_192 rfl rfl mkX12_next wt1573 wt1575 wp70 rfl (Nat.le_of_ble_eq_true rfl) (Nat.le_of_ble_eq_true rfl) (by decide) (by decide) (by decide) (Or.inl rfl) (hs3.e (by decide)) (ok_nextR hs3 hbl hlim hr3) (fun r192 S192 hp192 => ?_)
              obtain ⟨rfl, a1, a2⟩ := hp192
              show Ok _ _ _ [] _ _
              refine r_goto (q := 38) dX12_readSum_195 (by decide) ?_
              refine r_mask [true, true, true, true, true, false] rfl ?_
              rw [if_pos (show (hdT ts2).1 = 43 ∨ (hdT ts2).1 = 45 by omega)]
              rw [show ((hdT ts2).1 == 45) = true by simp; omega]
              have q4 := ih S192 true (lvs t) (acc ++ [(t, tval P mi v)]) (adv ts2) (by omega) (by rw [List.length_append, List.length_singleton]; omega) (hs3.fr a1) (hw3.fr a1 (fun _ => ⟨rfl, rfl, rfl, rfl⟩)) a2 hk2.adv hlk2.ad ((a1.1 _ _ _ rfl).trans j48) hl7 (fun _ => hlsl) (fun z => absurd z (by omega)) ⟨(a1.1 _ _ _ rfl).trans hrs3.1, fun k hk => ⟨(a1.1 _ _ _ rfl).trans (hrs3.2 k hk).1, (a1.1 _ _ _ rfl).trans (hrs3.2 k hk).2.1, fun j hj => (a1.1 _ _ _ rfl).trans ((hrs3.2 k hk).2.2 j hj)⟩⟩ hacc3
              exact Ok.mono q4 (fun r S2 z => SmR.pre z (f3.tr (a1.mono tRs_b)) ((a1.1 _ _ _ rfl).trans j13))
            · rw [if_neg (show ¬ ((hdT ts2).1 = 43 ∨ (hdT ts2).1 = 45) by omega)]
              refine r_aload_n (q := 163) dX12_readSum_162 rfl rfl rfl ?_
              refine r_bipush (q := 165) (nI 43) dX12_readSum_163 rfl (by decide) ?_
              refine r_callV (Mc := mX12_isSign) (q := 168) (As := [zi (nI 43)]) (st := []) ck12 dX12_readSum_165 rfl rfl mkX12_isSign wt1621 wt1623 wp78 rfl (Nat.le_of_ble_eq_true rfl) (Nat.le_of_ble_eq_true rfl) (by decide) (by decide) (by decide) (Or.inl rfl) (hs3.e (by decide)) (ok_isSignR hs3 hbl hlim hr3 hk2 (c := 43) (by omega) (by omega)) (fun r165 S165 hp165 => ?_)
              obtain ⟨rfl, hq165⟩ := hp165
              rw [hq165]
              rw [if_neg c43]
              show Ok _ _ _ [zi (nI 0)] _ _
              refine r_if_neN (q := 171) (t := 183) (by omega) dX12_readSum_168 (by decide) rfl (fun h168 => absurd h168 (by omega)) (fun h168 => ?_)
              refine r_aload_n (q := 172) dX12_readSum_171 rfl rfl rfl ?_
              refine r_bipush (q := 174) (nI 45) dX12_readSum_172 rfl (by decide) ?_
              refine r_callV (Mc := mX12_isSign) (q := 177) (As := [zi (nI 45)]) (st := []) ck12 dX12_readSum_174 rfl rfl mkX12_isSign wt1621 wt1623 wp78 rfl (Nat.le_of_ble_eq_true rfl) (Nat.le_of_ble_eq_true rfl) (by decide) (by decide) (by decide) (Or.inl rfl) (hs3.e (by decide)) (ok_isSignR hs3 hbl hlim hr3 hk2 (c := 45) (by omega) (by omega)) (fun r174 S174 hp174 => ?_)
              obtain ⟨rfl, hq174⟩ := hp174
              rw [hq174]
              rw [if_neg c45]
              show Ok _ _ _ [zi (nI 0)] _ _
              refine r_if_neN (q := 180) (t := 183) (by omega) dX12_readSum_177 (by decide) rfl (fun h177 => absurd h177 (by omega)) (fun h177 => ?_)
              refine r_goto (q := 198) dX12_readSum_180 (by decide) ?_
              refine r_aload_n (q := 199) dX12_readSum_198 rfl rfl rfl ?_
              refine r_callV (Mc := mX12_noZeros) (q := 202) (As := []) (st := []) ck12 dX12_readSum_199 rfl rfl mkX12_noZeros wt1657 wt1659 wp87 rfl (Nat.le_of_ble_eq_true rfl) (Nat.le_of_ble_eq_true rfl) (by decide) (by decide) (by decide) (Or.inl rfl) (hs3.e (by decide)) (ok_X12_noZeros hs3 hrs3.rz (by omega) hP (fun p hp => (hRe.2 p hp).2)) (fun r199 S199 hp199 => ?_)
              obtain ⟨rfl, n1, n2⟩ := hp199
              show Ok _ _ _ [] _ _
              refine r_iconst (q := 203) (nI 1) dX12_readSum_202 rfl (by decide) ?_
              refine r_zreturn (by decide) dX12_readSum_203 rfl ?_
              exact ⟨rfl, f3.tr (n1.mono tRs_a), (n1.1 _ _ _ rfl).trans j13, hr3.at n1, (n1.1 _ _ _ rfl).trans j48, n2⟩
        have body : ls ≤ lvs t → (∀ p, p ∈ acc → Tr A e (lvs t) p.1 ∧ p.2 < P) → Ok mX12_readSum 125 [some (zr 12 0), some (zi (nI il)), some (zi (nI wn0)), some (zi (nI P)), some (zi (nI (if mi = true then 1 else 0))), some (zi (nI (v % P)))] [] S62 (fun r S2 => SmR S S2 bs lim P r (if (hdT ts2).1 = 43 ∨ (hdT ts2).1 = 45 then termsP nm e A P wn0 ls f ((hdT ts2).1 == 45) (lvs t) (acc ++ [(t, tval P mi v)]) (adv ts2) else Sum.inr ((lvs t, acc ++ [(t, tval P mi v)]), ts2))) := by
          intro hlsl hac2
          have hRe : Re A e P (lvs t) (adds P 1 [] acc) := Re.adds hE (by omega) hl7 ⟨List.Pairwise.nil, fun p hp => absurd hp List.not_mem_nil⟩ (fun p hp => (hac2 p hp).1)
          have hlen := len_U hRe (mem_adds (U := acc.map Prod.fst) (fun q hq => absurd hq List.not_mem_nil) (fun q hq => List.mem_map.mpr ⟨q, hq, rfl⟩))
          rw [List.length_map] at hlen
          have gx : ∀ a b k, ¬ (a = 12 ∧ b = 0 ∧ k = 48) → gI (sI S62 12 0 48 (nI (lvs t))) a b k = gI S62 a b k := fun a b k q1 => by rw [gI_sI, if_neg q1]
          have hwX : Wm (sI S62 12 0 48 (nI (lvs t))) q nf A nm e := ⟨(gx _ _ _ (by omega)).trans hw2.1, (gx _ _ _ (by omega)).trans hw2.2.1, (gx _ _ _ (by omega)).trans hw2.2.2.1, fun a ha => ⟨(gx _ _ _ (by omega)).trans (hw2.2.2.2 a ha).1, (hw2.2.2.2 a ha).2⟩⟩
          have grX : Rs e (sI S62 12 0 48 (nI (lvs t))) (adds P 1 [] acc) := ⟨(gx _ _ _ (by omega)).trans grs.1, fun k hk => ⟨(gx _ _ _ (by omega)).trans (grs.2 k hk).1, (gx _ _ _ (by omega)).trans (grs.2 k hk).2.1, fun j hj => (gx _ _ _ (by omega)).trans ((grs.2 k hk).2.2 j hj)⟩⟩
          have hac3 : ∀ p, p ∈ acc ++ [(t, tval P mi v)] → Tr A e (lvs t) p.1 ∧ p.2 < P := fun p hp => by rcases List.mem_append.mp hp with h | h; exact hac2 p h; rw [List.mem_singleton.mp h]; exact ⟨ht, tval_lt (by omega)⟩
          have fin : ∀ S4, Fr tAT (sI S62 12 0 48 (nI (lvs t))) S4 → Rs e S4 (addT P t (tval P mi v) (adds P 1 [] acc)) → Ok mX12_readSum 162 [some (zr 12 0), some (zi (nI il)), some (zi (nI wn0)), some (zi (nI P)), some (zi (nI (if mi = true then 1 else 0))), some (zi (nI (v % P)))] [] S4 (fun r S2 => SmR S S2 bs lim P r (if (hdT ts2).1 = 43 ∨ (hdT ts2).1 = 45 then termsP nm e A P wn0 ls f ((hdT ts2).1 == 45) (lvs t) (acc ++ [(t, tval P mi v)]) (adv ts2) else Sum.inr ((lvs t, acc ++ [(t, tval P mi v)]), ts2))) := fun S4 a1 a2 => tail S4 (Sd.fr (S := sI S62 12 0 48 (nI (lvs t))) hs2 a1) ((f2.i rfl).tr (a1.mono tRs_a)) ((a1.1 _ _ _ rfl).trans ((gx _ _ _ (by omega)).trans g13)) (Rr.at (Rr.cong y4 (fun k => gx _ _ _ (by omega)) (fun k hk => gx _ _ _ (by omega)) rfl) a1) (hwX.fr a1 (fun _ => ⟨rfl, rfl, rfl, rfl⟩)) ((a1.1 _ _ _ rfl).trans (by rw [gI_sI, if_pos ⟨rfl, rfl, rfl⟩])) hlsl (by rw [hmul]; exact a2) hac3
          cases mi with
          | false =>
            have etv : tval P false v = v % P := rfl
            have hmm := Nat.mod_lt (P - v % P) (show 0 < P by omega)
            show Ok mX12_readSum 125 [some (zr 12 0), some (zi (nI il)), some (zi (nI wn0)), some (zi (nI P)), some (zi (nI 0)), some (zi (nI (v % P)))] [] S62 _
            refine r_aload_n (q := 126) dX12_readSum_125 rfl rfl rfl ?_
            refine r_aload_n (q := 127) dX12_readSum_126 rfl rfl rfl ?_
            refine r_geti (q := 130) ck12 dX12_readSum_127 rfl (k := 51) (by decide) wt1329 (Or.inl rfl) (hs2.e (by decide)) ?_
            refine r_topi (y := nI (lvs t)) y6 ?_
            refine r_puti (q := 133) ck12 dX12_readSum_130 rfl (k := 48) (by decide) wt1326 (Or.inl rfl) rfl (hs2.e (by decide)) ?_
            refine r_aload_n (q := 134) dX12_readSum_133 rfl rfl rfl ?_
            refine r_aload_n (q := 135) dX12_readSum_134 rfl rfl rfl ?_
            refine r_geti (q := 138) ck12 dX12_readSum_135 rfl (k := 50) (by decide) wt1328 (Or.inl rfl) (hs2.e (by decide)) ?_
            refine r_topi (y := gI S62 12 0 50) (by simp [gI_sI, gJ_sJ, gI_sJ, gJ_sI]) ?_
            refine r_topi (y := nI (cd t)) g50 ?_
            refine r_iload (q := 140) dX12_readSum_138 rfl rfl ?_
            refine r_if_eqN (q := 143) (t := 152) (by omega) dX12_readSum_140 (by decide) rfl (fun h140 => ?_) (fun h140 => absurd h140 (by omega))
            refine r_iload (q := 154) dX12_readSum_152 rfl rfl ?_
            refine r_aload_n (q := 155) dX12_readSum_154 rfl rfl rfl ?_
            refine r_geti (q := 158) ck12 dX12_readSum_155 rfl (k := 54) (by decide) wt1332 (Or.inl rfl) (hs2.e (by decide)) ?_
            refine r_topi (y := gI S62 12 0 54) (by simp [gI_sI, gJ_sJ, gI_sJ, gJ_sI]) ?_
            refine r_topi (y := nI q) hw2.1 ?_
            refine r_iload_n (q := 159) dX12_readSum_158 rfl rfl rfl ?_
            refine r_callV (Mc := mX12_addTerm) (q := 162) (As := [zi (nI (cd t)), zi (nI (v % P)), zi (nI q), zi (nI P)]) (st := []) ck12 dX12_readSum_159 rfl rfl mkX12_addTerm wt1641 wt1643 wp83 rfl (Nat.le_of_ble_eq_true rfl) (Nat.le_of_ble_eq_true rfl) (by decide) (by decide) (by decide) (Or.inl rfl) (hs2.e (by decide)) (ok_X12_addTerm (S := sI S62 12 0 48 (nI (lvs t))) hs2 hE ht hl7 grX hRe.2 hP2 hP (v := v % P) (by omega) (by omega) hq (fun a ha => (hwX.2.2.2 a ha).1)) (fun r159 S159 hp159 => ?_)
            obtain ⟨rfl, a1, a2⟩ := hp159
            rw [← etv] at a2
            show Ok _ _ _ [] _ _
            exact fin S159 a1 a2
          | true =>
            have etv : tval P true v = (P - v % P) % P := rfl
            have hmm := Nat.mod_lt (P - v % P) (show 0 < P by omega)
            show Ok mX12_readSum 125 [some (zr 12 0), some (zi (nI il)), some (zi (nI wn0)), some (zi (nI P)), some (zi (nI 1)), some (zi (nI (v % P)))] [] S62 _
            refine r_aload_n (q := 126) dX12_readSum_125 rfl rfl rfl ?_
            refine r_aload_n (q := 127) dX12_readSum_126 rfl rfl rfl ?_
            refine r_geti (q := 130) ck12 dX12_readSum_127 rfl (k := 51) (by decide) wt1329 (Or.inl rfl) (hs2.e (by decide)) ?_
            refine r_topi (y := nI (lvs t)) y6 ?_
            refine r_puti (q := 133) ck12 dX12_readSum_130 rfl (k := 48) (by decide) wt1326 (Or.inl rfl) rfl (hs2.e (by decide)) ?_
            refine r_aload_n (q := 134) dX12_readSum_133 rfl rfl rfl ?_
            refine r_aload_n (q := 135) dX12_readSum_134 rfl rfl rfl ?_
            refine r_geti (q := 138) ck12 dX12_readSum_135 rfl (k := 50) (by decide) wt1328 (Or.inl rfl) (hs2.e (by decide)) ?_
            refine r_topi (y := gI S62 12 0 50) (by simp [gI_sI, gJ_sJ, gI_sJ, gJ_sI]) ?_
            refine r_topi (y := nI (cd t)) g50 ?_
            refine r_iload (q := 140) dX12_readSum_138 rfl rfl ?_
            refine r_if_eqN (q := 143) (t := 152) (by omega) dX12_readSum_140 (by decide) rfl (fun h140 => absurd h140 (by omega)) (fun h140 => ?_)
            refine r_iload_n (q := 144) dX12_readSum_143 rfl rfl rfl ?_
            refine r_iload (q := 146) dX12_readSum_144 rfl rfl ?_
            refine r_isubN (q := 147) (by omega) dX12_readSum_146 rfl ?_
            refine r_iload_n (q := 148) dX12_readSum_147 rfl rfl rfl ?_
            refine r_iremN (q := 149) (by omega) (by omega) (by omega) dX12_readSum_148 rfl ?_
            refine r_goto (q := 154) dX12_readSum_149 (by decide) ?_
            refine r_aload_n (q := 155) dX12_readSum_154 rfl rfl rfl ?_
            refine r_geti (q := 158) ck12 dX12_readSum_155 rfl (k := 54) (by decide) wt1332 (Or.inl rfl) (hs2.e (by decide)) ?_
            refine r_topi (y := gI S62 12 0 54) (by simp [gI_sI, gJ_sJ, gI_sJ, gJ_sI]) ?_
            refine r_topi (y := nI q) hw2.1 ?_
            refine r_iload_n (q := 159) dX12_readSum_158 rfl rfl rfl ?_
            refine r_callV (Mc := mX12_addTerm) (q := 162) (As := [zi (nI (cd t)), zi (nI ((P - (v % P)) % P)), zi (nI q), zi (nI P)]) (st := []) ck12 dX12_readSum_159 rfl rfl mkX12_addTerm wt1641 wt1643 wp83 rfl (Nat.le_of_ble_eq_true rfl) (Nat.le_of_ble_eq_true rfl) (by decide) (by decide) (by decide) (Or.inl rfl) (hs2.e (by decide)) (ok_X12_addTerm (S := sI S62 12 0 48 (nI (lvs t))) hs2 hE ht hl7 grX hRe.2 hP2 hP (v := (P - v % P) % P) (by omega) (by omega) hq (fun a ha => (hwX.2.2.2 a ha).1)) (fun r159 S159 hp159 => ?_)
            obtain ⟨rfl, a1, a2⟩ := hp159
            rw [← etv] at a2
            show Ok _ _ _ [] _ _
            exact fin S159 a1 a2
        by_cases hbad : lvs t ≠ (if n0 = 0 then (if wn0 = 0 then lvs t else wn0) else n0) ∨ lvs t < ls
        · rw [if_pos hbad]
          by_cases z0 : n0 = 0
          · rw [if_pos z0] at hbad
            have hz : (if wn0 = 0 then lvs t else wn0) = lvs t ∧ wn0 = 0 ∨ (if wn0 = 0 then lvs t else wn0) = wn0 ∧ wn0 ≠ 0 := by by_cases h : wn0 = 0; exact Or.inl ⟨if_pos h, h⟩; exact Or.inr ⟨if_neg h, h⟩
            refine r_aload_n (q := 71) dX12_readSum_70 rfl rfl rfl ?_
            refine r_geti (q := 74) ck12 dX12_readSum_71 rfl (k := 48) (by decide) wt1326 (Or.inl rfl) (hs2.e (by decide)) ?_
            refine r_topi (y := nI n0) g48 ?_
            refine r_if_neN (q := 77) (t := 104) (by omega) dX12_readSum_74 (by decide) rfl (fun h74 => absurd h74 (by omega)) (fun h74 => ?_)
            refine r_iload_n (q := 78) dX12_readSum_77 rfl rfl rfl ?_
            refine r_if_leN (q := 81) (t := 89) (by omega) dX12_readSum_78 (by decide) rfl (fun h78 => ?_) (fun h78 => ?_)
            · skip
              refine r_iload_n (q := 90) dX12_readSum_89 rfl rfl rfl ?_
              refine r_if_eqN (q := 93) (t := 125) (by omega) dX12_readSum_90 (by decide) rfl (fun h90 => ?_) (fun h90 => ?_)
              · skip
                exfalso; omega
              · skip
                refine r_aload_n (q := 94) dX12_readSum_93 rfl rfl rfl ?_
                refine r_geti (q := 97) ck12 dX12_readSum_94 rfl (k := 51) (by decide) wt1329 (Or.inl rfl) (hs2.e (by decide)) ?_
                refine r_topi (y := nI (lvs t)) y6 ?_
                refine r_iconst (q := 98) (nI 1) dX12_readSum_97 rfl (by decide) ?_
                refine r_icmp_neN (q := 101) (t := 125) (by omega) (by omega) dX12_readSum_98 (by decide) rfl (fun h98 => ?_) (fun h98 => ?_)
                · skip
                  exfalso; omega
                · skip
                  refine r_goto (q := 115) dX12_readSum_101 (by decide) ?_
                  refine r_aload_n (q := 116) dX12_readSum_115 rfl rfl rfl ?_
                  refine r_iconst (q := 117) (nI 3) dX12_readSum_116 rfl (by decide) ?_
                  refine r_aload_n (q := 118) dX12_readSum_117 rfl rfl rfl ?_
                  refine r_geti (q := 121) ck12 dX12_readSum_118 rfl (k := 52) (by decide) wt1330 (Or.inl rfl) (hs2.e (by decide)) ?_
                  refine r_topi (y := nI ((hdT ts1).2.1)) y3 ?_
                  refine r_callV (Mc := mX12_badAt) (q := 124) (As := [zi (nI 3), zi (nI ((hdT ts1).2.1))]) (st := []) ck12 dX12_readSum_121 rfl rfl mkX12_badAt wt1637 wt1639 wp82 rfl (Nat.le_of_ble_eq_true rfl) (Nat.le_of_ble_eq_true rfl) (by decide) (by decide) (by decide) (Or.inl rfl) (hs2.e (by decide)) (ok_badAt hs2 3 (hdT ts1).2.1) (fun r121 S121 hp121 => ?_)
                  obtain ⟨rfl, w121, x121⟩ := hp121
                  show Ok _ _ _ [zi (nI 0)] _ _
                  refine r_zreturn (by decide) dX12_readSum_124 rfl ?_
                  exact ⟨rfl, f2.tr (w121.mono (fun a b k z => tRs_q a b k (tRq_b a b k (tNb_d a b k z)))), x121⟩
            · skip
              refine r_aload_n (q := 82) dX12_readSum_81 rfl rfl rfl ?_
              refine r_geti (q := 85) ck12 dX12_readSum_82 rfl (k := 51) (by decide) wt1329 (Or.inl rfl) (hs2.e (by decide)) ?_
              refine r_topi (y := nI (lvs t)) y6 ?_
              refine r_iload_n (q := 86) dX12_readSum_85 rfl rfl rfl ?_
              refine r_icmp_neN (q := 89) (t := 115) (by omega) (by omega) dX12_readSum_86 (by decide) rfl (fun h86 => ?_) (fun h86 => ?_)
              · skip
                refine r_aload_n (q := 116) dX12_readSum_115 rfl rfl rfl ?_
                refine r_iconst (q := 117) (nI 3) dX12_readSum_116 rfl (by decide) ?_
                refine r_aload_n (q := 118) dX12_readSum_117 rfl rfl rfl ?_
                refine r_geti (q := 121) ck12 dX12_readSum_118 rfl (k := 52) (by decide) wt1330 (Or.inl rfl) (hs2.e (by decide)) ?_
                refine r_topi (y := nI ((hdT ts1).2.1)) y3 ?_
                refine r_callV (Mc := mX12_badAt) (q := 124) (As := [zi (nI 3), zi (nI ((hdT ts1).2.1))]) (st := []) ck12 dX12_readSum_121 rfl rfl mkX12_badAt wt1637 wt1639 wp82 rfl (Nat.le_of_ble_eq_true rfl) (Nat.le_of_ble_eq_true rfl) (by decide) (by decide) (by decide) (Or.inl rfl) (hs2.e (by decide)) (ok_badAt hs2 3 (hdT ts1).2.1) (fun r121 S121 hp121 => ?_)
                obtain ⟨rfl, w121, x121⟩ := hp121
                show Ok _ _ _ [zi (nI 0)] _ _
                refine r_zreturn (by decide) dX12_readSum_124 rfl ?_
                exact ⟨rfl, f2.tr (w121.mono (fun a b k z => tRs_q a b k (tRq_b a b k (tNb_d a b k z)))), x121⟩
              · skip
                refine r_iload_n (q := 90) dX12_readSum_89 rfl rfl rfl ?_
                refine r_if_eqN (q := 93) (t := 125) (by omega) dX12_readSum_90 (by decide) rfl (fun h90 => ?_) (fun h90 => ?_)
                · skip
                  exfalso; omega
                · skip
                  refine r_aload_n (q := 94) dX12_readSum_93 rfl rfl rfl ?_
                  refine r_geti (q := 97) ck12 dX12_readSum_94 rfl (k := 51) (by decide) wt1329 (Or.inl rfl) (hs2.e (by decide)) ?_
                  refine r_topi (y := nI (lvs t)) y6 ?_
                  refine r_iconst (q := 98) (nI 1) dX12_readSum_97 rfl (by decide) ?_
                  refine r_icmp_neN (q := 101) (t := 125) (by omega) (by omega) dX12_readSum_98 (by decide) rfl (fun h98 => ?_) (fun h98 => ?_)
                  · skip
                    exfalso; omega
                  · skip
                    refine r_goto (q := 115) dX12_readSum_101 (by decide) ?_
                    refine r_aload_n (q := 116) dX12_readSum_115 rfl rfl rfl ?_
                    refine r_iconst (q := 117) (nI 3) dX12_readSum_116 rfl (by decide) ?_
                    refine r_aload_n (q := 118) dX12_readSum_117 rfl rfl rfl ?_
                    refine r_geti (q := 121) ck12 dX12_readSum_118 rfl (k := 52) (by decide) wt1330 (Or.inl rfl) (hs2.e (by decide)) ?_
                    refine r_topi (y := nI ((hdT ts1).2.1)) y3 ?_
                    refine r_callV (Mc := mX12_badAt) (q := 124) (As := [zi (nI 3), zi (nI ((hdT ts1).2.1))]) (st := []) ck12 dX12_readSum_121 rfl rfl mkX12_badAt wt1637 wt1639 wp82 rfl (Nat.le_of_ble_eq_true rfl) (Nat.le_of_ble_eq_true rfl) (by decide) (by decide) (by decide) (Or.inl rfl) (hs2.e (by decide)) (ok_badAt hs2 3 (hdT ts1).2.1) (fun r121 S121 hp121 => ?_)
                    obtain ⟨rfl, w121, x121⟩ := hp121
                    show Ok _ _ _ [zi (nI 0)] _ _
                    refine r_zreturn (by decide) dX12_readSum_124 rfl ?_
                    exact ⟨rfl, f2.tr (w121.mono (fun a b k z => tRs_q a b k (tRq_b a b k (tNb_d a b k z)))), x121⟩
          · rw [if_neg z0] at hbad
            have hz := hnl z0
            refine r_aload_n (q := 71) dX12_readSum_70 rfl rfl rfl ?_
            refine r_geti (q := 74) ck12 dX12_readSum_71 rfl (k := 48) (by decide) wt1326 (Or.inl rfl) (hs2.e (by decide)) ?_
            refine r_topi (y := nI n0) g48 ?_
            refine r_if_neN (q := 77) (t := 104) (by omega) dX12_readSum_74 (by decide) rfl (fun h74 => ?_) (fun h74 => absurd h74 (by omega))
            refine r_aload_n (q := 105) dX12_readSum_104 rfl rfl rfl ?_
            refine r_geti (q := 108) ck12 dX12_readSum_105 rfl (k := 51) (by decide) wt1329 (Or.inl rfl) (hs2.e (by decide)) ?_
            refine r_topi (y := nI (lvs t)) y6 ?_
            refine r_aload_n (q := 109) dX12_readSum_108 rfl rfl rfl ?_
            refine r_geti (q := 112) ck12 dX12_readSum_109 rfl (k := 48) (by decide) wt1326 (Or.inl rfl) (hs2.e (by decide)) ?_
            refine r_topi (y := nI n0) g48 ?_
            refine r_icmp_eqN (q := 115) (t := 125) (by omega) (by omega) dX12_readSum_112 (by decide) rfl (fun h112 => ?_) (fun h112 => ?_)
            · skip
              exfalso; omega
            · skip
              refine r_aload_n (q := 116) dX12_readSum_115 rfl rfl rfl ?_
              refine r_iconst (q := 117) (nI 3) dX12_readSum_116 rfl (by decide) ?_
              refine r_aload_n (q := 118) dX12_readSum_117 rfl rfl rfl ?_
              refine r_geti (q := 121) ck12 dX12_readSum_118 rfl (k := 52) (by decide) wt1330 (Or.inl rfl) (hs2.e (by decide)) ?_
              refine r_topi (y := nI ((hdT ts1).2.1)) y3 ?_
              refine r_callV (Mc := mX12_badAt) (q := 124) (As := [zi (nI 3), zi (nI ((hdT ts1).2.1))]) (st := []) ck12 dX12_readSum_121 rfl rfl mkX12_badAt wt1637 wt1639 wp82 rfl (Nat.le_of_ble_eq_true rfl) (Nat.le_of_ble_eq_true rfl) (by decide) (by decide) (by decide) (Or.inl rfl) (hs2.e (by decide)) (ok_badAt hs2 3 (hdT ts1).2.1) (fun r121 S121 hp121 => ?_)
              obtain ⟨rfl, w121, x121⟩ := hp121
              show Ok _ _ _ [zi (nI 0)] _ _
              refine r_zreturn (by decide) dX12_readSum_124 rfl ?_
              exact ⟨rfl, f2.tr (w121.mono (fun a b k z => tRs_q a b k (tRq_b a b k (tNb_d a b k z)))), x121⟩
        · rw [if_neg hbad]
          by_cases z0 : n0 = 0
          · rw [if_pos z0] at hbad
            have hz : (if wn0 = 0 then lvs t else wn0) = lvs t ∧ wn0 = 0 ∨ (if wn0 = 0 then lvs t else wn0) = wn0 ∧ wn0 ≠ 0 := by by_cases h : wn0 = 0; exact Or.inl ⟨if_pos h, h⟩; exact Or.inr ⟨if_neg h, h⟩
            refine r_aload_n (q := 71) dX12_readSum_70 rfl rfl rfl ?_
            refine r_geti (q := 74) ck12 dX12_readSum_71 rfl (k := 48) (by decide) wt1326 (Or.inl rfl) (hs2.e (by decide)) ?_
            refine r_topi (y := nI n0) g48 ?_
            refine r_if_neN (q := 77) (t := 104) (by omega) dX12_readSum_74 (by decide) rfl (fun h74 => absurd h74 (by omega)) (fun h74 => ?_)
            refine r_iload_n (q := 78) dX12_readSum_77 rfl rfl rfl ?_
            refine r_if_leN (q := 81) (t := 89) (by omega) dX12_readSum_78 (by decide) rfl (fun h78 => ?_) (fun h78 => ?_)
            · skip
              refine r_iload_n (q := 90) dX12_readSum_89 rfl rfl rfl ?_
              refine r_if_eqN (q := 93) (t := 125) (by omega) dX12_readSum_90 (by decide) rfl (fun h90 => ?_) (fun h90 => ?_)
              · skip
                exact body (by omega) (by rw [hn0 z0]; exact fun p hp => absurd hp List.not_mem_nil)
              · skip
                refine r_aload_n (q := 94) dX12_readSum_93 rfl rfl rfl ?_
                refine r_geti (q := 97) ck12 dX12_readSum_94 rfl (k := 51) (by decide) wt1329 (Or.inl rfl) (hs2.e (by decide)) ?_
                refine r_topi (y := nI (lvs t)) y6 ?_
                refine r_iconst (q := 98) (nI 1) dX12_readSum_97 rfl (by decide) ?_
                refine r_icmp_neN (q := 101) (t := 125) (by omega) (by omega) dX12_readSum_98 (by decide) rfl (fun h98 => ?_) (fun h98 => ?_)
                · skip
                  exact body (by omega) (by rw [hn0 z0]; exact fun p hp => absurd hp List.not_mem_nil)
                · skip
                  refine r_goto (q := 115) dX12_readSum_101 (by decide) ?_
                  exfalso; omega
            · skip
              refine r_aload_n (q := 82) dX12_readSum_81 rfl rfl rfl ?_
              refine r_geti (q := 85) ck12 dX12_readSum_82 rfl (k := 51) (by decide) wt1329 (Or.inl rfl) (hs2.e (by decide)) ?_
              refine r_topi (y := nI (lvs t)) y6 ?_
              refine r_iload_n (q := 86) dX12_readSum_85 rfl rfl rfl ?_
              refine r_icmp_neN (q := 89) (t := 115) (by omega) (by omega) dX12_readSum_86 (by decide) rfl (fun h86 => ?_) (fun h86 => ?_)
              · skip
                exfalso; omega
              · skip
                refine r_iload_n (q := 90) dX12_readSum_89 rfl rfl rfl ?_
                refine r_if_eqN (q := 93) (t := 125) (by omega) dX12_readSum_90 (by decide) rfl (fun h90 => ?_) (fun h90 => ?_)
                · skip
                  exact body (by omega) (by rw [hn0 z0]; exact fun p hp => absurd hp List.not_mem_nil)
                · skip
                  refine r_aload_n (q := 94) dX12_readSum_93 rfl rfl rfl ?_
                  refine r_geti (q := 97) ck12 dX12_readSum_94 rfl (k := 51) (by decide) wt1329 (Or.inl rfl) (hs2.e (by decide)) ?_
                  refine r_topi (y := nI (lvs t)) y6 ?_
                  refine r_iconst (q := 98) (nI 1) dX12_readSum_97 rfl (by decide) ?_
                  refine r_icmp_neN (q := 101) (t := 125) (by omega) (by omega) dX12_readSum_98 (by decide) rfl (fun h98 => ?_) (fun h98 => ?_)
                  · skip
                    exact body (by omega) (by rw [hn0 z0]; exact fun p hp => absurd hp List.not_mem_nil)
                  · skip
                    refine r_goto (q := 115) dX12_readSum_101 (by decide) ?_
                    exfalso; omega
          · rw [if_neg z0] at hbad
            have hz := hnl z0
            refine r_aload_n (q := 71) dX12_readSum_70 rfl rfl rfl ?_
            refine r_geti (q := 74) ck12 dX12_readSum_71 rfl (k := 48) (by decide) wt1326 (Or.inl rfl) (hs2.e (by decide)) ?_
            refine r_topi (y := nI n0) g48 ?_
            refine r_if_neN (q := 77) (t := 104) (by omega) dX12_readSum_74 (by decide) rfl (fun h74 => ?_) (fun h74 => absurd h74 (by omega))
            refine r_aload_n (q := 105) dX12_readSum_104 rfl rfl rfl ?_
            refine r_geti (q := 108) ck12 dX12_readSum_105 rfl (k := 51) (by decide) wt1329 (Or.inl rfl) (hs2.e (by decide)) ?_
            refine r_topi (y := nI (lvs t)) y6 ?_
            refine r_aload_n (q := 109) dX12_readSum_108 rfl rfl rfl ?_
            refine r_geti (q := 112) ck12 dX12_readSum_109 rfl (k := 48) (by decide) wt1326 (Or.inl rfl) (hs2.e (by decide)) ?_
            refine r_topi (y := nI n0) g48 ?_
            refine r_icmp_eqN (q := 115) (t := 125) (by omega) (by omega) dX12_readSum_112 (by decide) rfl (fun h112 => ?_) (fun h112 => ?_)
            · skip
              exact body (by omega) (by rw [show lvs t = n0 by omega]; exact hacc)
            · skip
              exfalso; omega
    refine r_iconst (q := 39) (nI 1) dX12_readSum_38 rfl (by decide) ?_
    refine r_istore (q := 41) (L' := [some (zr 12 0), some (zi (nI il)), some (zi (nI wn0)), some (zi (nI P)), some (zi (nI (if mi = true then 1 else 0))), some (zi (nI 1))]) dX12_readSum_39 rfl (by decide) rfl ?_
    refine r_aload_n (q := 42) dX12_readSum_41 rfl rfl rfl ?_
    refine r_geti (q := 45) ck12 dX12_readSum_42 rfl (k := 9) (by decide) wt1287 (Or.inl rfl) (hs.e (by decide)) ?_
    refine r_topi (y := nI (rkt (hdT ts).1)) m1 ?_
    refine r_iconst (q := 46) (nI 2) dX12_readSum_45 rfl (by decide) ?_
    refine r_icmp_neN (q := 49) (t := 61) (by omega) (by omega) dX12_readSum_46 (by decide) rfl (fun h46 => ?_) (fun h46 => ?_)
    · skip
      have hk3 : ¬ (hdT ts).1 = 3 := fun z => h46 (rkt_2.mpr z)
      have hv1 : 1 = v := by rw [← hv, if_neg hk3]
      have q5 := main S ts (by rw [if_neg hk3]) Fr.rf hr
      rw [← hv1, Nat.mod_eq_of_lt (show 1 < P by omega)] at q5
      rw [← hv1]
      exact q5
    · skip
      have hk3 := rkt_2.mp h46
      have hn100 := t4 hk3
      refine r_aload_n (q := 50) dX12_readSum_49 rfl rfl rfl ?_
      refine r_geti (q := 53) ck12 dX12_readSum_50 rfl (k := 12) (by decide) wt1290 (Or.inl rfl) (hs.e (by decide)) ?_
      refine r_topi (y := nI ((hdT ts).2.2)) (m4 (rkt_2.mp h46)) ?_
      refine r_iload_n (q := 54) dX12_readSum_53 rfl rfl rfl ?_
      refine r_iremN (q := 55) (by omega) (by omega) (by omega) dX12_readSum_54 rfl ?_
      refine r_istore (q := 57) (L' := [some (zr 12 0), some (zi (nI il)), some (zi (nI wn0)), some (zi (nI P)), some (zi (nI (if mi = true then 1 else 0))), some (zi (nI (((hdT ts).2.2) % P)))]) dX12_readSum_55 rfl (by decide) rfl ?_
      refine r_aload_n (q := 58) dX12_readSum_57 rfl rfl rfl ?_
      refine r_callV (Mc := mX12_next) (q := 61) (As := []) (st := []) ck12 dX12_readSum_58 rfl rfl mkX12_next wt1573 wt1575 wp70 rfl (Nat.le_of_ble_eq_true rfl) (Nat.le_of_ble_eq_true rfl) (by decide) (by decide) (by decide) (Or.inl rfl) (hs.e (by decide)) (ok_nextR hs hbl hlim hr) (fun r58 S58 hp58 => ?_)
      obtain ⟨rfl, a1, a2⟩ := hp58
      show Ok _ _ _ [] _ _
      rw [show (hdT ts).2.2 = v by rw [← hv, if_pos hk3]]
      exact main S58 (adv ts) (by rw [if_pos hk3]) a1 a2

