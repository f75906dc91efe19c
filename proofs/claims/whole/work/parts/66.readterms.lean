theorem gN_22 {S S1 : zS} (h : S1.2.2 = S.2.2) {a b : Nat} : gN S1 a b = gN S a b := by unfold gN; rw [h]
def tTm (j a b k : Nat) : Prop := tTy j a b k ∨ a = 8 ∧ b = j ∧ k = 0 ∨ tTr a b k = true
theorem Rc.fg {j : Nat} {S S1 : zS} {ts : List zTk} (h : Rc S ts) (f : Fg (tTy j) S S1) : Rc S1 ts := h.cong (fun i => ⟨f.I (by omega) (by unfold tTy; omega), f.I (by omega) (by unfold tTy; omega), f.J (by omega) (by unfold tTy; omega)⟩) (fun k hk => f.I (by omega) (by unfold tTy; omega)) (f.J (by omega) (by unfold tTy; omega))
theorem Wn.fg {T : Nat → Nat → Nat → Prop} {S S1 : zS} {s A : Nat} {nm e : Nat → Nat} (h : Wn S s A nm e) (f : Fg T S S1) (ht : ∀ b k, ¬ T 9 b k ∧ ¬ T 1003 b k ∧ ¬ T 1002 b k) : Wn S1 s A nm e := ⟨(f.I (by omega) (ht _ _).1).trans h.1, fun a ha => ⟨(f.I (by omega) (ht _ _).2.1).trans (h.2 a ha).1, (f.J (by omega) (ht _ _).2.2).trans (h.2 a ha).2⟩⟩
/-- the sum that is being read -/
def Sr (S : zS) (j A P : Nat) (e : Nat → Nat) (n : Nat) (acc : List zT) : Prop := gI S 8 j 0 = nI n ∧ Ty S j (cl (adds P 1 [] acc)) ∧ ∀ p, p ∈ acc → Tr A e n p.1 ∧ p.2 < P
def TmR (S S1 : zS) (j A P : Nat) (e : Nat → Nat) (r : Option zV) : zEr ⊕ ((Nat × List zT) × List zTk) → Prop
  | Sum.inl x => r = some (zi (nI 0)) ∧ Fg (tTm j) S S1 ∧ Fl S1 x ∧ TL S1 j
  | Sum.inr ((n, acc), ts) => r = some (zi (nI 1)) ∧ Fg (tTm j) S S1 ∧ gI S1 4 0 14 = gI S 4 0 14 ∧ Rc S1 ts ∧ Sr S1 j A P e n acc
theorem TmR.pre {S S1 S2 : zS} {j A P : Nat} {e : Nat → Nat} {r : Option zV} {x : zEr ⊕ ((Nat × List zT) × List zTk)} (h : TmR S1 S2 j A P e r x) (f : Fg (tTm j) S S1) (h14 : gI S1 4 0 14 = gI S 4 0 14) : TmR S S2 j A P e r x := by
  cases x with
  | inl x => exact ⟨h.1, f.tr h.2.1, h.2.2⟩
  | inr x => obtain ⟨⟨n, acc⟩, ts⟩ := x; exact ⟨h.1, f.tr h.2.1, h.2.2.1.trans h14, h.2.2.2⟩
theorem adds_snoc {P b : Nat} {r l : List zT} {p : zT} : adds P b r (l ++ [p]) = addT P p.1 (p.2 * b % P) (adds P b r l) := by unfold adds; rw [List.foldl_append]; rfl
theorem addT_mod {P v : Nat} {t : List Nat} : ∀ (r : List zT), addT P t (v * 1 % P) r = addT P t v r
  | [] => by rw [addT, addT, Nat.mul_one, Nat.mod_mod]
  | p :: r => by
    rw [addT, addT, addT_mod r, Nat.mul_one]
    have e1 : (p.2 + v % P) % P = (p.2 + v) % P := by rw [Nat.add_mod, Nat.mod_mod, ← Nat.add_mod]
    rw [e1, Nat.mod_mod]

set_option maxRecDepth 100000 in
theorem lp_rt124_0 {Po : Option zV → zS → Prop} {nm e : Nat → Nat} {A s : Nat} (hs4 : s < 4) (hE : Eok A e) (hnb : ∀ a, a < A → nm a < 2 ^ 48) (hd : ∀ a b, a < A → b < A → nm a = nm b → a = b) {P : Nat} (hP2 : 2 ≤ P) (hP : P ≤ 97) {j : Nat} (hj : j < 19) {S : zS} (hs : Sd S) (hp0 : gI S 9 s 0 = nI P) {wn0 ls k v : Nat} (hv : v < 100) {fi : Int32} {n : Nat} (hn : n ≤ 7) {t : List Nat} (ht : Tr A e n t) (h11 : gI S 4 0 11 = nI t.length) (hnd : Nd S t) {c : List zT} (hc : Ty S j c) (hC : Ce A e P n c) {U : List (List Nat)} (hU : U.length ≤ 1200) (htU : t ∈ U) (hcU : ∀ p, p ∈ c → p.1 ∈ U) (K : ∀ S1, Fg (tTy j) S S1 → Ty S1 j (cl (addT P t (tval P false v) c)) → Ok mX4_readTerms 161 [some (zr 4 0), some (zr 9 s), some (zr 8 j), some (zi (nI wn0)), some (zi (nI ls)), some (zi (nI 0)), some (zi (nI k)), some (zi (nI v)), some (zi fi), some (zi (nI (ky t)))] [] S1 Po) : Ok mX4_readTerms 124 [some (zr 4 0), some (zr 9 s), some (zr 8 j), some (zi (nI wn0)), some (zi (nI ls)), some (zi (nI 0)), some (zi (nI k)), some (zi (nI v)), some (zi fi), none] [] S Po := by
  have hl := ht.len hE
  have hky := ky_lt hE ht hn
  refine r_aload_n (q := 125) dX4_readTerms_124 rfl rfl rfl ?_
  refine r_getr (q := 128) (some (510, 0)) ck4 dX4_readTerms_125 rfl (k := 10) (by decide) wt131 rfl (hs.e (by decide)) (hs.r (by decide) (by decide)) ?_
  refine r_iconst (q := 129) (nI 0) dX4_readTerms_128 rfl (by decide) ?_
  refine r_aload_n (q := 130) dX4_readTerms_129 rfl rfl rfl ?_
  refine r_geti (q := 133) ck4 dX4_readTerms_130 rfl (k := 11) (by decide) wt132 (Or.inl rfl) (hs.e (by decide)) ?_
  refine r_topi (y := nI t.length) h11 ?_
  refine r_callS (Mc := mX6_code) (q := 136) (As := [zr 510 0, zi (nI 0), zi (nI t.length)]) (st := []) dX4_readTerms_133 rfl rfl mkX6_code wt606 wt607 rfl (Nat.le_of_ble_eq_true rfl) (Nat.le_of_ble_eq_true rfl) (by decide) (by decide) (by decide) (Or.inl rfl) hs.some (ok_code_510 hs (fr := 0) (to := t.length) (by omega) hE ht hn (by omega) (fun i hi => by rw [Nat.zero_add]; exact hnd i hi)) (fun r133 S133 hp133 => ?_)
  obtain ⟨rfl, hq133⟩ := hp133
  rw [hq133]
  show Ok _ _ _ [zi (nI (ky t))] _ _
  refine r_istore (q := 138) (L' := [some (zr 4 0), some (zr 9 s), some (zr 8 j), some (zi (nI wn0)), some (zi (nI ls)), some (zi (nI 0)), some (zi (nI k)), some (zi (nI v)), some (zi fi), some (zi (nI (ky t)))]) dX4_readTerms_136 rfl (by decide) rfl ?_
  refine r_aload_n (q := 139) dX4_readTerms_138 rfl rfl rfl ?_
  refine r_iload (q := 141) dX4_readTerms_139 rfl rfl ?_
  refine r_iload (q := 143) dX4_readTerms_141 rfl rfl ?_
  refine r_if_eqN (q := 146) (t := 152) (by omega) dX4_readTerms_143 (by decide) rfl (fun h143 => ?_) (fun h143 => absurd h143 (by omega))
  refine r_iload (q := 154) dX4_readTerms_152 rfl rfl ?_
  refine r_aload_n (q := 155) dX4_readTerms_154 rfl rfl rfl ?_
  refine r_geti (q := 158) ck9 dX4_readTerms_155 rfl (k := 0) (by decide) wt293 (Or.inl rfl) (hs.e (show s < 4 by omega)) ?_
  refine r_topi (y := nI P) hp0 ?_
  refine r_callV (Mc := mX8_put) (q := 161) (As := [zi (nI (ky t)), zi (nI v), zi (nI P)]) (st := []) ck8 dX4_readTerms_158 rfl rfl mkX8_put wt609 wt610 wt611 rfl (Nat.le_of_ble_eq_true rfl) (Nat.le_of_ble_eq_true rfl) (by decide) (by decide) (by decide) (Or.inr ⟨Nat.le_of_ble_eq_true rfl, rfl, rfl⟩) (hs.e (show j < 19 by omega)) (ok_X8_put hs hj hE ht hn hc hC hP2 hP hU htU hcU (nI v)) (fun r158 S158 hp158 => ?_)
  obtain ⟨rfl, g1, g2⟩ := hp158
  rw [rsN_pos hP2 hv] at g2
  show Ok _ _ _ [] _ _
  exact K S158 g1 g2

set_option maxRecDepth 100000 in
theorem lp_rt124_1 {Po : Option zV → zS → Prop} {nm e : Nat → Nat} {A s : Nat} (hs4 : s < 4) (hE : Eok A e) (hnb : ∀ a, a < A → nm a < 2 ^ 48) (hd : ∀ a b, a < A → b < A → nm a = nm b → a = b) {P : Nat} (hP2 : 2 ≤ P) (hP : P ≤ 97) {j : Nat} (hj : j < 19) {S : zS} (hs : Sd S) (hp0 : gI S 9 s 0 = nI P) {wn0 ls k v : Nat} (hv : v < 100) {fi : Int32} {n : Nat} (hn : n ≤ 7) {t : List Nat} (ht : Tr A e n t) (h11 : gI S 4 0 11 = nI t.length) (hnd : Nd S t) {c : List zT} (hc : Ty S j c) (hC : Ce A e P n c) {U : List (List Nat)} (hU : U.length ≤ 1200) (htU : t ∈ U) (hcU : ∀ p, p ∈ c → p.1 ∈ U) (K : ∀ S1, Fg (tTy j) S S1 → Ty S1 j (cl (addT P t (tval P true v) c)) → Ok mX4_readTerms 161 [some (zr 4 0), some (zr 9 s), some (zr 8 j), some (zi (nI wn0)), some (zi (nI ls)), some (zi (nI 1)), some (zi (nI k)), some (zi (nI v)), some (zi fi), some (zi (nI (ky t)))] [] S1 Po) : Ok mX4_readTerms 124 [some (zr 4 0), some (zr 9 s), some (zr 8 j), some (zi (nI wn0)), some (zi (nI ls)), some (zi (nI 1)), some (zi (nI k)), some (zi (nI v)), some (zi fi), none] [] S Po := by
  have hl := ht.len hE
  have hky := ky_lt hE ht hn
  refine r_aload_n (q := 125) dX4_readTerms_124 rfl rfl rfl ?_
  refine r_getr (q := 128) (some (510, 0)) ck4 dX4_readTerms_125 rfl (k := 10) (by decide) wt131 rfl (hs.e (by decide)) (hs.r (by decide) (by decide)) ?_
  refine r_iconst (q := 129) (nI 0) dX4_readTerms_128 rfl (by decide) ?_
  refine r_aload_n (q := 130) dX4_readTerms_129 rfl rfl rfl ?_
  refine r_geti (q := 133) ck4 dX4_readTerms_130 rfl (k := 11) (by decide) wt132 (Or.inl rfl) (hs.e (by decide)) ?_
  refine r_topi (y := nI t.length) h11 ?_
  refine r_callS (Mc := mX6_code) (q := 136) (As := [zr 510 0, zi (nI 0), zi (nI t.length)]) (st := []) dX4_readTerms_133 rfl rfl mkX6_code wt606 wt607 rfl (Nat.le_of_ble_eq_true rfl) (Nat.le_of_ble_eq_true rfl) (by decide) (by decide) (by decide) (Or.inl rfl) hs.some (ok_code_510 hs (fr := 0) (to := t.length) (by omega) hE ht hn (by omega) (fun i hi => by rw [Nat.zero_add]; exact hnd i hi)) (fun r133 S133 hp133 => ?_)
  obtain ⟨rfl, hq133⟩ := hp133
  rw [hq133]
  show Ok _ _ _ [zi (nI (ky t))] _ _
  refine r_istore (q := 138) (L' := [some (zr 4 0), some (zr 9 s), some (zr 8 j), some (zi (nI wn0)), some (zi (nI ls)), some (zi (nI 1)), some (zi (nI k)), some (zi (nI v)), some (zi fi), some (zi (nI (ky t)))]) dX4_readTerms_136 rfl (by decide) rfl ?_
  refine r_aload_n (q := 139) dX4_readTerms_138 rfl rfl rfl ?_
  refine r_iload (q := 141) dX4_readTerms_139 rfl rfl ?_
  refine r_iload (q := 143) dX4_readTerms_141 rfl rfl ?_
  refine r_if_eqN (q := 146) (t := 152) (by omega) dX4_readTerms_143 (by decide) rfl (fun h143 => absurd h143 (by omega)) (fun h143 => ?_)
  refine r_iload (q := 148) dX4_readTerms_146 rfl rfl ?_
  refine r_ineg (q := 149) dX4_readTerms_148 rfl ?_
  refine r_goto (q := 154) dX4_readTerms_149 (by decide) ?_
  refine r_aload_n (q := 155) dX4_readTerms_154 rfl rfl rfl ?_
  refine r_geti (q := 158) ck9 dX4_readTerms_155 rfl (k := 0) (by decide) wt293 (Or.inl rfl) (hs.e (show s < 4 by omega)) ?_
  refine r_topi (y := nI P) hp0 ?_
  refine r_callV (Mc := mX8_put) (q := 161) (As := [zi (nI (ky t)), zi (-(nI v)), zi (nI P)]) (st := []) ck8 dX4_readTerms_158 rfl rfl mkX8_put wt609 wt610 wt611 rfl (Nat.le_of_ble_eq_true rfl) (Nat.le_of_ble_eq_true rfl) (by decide) (by decide) (by decide) (Or.inr ⟨Nat.le_of_ble_eq_true rfl, rfl, rfl⟩) (hs.e (show j < 19 by omega)) (ok_X8_put hs hj hE ht hn hc hC hP2 hP hU htU hcU (-nI v)) (fun r158 S158 hp158 => ?_)
  obtain ⟨rfl, g1, g2⟩ := hp158
  rw [rsN_neg hP2 hv] at g2
  show Ok _ _ _ [] _ _
  exact K S158 g1 g2

set_option maxRecDepth 100000 in
theorem lp_terms {nm e : Nat → Nat} {A s : Nat} (hs4 : s < 4) (hE : Eok A e) (hnb : ∀ a, a < A → nm a < 2 ^ 48) (hd : ∀ a b, a < A → b < A → nm a = nm b → a = b) {P : Nat} (hP2 : 2 ≤ P) (hP : P ≤ 97) {j : Nat} (hj : j < 19) {wn0 ls tn : Nat} (hw7 : wn0 ≤ 7) (hls : ls ≤ 2) (htn : tn ≤ 941) : ∀ (f : Nat) (S : zS) (mi : Bool) (n0 : Nat) (acc : List zT) (ts : List zTk) (k : Nat), k + f ≤ tn → ts.length ≤ f → Sd S → Wn S s A nm e → gI S 9 s 0 = nI P → gI S 4 0 3 = nI tn → Rc S ts → Tks ts → Lk ts → acc.length ≤ k → (k = 0 ∧ n0 = 0 ∧ acc = [] ∧ TL S j ∨ 0 < k ∧ 1 ≤ n0 ∧ n0 ≤ 7 ∧ ls ≤ n0 ∧ Sr S j A P e n0 acc) → Ok mX4_readTerms 28 [some (zr 4 0), some (zr 9 s), some (zr 8 j), some (zi (nI wn0)), some (zi (nI ls)), some (zi (nI (if mi = true then 1 else 0))), some (zi (nI k)), none, none, none] [] S (fun r S1 => TmR S S1 j A P e r (termsP nm e A P wn0 ls f mi n0 acc ts)) := by
  intro f
  induction f with
  | zero =>
    intro S mi n0 acc ts k hk hts hs hw hp0 h3 hr hkt hlk hac hst
    have := hkt.1
    exact absurd (List.length_eq_zero_iff.mp (by omega)) this
  | succ f ih =>
    intro S mi n0 acc ts k hkf hts hs hw hp0 h3 hr hkt hlk hac hst
    have hTL : TL S j := by
      rcases hst with z | z
      · exact z.2.2.2
      · exact z.2.2.2.2.2.1.tl
    obtain ⟨f5, f6, f7⟩ := hr.f
    obtain ⟨t1, t2, t3, t4⟩ := hkt.hd
    rw [termsP]
    have hk1 := tks_if hkt ((hdT ts).1 = 3)
    have hlk1 := lk_if hlk ((hdT ts).1 = 3)
    have hle1 := len_if ts ((hdT ts).1 = 3)
    generalize hv : (if (hdT ts).1 = 3 then (hdT ts).2.2 else 1) = v
    have hv100 : v < 100 := by rw [← hv]; split; exact t4 (by assumption); omega
    -- behind the factor
    have main : ∀ (S1 : zS) (ts1 : List zTk), ts1 = (if (hdT ts).1 = 3 then adv ts else ts) → Fr tSk S S1 → gI S1 4 0 14 = gI S 4 0 14 → Rc S1 ts1 → Ok mX4_readTerms 59 [some (zr 4 0), some (zr 9 s), some (zr 8 j), some (zi (nI wn0)), some (zi (nI ls)), some (zi (nI (if mi = true then 1 else 0))), some (zi (nI k)), some (zi (nI v)), none, none] [] S1 (fun r S2 => TmR S S2 j A P e r (match treeP nm e A 480 [] [] 0 (if (hdT ts).1 = 3 then adv ts else ts) with | Sum.inl x => Sum.inl x | Sum.inr (t, ts2) => if lvs t ≠ (if n0 = 0 then (if wn0 = 0 then lvs t else wn0) else n0) ∨ lvs t < ls then Sum.inl (3, (hdT (if (hdT ts).1 = 3 then adv ts else ts)).2.1) else if (hdT ts2).1 = 43 ∨ (hdT ts2).1 = 45 then termsP nm e A P wn0 ls f ((hdT ts2).1 == 45) (lvs t) (acc ++ [(t, tval P mi v)]) (adv ts2) else Sum.inr ((lvs t, acc ++ [(t, tval P mi v)]), ts2))) := by
      intro S1 ts1 ets fS h14 hr1
      rw [← ets] at hk1 hlk1 hle1 ⊢
      have hs1 := hs.fr fS
      obtain ⟨g5, g6, g7⟩ := hr1.f
      have u2 := hk1.hd.2.1
      have hw1 := hw.fr fS (fun _ _ => ⟨rfl, rfl, rfl⟩)
      have fG1 : Fg (tTm j) S S1 := fS.fg hs (fun a b k z => Or.inr (Or.inr (tTr_ca a b k (tCa_sk a b k z))))
      have hTL1 : TL S1 j := hTL.cong (gN_22 fS.2.2) (gN_22 fS.2.2) (fS.1 _ _ _ rfl)
      cases q : treeP nm e A 480 [] [] 0 ts1 with
      | inl x =>
        skip
        refine r_aload_n (q := 60) dX4_readTerms_59 rfl rfl rfl ?_
        refine r_geti (q := 63) ck4 dX4_readTerms_60 rfl (k := 6) (by decide) wt127 (Or.inl rfl) (hs1.e (by decide)) ?_
        refine r_topi (y := nI ((hdT ts1).2.1)) g6 ?_
        refine r_istore (q := 65) (L' := [some (zr 4 0), some (zr 9 s), some (zr 8 j), some (zi (nI wn0)), some (zi (nI ls)), some (zi (nI (if mi = true then 1 else 0))), some (zi (nI k)), some (zi (nI v)), some (zi (nI ((hdT ts1).2.1))), none]) dX4_readTerms_63 rfl (by decide) rfl ?_
        refine r_aload_n (q := 66) dX4_readTerms_65 rfl rfl rfl ?_
        refine r_aload_n (q := 67) dX4_readTerms_66 rfl rfl rfl ?_
        refine r_callV (Mc := mX4_readTree) (q := 70) (As := [zr 9 s]) (st := []) ck4 dX4_readTerms_67 rfl rfl mkX4_readTree wt586 wt588 wp12 rfl (Nat.le_of_ble_eq_true rfl) (Nat.le_of_ble_eq_true rfl) (by decide) (by decide) (by decide) (Or.inl rfl) (hs1.e (by decide)) (ok_readTree hs1 hs4 hE hnb hd hw1 hr1 hk1) (fun r67 S67 hp67 => ?_)
        rw [q] at hp67
        obtain ⟨rfl, y1, y2⟩ := hp67
        show Ok _ _ _ [zi (nI 0)] _ _
        refine r_if_neN (q := 73) (t := 75) (by omega) dX4_readTerms_70 (by decide) rfl (fun h70 => absurd h70 (by omega)) (fun h70 => ?_)
        refine r_iconst (q := 74) (nI 0) dX4_readTerms_73 rfl (by decide) ?_
        refine r_zreturn (by decide) dX4_readTerms_74 rfl ?_
        exact ⟨rfl, fG1.tr (y1.fg hs1 (fun a b k z => Or.inr (Or.inr z))), y2, hTL1.cong (gN_22 y1.2.2) (gN_22 y1.2.2) (y1.1 _ _ _ rfl)⟩
      | inr x =>
        obtain ⟨t, ts2⟩ := x
        obtain ⟨ht, hl1, hl7, hl13, hk2, hlk2, hlt2⟩ := treeP_tr hE hk1 hlk1 q
        show Ok _ _ _ _ _ (fun r S2 => TmR S S2 j A P e r (if lvs t ≠ (if n0 = 0 then (if wn0 = 0 then lvs t else wn0) else n0) ∨ lvs t < ls then Sum.inl (3, (hdT ts1).2.1) else if (hdT ts2).1 = 43 ∨ (hdT ts2).1 = 45 then termsP nm e A P wn0 ls f ((hdT ts2).1 == 45) (lvs t) (acc ++ [(t, tval P mi v)]) (adv ts2) else Sum.inr ((lvs t, acc ++ [(t, tval P mi v)]), ts2)))
        refine r_aload_n (q := 60) dX4_readTerms_59 rfl rfl rfl ?_
        refine r_geti (q := 63) ck4 dX4_readTerms_60 rfl (k := 6) (by decide) wt127 (Or.inl rfl) (hs1.e (by decide)) ?_
        refine r_topi (y := nI ((hdT ts1).2.1)) g6 ?_
        refine r_istore (q := 65) (L' := [some (zr 4 0), some (zr 9 s), some (zr 8 j), some (zi (nI wn0)), some (zi (nI ls)), some (zi (nI (if mi = true then 1 else 0))), some (zi (nI k)), some (zi (nI v)), some (zi (nI ((hdT ts1).2.1))), none]) dX4_readTerms_63 rfl (by decide) rfl ?_
        refine r_aload_n (q := 66) dX4_readTerms_65 rfl rfl rfl ?_
        refine r_aload_n (q := 67) dX4_readTerms_66 rfl rfl rfl ?_
        refine r_callV (Mc := mX4_readTree) (q := 70) (As := [zr 9 s]) (st := []) ck4 dX4_readTerms_67 rfl rfl mkX4_readTree wt586 wt588 wp12 rfl (Nat.le_of_ble_eq_true rfl) (Nat.le_of_ble_eq_true rfl) (by decide) (by decide) (by decide) (Or.inl rfl) (hs1.e (by decide)) (ok_readTree hs1 hs4 hE hnb hd hw1 hr1 hk1) (fun r67 S67 hp67 => ?_)
        rw [q] at hp67
        obtain ⟨rfl, y1, y2, y3, y4, y5, y6⟩ := hp67
        show Ok _ _ _ [zi (nI 1)] _ _
        refine r_if_neN (q := 73) (t := 75) (by omega) dX4_readTerms_70 (by decide) rfl (fun h70 => ?_) (fun h70 => absurd h70 (by omega))
        have hs2 := hs1.fr y1
        have fG2 : Fg (tTm j) S S67 := fG1.tr (y1.fg hs1 (fun a b k z => Or.inr (Or.inr z)))
        have hTL2 : TL S67 j := hTL1.cong (gN_22 y1.2.2) (gN_22 y1.2.2) (y1.1 _ _ _ rfl)
        have g14 : gI S67 4 0 14 = gI S 4 0 14 := y2.trans h14
        have tnx : gI S67 4 0 3 = nI tn := (y1.1 _ _ _ rfl).trans ((fS.1 _ _ _ rfl).trans h3)
        have tail : ∀ S3, Sd S3 → Fg (tTm j) S S3 → gI S3 4 0 14 = gI S 4 0 14 → Rc S3 ts2 → Wn S3 s A nm e → gI S3 9 s 0 = nI P → gI S3 4 0 3 = nI tn → ls ≤ lvs t → Sr S3 j A P e (lvs t) (acc ++ [(t, tval P mi v)]) → Ok mX4_readTerms 161 [some (zr 4 0), some (zr 9 s), some (zr 8 j), some (zi (nI wn0)), some (zi (nI ls)), some (zi (nI (if mi = true then 1 else 0))), some (zi (nI k)), some (zi (nI v)), some (zi (nI ((hdT ts1).2.1))), some (zi (nI (ky t)))] [] S3 (fun r S2 => TmR S S2 j A P e r (if (hdT ts2).1 = 43 ∨ (hdT ts2).1 = 45 then termsP nm e A P wn0 ls f ((hdT ts2).1 == 45) (lvs t) (acc ++ [(t, tval P mi v)]) (adv ts2) else Sum.inr ((lvs t, acc ++ [(t, tval P mi v)]), ts2))) := by
          intro S3 hs3 fG3 j14 hr3 hw3 hq0 htn3 hlsl hsr
          obtain ⟨z5, z6, z7⟩ := hr3.f
          have zk := hk2.hd.1
          have zl := adv_len ts2
          have zky := ky_lt hE ht hl7
          refine r_aload_n (q := 162) dX4_readTerms_161 rfl rfl rfl ?_
          refine r_geti (q := 165) ck4 dX4_readTerms_162 rfl (k := 5) (by decide) wt126 (Or.inl rfl) (hs3.e (by decide)) ?_
          refine r_topi (y := nI ((hdT ts2).1)) z5 ?_
          refine r_bipush (q := 167) (nI 43) dX4_readTerms_165 rfl (by decide) ?_
          refine r_icmp_eqN (q := 170) (t := 181) (by omega) (by omega) dX4_readTerms_167 (by decide) rfl (fun h167 => ?_) (fun h167 => ?_)
          · skip
            refine r_aload_n (q := 182) dX4_readTerms_181 rfl rfl rfl ?_
            refine r_geti (q := 185) ck4 dX4_readTerms_182 rfl (k := 5) (by decide) wt126 (Or.inl rfl) (hs3.e (by decide)) ?_
            refine r_topi (y := nI ((hdT ts2).1)) z5 ?_
            refine r_bipush (q := 187) (nI 45) dX4_readTerms_185 rfl (by decide) ?_
            refine r_icmp_neN (q := 190) (t := 194) (by omega) (by omega) dX4_readTerms_187 (by decide) rfl (fun h187 => ?_) (fun h187 => ?_)
            · skip
              refine r_iconst (q := 195) (nI 0) dX4_readTerms_194 rfl (by decide) ?_
              refine r_istore (q := 197) (L' := [some (zr 4 0), some (zr 9 s), some (zr 8 j), some (zi (nI wn0)), some (zi (nI ls)), some (zi (nI 0)), some (zi (nI k)), some (zi (nI v)), some (zi (nI ((hdT ts1).2.1))), some (zi (nI (ky t)))]) dX4_readTerms_195 rfl (by decide) rfl ?_
              refine r_aload_n (q := 198) dX4_readTerms_197 rfl rfl rfl ?_
              refine r_callV (Mc := mX4_advance) (q := 201) (As := []) (st := []) ck4 dX4_readTerms_198 rfl rfl mkX4_advance wt529 wt531 wp4 rfl (Nat.le_of_ble_eq_true rfl) (Nat.le_of_ble_eq_true rfl) (by decide) (by decide) (by decide) (Or.inl rfl) (hs3.e (by decide)) (ok_advance hs3 hr3) (fun r198 S198 hp198 => ?_)
              obtain ⟨rfl, a1, a2⟩ := hp198
              show Ok _ _ _ [] _ _
              refine r_iincN (q := 204) (L' := [some (zr 4 0), some (zr 9 s), some (zr 8 j), some (zi (nI wn0)), some (zi (nI ls)), some (zi (nI 0)), some (zi (nI (k + 1))), some (zi (nI v)), some (zi (nI ((hdT ts1).2.1))), some (zi (nI (ky t)))]) 1 rfl dX4_readTerms_201 rfl rfl (by decide) rfl ?_
              refine r_goto (q := 28) dX4_readTerms_204 (by decide) ?_
              refine r_mask [true, true, true, true, true, true, true, false, false, false] rfl ?_
              rw [if_pos (by omega)]
              have em : ((hdT ts2).1 == 45) = false := by simp; omega
              rw [em]
              have fA : Fg (tTm j) S S198 := fG3.tr (a1.fg hs3 (fun a b k z => Or.inr (Or.inr (tTr_ca a b k (tCa_sk a b k (tSk_av a b k z))))))
              have b14 : gI S198 4 0 14 = gI S 4 0 14 := (a1.1 _ _ _ rfl).trans j14
              have sr' : Sr S198 j A P e (lvs t) (acc ++ [(t, tval P mi v)]) := by obtain ⟨m, o1, o2, o3⟩ := hsr.2.1.2.2; exact ⟨(a1.1 _ _ _ rfl).trans hsr.1, ⟨(a1.1 _ _ _ rfl).trans hsr.2.1.1, fun k hk => ⟨(a1.1 _ _ _ rfl).trans (hsr.2.1.2.1 k hk).1, (a1.1 _ _ _ rfl).trans (hsr.2.1.2.1 k hk).2⟩, m, (gN_22 a1.2.2).trans o1, (gN_22 a1.2.2).trans o2, o3⟩, hsr.2.2⟩
              have q4 := ih S198 false (lvs t) (acc ++ [(t, tval P mi v)]) (adv ts2) (k + 1) (by omega) (by omega) (hs3.fr a1) (hw3.fr a1 (fun _ _ => ⟨rfl, rfl, rfl⟩)) ((a1.1 _ _ _ rfl).trans hq0) ((a1.1 _ _ _ rfl).trans htn3) a2 hk2.adv hlk2.ad (by rw [List.length_append, List.length_singleton]; omega) (Or.inr ⟨by omega, hl1, hl7, hlsl, sr'⟩)
              exact Ok.mono q4 (fun r S2 z => TmR.pre z fA b14)
            · skip
              refine r_iconst (q := 191) (nI 1) dX4_readTerms_190 rfl (by decide) ?_
              refine r_goto (q := 195) dX4_readTerms_191 (by decide) ?_
              refine r_istore (q := 197) (L' := [some (zr 4 0), some (zr 9 s), some (zr 8 j), some (zi (nI wn0)), some (zi (nI ls)), some (zi (nI 1)), some (zi (nI k)), some (zi (nI v)), some (zi (nI ((hdT ts1).2.1))), some (zi (nI (ky t)))]) dX4_readTerms_195 rfl (by decide) rfl ?_
              refine r_aload_n (q := 198) dX4_readTerms_197 rfl rfl rfl ?_
              refine r_callV (Mc := mX4_advance) (q := 201) (As := []) (st := []) ck4 dX4_readTerms_198 rfl rfl mkX4_advance wt529 wt531 wp4 rfl (Nat.le_of_ble_eq_true rfl) (Nat.le_of_ble_eq_true rfl) (by decide) (by decide) (by decide) (Or.inl rfl) (hs3.e (by decide)) (ok_advance hs3 hr3) (fun r198 S198 hp198 => ?_)
              obtain ⟨rfl, a1, a2⟩ := hp198
              show Ok _ _ _ [] _ _
              refine r_iincN (q := 204) (L' := [some (zr 4 0), some (zr 9 s), some (zr 8 j), some (zi (nI wn0)), some (zi (nI ls)), some (zi (nI 1)), some (zi (nI (k + 1))), some (zi (nI v)), some (zi (nI ((hdT ts1).2.1))), some (zi (nI (ky t)))]) 1 rfl dX4_readTerms_201 rfl rfl (by decide) rfl ?_
              refine r_goto (q := 28) dX4_readTerms_204 (by decide) ?_
              refine r_mask [true, true, true, true, true, true, true, false, false, false] rfl ?_
              rw [if_pos (by omega)]
              have em : ((hdT ts2).1 == 45) = true := by simp; omega
              rw [em]
              have fA : Fg (tTm j) S S198 := fG3.tr (a1.fg hs3 (fun a b k z => Or.inr (Or.inr (tTr_ca a b k (tCa_sk a b k (tSk_av a b k z))))))
              have b14 : gI S198 4 0 14 = gI S 4 0 14 := (a1.1 _ _ _ rfl).trans j14
              have sr' : Sr S198 j A P e (lvs t) (acc ++ [(t, tval P mi v)]) := by obtain ⟨m, o1, o2, o3⟩ := hsr.2.1.2.2; exact ⟨(a1.1 _ _ _ rfl).trans hsr.1, ⟨(a1.1 _ _ _ rfl).trans hsr.2.1.1, fun k hk => ⟨(a1.1 _ _ _ rfl).trans (hsr.2.1.2.1 k hk).1, (a1.1 _ _ _ rfl).trans (hsr.2.1.2.1 k hk).2⟩, m, (gN_22 a1.2.2).trans o1, (gN_22 a1.2.2).trans o2, o3⟩, hsr.2.2⟩
              have q4 := ih S198 true (lvs t) (acc ++ [(t, tval P mi v)]) (adv ts2) (k + 1) (by omega) (by omega) (hs3.fr a1) (hw3.fr a1 (fun _ _ => ⟨rfl, rfl, rfl⟩)) ((a1.1 _ _ _ rfl).trans hq0) ((a1.1 _ _ _ rfl).trans htn3) a2 hk2.adv hlk2.ad (by rw [List.length_append, List.length_singleton]; omega) (Or.inr ⟨by omega, hl1, hl7, hlsl, sr'⟩)
              exact Ok.mono q4 (fun r S2 z => TmR.pre z fA b14)
          · skip
            refine r_aload_n (q := 171) dX4_readTerms_170 rfl rfl rfl ?_
            refine r_geti (q := 174) ck4 dX4_readTerms_171 rfl (k := 5) (by decide) wt126 (Or.inl rfl) (hs3.e (by decide)) ?_
            refine r_topi (y := nI ((hdT ts2).1)) z5 ?_
            refine r_bipush (q := 176) (nI 45) dX4_readTerms_174 rfl (by decide) ?_
            refine r_icmp_eqN (q := 179) (t := 181) (by omega) (by omega) dX4_readTerms_176 (by decide) rfl (fun h176 => ?_) (fun h176 => ?_)
            · skip
              refine r_aload_n (q := 182) dX4_readTerms_181 rfl rfl rfl ?_
              refine r_geti (q := 185) ck4 dX4_readTerms_182 rfl (k := 5) (by decide) wt126 (Or.inl rfl) (hs3.e (by decide)) ?_
              refine r_topi (y := nI ((hdT ts2).1)) z5 ?_
              refine r_bipush (q := 187) (nI 45) dX4_readTerms_185 rfl (by decide) ?_
              refine r_icmp_neN (q := 190) (t := 194) (by omega) (by omega) dX4_readTerms_187 (by decide) rfl (fun h187 => ?_) (fun h187 => ?_)
              · skip
                refine r_iconst (q := 195) (nI 0) dX4_readTerms_194 rfl (by decide) ?_
                refine r_istore (q := 197) (L' := [some (zr 4 0), some (zr 9 s), some (zr 8 j), some (zi (nI wn0)), some (zi (nI ls)), some (zi (nI 0)), some (zi (nI k)), some (zi (nI v)), some (zi (nI ((hdT ts1).2.1))), some (zi (nI (ky t)))]) dX4_readTerms_195 rfl (by decide) rfl ?_
                refine r_aload_n (q := 198) dX4_readTerms_197 rfl rfl rfl ?_
                refine r_callV (Mc := mX4_advance) (q := 201) (As := []) (st := []) ck4 dX4_readTerms_198 rfl rfl mkX4_advance wt529 wt531 wp4 rfl (Nat.le_of_ble_eq_true rfl) (Nat.le_of_ble_eq_true rfl) (by decide) (by decide) (by decide) (Or.inl rfl) (hs3.e (by decide)) (ok_advance hs3 hr3) (fun r198 S198 hp198 => ?_)
                obtain ⟨rfl, a1, a2⟩ := hp198
                show Ok _ _ _ [] _ _
                refine r_iincN (q := 204) (L' := [some (zr 4 0), some (zr 9 s), some (zr 8 j), some (zi (nI wn0)), some (zi (nI ls)), some (zi (nI 0)), some (zi (nI (k + 1))), some (zi (nI v)), some (zi (nI ((hdT ts1).2.1))), some (zi (nI (ky t)))]) 1 rfl dX4_readTerms_201 rfl rfl (by decide) rfl ?_
                refine r_goto (q := 28) dX4_readTerms_204 (by decide) ?_
                refine r_mask [true, true, true, true, true, true, true, false, false, false] rfl ?_
                rw [if_pos (by omega)]
                have em : ((hdT ts2).1 == 45) = false := by simp; omega
                rw [em]
                have fA : Fg (tTm j) S S198 := fG3.tr (a1.fg hs3 (fun a b k z => Or.inr (Or.inr (tTr_ca a b k (tCa_sk a b k (tSk_av a b k z))))))
                have b14 : gI S198 4 0 14 = gI S 4 0 14 := (a1.1 _ _ _ rfl).trans j14
                have sr' : Sr S198 j A P e (lvs t) (acc ++ [(t, tval P mi v)]) := by obtain ⟨m, o1, o2, o3⟩ := hsr.2.1.2.2; exact ⟨(a1.1 _ _ _ rfl).trans hsr.1, ⟨(a1.1 _ _ _ rfl).trans hsr.2.1.1, fun k hk => ⟨(a1.1 _ _ _ rfl).trans (hsr.2.1.2.1 k hk).1, (a1.1 _ _ _ rfl).trans (hsr.2.1.2.1 k hk).2⟩, m, (gN_22 a1.2.2).trans o1, (gN_22 a1.2.2).trans o2, o3⟩, hsr.2.2⟩
                have q4 := ih S198 false (lvs t) (acc ++ [(t, tval P mi v)]) (adv ts2) (k + 1) (by omega) (by omega) (hs3.fr a1) (hw3.fr a1 (fun _ _ => ⟨rfl, rfl, rfl⟩)) ((a1.1 _ _ _ rfl).trans hq0) ((a1.1 _ _ _ rfl).trans htn3) a2 hk2.adv hlk2.ad (by rw [List.length_append, List.length_singleton]; omega) (Or.inr ⟨by omega, hl1, hl7, hlsl, sr'⟩)
                exact Ok.mono q4 (fun r S2 z => TmR.pre z fA b14)
              · skip
                refine r_iconst (q := 191) (nI 1) dX4_readTerms_190 rfl (by decide) ?_
                refine r_goto (q := 195) dX4_readTerms_191 (by decide) ?_
                refine r_istore (q := 197) (L' := [some (zr 4 0), some (zr 9 s), some (zr 8 j), some (zi (nI wn0)), some (zi (nI ls)), some (zi (nI 1)), some (zi (nI k)), some (zi (nI v)), some (zi (nI ((hdT ts1).2.1))), some (zi (nI (ky t)))]) dX4_readTerms_195 rfl (by decide) rfl ?_
                refine r_aload_n (q := 198) dX4_readTerms_197 rfl rfl rfl ?_
                refine r_callV (Mc := mX4_advance) (q := 201) (As := []) (st := []) ck4 dX4_readTerms_198 rfl rfl mkX4_advance wt529 wt531 wp4 rfl (Nat.le_of_ble_eq_true rfl) (Nat.le_of_ble_eq_true rfl) (by decide) (by decide) (by decide) (Or.inl rfl) (hs3.e (by decide)) (ok_advance hs3 hr3) (fun r198 S198 hp198 => ?_)
                obtain ⟨rfl, a1, a2⟩ := hp198
                show Ok _ _ _ [] _ _
                refine r_iincN (q := 204) (L' := [some (zr 4 0), some (zr 9 s), some (zr 8 j), some (zi (nI wn0)), some (zi (nI ls)), some (zi (nI 1)), some (zi (nI (k + 1))), some (zi (nI v)), some (zi (nI ((hdT ts1).2.1))), some (zi (nI (ky t)))]) 1 rfl dX4_readTerms_201 rfl rfl (by decide) rfl ?_
                refine r_goto (q := 28) dX4_readTerms_204 (by decide) ?_
                refine r_mask [true, true, true, true, true, true, true, false, false, false] rfl ?_
                rw [if_pos (by omega)]
                have em : ((hdT ts2).1 == 45) = true := by simp; omega
                rw [em]
                have fA : Fg (tTm j) S S198 := fG3.tr (a1.fg hs3 (fun a b k z => Or.inr (Or.inr (tTr_ca a b k (tCa_sk a b k (tSk_av a b k z))))))
                have b14 : gI S198 4 0 14 = gI S 4 0 14 := (a1.1 _ _ _ rfl).trans j14
                have sr' : Sr S198 j A P e (lvs t) (acc ++ [(t, tval P mi v)]) := by obtain ⟨m, o1, o2, o3⟩ := hsr.2.1.2.2; exact ⟨(a1.1 _ _ _ rfl).trans hsr.1, ⟨(a1.1 _ _ _ rfl).trans hsr.2.1.1, fun k hk => ⟨(a1.1 _ _ _ rfl).trans (hsr.2.1.2.1 k hk).1, (a1.1 _ _ _ rfl).trans (hsr.2.1.2.1 k hk).2⟩, m, (gN_22 a1.2.2).trans o1, (gN_22 a1.2.2).trans o2, o3⟩, hsr.2.2⟩
                have q4 := ih S198 true (lvs t) (acc ++ [(t, tval P mi v)]) (adv ts2) (k + 1) (by omega) (by omega) (hs3.fr a1) (hw3.fr a1 (fun _ _ => ⟨rfl, rfl, rfl⟩)) ((a1.1 _ _ _ rfl).trans hq0) ((a1.1 _ _ _ rfl).trans htn3) a2 hk2.adv hlk2.ad (by rw [List.length_append, List.length_singleton]; omega) (Or.inr ⟨by omega, hl1, hl7, hlsl, sr'⟩)
                exact Ok.mono q4 (fun r S2 z => TmR.pre z fA b14)
            · skip
              refine r_iconst (q := 180) (nI 1) dX4_readTerms_179 rfl (by decide) ?_
              refine r_zreturn (by decide) dX4_readTerms_180 rfl ?_
              rw [if_neg (by omega)]
              exact ⟨rfl, fG3, j14, hr3, hsr⟩
        have hmul : (adds P 1 [] (acc ++ [(t, tval P mi v)])) = addT P t (tval P mi v) (adds P 1 [] acc) := by rw [adds_snoc, addT_mod]
        have body : ∀ S3, Sd S3 → Fg (tTm j) S S3 → gI S3 4 0 14 = gI S 4 0 14 → Rc S3 ts2 → Wn S3 s A nm e → gI S3 9 s 0 = nI P → gI S3 4 0 3 = nI tn → gI S3 4 0 11 = nI t.length → Nd S3 t → ls ≤ lvs t → gI S3 8 j 0 = nI (lvs t) → Ty S3 j (cl (adds P 1 [] acc)) → (∀ p, p ∈ acc → Tr A e (lvs t) p.1 ∧ p.2 < P) → Ok mX4_readTerms 124 [some (zr 4 0), some (zr 9 s), some (zr 8 j), some (zi (nI wn0)), some (zi (nI ls)), some (zi (nI (if mi = true then 1 else 0))), some (zi (nI k)), some (zi (nI v)), some (zi (nI ((hdT ts1).2.1))), none] [] S3 (fun r S2 => TmR S S2 j A P e r (if (hdT ts2).1 = 43 ∨ (hdT ts2).1 = 45 then termsP nm e A P wn0 ls f ((hdT ts2).1 == 45) (lvs t) (acc ++ [(t, tval P mi v)]) (adv ts2) else Sum.inr ((lvs t, acc ++ [(t, tval P mi v)]), ts2))) := by
          intro S3 hs3 fG3 j14 hr3 hw3 hq0 htn3 h11 hnd3 hlsl h80 hty hacc
          have hRe : Re A e P (lvs t) (adds P 1 [] acc) := Re.adds hE (by omega) hl7 ⟨List.Pairwise.nil, fun p hp => absurd hp List.not_mem_nil⟩ (fun p hp => (hacc p hp).1)
          have hU : (t :: acc.map Prod.fst).length ≤ 1200 := by rw [List.length_cons, List.length_map]; omega
          have hcU : ∀ p, p ∈ cl (adds P 1 [] acc) → p.1 ∈ t :: acc.map Prod.fst := fun p hp => List.mem_cons_of_mem _ (mem_adds (U := acc.map Prod.fst) (fun q hq => absurd hq List.not_mem_nil) (fun q hq => List.mem_map.mpr ⟨q, hq, rfl⟩) p (mem_cl hp))
          have fin : ∀ S4, Fg (tTy j) S3 S4 → Ty S4 j (cl (addT P t (tval P mi v) (cl (adds P 1 [] acc)))) → Sd S4 ∧ Fg (tTm j) S S4 ∧ gI S4 4 0 14 = gI S 4 0 14 ∧ Rc S4 ts2 ∧ Wn S4 s A nm e ∧ gI S4 9 s 0 = nI P ∧ gI S4 4 0 3 = nI tn ∧ Sr S4 j A P e (lvs t) (acc ++ [(t, tval P mi v)]) := fun S4 g1 g2 => ⟨g1.sd, fG3.tr (g1.mono fun a b k z => Or.inl z), (g1.I (by omega) (by unfold tTy; omega)).trans j14, hr3.fg g1, hw3.fg g1 (fun b k => by unfold tTy; omega), (g1.I (by omega) (by unfold tTy; omega)).trans hq0, (g1.I (by omega) (by unfold tTy; omega)).trans htn3, (g1.I (by omega) (by unfold tTy; omega)).trans h80, by rw [hmul, cl_addT hRe.1 (fun p hp => (hRe.2 p hp).2)]; exact g2, fun p hp => by rcases List.mem_append.mp hp with h | h; exact hacc p h; rw [List.mem_singleton.mp h]; exact ⟨ht, tval_lt (by omega)⟩⟩
          cases mi with
          | false => exact lp_rt124_0 hs4 hE hnb hd hP2 hP hj hs3 hq0 hv100 hl7 ht h11 hnd3 hty hRe.cl hU List.mem_cons_self hcU (fun S4 g1 g2 => by obtain ⟨a1, a2, a3, a4, a5, a6, a7, a8⟩ := fin S4 g1 g2; exact tail S4 a1 a2 a3 a4 a5 a6 a7 hlsl a8)
          | true => exact lp_rt124_1 hs4 hE hnb hd hP2 hP hj hs3 hq0 hv100 hl7 ht h11 hnd3 hty hRe.cl hU List.mem_cons_self hcU (fun S4 g1 g2 => by obtain ⟨a1, a2, a3, a4, a5, a6, a7, a8⟩ := fin S4 g1 g2; exact tail S4 a1 a2 a3 a4 a5 a6 a7 hlsl a8)
        rcases hst with ⟨k0, rfl, rfl, _⟩ | ⟨k0, k1, k2, k3, ksr⟩
        · subst k0
          by_cases hwz : wn0 = 0
          · subst hwz
            have hc1 : Fg (tTm j) S (sI (sI S67 8 j 0 (nI (lvs t))) 8 j 1 (nI 0)) := fG2.tr (Fg.of22 hs2 rfl (fun a b k _ hz => by rw [gI_sI, if_neg (fun z => hz (Or.inl (by unfold tTy; omega))), gI_sI, if_neg (fun z => hz (Or.inr (Or.inl (by omega))))]) (fun _ _ _ _ _ => rfl))
            have gx : ∀ a b k, ¬ (a = 8 ∧ b = j) → gI (sI (sI S67 8 j 0 (nI (lvs t))) 8 j 1 (nI 0)) a b k = gI S67 a b k := fun a b k q1 => by rw [gI_sI, if_neg (by omega), gI_sI, if_neg (by omega)]
            have hty : Ty (sI (sI S67 8 j 0 (nI (lvs t))) 8 j 1 (nI 0)) j (cl (adds P 1 [] [])) := by obtain ⟨m, e9, o1, o2, o3, o4, o5, o6⟩ := hTL2; exact ⟨by rw [gI_sI, if_pos ⟨rfl, rfl, rfl⟩]; rfl, fun k hk => absurd hk (by simp [adds, cl]), m, o1, o2, o3, o4, by simp [adds, cl]⟩
            have h80 : gI (sI (sI S67 8 j 0 (nI (lvs t))) 8 j 1 (nI 0)) 8 j 0 = nI (lvs t) := by rw [gI_sI, if_neg (by omega), gI_sI, if_pos ⟨rfl, rfl, rfl⟩]
            rw [if_pos rfl, if_pos rfl]
            by_cases hbad : lvs t ≠ lvs t ∨ lvs t < ls
            · rw [if_pos hbad]
              refine r_iload (q := 77) dX4_readTerms_75 rfl rfl ?_
              refine r_if_neN (q := 80) (t := 96) (by omega) dX4_readTerms_77 (by decide) rfl (fun h77 => absurd h77 (by omega)) (fun h77 => ?_)
              refine r_aload_n (q := 81) dX4_readTerms_80 rfl rfl rfl ?_
              refine r_iload_n (q := 82) dX4_readTerms_81 rfl rfl rfl ?_
              refine r_if_neN (q := 85) (t := 92) (by omega) dX4_readTerms_82 (by decide) rfl (fun h82 => absurd h82 (by omega)) (fun h82 => ?_)
              refine r_aload_n (q := 86) dX4_readTerms_85 rfl rfl rfl ?_
              refine r_geti (q := 89) ck4 dX4_readTerms_86 rfl (k := 12) (by decide) wt133 (Or.inl rfl) (hs2.e (by decide)) ?_
              refine r_topi (y := nI (lvs t)) y5 ?_
              refine r_goto (q := 93) dX4_readTerms_89 (by decide) ?_
              refine r_callV (Mc := mX8_clear) (q := 96) (As := [zi (nI (lvs t))]) (st := []) ck8 dX4_readTerms_93 rfl rfl mkX8_clear wt602 wt603 wt604 rfl (Nat.le_of_ble_eq_true rfl) (Nat.le_of_ble_eq_true rfl) (by decide) (by decide) (by decide) (Or.inl rfl) (hs2.e (show j < 19 by omega)) (ok_X8_clear hs2 hj (nI (lvs t))) (fun r93 S93 hp93 => ?_)
              obtain ⟨rfl, hq93⟩ := hp93
              rw [hq93]
              show Ok _ _ _ [] _ _
              refine r_aload_n (q := 97) dX4_readTerms_96 rfl rfl rfl ?_
              refine r_geti (q := 100) ck4 dX4_readTerms_97 rfl (k := 12) (by decide) wt133 (Or.inl rfl) (hs2.e (by decide)) ?_
              refine r_topi (y := nI (lvs t)) ((gx _ _ _ (by omega)).trans y5) ?_
              refine r_aload_n (q := 101) dX4_readTerms_100 rfl rfl rfl ?_
              refine r_geti (q := 104) ck8 dX4_readTerms_101 rfl (k := 0) (by decide) wt59 (Or.inl rfl) (hs2.e (show j < 19 by omega)) ?_
              refine r_topi (y := nI (lvs t)) h80 ?_
              refine r_icmp_neN (q := 107) (t := 116) (by omega) (by omega) dX4_readTerms_104 (by decide) rfl (fun h104 => ?_) (fun h104 => ?_)
              · skip
                refine r_aload_n (q := 117) dX4_readTerms_116 rfl rfl rfl ?_
                refine r_iconst (q := 118) (nI 3) dX4_readTerms_117 rfl (by decide) ?_
                refine r_iload (q := 120) dX4_readTerms_118 rfl rfl ?_
                refine r_callV (Mc := mX4_fail) (q := 123) (As := [zi (nI 3), zi (nI ((hdT ts1).2.1))]) (st := []) ck4 dX4_readTerms_120 rfl rfl mkX4_fail wt550 wt552 wp7 rfl (Nat.le_of_ble_eq_true rfl) (Nat.le_of_ble_eq_true rfl) (by decide) (by decide) (by decide) (Or.inl rfl) (hs2.e (by decide)) (ok_fail (S := sI (sI S67 8 j 0 (nI (lvs t))) 8 j 1 (nI 0)) hs2 3 (hdT ts1).2.1) (fun r120 S120 hp120 => ?_)
                obtain ⟨rfl, w120, x120⟩ := hp120
                show Ok _ _ _ [zi (nI 0)] _ _
                refine r_zreturn (by decide) dX4_readTerms_123 rfl ?_
                exact ⟨rfl, hc1.tr (Fr.fg (S := sI (sI S67 8 j 0 (nI (lvs t))) 8 j 1 (nI 0)) w120 hs2 (fun a b k z => Or.inr (Or.inr (tTr_ca a b k (tCa_sk a b k (tSk_fl a b k z)))))), x120, (Ty.tl hty).cong (gN_22 w120.2.2) (gN_22 w120.2.2) (w120.1 _ _ _ rfl)⟩
              · skip
                refine r_aload_n (q := 108) dX4_readTerms_107 rfl rfl rfl ?_
                refine r_geti (q := 111) ck4 dX4_readTerms_108 rfl (k := 12) (by decide) wt133 (Or.inl rfl) (hs2.e (by decide)) ?_
                refine r_topi (y := nI (lvs t)) ((gx _ _ _ (by omega)).trans y5) ?_
                refine r_iload (q := 113) dX4_readTerms_111 rfl rfl ?_
                refine r_icmp_geN (q := 116) (t := 124) (by omega) (by omega) dX4_readTerms_113 (by decide) rfl (fun h113 => ?_) (fun h113 => ?_)
                · skip
                  exfalso; omega
                · skip
                  refine r_aload_n (q := 117) dX4_readTerms_116 rfl rfl rfl ?_
                  refine r_iconst (q := 118) (nI 3) dX4_readTerms_117 rfl (by decide) ?_
                  refine r_iload (q := 120) dX4_readTerms_118 rfl rfl ?_
                  refine r_callV (Mc := mX4_fail) (q := 123) (As := [zi (nI 3), zi (nI ((hdT ts1).2.1))]) (st := []) ck4 dX4_readTerms_120 rfl rfl mkX4_fail wt550 wt552 wp7 rfl (Nat.le_of_ble_eq_true rfl) (Nat.le_of_ble_eq_true rfl) (by decide) (by decide) (by decide) (Or.inl rfl) (hs2.e (by decide)) (ok_fail (S := sI (sI S67 8 j 0 (nI (lvs t))) 8 j 1 (nI 0)) hs2 3 (hdT ts1).2.1) (fun r120 S120 hp120 => ?_)
                  obtain ⟨rfl, w120, x120⟩ := hp120
                  show Ok _ _ _ [zi (nI 0)] _ _
                  refine r_zreturn (by decide) dX4_readTerms_123 rfl ?_
                  exact ⟨rfl, hc1.tr (Fr.fg (S := sI (sI S67 8 j 0 (nI (lvs t))) 8 j 1 (nI 0)) w120 hs2 (fun a b k z => Or.inr (Or.inr (tTr_ca a b k (tCa_sk a b k (tSk_fl a b k z)))))), x120, (Ty.tl hty).cong (gN_22 w120.2.2) (gN_22 w120.2.2) (w120.1 _ _ _ rfl)⟩
            · rw [if_neg hbad]
              refine r_iload (q := 77) dX4_readTerms_75 rfl rfl ?_
              refine r_if_neN (q := 80) (t := 96) (by omega) dX4_readTerms_77 (by decide) rfl (fun h77 => absurd h77 (by omega)) (fun h77 => ?_)
              refine r_aload_n (q := 81) dX4_readTerms_80 rfl rfl rfl ?_
              refine r_iload_n (q := 82) dX4_readTerms_81 rfl rfl rfl ?_
              refine r_if_neN (q := 85) (t := 92) (by omega) dX4_readTerms_82 (by decide) rfl (fun h82 => absurd h82 (by omega)) (fun h82 => ?_)
              refine r_aload_n (q := 86) dX4_readTerms_85 rfl rfl rfl ?_
              refine r_geti (q := 89) ck4 dX4_readTerms_86 rfl (k := 12) (by decide) wt133 (Or.inl rfl) (hs2.e (by decide)) ?_
              refine r_topi (y := nI (lvs t)) y5 ?_
              refine r_goto (q := 93) dX4_readTerms_89 (by decide) ?_
              refine r_callV (Mc := mX8_clear) (q := 96) (As := [zi (nI (lvs t))]) (st := []) ck8 dX4_readTerms_93 rfl rfl mkX8_clear wt602 wt603 wt604 rfl (Nat.le_of_ble_eq_true rfl) (Nat.le_of_ble_eq_true rfl) (by decide) (by decide) (by decide) (Or.inl rfl) (hs2.e (show j < 19 by omega)) (ok_X8_clear hs2 hj (nI (lvs t))) (fun r93 S93 hp93 => ?_)
              obtain ⟨rfl, hq93⟩ := hp93
              rw [hq93]
              show Ok _ _ _ [] _ _
              refine r_aload_n (q := 97) dX4_readTerms_96 rfl rfl rfl ?_
              refine r_geti (q := 100) ck4 dX4_readTerms_97 rfl (k := 12) (by decide) wt133 (Or.inl rfl) (hs2.e (by decide)) ?_
              refine r_topi (y := nI (lvs t)) ((gx _ _ _ (by omega)).trans y5) ?_
              refine r_aload_n (q := 101) dX4_readTerms_100 rfl rfl rfl ?_
              refine r_geti (q := 104) ck8 dX4_readTerms_101 rfl (k := 0) (by decide) wt59 (Or.inl rfl) (hs2.e (show j < 19 by omega)) ?_
              refine r_topi (y := nI (lvs t)) h80 ?_
              refine r_icmp_neN (q := 107) (t := 116) (by omega) (by omega) dX4_readTerms_104 (by decide) rfl (fun h104 => ?_) (fun h104 => ?_)
              · skip
                exact absurd hbad (by omega)
              · skip
                refine r_aload_n (q := 108) dX4_readTerms_107 rfl rfl rfl ?_
                refine r_geti (q := 111) ck4 dX4_readTerms_108 rfl (k := 12) (by decide) wt133 (Or.inl rfl) (hs2.e (by decide)) ?_
                refine r_topi (y := nI (lvs t)) ((gx _ _ _ (by omega)).trans y5) ?_
                refine r_iload (q := 113) dX4_readTerms_111 rfl rfl ?_
                refine r_icmp_geN (q := 116) (t := 124) (by omega) (by omega) dX4_readTerms_113 (by decide) rfl (fun h113 => ?_) (fun h113 => ?_)
                · skip
                  exact body (sI (sI S67 8 j 0 (nI (lvs t))) 8 j 1 (nI 0)) hs2 hc1 ((gx _ _ _ (by omega)).trans g14) (y3.cong (fun i => ⟨gx _ _ _ (by omega), gx _ _ _ (by omega), rfl⟩) (fun k hk => gx _ _ _ (by omega)) rfl) ⟨(gx _ _ _ (by omega)).trans ((y1.1 _ _ _ rfl).trans hw1.1), fun a ha => ⟨(gx _ _ _ (by omega)).trans ((y1.1 _ _ _ rfl).trans (hw1.2 a ha).1), (y1.2.1 _ _ _ rfl).trans (hw1.2 a ha).2⟩⟩ ((gx _ _ _ (by omega)).trans ((y1.1 _ _ _ rfl).trans ((fS.1 _ _ _ rfl).trans hp0))) ((gx _ _ _ (by omega)).trans tnx) ((gx _ _ _ (by omega)).trans y4) (fun i hi => (gx _ _ _ (by omega)).trans (y6 i hi)) (by omega) (h80.trans (congrArg nI (by omega))) hty (fun p hp => absurd hp List.not_mem_nil)
                · skip
                  exact absurd hbad (by omega)
          · skip
            have hc1 : Fg (tTm j) S (sI (sI S67 8 j 0 (nI (wn0))) 8 j 1 (nI 0)) := fG2.tr (Fg.of22 hs2 rfl (fun a b k _ hz => by rw [gI_sI, if_neg (fun z => hz (Or.inl (by unfold tTy; omega))), gI_sI, if_neg (fun z => hz (Or.inr (Or.inl (by omega))))]) (fun _ _ _ _ _ => rfl))
            have gx : ∀ a b k, ¬ (a = 8 ∧ b = j) → gI (sI (sI S67 8 j 0 (nI (wn0))) 8 j 1 (nI 0)) a b k = gI S67 a b k := fun a b k q1 => by rw [gI_sI, if_neg (by omega), gI_sI, if_neg (by omega)]
            have hty : Ty (sI (sI S67 8 j 0 (nI (wn0))) 8 j 1 (nI 0)) j (cl (adds P 1 [] [])) := by obtain ⟨m, e9, o1, o2, o3, o4, o5, o6⟩ := hTL2; exact ⟨by rw [gI_sI, if_pos ⟨rfl, rfl, rfl⟩]; rfl, fun k hk => absurd hk (by simp [adds, cl]), m, o1, o2, o3, o4, by simp [adds, cl]⟩
            have h80 : gI (sI (sI S67 8 j 0 (nI (wn0))) 8 j 1 (nI 0)) 8 j 0 = nI (wn0) := by rw [gI_sI, if_neg (by omega), gI_sI, if_pos ⟨rfl, rfl, rfl⟩]
            rw [if_pos rfl, if_neg hwz]
            by_cases hbad : lvs t ≠ wn0 ∨ lvs t < ls
            · rw [if_pos hbad]
              refine r_iload (q := 77) dX4_readTerms_75 rfl rfl ?_
              refine r_if_neN (q := 80) (t := 96) (by omega) dX4_readTerms_77 (by decide) rfl (fun h77 => absurd h77 (by omega)) (fun h77 => ?_)
              refine r_aload_n (q := 81) dX4_readTerms_80 rfl rfl rfl ?_
              refine r_iload_n (q := 82) dX4_readTerms_81 rfl rfl rfl ?_
              refine r_if_neN (q := 85) (t := 92) (by omega) dX4_readTerms_82 (by decide) rfl (fun h82 => ?_) (fun h82 => absurd h82 (by omega))
              refine r_iload_n (q := 93) dX4_readTerms_92 rfl rfl rfl ?_
              refine r_callV (Mc := mX8_clear) (q := 96) (As := [zi (nI wn0)]) (st := []) ck8 dX4_readTerms_93 rfl rfl mkX8_clear wt602 wt603 wt604 rfl (Nat.le_of_ble_eq_true rfl) (Nat.le_of_ble_eq_true rfl) (by decide) (by decide) (by decide) (Or.inl rfl) (hs2.e (show j < 19 by omega)) (ok_X8_clear hs2 hj (nI (wn0))) (fun r93 S93 hp93 => ?_)
              obtain ⟨rfl, hq93⟩ := hp93
              rw [hq93]
              show Ok _ _ _ [] _ _
              refine r_aload_n (q := 97) dX4_readTerms_96 rfl rfl rfl ?_
              refine r_geti (q := 100) ck4 dX4_readTerms_97 rfl (k := 12) (by decide) wt133 (Or.inl rfl) (hs2.e (by decide)) ?_
              refine r_topi (y := nI (lvs t)) ((gx _ _ _ (by omega)).trans y5) ?_
              refine r_aload_n (q := 101) dX4_readTerms_100 rfl rfl rfl ?_
              refine r_geti (q := 104) ck8 dX4_readTerms_101 rfl (k := 0) (by decide) wt59 (Or.inl rfl) (hs2.e (show j < 19 by omega)) ?_
              refine r_topi (y := nI wn0) h80 ?_
              refine r_icmp_neN (q := 107) (t := 116) (by omega) (by omega) dX4_readTerms_104 (by decide) rfl (fun h104 => ?_) (fun h104 => ?_)
              · skip
                refine r_aload_n (q := 117) dX4_readTerms_116 rfl rfl rfl ?_
                refine r_iconst (q := 118) (nI 3) dX4_readTerms_117 rfl (by decide) ?_
                refine r_iload (q := 120) dX4_readTerms_118 rfl rfl ?_
                refine r_callV (Mc := mX4_fail) (q := 123) (As := [zi (nI 3), zi (nI ((hdT ts1).2.1))]) (st := []) ck4 dX4_readTerms_120 rfl rfl mkX4_fail wt550 wt552 wp7 rfl (Nat.le_of_ble_eq_true rfl) (Nat.le_of_ble_eq_true rfl) (by decide) (by decide) (by decide) (Or.inl rfl) (hs2.e (by decide)) (ok_fail (S := sI (sI S67 8 j 0 (nI (wn0))) 8 j 1 (nI 0)) hs2 3 (hdT ts1).2.1) (fun r120 S120 hp120 => ?_)
                obtain ⟨rfl, w120, x120⟩ := hp120
                show Ok _ _ _ [zi (nI 0)] _ _
                refine r_zreturn (by decide) dX4_readTerms_123 rfl ?_
                exact ⟨rfl, hc1.tr (Fr.fg (S := sI (sI S67 8 j 0 (nI (wn0))) 8 j 1 (nI 0)) w120 hs2 (fun a b k z => Or.inr (Or.inr (tTr_ca a b k (tCa_sk a b k (tSk_fl a b k z)))))), x120, (Ty.tl hty).cong (gN_22 w120.2.2) (gN_22 w120.2.2) (w120.1 _ _ _ rfl)⟩
              · skip
                refine r_aload_n (q := 108) dX4_readTerms_107 rfl rfl rfl ?_
                refine r_geti (q := 111) ck4 dX4_readTerms_108 rfl (k := 12) (by decide) wt133 (Or.inl rfl) (hs2.e (by decide)) ?_
                refine r_topi (y := nI (lvs t)) ((gx _ _ _ (by omega)).trans y5) ?_
                refine r_iload (q := 113) dX4_readTerms_111 rfl rfl ?_
                refine r_icmp_geN (q := 116) (t := 124) (by omega) (by omega) dX4_readTerms_113 (by decide) rfl (fun h113 => ?_) (fun h113 => ?_)
                · skip
                  exfalso; omega
                · skip
                  refine r_aload_n (q := 117) dX4_readTerms_116 rfl rfl rfl ?_
                  refine r_iconst (q := 118) (nI 3) dX4_readTerms_117 rfl (by decide) ?_
                  refine r_iload (q := 120) dX4_readTerms_118 rfl rfl ?_
                  refine r_callV (Mc := mX4_fail) (q := 123) (As := [zi (nI 3), zi (nI ((hdT ts1).2.1))]) (st := []) ck4 dX4_readTerms_120 rfl rfl mkX4_fail wt550 wt552 wp7 rfl (Nat.le_of_ble_eq_true rfl) (Nat.le_of_ble_eq_true rfl) (by decide) (by decide) (by decide) (Or.inl rfl) (hs2.e (by decide)) (ok_fail (S := sI (sI S67 8 j 0 (nI (wn0))) 8 j 1 (nI 0)) hs2 3 (hdT ts1).2.1) (fun r120 S120 hp120 => ?_)
                  obtain ⟨rfl, w120, x120⟩ := hp120
                  show Ok _ _ _ [zi (nI 0)] _ _
                  refine r_zreturn (by decide) dX4_readTerms_123 rfl ?_
                  exact ⟨rfl, hc1.tr (Fr.fg (S := sI (sI S67 8 j 0 (nI (wn0))) 8 j 1 (nI 0)) w120 hs2 (fun a b k z => Or.inr (Or.inr (tTr_ca a b k (tCa_sk a b k (tSk_fl a b k z)))))), x120, (Ty.tl hty).cong (gN_22 w120.2.2) (gN_22 w120.2.2) (w120.1 _ _ _ rfl)⟩
            · rw [if_neg hbad]
              refine r_iload (q := 77) dX4_readTerms_75 rfl rfl ?_
              refine r_if_neN (q := 80) (t := 96) (by omega) dX4_readTerms_77 (by decide) rfl (fun h77 => absurd h77 (by omega)) (fun h77 => ?_)
              refine r_aload_n (q := 81) dX4_readTerms_80 rfl rfl rfl ?_
              refine r_iload_n (q := 82) dX4_readTerms_81 rfl rfl rfl ?_
              refine r_if_neN (q := 85) (t := 92) (by omega) dX4_readTerms_82 (by decide) rfl (fun h82 => ?_) (fun h82 => absurd h82 (by omega))
              refine r_iload_n (q := 93) dX4_readTerms_92 rfl rfl rfl ?_
              refine r_callV (Mc := mX8_clear) (q := 96) (As := [zi (nI wn0)]) (st := []) ck8 dX4_readTerms_93 rfl rfl mkX8_clear wt602 wt603 wt604 rfl (Nat.le_of_ble_eq_true rfl) (Nat.le_of_ble_eq_true rfl) (by decide) (by decide) (by decide) (Or.inl rfl) (hs2.e (show j < 19 by omega)) (ok_X8_clear hs2 hj (nI (wn0))) (fun r93 S93 hp93 => ?_)
              obtain ⟨rfl, hq93⟩ := hp93
              rw [hq93]
              show Ok _ _ _ [] _ _
              refine r_aload_n (q := 97) dX4_readTerms_96 rfl rfl rfl ?_
              refine r_geti (q := 100) ck4 dX4_readTerms_97 rfl (k := 12) (by decide) wt133 (Or.inl rfl) (hs2.e (by decide)) ?_
              refine r_topi (y := nI (lvs t)) ((gx _ _ _ (by omega)).trans y5) ?_
              refine r_aload_n (q := 101) dX4_readTerms_100 rfl rfl rfl ?_
              refine r_geti (q := 104) ck8 dX4_readTerms_101 rfl (k := 0) (by decide) wt59 (Or.inl rfl) (hs2.e (show j < 19 by omega)) ?_
              refine r_topi (y := nI wn0) h80 ?_
              refine r_icmp_neN (q := 107) (t := 116) (by omega) (by omega) dX4_readTerms_104 (by decide) rfl (fun h104 => ?_) (fun h104 => ?_)
              · skip
                exact absurd hbad (by omega)
              · skip
                refine r_aload_n (q := 108) dX4_readTerms_107 rfl rfl rfl ?_
                refine r_geti (q := 111) ck4 dX4_readTerms_108 rfl (k := 12) (by decide) wt133 (Or.inl rfl) (hs2.e (by decide)) ?_
                refine r_topi (y := nI (lvs t)) ((gx _ _ _ (by omega)).trans y5) ?_
                refine r_iload (q := 113) dX4_readTerms_111 rfl rfl ?_
                refine r_icmp_geN (q := 116) (t := 124) (by omega) (by omega) dX4_readTerms_113 (by decide) rfl (fun h113 => ?_) (fun h113 => ?_)
                · skip
                  exact body (sI (sI S67 8 j 0 (nI (wn0))) 8 j 1 (nI 0)) hs2 hc1 ((gx _ _ _ (by omega)).trans g14) (y3.cong (fun i => ⟨gx _ _ _ (by omega), gx _ _ _ (by omega), rfl⟩) (fun k hk => gx _ _ _ (by omega)) rfl) ⟨(gx _ _ _ (by omega)).trans ((y1.1 _ _ _ rfl).trans hw1.1), fun a ha => ⟨(gx _ _ _ (by omega)).trans ((y1.1 _ _ _ rfl).trans (hw1.2 a ha).1), (y1.2.1 _ _ _ rfl).trans (hw1.2 a ha).2⟩⟩ ((gx _ _ _ (by omega)).trans ((y1.1 _ _ _ rfl).trans ((fS.1 _ _ _ rfl).trans hp0))) ((gx _ _ _ (by omega)).trans tnx) ((gx _ _ _ (by omega)).trans y4) (fun i hi => (gx _ _ _ (by omega)).trans (y6 i hi)) (by omega) (h80.trans (congrArg nI (by omega))) hty (fun p hp => absurd hp List.not_mem_nil)
                · skip
                  exact absurd hbad (by omega)
        · rw [if_neg (show ¬ n0 = 0 by omega)]
          have h80 : gI S67 8 j 0 = nI n0 := (y1.1 _ _ _ rfl).trans ((fS.1 _ _ _ rfl).trans ksr.1)
          have hty : Ty S67 j (cl (adds P 1 [] acc)) := by obtain ⟨m, o1, o2, o3⟩ := ksr.2.1.2.2; exact ⟨(y1.1 _ _ _ rfl).trans ((fS.1 _ _ _ rfl).trans ksr.2.1.1), fun k hk => ⟨(y1.1 _ _ _ rfl).trans ((fS.1 _ _ _ rfl).trans (ksr.2.1.2.1 k hk).1), (y1.1 _ _ _ rfl).trans ((fS.1 _ _ _ rfl).trans (ksr.2.1.2.1 k hk).2)⟩, m, by rw [← o1]; exact gN_22 (y1.2.2.trans fS.2.2), by rw [← o2]; exact gN_22 (y1.2.2.trans fS.2.2), o3⟩
          by_cases hbad : lvs t ≠ n0 ∨ lvs t < ls
          · rw [if_pos hbad]
            refine r_iload (q := 77) dX4_readTerms_75 rfl rfl ?_
            refine r_if_neN (q := 80) (t := 96) (by omega) dX4_readTerms_77 (by decide) rfl (fun h77 => ?_) (fun h77 => absurd h77 (by omega))
            refine r_aload_n (q := 97) dX4_readTerms_96 rfl rfl rfl ?_
            refine r_geti (q := 100) ck4 dX4_readTerms_97 rfl (k := 12) (by decide) wt133 (Or.inl rfl) (hs2.e (by decide)) ?_
            refine r_topi (y := nI (lvs t)) y5 ?_
            refine r_aload_n (q := 101) dX4_readTerms_100 rfl rfl rfl ?_
            refine r_geti (q := 104) ck8 dX4_readTerms_101 rfl (k := 0) (by decide) wt59 (Or.inl rfl) (hs2.e (show j < 19 by omega)) ?_
            refine r_topi (y := nI n0) h80 ?_
            refine r_icmp_neN (q := 107) (t := 116) (by omega) (by omega) dX4_readTerms_104 (by decide) rfl (fun h104 => ?_) (fun h104 => ?_)
            · skip
              refine r_aload_n (q := 117) dX4_readTerms_116 rfl rfl rfl ?_
              refine r_iconst (q := 118) (nI 3) dX4_readTerms_117 rfl (by decide) ?_
              refine r_iload (q := 120) dX4_readTerms_118 rfl rfl ?_
              refine r_callV (Mc := mX4_fail) (q := 123) (As := [zi (nI 3), zi (nI ((hdT ts1).2.1))]) (st := []) ck4 dX4_readTerms_120 rfl rfl mkX4_fail wt550 wt552 wp7 rfl (Nat.le_of_ble_eq_true rfl) (Nat.le_of_ble_eq_true rfl) (by decide) (by decide) (by decide) (Or.inl rfl) (hs2.e (by decide)) (ok_fail (S := S67) hs2 3 (hdT ts1).2.1) (fun r120 S120 hp120 => ?_)
              obtain ⟨rfl, w120, x120⟩ := hp120
              show Ok _ _ _ [zi (nI 0)] _ _
              refine r_zreturn (by decide) dX4_readTerms_123 rfl ?_
              exact ⟨rfl, fG2.tr (w120.fg hs2 (fun a b k z => Or.inr (Or.inr (tTr_ca a b k (tCa_sk a b k (tSk_fl a b k z)))))), x120, hty.tl.cong (gN_22 w120.2.2) (gN_22 w120.2.2) (w120.1 _ _ _ rfl)⟩
            · skip
              refine r_aload_n (q := 108) dX4_readTerms_107 rfl rfl rfl ?_
              refine r_geti (q := 111) ck4 dX4_readTerms_108 rfl (k := 12) (by decide) wt133 (Or.inl rfl) (hs2.e (by decide)) ?_
              refine r_topi (y := nI (lvs t)) y5 ?_
              refine r_iload (q := 113) dX4_readTerms_111 rfl rfl ?_
              refine r_icmp_geN (q := 116) (t := 124) (by omega) (by omega) dX4_readTerms_113 (by decide) rfl (fun h113 => ?_) (fun h113 => ?_)
              · skip
                exfalso; omega
              · skip
                refine r_aload_n (q := 117) dX4_readTerms_116 rfl rfl rfl ?_
                refine r_iconst (q := 118) (nI 3) dX4_readTerms_117 rfl (by decide) ?_
                refine r_iload (q := 120) dX4_readTerms_118 rfl rfl ?_
                refine r_callV (Mc := mX4_fail) (q := 123) (As := [zi (nI 3), zi (nI ((hdT ts1).2.1))]) (st := []) ck4 dX4_readTerms_120 rfl rfl mkX4_fail wt550 wt552 wp7 rfl (Nat.le_of_ble_eq_true rfl) (Nat.le_of_ble_eq_true rfl) (by decide) (by decide) (by decide) (Or.inl rfl) (hs2.e (by decide)) (ok_fail (S := S67) hs2 3 (hdT ts1).2.1) (fun r120 S120 hp120 => ?_)
                obtain ⟨rfl, w120, x120⟩ := hp120
                show Ok _ _ _ [zi (nI 0)] _ _
                refine r_zreturn (by decide) dX4_readTerms_123 rfl ?_
                exact ⟨rfl, fG2.tr (w120.fg hs2 (fun a b k z => Or.inr (Or.inr (tTr_ca a b k (tCa_sk a b k (tSk_fl a b k z)))))), x120, hty.tl.cong (gN_22 w120.2.2) (gN_22 w120.2.2) (w120.1 _ _ _ rfl)⟩
          · rw [if_neg hbad]
            refine r_iload (q := 77) dX4_readTerms_75 rfl rfl ?_
            refine r_if_neN (q := 80) (t := 96) (by omega) dX4_readTerms_77 (by decide) rfl (fun h77 => ?_) (fun h77 => absurd h77 (by omega))
            refine r_aload_n (q := 97) dX4_readTerms_96 rfl rfl rfl ?_
            refine r_geti (q := 100) ck4 dX4_readTerms_97 rfl (k := 12) (by decide) wt133 (Or.inl rfl) (hs2.e (by decide)) ?_
            refine r_topi (y := nI (lvs t)) y5 ?_
            refine r_aload_n (q := 101) dX4_readTerms_100 rfl rfl rfl ?_
            refine r_geti (q := 104) ck8 dX4_readTerms_101 rfl (k := 0) (by decide) wt59 (Or.inl rfl) (hs2.e (show j < 19 by omega)) ?_
            refine r_topi (y := nI n0) h80 ?_
            refine r_icmp_neN (q := 107) (t := 116) (by omega) (by omega) dX4_readTerms_104 (by decide) rfl (fun h104 => ?_) (fun h104 => ?_)
            · skip
              exact absurd hbad (by omega)
            · skip
              refine r_aload_n (q := 108) dX4_readTerms_107 rfl rfl rfl ?_
              refine r_geti (q := 111) ck4 dX4_readTerms_108 rfl (k := 12) (by decide) wt133 (Or.inl rfl) (hs2.e (by decide)) ?_
              refine r_topi (y := nI (lvs t)) y5 ?_
              refine r_iload (q := 113) dX4_readTerms_111 rfl rfl ?_
              refine r_icmp_geN (q := 116) (t := 124) (by omega) (by omega) dX4_readTerms_113 (by decide) rfl (fun h113 => ?_) (fun h113 => ?_)
              · skip
                have en : n0 = lvs t := by omega
                exact body S67 hs2 fG2 g14 y3 (hw1.fr y1 (fun _ _ => ⟨rfl, rfl, rfl⟩)) ((y1.1 _ _ _ rfl).trans ((fS.1 _ _ _ rfl).trans hp0)) tnx y4 y6 (by omega) (h80.trans (congrArg nI en)) hty (by rw [← en]; exact ksr.2.2)
              · skip
                exact absurd hbad (by omega)
    have htp : 1 ≤ ts.length := List.length_pos_iff.mpr hkt.1
    refine r_iload (q := 30) dX4_readTerms_28 rfl rfl ?_
    refine r_aload_n (q := 31) dX4_readTerms_30 rfl rfl rfl ?_
    refine r_geti (q := 34) ck4 dX4_readTerms_31 rfl (k := 3) (by decide) wt124 (Or.inl rfl) (hs.e (by decide)) ?_
    refine r_topi (y := nI tn) h3 ?_
    refine r_icmp_geN (q := 37) (t := 207) (by omega) (by omega) dX4_readTerms_34 (by decide) rfl (fun h34 => absurd h34 (by omega)) (fun h34 => ?_)
    refine r_iconst (q := 38) (nI 1) dX4_readTerms_37 rfl (by decide) ?_
    refine r_istore (q := 40) (L' := [some (zr 4 0), some (zr 9 s), some (zr 8 j), some (zi (nI wn0)), some (zi (nI ls)), some (zi (nI (if mi = true then 1 else 0))), some (zi (nI k)), some (zi (nI 1)), none, none]) dX4_readTerms_38 rfl (by decide) rfl ?_
    refine r_aload_n (q := 41) dX4_readTerms_40 rfl rfl rfl ?_
    refine r_geti (q := 44) ck4 dX4_readTerms_41 rfl (k := 5) (by decide) wt126 (Or.inl rfl) (hs.e (by decide)) ?_
    refine r_topi (y := nI ((hdT ts).1)) f5 ?_
    refine r_iconst (q := 45) (nI 3) dX4_readTerms_44 rfl (by decide) ?_
    refine r_icmp_neN (q := 48) (t := 59) (by omega) (by omega) dX4_readTerms_45 (by decide) rfl (fun h45 => ?_) (fun h45 => ?_)
    · skip
      have hv1 : 1 = v := by rw [← hv, if_neg h45]
      subst hv1
      exact main S ts (by rw [if_neg h45]) Fr.rf rfl hr
    · skip
      refine r_aload_n (q := 49) dX4_readTerms_48 rfl rfl rfl ?_
      refine r_getl (q := 52) ck4 dX4_readTerms_49 rfl (k := 7) (by decide) wt128 rfl (hs.e (by decide)) ?_
      refine r_topl (y := lN ((hdT ts).2.2)) (f7 (Or.inr h45)) ?_
      refine r_l2i (q := 53) dX4_readTerms_52 rfl ?_
      refine r_topi (y := nI ((hdT ts).2.2)) (lN_i _) ?_
      refine r_istore (q := 55) (L' := [some (zr 4 0), some (zr 9 s), some (zr 8 j), some (zi (nI wn0)), some (zi (nI ls)), some (zi (nI (if mi = true then 1 else 0))), some (zi (nI k)), some (zi (nI ((hdT ts).2.2))), none, none]) dX4_readTerms_53 rfl (by decide) rfl ?_
      refine r_aload_n (q := 56) dX4_readTerms_55 rfl rfl rfl ?_
      refine r_callV (Mc := mX4_advance) (q := 59) (As := []) (st := []) ck4 dX4_readTerms_56 rfl rfl mkX4_advance wt529 wt531 wp4 rfl (Nat.le_of_ble_eq_true rfl) (Nat.le_of_ble_eq_true rfl) (by decide) (by decide) (by decide) (Or.inl rfl) (hs.e (by decide)) (ok_advance hs hr) (fun r56 S56 hp56 => ?_)
      obtain ⟨rfl, a1, a2⟩ := hp56
      show Ok _ _ _ [] _ _
      rw [show (hdT ts).2.2 = v by rw [← hv, if_pos h45]]
      exact main S56 (adv ts) (by rw [if_pos h45]) (a1.mono tSk_av) (a1.1 _ _ _ rfl) a2

