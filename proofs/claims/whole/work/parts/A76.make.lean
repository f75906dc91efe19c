/-! dual: the class's world made -/
def tAk (s a b _k : Nat) : Bool := b == s && (a == 9 || a == 1002 || a == 1003)
def AcF (S : zS) (W : zWd) (s a : Nat) : Prop := gI S 9 s 0 = nI (wP W) ∧ gI S 9 s 1 = nI a ∧ gI S 9 s 4 = nI 0 ∧ gI S 1006 s 0 = nI 0 ∧ ∀ i, i < a → gI S 1003 s i = nI (we W i) ∧ gJ S 1002 s i = lN (wn W i)
theorem getD_tkq {l : List Nat} {a i : Nat} (h : i < a) : (l.take a).getD i 0 = l.getD i 0 := by
  rw [List.getD_eq_getElem?_getD, List.getD_eq_getElem?_getD, List.getElem?_take, if_pos h]
theorem AcF.wc {S : zS} {W : zWd} {s a : Nat} (h : AcF S W s a) (ha : a ≤ wA W) : WC S s (W.1, W.2.1.take a, W.2.2.1.take a, []) ∧ wA (W.1, W.2.1.take a, W.2.2.1.take a, []) = a := by
  obtain ⟨h1, h2, h3, h4, h5⟩ := h
  have e : wA (W.1, W.2.1.take a, W.2.2.1.take a, []) = a := by
    show (W.2.1.take a).length = a
    rw [List.length_take]
    exact Nat.min_eq_left ha
  refine ⟨⟨h1, by rw [e]; exact h2, h3, fun i hi => ?_, fun L hL => absurd hL (Nat.not_lt_zero L), fun L hL => ?_, fun L k hL => absurd hL (Nat.not_lt_zero L)⟩, e⟩
  · rw [e] at hi
    show gI S 1003 s i = nI ((W.2.1.take a).getD i 0) ∧ gJ S 1002 s i = lN ((W.2.2.1.take a).getD i 0)
    rw [getD_tkq hi, getD_tkq hi]
    exact h5 i hi
  · obtain rfl : L = 0 := by have : L ≤ 0 := hL; omega
    exact h4
theorem AcF.end_ {S : zS} {W : zWd} {s : Nat} (h : AcF S W s (wA W)) : WC S s (mkWs W []) := by
  obtain ⟨h1, h2, h3, h4, h5⟩ := h
  refine ⟨h1, h2, h3, h5, fun L hL => absurd hL (Nat.not_lt_zero L), fun L hL => ?_, fun L k hL => absurd hL (Nat.not_lt_zero L)⟩
  obtain rfl : L = 0 := by have : L ≤ 0 := hL; omega
  exact h4

set_option maxRecDepth 100000 in
theorem lp_mk22 {W : zWd} (hW : Wok W) {b s : Nat} (hb4 : b < 4) (hs4 : s < 4) (hbs : b ≠ s) {Po : Option zV → zS → Prop} : ∀ (d a : Nat) (S : zS), a + d = wA W → Sd S → WC S b W → AcF S W s a → (∀ S1, Fr (tAk s) S S1 → AcF S1 W s (wA W) → Ok mX2_make 58 [some (zr 2 0), some (zr 0 b), some (zr 9 s), some (zr 8 11), some (zr 9 b), some (zi (nI (wA W))), none, none] [] S1 Po) → Ok mX2_make 22 [some (zr 2 0), some (zr 0 b), some (zr 9 s), some (zr 8 11), some (zr 9 b), some (zi (nI a)), none, none] [] S Po := by
  have hA3 := hW.2.1.1
  intro d
  induction d with
  | zero =>
    intro a S ha hs hc hF K
    have hA := hc.2.1
    obtain rfl : a = wA W := by omega
    refine r_iload (q := 24) dX2_make_22 rfl rfl ?_
    refine r_aload (q := 26) dX2_make_24 rfl rfl ?_
    refine r_geti (q := 29) ck9 dX2_make_26 rfl (k := 1) (by decide) wt297 (Or.inl rfl) (hs.e (show b < 4 by omega)) ?_
    refine r_topi (y := nI (wA W)) hA ?_
    refine r_icmp_geN (q := 32) (t := 58) (by omega) (by omega) dX2_make_29 (by decide) rfl (fun h29 => ?_) (fun h29 => absurd h29 (by omega))
    exact K S Fr.rf hF
  | succ d ih =>
    intro a S ha hs hc hF K
    have hA := hc.2.1
    have haA : a < wA W := by omega
    obtain ⟨h1003, h1002⟩ := hc.2.2.2.1 a haA
    obtain ⟨hwc, hwa⟩ := hF.wc (by omega)
    have f1 : Fr (tAk s) S (sI (sI (sJ S 1002 s a (lN (wn W a))) 1003 s a (nI (we W a))) 9 s 1 (nI (a + 1))) := (((Fr.rf).j (by simp [tAk])).i (by simp [tAk])).i (by simp [tAk])
    have hadd := ok_addAct hs hs4 hwc (by rw [hwa]; omega) (wn W a) (we W a)
    rw [hwa] at hadd
    refine r_iload (q := 24) dX2_make_22 rfl rfl ?_
    refine r_aload (q := 26) dX2_make_24 rfl rfl ?_
    refine r_geti (q := 29) ck9 dX2_make_26 rfl (k := 1) (by decide) wt297 (Or.inl rfl) (hs.e (show b < 4 by omega)) ?_
    refine r_topi (y := nI (wA W)) hA ?_
    refine r_icmp_geN (q := 32) (t := 58) (by omega) (by omega) dX2_make_29 (by decide) rfl (fun h29 => absurd h29 (by omega)) (fun h29 => ?_)
    refine r_aload_n (q := 33) dX2_make_32 rfl rfl rfl ?_
    refine r_aload (q := 35) dX2_make_33 rfl rfl ?_
    refine r_getr (q := 38) (some (1002, b)) ck9 dX2_make_35 rfl (k := 2) (by decide) wt302 rfl (hs.e (show b < 4 by omega)) (hs.r (show b < 4 by omega) (by decide)) ?_
    refine r_iload (q := 40) dX2_make_38 rfl rfl ?_
    refine r_laldN (q := 41) 3 (by decide) rfl dX2_make_40 rfl (hs.e (show b < 4 by omega)) (hs.n rfl (show b < 4 by omega)) (by omega) (by decide) ?_
    refine r_topl (y := lN (wn W a)) h1002 ?_
    refine r_aload (q := 43) dX2_make_41 rfl rfl ?_
    refine r_getr (q := 46) (some (1003, b)) ck9 dX2_make_43 rfl (k := 3) (by decide) wt305 rfl (hs.e (show b < 4 by omega)) (hs.r (show b < 4 by omega) (by decide)) ?_
    refine r_iload (q := 48) dX2_make_46 rfl rfl ?_
    refine r_ialdN (q := 49) 3 (by decide) rfl dX2_make_48 rfl (hs.e (show b < 4 by omega)) (hs.n rfl (show b < 4 by omega)) (by omega) (by decide) ?_
    refine r_topi (y := nI (we W a)) h1003 ?_
    refine r_callV (Mc := mX9_addAct) (q := 52) (As := [zl (lN (wn W a)), zi (nI (we W a))]) (st := []) ck9 dX2_make_49 rfl rfl mkX9_addAct wt984 wt575 wt576 rfl (Nat.le_of_ble_eq_true rfl) (Nat.le_of_ble_eq_true rfl) (by decide) (by decide) (by decide) (Or.inl rfl) (hs.e (show s < 4 by omega)) hadd (fun r49 S49 hp49 => ?_)
    obtain ⟨rfl, hq49⟩ := hp49
    rw [hq49]
    show Ok _ _ _ [] _ _
    refine r_iincN (q := 55) (L' := [some (zr 2 0), some (zr 0 b), some (zr 9 s), some (zr 8 11), some (zr 9 b), some (zi (nI (a + 1))), none, none]) 1 rfl dX2_make_52 rfl rfl (by decide) rfl ?_
    refine r_goto (q := 22) dX2_make_55 (by decide) ?_
    refine ih (a + 1) (sI (sI (sJ S 1002 s a (lN (wn W a))) 1003 s a (nI (we W a))) 9 s 1 (nI (a + 1))) (by omega) hs (hc.fr f1 (fun a k ha => by simp [tAk]; omega)) ?_ (fun S1 f2 z => K S1 (f1.tr f2) z)
    obtain ⟨q1, q2, q3, q4, q5⟩ := hF
    refine ⟨by rw [gI_sI, if_neg (by omega)]; exact q1, by rw [gI_sI, if_pos ⟨rfl, rfl, rfl⟩], by rw [gI_sI, if_neg (by omega)]; exact q3, q4, fun i hi => ?_⟩
    rw [gI_sI, if_neg (by omega), gI_sI, gI_sJ, gJ_sI, gJ_sI, gJ_sJ]
    by_cases e : i = a
    · rw [if_pos ⟨rfl, rfl, e⟩, if_pos ⟨rfl, rfl, e⟩, e]; exact ⟨rfl, rfl⟩
    · rw [if_neg (fun z => e z.2.2), if_neg (fun z => e z.2.2)]; exact q5 i (by omega)

/-- what make reads while it tells the laws -/
def MkI (S : zS) (W : zWd) (b n f0 k : Nat) (pv : Nat → Option Nat) (g : Nat → Nat → Nat) : Prop := Sd S ∧ WC S b W ∧ Lx S b 3 f0 (tl W 3) ∧ Gd S (wL W) n (wP W) g ∧ ∀ c, c < n → gI S 301 0 c = pvI (pv c)
theorem MkI.fg {S S1 : zS} {W : zWd} {b n f0 k : Nat} {pv : Nat → Option Nat} {g : Nat → Nat → Nat} {T : Nat → Nat → Nat → Prop} (h : MkI S W b n f0 k pv g) (f : Fg T S S1) (t : ∀ x y, ¬ (x = 8 ∨ x = 902 ∨ x = 903) → (x < 1000 ∨ 1009 < x ∨ y = b) → x ≠ 9 ∨ y = b → ∀ k, ¬ T x y k) : MkI S1 W b n f0 k pv g := by
  obtain ⟨h1, h2, h3, h4, h5⟩ := h
  refine ⟨f.sd, h2.fg f (fun a k ha => t a b (by omega) (Or.inr (Or.inr rfl)) (Or.inr rfl) k), ?_, fun r c hr hc => ⟨(f.I (by omega) (t _ _ (by omega) (by omega) (by omega) _)).trans (h4 r c hr hc).1, (h4 r c hr hc).2⟩, fun c hc => (f.I (by omega) (t _ _ (by omega) (by omega) (by omega) _)).trans (h5 c hc)⟩
  obtain ⟨l1, l2, l3, l4, l5⟩ := h3
  exact ⟨(f.I (by omega) (t _ _ (by omega) (by omega) (by omega) _)).trans l1, (f.I (by omega) (t _ _ (by omega) (by omega) (by omega) _)).trans l2, l3, l4, fun i hi => (f.I (by omega) (t _ _ (by omega) (by omega) (by omega) _)).trans (l5 i hi)⟩

theorem part_ce {W : zWd} (hW : Wok W) {mk : Nat → Bool} {R : Nat → Nat → Nat} (h : IsD W mk R) {f c : Nat} (hf : f < (tl W 3).length) (hc : c ≤ f) : Ce (wA W) (we W) (wP W) 3 (((tl W 3).getD f [], 1) :: dtm mk R (wP W) (tl W 3) f c) := by
  have hP := hW.1.1
  have hm : ∀ p, p ∈ ((tl W 3).getD f [], 1) :: dtm mk R (wP W) (tl W 3) f c → Tr (wA W) (we W) 3 p.1 ∧ p.2 < wP W ∧ p.2 ≠ 0 := fun p hp => by
    rcases List.mem_cons.mp hp with rfl | q
    · exact ⟨tl_tr hW.2.1 hf, by show 1 < wP W; omega, by show 1 ≠ 0; omega⟩
    · obtain ⟨j, j1, j2, j3, rfl⟩ := dtm_mem q
      have hR := (h.1 j (by omega) j2).2.2 f hf
      refine ⟨tl_tr hW.2.1 (by omega), Nat.mod_lt _ (by omega), ?_⟩
      show (wP W - R j f) % wP W ≠ 0
      rw [Nat.mod_eq_of_lt (by omega)]
      omega
  refine ⟨⟨List.Pairwise.cons (fun q hq => ?_) (dtm_de hW.2.1 (by omega)), fun p hp => ⟨(hm p hp).1, (hm p hp).2.1⟩⟩, fun p hp => (hm p hp).2.2⟩
  obtain ⟨j, j1, -, -, rfl⟩ := dtm_mem hq
  exact tl_lt hW.2.1 (by omega) (by omega) hf

set_option maxRecDepth 100000 in
theorem lp_mk139 {W : zWd} (hW : Wok W) {b s : Nat} (hb4 : b < 4) (hs4 : s < 4) {n f0 k : Nat} (hn : n = (tl W 3).length) (hn18 : n ≤ 18) {pv : Nat → Option Nat} {g : Nat → Nat → Nat} {Z : (Nat → Int) → Prop} (hC : CI (wP W) (wL W) n Z k n pv g) {mk : Nat → Bool} {R : Nat → Nat → Nat} (hmk : ∀ c, mk c = (pv c).isSome) (hR : ∀ c, R c = g ((pv c).getD 0)) (hD : IsD W mk R) {f : Nat} (hf : f < n) {Po : Option zV → zS → Prop} : ∀ (d c : Nat) (S : zS), c + d = f → MkI S W b n f0 k pv g → gI S 8 11 0 = nI 3 → Ty S 11 (((tl W 3).getD f [], 1) :: dtm mk R (wP W) (tl W 3) f c) → (∀ S1, Fg (tTy 11) S S1 → gI S1 8 11 0 = nI 3 → Ty S1 11 (((tl W 3).getD f [], 1) :: dtm mk R (wP W) (tl W 3) f f) → Ok mX2_make 194 [some (zr 2 0), some (zr 0 b), some (zr 9 s), some (zr 8 11), some (zr 9 b), some (zi (nI n)), some (zi (nI f)), some (zi (nI f))] [] S1 Po) → Ok mX2_make 139 [some (zr 2 0), some (zr 0 b), some (zr 9 s), some (zr 8 11), some (zr 9 b), some (zi (nI n)), some (zi (nI f)), some (zi (nI c))] [] S Po := by
  have hP := hW.1
  have hL18 := hW.2.2.2.1
  intro d
  induction d with
  | zero =>
    intro c S hc hI h3 hT K
    have hs := hI.1
    obtain rfl : c = f := by omega
    refine r_iload (q := 141) dX2_make_139 rfl rfl ?_
    refine r_iload (q := 143) dX2_make_141 rfl rfl ?_
    refine r_icmp_geN (q := 146) (t := 194) (by omega) (by omega) dX2_make_143 (by decide) rfl (fun h143 => ?_) (fun h143 => absurd h143 (by omega))
    exact K S (Fg.rf hs) h3 hT
  | succ d ih =>
    intro c S hc hI h3 hT K
    obtain ⟨hs, hwc, hL, hG, hV⟩ := id hI
    have hcn : c < n := by omega
    have hpc := hV c hcn
    cases hpv : pv c with
    | none =>
      rw [hpv] at hpc
      have hpc : gI S 301 0 c = -1 := hpc
      have hmc : mk c = false := by rw [hmk, hpv]; rfl
      refine r_iload (q := 141) dX2_make_139 rfl rfl ?_
      refine r_iload (q := 143) dX2_make_141 rfl rfl ?_
      refine r_icmp_geN (q := 146) (t := 194) (by omega) (by omega) dX2_make_143 (by decide) rfl (fun h143 => absurd h143 (by omega)) (fun h143 => ?_)
      refine r_aload_n (q := 147) dX2_make_146 rfl rfl rfl ?_
      refine r_getr (q := 150) (some (301, 0)) ck2 dX2_make_147 rfl (k := 1) (by decide) wt272 rfl (hs.e (by decide)) (hs.r (by decide) (by decide)) ?_
      refine r_iload (q := 152) dX2_make_150 rfl rfl ?_
      refine r_ialdN (q := 153) 18 (by decide) rfl dX2_make_152 rfl (hs.e (by decide)) (hs.n rfl (by decide)) (by omega) (by decide) ?_
      refine r_topi (y := (-1 : Int32)) hpc ?_
      refine r_if_lt (q := 156) (t := 188) dX2_make_153 (by decide) rfl (fun h153 => ?_) (fun h153 => absurd h153 ((by decide)))
      refine r_iincN (q := 191) (L' := [some (zr 2 0), some (zr 0 b), some (zr 9 s), some (zr 8 11), some (zr 9 b), some (zi (nI n)), some (zi (nI f)), some (zi (nI (c + 1)))]) 1 rfl dX2_make_188 rfl rfl (by decide) rfl ?_
      refine r_goto (q := 139) dX2_make_191 (by decide) ?_
      exact ih (c + 1) S (by omega) hI h3 (by rw [dtm, if_neg (fun z => by rw [hmc] at z; exact absurd z.1 (by decide))]; exact hT) K
    | some p =>
      rw [hpv] at hpc
      have hpc : gI S 301 0 c = nI p := hpc
      have hmc : mk c = true := by rw [hmk, hpv]; rfl
      have hRc : R c = g p := by rw [hR, hpv]; rfl
      have hpk := (hC.2.2.2.1 c p hcn hpv).1
      have hkL := hC.1
      obtain ⟨hgf, hgP⟩ := hG p f (by omega) hf
      have hce : Ce (wA W) (we W) (wP W) 3 (((tl W 3).getD f [], 1) :: dtm mk R (wP W) (tl W 3) f c) := part_ce hW hD (by omega) (by omega)
      have hput := ok_X8_put hs (j := 11) (by decide) hW.2.1 (t := (tl W 3).getD c []) (tl_tr hW.2.1 (by omega)) (by omega) hT hce hP.1 hP.2.1 (U := tl W 3) (by omega) (mem_gd (by omega)) (fun q hq => (tl_mem hW.2.1).mpr (hce.1.2 q hq).1) (-(nI (R c f)))
      rw [rs_neg1 (by omega) (by rw [hRc]; exact hgP) hP.2.1, put_dtm hW hD (by omega) (by omega) hmc] at hput
      refine r_iload (q := 141) dX2_make_139 rfl rfl ?_
      refine r_iload (q := 143) dX2_make_141 rfl rfl ?_
      refine r_icmp_geN (q := 146) (t := 194) (by omega) (by omega) dX2_make_143 (by decide) rfl (fun h143 => absurd h143 (by omega)) (fun h143 => ?_)
      refine r_aload_n (q := 147) dX2_make_146 rfl rfl rfl ?_
      refine r_getr (q := 150) (some (301, 0)) ck2 dX2_make_147 rfl (k := 1) (by decide) wt272 rfl (hs.e (by decide)) (hs.r (by decide) (by decide)) ?_
      refine r_iload (q := 152) dX2_make_150 rfl rfl ?_
      refine r_ialdN (q := 153) 18 (by decide) rfl dX2_make_152 rfl (hs.e (by decide)) (hs.n rfl (by decide)) (by omega) (by decide) ?_
      refine r_topi (y := nI p) hpc ?_
      refine r_if_ltN (q := 156) (t := 188) (by omega) dX2_make_153 (by decide) rfl ?_
      refine r_aload_n (q := 157) dX2_make_156 rfl rfl rfl ?_
      refine r_aload_n (q := 158) dX2_make_157 rfl rfl rfl ?_
      refine r_iconst (q := 159) (nI 3) dX2_make_158 rfl (by decide) ?_
      refine r_iload (q := 161) dX2_make_159 rfl rfl ?_
      refine r_callV (Mc := mX0_keyOf) (q := 164) (As := [zi (nI 3), zi (nI c)]) (st := [zr 8 11]) ck0 dX2_make_161 rfl rfl mkX0_keyOf wt995 wt793 wt794 rfl (Nat.le_of_ble_eq_true rfl) (Nat.le_of_ble_eq_true rfl) (by decide) (by decide) (by decide) (Or.inl rfl) (hs.e (show b < 4 by omega)) (ok_keyOf hs hb4 (by omega) hL (show c < (tl W 3).length by omega)) (fun r161 S161 hp161 => ?_)
      obtain ⟨rfl, hq161⟩ := hp161
      rw [hq161]
      show Ok _ _ _ [zi (nI (ky ((tl W 3).getD c []))), zr 8 11] _ _
      refine r_aload_n (q := 165) dX2_make_164 rfl rfl rfl ?_
      refine r_getr (q := 168) (some (300, 0)) ck2 dX2_make_165 rfl (k := 0) (by decide) wt271 rfl (hs.e (by decide)) (hs.r (by decide) (by decide)) ?_
      refine r_aload_n (q := 169) dX2_make_168 rfl rfl rfl ?_
      refine r_getr (q := 172) (some (301, 0)) ck2 dX2_make_169 rfl (k := 1) (by decide) wt272 rfl (hs.e (by decide)) (hs.r (by decide) (by decide)) ?_
      refine r_iload (q := 174) dX2_make_172 rfl rfl ?_
      refine r_ialdN (q := 175) 18 (by decide) rfl dX2_make_174 rfl (hs.e (by decide)) (hs.n rfl (by decide)) (by omega) (by decide) ?_
      refine r_topi (y := nI p) hpc ?_
      refine r_aaldN (q := 176) (some (10300, p)) 18 (by decide) (by decide) (by decide) dX2_make_175 rfl (hs.e (by decide)) (hs.n rfl (by decide)) (show p < 18 by omega) (by decide) ((hs.r (by decide) (show p < 18 by omega)).trans (if_pos (show p < 18 by omega))) ?_
      refine r_iload (q := 178) dX2_make_176 rfl rfl ?_
      refine r_ialdN (q := 179) 18 (by decide) rfl dX2_make_178 rfl (hs.e (show p < 18 by omega)) (hs.n rfl (show p < 18 by omega)) (by omega) (by decide) ?_
      refine r_topi (y := nI (R c f)) (by rw [hRc]; exact hgf) ?_
      refine r_ineg (q := 180) dX2_make_179 rfl ?_
      refine r_aload (q := 182) dX2_make_180 rfl rfl ?_
      refine r_geti (q := 185) ck9 dX2_make_182 rfl (k := 0) (by decide) wt290 (Or.inl rfl) (hs.e (show b < 4 by omega)) ?_
      refine r_topi (y := nI (wP W)) hwc.1 ?_
      refine r_callV (Mc := mX8_put) (q := 188) (As := [zi (nI (ky ((tl W 3).getD c []))), zi (-(nI (R c f))), zi (nI (wP W))]) (st := []) ck8 dX2_make_185 rfl rfl mkX8_put wt1015 wt610 wt611 rfl (Nat.le_of_ble_eq_true rfl) (Nat.le_of_ble_eq_true rfl) (by decide) (by decide) (by decide) (Or.inr ⟨Nat.le_of_ble_eq_true rfl, rfl, rfl⟩) (hs.e (by decide)) hput (fun r185 S185 hp185 => ?_)
      obtain ⟨rfl, f1, hT1⟩ := hp185
      show Ok _ _ _ [] _ _
      refine r_iincN (q := 191) (L' := [some (zr 2 0), some (zr 0 b), some (zr 9 s), some (zr 8 11), some (zr 9 b), some (zi (nI n)), some (zi (nI f)), some (zi (nI (c + 1)))]) 1 rfl dX2_make_188 rfl rfl (by decide) rfl ?_
      refine r_goto (q := 139) dX2_make_191 (by decide) ?_
      exact ih (c + 1) S185 (by omega) (hI.fg f1 (fun x y a _ _ k => by unfold tTy; omega)) ((f1.I (by omega) (by unfold tTy; omega)).trans h3) hT1 (fun S2 f2 a b => K S2 (f1.tr f2) a b)

def tMl (s a b k : Nat) : Prop := b = s ∧ (a = 9 ∧ k = 4 ∨ a = 1005 ∨ a = 1006 ∧ 1 ≤ k ∨ a = 1007 ∨ a = 1008) ∨ a = 8 ∧ b = 11 ∨ (a = 902 ∨ a = 903) ∧ b = 11

theorem mkWs_okl {W : zWd} {mk : Nat → Bool} {R : Nat → Nat → Nat} (h : Wok (dW W mk R)) {ls : List (Nat × List zT)} {x : Nat × List zT} {r : List (Nat × List zT)} (hls : (ls ++ [x]) ++ r = dls mk R (wP W) (tl W 3) (tl W 3).length) : Wok (mkWs W ls) := by
  have e : ls ++ (x :: r) = dls mk R (wP W) (tl W 3) (tl W 3).length := by rw [← hls, List.append_assoc]; rfl
  have h18 : (dls mk R (wP W) (tl W 3) (tl W 3).length).length ≤ 18 := h.2.2.2.1
  have h200 : lfs (dls mk R (wP W) (tl W 3) (tl W 3).length) (dls mk R (wP W) (tl W 3) (tl W 3).length).length ≤ 200 := h.2.2.2.2.1
  rw [← e] at h18 h200
  rw [lfs_app2] at h200
  rw [List.length_append] at h18
  refine ⟨h.1, h.2.1, h.2.2.1, ?_, ?_, fun L hL => ?_⟩
  · show ls.length ≤ 18; omega
  · show lfs ls ls.length ≤ 200; omega
  · have hL : L < ls.length := hL
    have hL2 : L < wL (dW W mk R) := by
      show L < (dls mk R (wP W) (tl W 3) (tl W 3).length).length
      rw [← e, List.length_append]
      omega
    have := h.2.2.2.2.2 L hL2
    have e2 : lw (dW W mk R) L = lw (mkWs W ls) L := by
      show (dls mk R (wP W) (tl W 3) (tl W 3).length).getD L ld = ls.getD L ld
      rw [← e, List.getD_eq_getElem?_getD, List.getD_eq_getElem?_getD, List.getElem?_append_left hL]
    rw [e2] at this
    exact this

set_option maxRecDepth 100000 in
theorem lp_mk99 {W : zWd} (hW : Wok W) {b s : Nat} (hb4 : b < 4) (hs4 : s < 4) {n f0 k : Nat} (hn : n = (tl W 3).length) (hn18 : n ≤ 18) {pv : Nat → Option Nat} {g : Nat → Nat → Nat} {Z : (Nat → Int) → Prop} (hC : CI (wP W) (wL W) n Z k n pv g) {mk : Nat → Bool} {R : Nat → Nat → Nat} (hmk : ∀ c, mk c = (pv c).isSome) (hR : ∀ c, R c = g ((pv c).getD 0)) (hD : IsD W mk R) (hbs : b ≠ s) (hWd : Wok (dW W mk R)) : ∀ (m : Nat) (S : zS) (ls : List (Nat × List zT)) (w7 : Option zV), m ≤ n → ls ++ dls mk R (wP W) (tl W 3) m = dls mk R (wP W) (tl W 3) (tl W 3).length → MkI S W b n f0 k pv g → WC S s (mkWs W ls) → TL S 11 → Ok mX2_make 99 [some (zr 2 0), some (zr 0 b), some (zr 9 s), some (zr 8 11), some (zr 9 b), some (zi (nI n)), some (zi (nI m - 1)), w7] [] S (fun r S1 => r = none ∧ Fg (tMl s) S S1 ∧ WC S1 s (dW W mk R) ∧ TL S1 11) := by
  have hP := hW.1
  have hL18 := hW.2.2.2.1
  intro m
  induction m with
  | zero =>
    intro S ls w7 hm hls hI hw hT
    have hs := hI.1
    refine r_mask [true, true, true, true, true, true, true, false] rfl ?_
    refine r_locs (L1 := [some (zr 2 0), some (zr 0 b), some (zr 9 s), some (zr 8 11), some (zr 9 b), some (zi (nI n)), some (zi (-1 : Int32)), none]) rfl ?_
    refine r_iload (q := 101) dX2_make_99 rfl rfl ?_
    refine r_if_lt (q := 104) (t := 205) dX2_make_101 (by decide) rfl (fun h101 => ?_) (fun h101 => absurd h101 ((by decide)))
    refine r_return dX2_make_205 rfl ?_
    have e : dW W mk R = mkWs W ls := by
      unfold dW mkWs
      rw [← hls]
      exact congrArg (fun z => (W.1, W.2.1, W.2.2.1, z)) (List.append_nil ls)
    exact ⟨rfl, Fg.rf hs, by rw [e]; exact hw, hT⟩
  | succ m ih =>
    intro S ls w7 hm hls hI hw hT
    obtain ⟨hs, hwc, hL, hG, hV⟩ := id hI
    have hmn : m < n := by omega
    have hpm := hV m hmn
    refine r_mask [true, true, true, true, true, true, true, false] rfl ?_
    refine r_locs (L1 := [some (zr 2 0), some (zr 0 b), some (zr 9 s), some (zr 8 11), some (zr 9 b), some (zi (nI n)), some (zi (nI m)), none]) (by rw [nI_pred]; rfl) ?_
    cases hpv : pv m with
    | some p =>
      rw [hpv] at hpm
      have hpm : gI S 301 0 m = nI p := hpm
      have hmm : mk m = true := by rw [hmk, hpv]; rfl
      have hpk := (hC.2.2.2.1 m p hmn hpv).1
      have hkL := hC.1
      refine r_iload (q := 101) dX2_make_99 rfl rfl ?_
      refine r_if_ltN (q := 104) (t := 205) (by omega) dX2_make_101 (by decide) rfl ?_
      refine r_aload_n (q := 105) dX2_make_104 rfl rfl rfl ?_
      refine r_getr (q := 108) (some (301, 0)) ck2 dX2_make_105 rfl (k := 1) (by decide) wt272 rfl (hs.e (by decide)) (hs.r (by decide) (by decide)) ?_
      refine r_iload (q := 110) dX2_make_108 rfl rfl ?_
      refine r_ialdN (q := 111) 18 (by decide) rfl dX2_make_110 rfl (hs.e (by decide)) (hs.n rfl (by decide)) (by omega) (by decide) ?_
      refine r_topi (y := nI p) hpm ?_
      refine r_if_geN (q := 114) (t := 199) (by omega) dX2_make_111 (by decide) rfl ?_
      refine r_iinc (q := 202) (L' := [some (zr 2 0), some (zr 0 b), some (zr 9 s), some (zr 8 11), some (zr 9 b), some (zi (nI n)), some (zi ((nI m) + (-1))), none]) ((nI m) + (-1)) dX2_make_199 rfl rfl (by decide) rfl rfl ?_
      refine r_goto (q := 99) dX2_make_202 (by decide) ?_
      refine r_locs (L1 := [some (zr 2 0), some (zr 0 b), some (zr 9 s), some (zr 8 11), some (zr 9 b), some (zi (nI n)), some (zi (nI m - 1)), none]) (by rw [Int32.sub_eq_add_neg]) ?_
      exact ih S ls none (by omega) (by rw [← hls, dls, if_pos hmm]) hI hw hT
    | none =>
      rw [hpv] at hpm
      have hpm : gI S 301 0 m = -1 := hpm
      have hmm : mk m = false := by rw [hmk, hpv]; rfl
      obtain ⟨t1, e1, t2, t3, t4, t5, t6, t7⟩ := id hT
      obtain ⟨w1, w2, w3⟩ := mkWs_fit hWd hls hmm
      have fc : Fg (tMl s) S (sI (sI S 8 11 0 (nI 3)) 8 11 1 (nI 0)) := (((Fr.rf (T := fun x y _ => x == 8 && y == 11)).i rfl).i rfl).fg hs (fun a b k z => Or.inr (Or.inl (by simpa using z)))
      obtain ⟨S0, hS0⟩ : ∃ S0, S0 = sI (sI S 8 11 0 (nI 3)) 8 11 1 (nI 0) := ⟨_, rfl⟩
      have hT0 : Ty S0 11 [] := by rw [hS0]; exact ⟨by rw [gI_sI, if_pos ⟨rfl, rfl, rfl⟩]; rfl, fun k hk => absurd hk (Nat.not_lt_zero k), t1, t2, t3, t4, t5, Nat.zero_le _⟩
      have h30 : gI S0 8 11 0 = nI 3 := by rw [hS0, gI_sI, if_neg (by omega), gI_sI, if_pos ⟨rfl, rfl, rfl⟩]
      rw [← hS0] at fc
      have hI0 := hI.fg fc (fun x y a b c k => by unfold tMl; omega)
      have hs0 := fc.sd
      have hput := ok_X8_put hs0 (j := 11) (by decide) hW.2.1 (t := (tl W 3).getD m []) (tl_tr hW.2.1 (by omega)) (by omega) hT0 (P := wP W) ⟨⟨List.Pairwise.nil, fun p hp => nomatch hp⟩, fun p hp => nomatch hp⟩ hP.1 hP.2.1 (U := tl W 3) (by omega) (mem_gd (by omega)) (fun q hq => nomatch hq) (nI 1)
      rw [rs1 hP.1, show cl (addT (wP W) ((tl W 3).getD m []) 1 []) = ((tl W 3).getD m [], 1) :: dtm mk R (wP W) (tl W 3) m 0 by
        show List.filter (fun p => p.2 != 0) [((tl W 3).getD m [], 1 % wP W)] = [((tl W 3).getD m [], 1)]
        rw [Nat.mod_eq_of_lt (by omega)]
        rfl] at hput
      refine r_iload (q := 101) dX2_make_99 rfl rfl ?_
      refine r_if_ltN (q := 104) (t := 205) (by omega) dX2_make_101 (by decide) rfl ?_
      refine r_aload_n (q := 105) dX2_make_104 rfl rfl rfl ?_
      refine r_getr (q := 108) (some (301, 0)) ck2 dX2_make_105 rfl (k := 1) (by decide) wt272 rfl (hs.e (by decide)) (hs.r (by decide) (by decide)) ?_
      refine r_iload (q := 110) dX2_make_108 rfl rfl ?_
      refine r_ialdN (q := 111) 18 (by decide) rfl dX2_make_110 rfl (hs.e (by decide)) (hs.n rfl (by decide)) (by omega) (by decide) ?_
      refine r_topi (y := (-1 : Int32)) hpm ?_
      refine r_if_ge (q := 114) (t := 199) dX2_make_111 (by decide) rfl (fun h111 => absurd h111 ((by decide))) (fun h111 => ?_)
      refine r_aload_n (q := 115) dX2_make_114 rfl rfl rfl ?_
      refine r_iconst (q := 116) (nI 3) dX2_make_115 rfl (by decide) ?_
      refine r_callV (Mc := mX8_clear) (q := 119) (As := [zi (nI 3)]) (st := []) ck8 dX2_make_116 rfl rfl mkX8_clear wt1014 wt603 wt604 rfl (Nat.le_of_ble_eq_true rfl) (Nat.le_of_ble_eq_true rfl) (by decide) (by decide) (by decide) (Or.inl rfl) (hs.e (by decide)) (ok_X8_clear hs (j := 11) (by decide) (nI 3)) (fun r116 S116 hp116 => ?_)
      obtain ⟨rfl, hq116⟩ := hp116
      rw [hq116, ← hS0]
      show Ok _ _ _ [] _ _
      refine r_aload_n (q := 120) dX2_make_119 rfl rfl rfl ?_
      refine r_aload_n (q := 121) dX2_make_120 rfl rfl rfl ?_
      refine r_iconst (q := 122) (nI 3) dX2_make_121 rfl (by decide) ?_
      refine r_iload (q := 124) dX2_make_122 rfl rfl ?_
      refine r_callV (Mc := mX0_keyOf) (q := 127) (As := [zi (nI 3), zi (nI m)]) (st := [zr 8 11]) ck0 dX2_make_124 rfl rfl mkX0_keyOf wt995 wt793 wt794 rfl (Nat.le_of_ble_eq_true rfl) (Nat.le_of_ble_eq_true rfl) (by decide) (by decide) (by decide) (Or.inl rfl) (hs0.e (show b < 4 by omega)) (ok_keyOf hs0 hb4 (by omega) hI0.2.2.1 (show m < (tl W 3).length by omega)) (fun r124 S124 hp124 => ?_)
      obtain ⟨rfl, hq124⟩ := hp124
      rw [hq124]
      show Ok _ _ _ [zi (nI (ky ((tl W 3).getD m []))), zr 8 11] _ _
      refine r_iconst (q := 128) (nI 1) dX2_make_127 rfl (by decide) ?_
      refine r_aload (q := 130) dX2_make_128 rfl rfl ?_
      refine r_geti (q := 133) ck9 dX2_make_130 rfl (k := 0) (by decide) wt290 (Or.inl rfl) (hs0.e (show b < 4 by omega)) ?_
      refine r_topi (y := nI (wP W)) hI0.2.1.1 ?_
      refine r_callV (Mc := mX8_put) (q := 136) (As := [zi (nI (ky ((tl W 3).getD m []))), zi (nI 1), zi (nI (wP W))]) (st := []) ck8 dX2_make_133 rfl rfl mkX8_put wt1015 wt610 wt611 rfl (Nat.le_of_ble_eq_true rfl) (Nat.le_of_ble_eq_true rfl) (by decide) (by decide) (by decide) (Or.inr ⟨Nat.le_of_ble_eq_true rfl, rfl, rfl⟩) (hs0.e (by decide)) hput (fun r133 S133 hp133 => ?_)
      obtain ⟨rfl, f1, hT1⟩ := hp133
      have f1 : Fg (tTy 11) S0 S133 := f1
      have hI1 := hI0.fg f1 (fun x y a b c k => by unfold tTy; omega)
      show Ok _ _ _ [] _ _
      refine r_iconst (q := 137) (nI 0) dX2_make_136 rfl (by decide) ?_
      refine r_istore (q := 139) (L' := [some (zr 2 0), some (zr 0 b), some (zr 9 s), some (zr 8 11), some (zr 9 b), some (zi (nI n)), some (zi (nI m)), some (zi (nI 0))]) dX2_make_137 rfl (by decide) rfl ?_
      refine lp_mk139 hW hb4 hs4 hn hn18 hC hmk hR hD hmn m 0 S133 (by omega) hI1 ((f1.I (by omega) (by unfold tTy; omega)).trans h30) hT1 (fun S2 f2 h32 hT2 => ?_)
      have hs2 := f2.sd
      have g2 : Fg (tMl s) S S2 := (fc.tr (f1.mono fun a b k z => by unfold tTy at z; unfold tMl; omega)).tr (f2.mono fun a b k z => by unfold tTy at z; unfold tMl; omega)
      have hw2 : WC S2 s (mkWs W ls) := (hw.fr (T := fun x y _ => x == 8 && y == 11) (S1 := S0) (by rw [hS0]; exact ((Fr.rf).i rfl).i rfl) (fun a k ha => by simp; omega)).fg (f1.tr f2) (fun a k ha => by unfold tTy; omega)
      refine r_aload_n (q := 195) dX2_make_194 rfl rfl rfl ?_
      refine r_aload_n (q := 196) dX2_make_195 rfl rfl rfl ?_
      refine r_callV (Mc := mX9_addLaw) (q := 199) (As := [zr 8 11]) (st := []) ck9 dX2_make_196 rfl rfl mkX9_addLaw wt1016 wt652 wt653 rfl (Nat.le_of_ble_eq_true rfl) (Nat.le_of_ble_eq_true rfl) (by decide) (by decide) (by decide) (Or.inl rfl) (hs2.e (show s < 4 by omega)) (ok_addLaw11 hs2 hs4 hw2 w1 h32 hT2 w2) (fun r196 S196 hp196 => ?_)
      obtain ⟨rfl, hq196⟩ := hp196
      rw [hq196]
      show Ok _ _ _ [] _ _
      refine r_iinc (q := 202) (L' := [some (zr 2 0), some (zr 0 b), some (zr 9 s), some (zr 8 11), some (zr 9 b), some (zi (nI n)), some (zi ((nI m) + (-1))), some (zi (nI m))]) ((nI m) + (-1)) dX2_make_199 rfl rfl (by decide) rfl rfl ?_
      refine r_goto (q := 99) dX2_make_202 (by decide) ?_
      have fl : Fg (tMl s) S2 (sI (sI (cpS (cpS (sI S2 1005 s (wL (mkWs W ls)) (nI 3)) 902 11 1007 s 0 (lf (mkWs W ls) (wL (mkWs W ls))) (dlw mk R (wP W) (tl W 3) m).length) 903 11 1008 s 0 (lf (mkWs W ls) (wL (mkWs W ls))) (dlw mk R (wP W) (tl W 3) m).length) 9 s 4 (nI (wL (mkWs W ls) + 1))) 1006 s (wL (mkWs W ls) + 1) (nI (lf (mkWs W ls) (wL (mkWs W ls)) + (dlw mk R (wP W) (tl W 3) m).length))) := Fg.of22 hs2 rfl (fun a b k ha ht => by
        unfold tMl at ht
        rw [gI_sI, if_neg (by omega), gI_sI, if_neg (by omega), gI_cpS, if_neg (by omega), gI_cpS, if_neg (by omega), gI_sI, if_neg (by omega)]) (fun _ _ _ _ _ => rfl)
      have hw3 := WC.law11 (W := mkWs W ls) (s := s) (S := S2) (n := 3) (mkWs_okl hWd w3) hw2 hT2
      have hT3 := (tyTL hT2)
      refine r_mask [true, true, true, true, true, true, true, false] rfl ?_
      refine r_locs (L1 := [some (zr 2 0), some (zr 0 b), some (zr 9 s), some (zr 8 11), some (zr 9 b), some (zi (nI n)), some (zi (nI m - 1)), none]) (by rw [Int32.sub_eq_add_neg]; rfl) ?_
      refine Ok.mono (ih _ (ls ++ [(3, dlw mk R (wP W) (tl W 3) m)]) none (by omega) w3 (hI.fg (g2.tr fl) (fun x y a b c k => by unfold tMl; omega)) hw3 ?_) (fun r S9 q => ⟨q.1, (g2.tr fl).tr q.2.1, q.2.2⟩)
      obtain ⟨u1, v1, u2, u3, u4, u5, u6, u7⟩ := hT3
      exact ⟨u1, v1, u2, u3, u4, u5, (by rw [gI_sI, if_neg (by omega), gI_sI, if_neg (by omega), gI_cpS, if_neg (by omega), gI_cpS, if_neg (by omega), gI_sI, if_neg (by omega)]; exact u6), u7⟩

def tMk (s a b k : Nat) : Prop := b = s ∧ (a = 9 ∨ a = 1002 ∨ a = 1003 ∨ a = 1005 ∨ a = 1006 ∧ 1 ≤ k ∨ a = 1007 ∨ a = 1008) ∨ a = 8 ∧ b = 11 ∨ (a = 902 ∨ a = 903) ∧ b = 11 ∨ a = 10300 ∨ (a = 301 ∨ a = 302) ∧ b = 0

set_option maxRecDepth 100000 in
theorem ok_make {S : zS} (hs : Sd S) {W : zWd} (hW : Wok W) (hQ : Qd W) {b s : Nat} (hb4 : b < 4) (hs4 : s < 4) (hbs : b ≠ s) (hc : WC S b W) {f0 : Nat} (hL : Lx S b 3 f0 (tl W 3)) (h6 : gI S 1006 s 0 = nI 0) (hT : TL S 11) : Ok mX2_make 0 (ent 8 [zr 2 0, zr 0 b, zr 9 s, zr 8 11]) [] S (fun r S1 => r = none ∧ ∃ mk R, IsD W mk R ∧ Fg (tMk s) S S1 ∧ WC S1 s (dW W mk R) ∧ TL S1 11) := by
  show Ok mX2_make 0 [some (zr 2 0), some (zr 0 b), some (zr 9 s), some (zr 8 11), none, none, none, none] [] S _
  refine r_aload_n (q := 1) dX2_make_0 rfl rfl rfl ?_
  refine r_getr (q := 4) (some (9, b)) ck0 dX2_make_1 rfl (k := 0) (by decide) wt375 rfl (hs.e (show b < 4 by omega)) (hs.r (show b < 4 by omega) (by decide)) ?_
  refine r_astore (q := 6) (L' := [some (zr 2 0), some (zr 0 b), some (zr 9 s), some (zr 8 11), some (zr 9 b), none, none, none]) dX2_make_4 rfl (by decide) rfl ?_
  refine r_aload_n (q := 7) dX2_make_6 rfl rfl rfl ?_
  refine r_callV (Mc := mX9_clear) (q := 10) (As := []) (st := []) ck9 dX2_make_7 rfl rfl mkX9_clear wt983 wt538 wt539 rfl (Nat.le_of_ble_eq_true rfl) (Nat.le_of_ble_eq_true rfl) (by decide) (by decide) (by decide) (Or.inl rfl) (hs.e (show s < 4 by omega)) (ok_X9_clear hs hs4) (fun r7 S7 hp7 => ?_)
  obtain ⟨rfl, hq7⟩ := hp7
  have f7 : Fr (tAk s) S S7 := by rw [hq7]; exact (((Fr.rf).i (by simp [tAk])).i (by simp [tAk])).i (by simp [tAk])
  have hs7 : Sd S7 := hs.fr f7
  have hc7 : WC S7 b W := hc.fr f7 (fun a k ha => by simp [tAk]; omega)
  have f8 : Fr (tAk s) S (sI S7 9 s 0 (nI (wP W))) := f7.i (by simp [tAk])
  have hF0 : AcF (sI S7 9 s 0 (nI (wP W))) W s 0 := ⟨by rw [gI_sI, if_pos ⟨rfl, rfl, rfl⟩], by rw [hq7, gI_sI, if_neg (by omega), gI_sI, if_neg (by omega), gI_sI, if_pos ⟨rfl, rfl, rfl⟩], by rw [hq7, gI_sI, if_neg (by omega), gI_sI, if_pos ⟨rfl, rfl, rfl⟩], by rw [gI_sI, if_neg (by omega)]; exact (f7.1 _ _ _ (by simp [tAk])).trans h6, fun i hi => absurd hi (Nat.not_lt_zero i)⟩
  show Ok _ _ _ [] _ _
  refine r_aload_n (q := 11) dX2_make_10 rfl rfl rfl ?_
  refine r_aload (q := 13) dX2_make_11 rfl rfl ?_
  refine r_geti (q := 16) ck9 dX2_make_13 rfl (k := 0) (by decide) wt290 (Or.inl rfl) (hs7.e (show b < 4 by omega)) ?_
  refine r_topi (y := nI (wP W)) hc7.1 ?_
  refine r_puti (q := 19) ck9 dX2_make_16 rfl (k := 0) (by decide) wt290 (Or.inl rfl) rfl (hs7.e (show s < 4 by omega)) ?_
  refine r_iconst (q := 20) (nI 0) dX2_make_19 rfl (by decide) ?_
  refine r_istore (q := 22) (L' := [some (zr 2 0), some (zr 0 b), some (zr 9 s), some (zr 8 11), some (zr 9 b), some (zi (nI 0)), none, none]) dX2_make_20 rfl (by decide) rfl ?_
  refine lp_mk22 hW hb4 hs4 hbs (wA W) 0 (sI S7 9 s 0 (nI (wP W))) (by omega) hs7 (hc.fr f8 (fun a k ha => by simp [tAk]; omega)) hF0 (fun S1 f1 hF1 => ?_)
  have hs1 : Sd S1 := Sd.fr (S := sI S7 9 s 0 (nI (wP W))) hs7 f1
  have hc1 : WC S1 b W := hc.fr (f8.tr f1) (fun a k ha => by simp [tAk]; omega)
  have hL1 : Lx S1 b 3 f0 (tl W 3) := hL.fr (f8.tr f1) (fun k => ⟨by simp [tAk], by simp [tAk]⟩)
  have hn18 := tl3_18 hW hQ
  refine r_bipush (q := 60) (nI 18) dX2_make_58 rfl (by decide) ?_
  refine r_aload_n (q := 61) dX2_make_60 rfl rfl rfl ?_
  refine r_iconst (q := 62) (nI 3) dX2_make_61 rfl (by decide) ?_
  refine r_callV (Mc := mX0_treesOf) (q := 65) (As := [zi (nI 3)]) (st := [zi (nI 18)]) ck0 dX2_make_62 rfl rfl mkX0_treesOf wt985 wt789 wt790 rfl (Nat.le_of_ble_eq_true rfl) (Nat.le_of_ble_eq_true rfl) (by decide) (by decide) (by decide) (Or.inl rfl) (hs1.e (show b < 4 by omega)) (ok_treesOf hs1 hb4 (by omega) hL1) (fun r62 S62 hp62 => ?_)
  obtain ⟨rfl, hq62⟩ := hp62
  rw [hq62]
  show Ok _ _ _ [zi (nI ((tl W 3).length)), zi (nI 18)] _ _
  refine r_mmin (q := 68) dX2_make_65 rfl wt986 wt512 wt15 wt513 (Nat.le_of_ble_eq_true rfl) (by decide) (by decide) ?_
  refine r_topi (y := nI ((tl W 3).length)) (by rw [nI_min (by omega) (by omega), Nat.min_eq_right hn18]) ?_
  refine r_istore (q := 70) (L' := [some (zr 2 0), some (zr 0 b), some (zr 9 s), some (zr 8 11), some (zr 9 b), some (zi (nI ((tl W 3).length))), none, none]) dX2_make_68 rfl (by decide) rfl ?_
  refine r_aload_n (q := 71) dX2_make_70 rfl rfl rfl ?_
  refine r_aload_n (q := 72) dX2_make_71 rfl rfl rfl ?_
  refine r_iload (q := 74) dX2_make_72 rfl rfl ?_
  refine r_callV (Mc := mX2_fillGrid) (q := 77) (As := [zr 0 b, zi (nI ((tl W 3).length))]) (st := []) ck2 dX2_make_74 rfl rfl mkX2_fillGrid wt987 wt989 wp49 rfl (Nat.le_of_ble_eq_true rfl) (Nat.le_of_ble_eq_true rfl) (by decide) (by decide) (by decide) (Or.inl rfl) (hs1.e (by decide)) (ok_fillGrid hs1 hW hb4 hQ.2 hn18 hc1 hL1) (fun r74 S74 hp74 => ?_)
  obtain ⟨rfl, f74, hrw⟩ := hp74
  have hs74 := hs1.fr f74
  have hc74 : WC S74 b W := hc1.fr f74 (fun a k ha => by simp [tFg2]; omega)
  have hL74 : Lx S74 b 3 f0 (tl W 3) := hL1.fr f74 (fun k => ⟨by simp [tFg2], by simp [tFg2]⟩)
  have hG74 : Gd S74 (wL W) (tl W 3).length (wP W) (eqn W) := fun r c hr hc' => ⟨hrw r c hr hc', eqn_lt hW⟩
  show Ok _ _ _ [] _ _
  refine r_aload_n (q := 78) dX2_make_77 rfl rfl rfl ?_
  refine r_aload (q := 80) dX2_make_78 rfl rfl ?_
  refine r_geti (q := 83) ck9 dX2_make_80 rfl (k := 4) (by decide) wt313 (Or.inl rfl) (hs74.e (show b < 4 by omega)) ?_
  refine r_topi (y := nI (wL W)) hc74.2.2.1 ?_
  refine r_iload (q := 85) dX2_make_83 rfl rfl ?_
  refine r_aload (q := 87) dX2_make_85 rfl rfl ?_
  refine r_geti (q := 90) ck9 dX2_make_87 rfl (k := 0) (by decide) wt290 (Or.inl rfl) (hs74.e (show b < 4 by omega)) ?_
  refine r_topi (y := nI (wP W)) hc74.1 ?_
  refine r_callV (Mc := mX2_clearColumns) (q := 93) (As := [zi (nI (wL W)), zi (nI ((tl W 3).length)), zi (nI (wP W))]) (st := []) ck2 dX2_make_90 rfl rfl mkX2_clearColumns wt1001 wt1003 wp51 rfl (Nat.le_of_ble_eq_true rfl) (Nat.le_of_ble_eq_true rfl) (by decide) (by decide) (by decide) (Or.inl rfl) (hs74.e (by decide)) (ok_clearColumns hs74 (L := wL W) (n := (tl W 3).length) hW.2.2.2.1 hn18 hW.1.1 hW.1.2.1 hW.1.2.2 (Z := ZW W) hG74 (fun x => Iff.rfl)) (fun r90 S90 hp90 => ?_)
  obtain ⟨rfl, f90, k, pv, g, hG90, hC90, hV90⟩ := hp90
  have hs90 := hs74.fr f90
  have hc90 : WC S90 b W := hc74.fr f90 (fun a k ha => by simp [tCs]; omega)
  have hL90 : Lx S90 b 3 f0 (tl W 3) := hL74.fr f90 (fun k => ⟨by simp [tCs], by simp [tCs]⟩)
  have hD : IsD W (fun c => (pv c).isSome) (fun c => g ((pv c).getD 0)) := hC90.done
  have hWd := dW_ok hW hQ hD
  have gA : Fg (tMk s) S S90 := (((f8.fg hs (U := tMk s) (fun a b k z => by simp [tAk] at z; unfold tMk; omega)).tr (f1.fg hs7 (fun a b k z => by simp [tAk] at z; unfold tMk; omega))).tr (f74.fg hs1 (fun a b k z => by simp [tFg2] at z; unfold tMk; omega))).tr (f90.fg hs74 (fun a b k z => by simp [tCs] at z; unfold tMk; omega))
  have hw90 : WC S90 s (mkWs W []) := ((hF1.end_).fr f74 (fun a k ha => by simp [tFg2]; omega)).fr f90 (fun a k ha => by simp [tCs]; omega)
  have hT90 : TL S90 11 := by
    obtain ⟨u1, v1, u2, u3, u4, u5, u6, u7⟩ := hT
    have eN : ∀ a b, gN S90 a b = gN S a b := fun a b => (gN_22 f90.2.2).trans ((gN_22 f74.2.2).trans ((gN_22 f1.2.2).trans (gN_22 f8.2.2)))
    exact ⟨u1, v1, (eN _ _).trans u2, (eN _ _).trans u3, u4, u5, ((f90.1 _ _ _ rfl).trans ((f74.1 _ _ _ rfl).trans ((f1.1 _ _ _ (by simp [tAk])).trans (f8.1 _ _ _ (by simp [tAk]))))).trans u6, u7⟩
  show Ok _ _ _ [] _ _
  refine r_iload (q := 95) dX2_make_93 rfl rfl ?_
  refine r_iconst (q := 96) (nI 1) dX2_make_95 rfl (by decide) ?_
  refine r_isub (q := 97) dX2_make_96 rfl ?_
  refine r_istore (q := 99) (L' := [some (zr 2 0), some (zr 0 b), some (zr 9 s), some (zr 8 11), some (zr 9 b), some (zi (nI ((tl W 3).length))), some (zi ((nI ((tl W 3).length)) - (nI 1))), none]) dX2_make_97 rfl (by decide) rfl ?_
  exact Ok.mono (lp_mk99 hW hb4 hs4 rfl hn18 hC90 (mk := fun c => (pv c).isSome) (R := fun c => g ((pv c).getD 0)) (fun _ => rfl) (fun _ => rfl) hD hbs hWd (tl W 3).length S90 [] none (Nat.le_refl _) rfl ⟨hs90, hc90, hL90, hG90, hV90⟩ hw90 hT90) (fun r S9 q => ⟨q.1, _, _, hD, gA.tr (q.2.1.mono fun a b k z => by unfold tMl at z; unfold tMk; omega), q.2.2⟩)

