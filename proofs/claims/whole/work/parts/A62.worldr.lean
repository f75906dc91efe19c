/-! world: the reference -/
def tWld (a b k : Nat) : Bool := tLn a b k || a == 12 && b == 0 && (k == 0 || k == 2 || k == 3 || k == 4 || k == 5 || k == 13 || k == 14 || k == 53 || k == 54 || k == 55) || a == 1323 && b == 0 && k == 1
theorem tWld_n (a b k : Nat) (h : tLn a b k = true) : tWld a b k = true := by simp [tWld, h]
def tWlp (a b k : Nat) : Bool := tLn a b k || a == 12 && b == 0 && k == 55
theorem tWlp_n (a b k : Nat) (h : tLn a b k = true) : tWlp a b k = true := by simp [tWlp, h]
theorem tWlp_d (a b k : Nat) (h : tWlp a b k = true) : tWld a b k = true := by
  simp [tWlp] at h
  rcases h with h | h
  · exact tWld_n a b k h
  · simp [tWld, h]
def tWlt (a b k : Nat) : Bool := tWld a b k || a == 1306 && b == 0 && decide (k < 1175) || a == 1308 && b == 0 || a == 12 && b == 0 && (k == 33 || k == 58)
theorem tWlt_r (a b k : Nat) (h : tWld a b k = true) : tWlt a b k = true := by simp [tWlt, h]
def Hz (S : zS) : Prop := gI S 1307 0 3 = nI 1 ∧ ∀ k, 444 ≤ k → k < 1173 → gI S 1307 0 k = nI 0
def WoR (S S1 : zS) (r : Option zV) : zEr ⊕ (Nat × zWd) → Prop
  | Sum.inl x => r = some (zi ((-1 : Int32) - nI x.2)) ∧ Fr tWld S S1 ∧ Fq S1 x ∧ gI S1 12 0 2 = nI 0
  | Sum.inr (n, W) => r = some (zi (nI n)) ∧ Fr tWlt S S1 ∧ gI S1 12 0 13 = nI 0 ∧ gI S1 12 0 2 = nI 0 ∧ wqR W (fun k => gI S1 1306 0 k) (fun i => gJ S1 1308 0 i) ∧ (gI S1 1306 0 3 = nI 1 ∧ ∀ k, 444 ≤ k → k < 1173 → gI S1 1306 0 k = nI 0) ∧ gI S1 12 0 33 = -1 ∧ gI S1 1306 0 1173 = nI 1 ∧ gI S1 1306 0 1174 = nI 0 ∧ gI S1 12 0 58 = nI 0

set_option maxRecDepth 100000 in
theorem lp_rworld {bs : List Nat} (hbl : bs.length ≤ 940) {Po : Option zV → zS → Prop} : ∀ (f k : Nat) (S : zS) (told : Bool) (W : zWd) (ts : List zTk), ts.length ≤ f → ts.length ≤ 901 → k + ts.length ≤ 902 → gI S 12 0 55 = nI k → Sd S → Rr S bs 900 ts → Wpk W ts → WHr S W → gI S 12 0 56 = nI (b01 told) → gI S 12 0 53 = nI 3 → gI S 12 0 54 = nI 1 → Hz S → (∀ x S1, linesP f k told W ts = Sum.inl x → Fr tWlp S S1 → Fq S1 x → Po (some (zi ((-1 : Int32) - nI x.2))) S1) → (∀ n W' S1, linesP f k told W ts = Sum.inr (n, W') → Fr tWlp S S1 → gI S1 12 0 13 = gI S 12 0 13 → WHr S1 W' → gI S1 12 0 55 = nI n → Hz S1 → Sd S1 → Ok mX12_world 92 [some (zr 12 0), none] [] S1 Po) → Ok mX12_world 49 [some (zr 12 0), none] [] S Po := by
  intro f
  induction f with
  | zero =>
    intro k S told W ts hf _ _ _ _ _ h _ _ _ _ _ _ _
    exact absurd (List.length_eq_zero_iff.mp (by omega)) h.2.1.1
  | succ f ih =>
    intro k S told W ts hf h9 hk9 h55 hs hr h hc h56 k53 k54 hz KF KS
    rw [linesP] at KF KS
    have hrk := rkt_le (k := (hdT ts).1)
    by_cases h0 : (hdT ts).1 = 0
    · rw [if_pos h0] at KF KS
      have h00 := rkt_0.mpr h0
      refine r_aload_n (q := 50) dX12_world_49 rfl rfl rfl ?_
      refine r_geti (q := 53) ck12 dX12_world_50 rfl (k := 9) (by decide) wt1287 (Or.inl rfl) (hs.e (by decide)) ?_
      refine r_topi (y := nI (rkt (hdT ts).1)) hr.1.1 ?_
      refine r_if_eqN (q := 56) (t := 92) (by omega) dX12_world_53 (by decide) rfl (fun h53 => ?_) (fun h53 => absurd h53 (by omega))
      exact KS k W S rfl Fr.rf rfl hc h55 hz hs
    · rw [if_neg h0] at KF KS
      have h00 : ¬ rkt (hdT ts).1 = 0 := fun z => h0 (rkt_0.mp z)
      cases q : lineP told W ts with
      | inl x =>
        rw [q] at KF KS
        refine r_aload_n (q := 50) dX12_world_49 rfl rfl rfl ?_
        refine r_geti (q := 53) ck12 dX12_world_50 rfl (k := 9) (by decide) wt1287 (Or.inl rfl) (hs.e (by decide)) ?_
        refine r_topi (y := nI (rkt (hdT ts).1)) hr.1.1 ?_
        refine r_if_eqN (q := 56) (t := 92) (by omega) dX12_world_53 (by decide) rfl (fun h53 => absurd h53 (by omega)) (fun h53 => ?_)
        refine r_aload_n (q := 57) dX12_world_56 rfl rfl rfl ?_
        refine r_callV (Mc := mX12_line) (q := 60) (As := []) (st := []) ck12 dX12_world_57 rfl rfl mkX12_line wt1587 wt1589 wp72 rfl (Nat.le_of_ble_eq_true rfl) (Nat.le_of_ble_eq_true rfl) (by decide) (by decide) (by decide) (Or.inl rfl) (hs.e (by decide)) (ok_line hs hbl (by omega) hr h hc h56 k53 k54 h9) (fun r57 S57 hp57 => ?_)
        rw [q] at hp57
        obtain ⟨rfl, w57, x57⟩ := hp57
        have g57 : Sd S57 := hs.fr w57
        show Ok _ _ _ [zi (nI 0)] _ _
        refine r_if_eqN (q := 63) (t := 72) (by omega) dX12_world_60 (by decide) rfl (fun h60 => ?_) (fun h60 => absurd h60 (by omega))
        refine r_iconst (q := 73) ((-1 : Int32)) dX12_world_72 rfl (by decide) ?_
        refine r_aload_n (q := 74) dX12_world_73 rfl rfl rfl ?_
        refine r_geti (q := 77) ck12 dX12_world_74 rfl (k := 14) (by decide) wt1292 (Or.inl rfl) (g57.e (by decide)) ?_
        refine r_topi (y := nI x.2) x57.2 ?_
        refine r_isub (q := 78) dX12_world_77 rfl ?_
        refine r_ireturn dX12_world_78 rfl ?_
        exact KF x _ rfl (w57.mono tWlp_n) x57
      | inr x =>
        obtain ⟨⟨b, W2⟩, ts2⟩ := x
        have ok2 := lineP_ok h q
        have al := adv_len ts2
        rw [q] at KF KS
        have KF : ∀ x S1, (if (hdT ts2).1 = 59 then linesP f (k + 1) b W2 (adv ts2) else Sum.inl (1, (hdT ts2).2.1)) = Sum.inl x → Fr tWlp S S1 → Fq S1 x → Po (some (zi ((-1 : Int32) - nI x.2))) S1 := KF
        have KS : ∀ n W' S1, (if (hdT ts2).1 = 59 then linesP f (k + 1) b W2 (adv ts2) else Sum.inl (1, (hdT ts2).2.1)) = Sum.inr (n, W') → Fr tWlp S S1 → gI S1 12 0 13 = gI S 12 0 13 → WHr S1 W' → gI S1 12 0 55 = nI n → Hz S1 → Sd S1 → Ok mX12_world 92 [some (zr 12 0), none] [] S1 Po := KS
        by_cases h59 : (hdT ts2).1 = 59
        · rw [if_pos h59] at KF KS
          refine r_aload_n (q := 50) dX12_world_49 rfl rfl rfl ?_
          refine r_geti (q := 53) ck12 dX12_world_50 rfl (k := 9) (by decide) wt1287 (Or.inl rfl) (hs.e (by decide)) ?_
          refine r_topi (y := nI (rkt (hdT ts).1)) hr.1.1 ?_
          refine r_if_eqN (q := 56) (t := 92) (by omega) dX12_world_53 (by decide) rfl (fun h53 => absurd h53 (by omega)) (fun h53 => ?_)
          refine r_aload_n (q := 57) dX12_world_56 rfl rfl rfl ?_
          refine r_callV (Mc := mX12_line) (q := 60) (As := []) (st := []) ck12 dX12_world_57 rfl rfl mkX12_line wt1587 wt1589 wp72 rfl (Nat.le_of_ble_eq_true rfl) (Nat.le_of_ble_eq_true rfl) (by decide) (by decide) (by decide) (Or.inl rfl) (hs.e (by decide)) (ok_line hs hbl (by omega) hr h hc h56 k53 k54 h9) (fun r57 S57 hp57 => ?_)
          rw [q] at hp57
          obtain ⟨rfl, w57, e57, r57, c57, b57, z57⟩ := hp57
          have g57 : Sd S57 := hs.fr w57
          show Ok _ _ _ [zi (nI 1)] _ _
          refine r_if_eqN (q := 63) (t := 72) (by omega) dX12_world_60 (by decide) rfl (fun h60 => absurd h60 (by omega)) (fun h60 => ?_)
          refine r_aload_n (q := 64) dX12_world_63 rfl rfl rfl ?_
          refine r_bipush (q := 66) (nI 59) dX12_world_64 rfl (by decide) ?_
          refine r_callV (Mc := mX12_sign) (q := 69) (As := [zi (nI 59)]) (st := []) ck12 dX12_world_66 rfl rfl mkX12_sign wt1633 wt1635 wp81 rfl (Nat.le_of_ble_eq_true rfl) (Nat.le_of_ble_eq_true rfl) (by decide) (by decide) (by decide) (Or.inl rfl) (g57.e (by decide)) (ok_sign_y g57 hbl (by omega) r57 ok2.1.2.1 (by omega) (by omega) h59) (fun r66 S66 hp66 => ?_)
          obtain ⟨rfl, w66, x66⟩ := hp66
          have g66 : Sd S66 := g57.fr w66
          show Ok _ _ _ [zi (nI 1)] _ _
          refine r_if_neN (q := 72) (t := 79) (by omega) dX12_world_69 (by decide) rfl (fun h69 => ?_) (fun h69 => absurd h69 (by omega))
          have e55 : gI S66 12 0 55 = nI k := (w66.1 _ _ _ rfl).trans ((w57.1 _ _ _ rfl).trans h55)
          refine r_aload_n (q := 80) dX12_world_79 rfl rfl rfl ?_
          refine r_dup (q := 81) dX12_world_80 rfl rfl ?_
          refine r_geti (q := 84) ck12 dX12_world_81 rfl (k := 55) (by decide) wt1333 (Or.inl rfl) (g66.e (by decide)) ?_
          refine r_topi (y := nI k) e55 ?_
          refine r_iconst (q := 85) (nI 1) dX12_world_84 rfl (by decide) ?_
          refine r_iaddN (q := 86) dX12_world_85 rfl ?_
          refine r_puti (q := 89) ck12 dX12_world_86 rfl (k := 55) (by decide) wt1333 (Or.inl rfl) rfl (g66.e (by decide)) ?_
          refine r_goto (q := 49) dX12_world_89 (by decide) ?_
          have gF : Fr tWlp S (sI S66 12 0 55 (nI (k + 1))) := ((w57.mono tWlp_n).tr (w66.mono (fun a b k z => tWlp_n a b k (tLn_x a b k z)))).i (by simp [tWlp])
          have gx : ∀ a b i, ¬ (a = 12 ∧ b = 0 ∧ i = 55) → gI (sI S66 12 0 55 (nI (k + 1))) a b i = gI S66 a b i := fun a b i a1 => by rw [gI_sI, if_neg a1]
          have z2 : ∀ i, i = 3 ∨ 444 ≤ i → gI (sI S66 12 0 55 (nI (k + 1))) 1307 0 i = gI S 1307 0 i := fun i hk => (gx _ _ _ (by omega)).trans ((w66.1 _ _ _ rfl).trans (z57 i hk))
          exact ih (k + 1) (sI S66 12 0 55 (nI (k + 1))) b W2 (adv ts2) (by omega) (by omega) (by omega) (by rw [gI_sI, if_pos ⟨rfl, rfl, rfl⟩]) g66 (x66.cong (fun k => gx 1301 0 k (by omega)) (fun k hk => gx 12 0 k (by omega)) rfl) ok2.1.adv ((c57.fr w66 (fun _ => ⟨rfl, rfl⟩)).ext (fun k => gx 1307 0 k (by omega)) (fun _ => rfl)) ((gx _ _ _ (by omega)).trans ((w66.1 _ _ _ rfl).trans b57)) ((gx _ _ _ (by omega)).trans ((w66.1 _ _ _ rfl).trans ((w57.1 _ _ _ rfl).trans k53))) ((gx _ _ _ (by omega)).trans ((w66.1 _ _ _ rfl).trans ((w57.1 _ _ _ rfl).trans k54))) ⟨(z2 3 (Or.inl rfl)).trans hz.1, fun k a c => (z2 k (Or.inr a)).trans (hz.2 k a c)⟩ (fun x S1 e f1 f2 => KF x S1 e (gF.tr f1) f2) (fun n W' S1 e f1 e1 c1 k1 z1 d1 => KS n W' S1 e (gF.tr f1) (e1.trans ((gx _ _ _ (by omega)).trans ((w66.1 _ _ _ rfl).trans e57))) c1 k1 z1 d1)
        · rw [if_neg h59] at KF KS
          refine r_aload_n (q := 50) dX12_world_49 rfl rfl rfl ?_
          refine r_geti (q := 53) ck12 dX12_world_50 rfl (k := 9) (by decide) wt1287 (Or.inl rfl) (hs.e (by decide)) ?_
          refine r_topi (y := nI (rkt (hdT ts).1)) hr.1.1 ?_
          refine r_if_eqN (q := 56) (t := 92) (by omega) dX12_world_53 (by decide) rfl (fun h53 => absurd h53 (by omega)) (fun h53 => ?_)
          refine r_aload_n (q := 57) dX12_world_56 rfl rfl rfl ?_
          refine r_callV (Mc := mX12_line) (q := 60) (As := []) (st := []) ck12 dX12_world_57 rfl rfl mkX12_line wt1587 wt1589 wp72 rfl (Nat.le_of_ble_eq_true rfl) (Nat.le_of_ble_eq_true rfl) (by decide) (by decide) (by decide) (Or.inl rfl) (hs.e (by decide)) (ok_line hs hbl (by omega) hr h hc h56 k53 k54 h9) (fun r57 S57 hp57 => ?_)
          rw [q] at hp57
          obtain ⟨rfl, w57, e57, r57, c57, b57, z57⟩ := hp57
          have g57 : Sd S57 := hs.fr w57
          show Ok _ _ _ [zi (nI 1)] _ _
          refine r_if_eqN (q := 63) (t := 72) (by omega) dX12_world_60 (by decide) rfl (fun h60 => absurd h60 (by omega)) (fun h60 => ?_)
          refine r_aload_n (q := 64) dX12_world_63 rfl rfl rfl ?_
          refine r_bipush (q := 66) (nI 59) dX12_world_64 rfl (by decide) ?_
          refine r_callV (Mc := mX12_sign) (q := 69) (As := [zi (nI 59)]) (st := []) ck12 dX12_world_66 rfl rfl mkX12_sign wt1633 wt1635 wp81 rfl (Nat.le_of_ble_eq_true rfl) (Nat.le_of_ble_eq_true rfl) (by decide) (by decide) (by decide) (Or.inl rfl) (g57.e (by decide)) (ok_sign_n g57 hbl (by omega) r57 ok2.1.2.1 (by omega) (by omega) h59) (fun r66 S66 hp66 => ?_)
          obtain ⟨rfl, w66, x66⟩ := hp66
          have g66 : Sd S66 := g57.fr w66
          show Ok _ _ _ [zi (nI 0)] _ _
          refine r_if_neN (q := 72) (t := 79) (by omega) dX12_world_69 (by decide) rfl (fun h69 => absurd h69 (by omega)) (fun h69 => ?_)
          refine r_iconst (q := 73) ((-1 : Int32)) dX12_world_72 rfl (by decide) ?_
          refine r_aload_n (q := 74) dX12_world_73 rfl rfl rfl ?_
          refine r_geti (q := 77) ck12 dX12_world_74 rfl (k := 14) (by decide) wt1292 (Or.inl rfl) (g66.e (by decide)) ?_
          refine r_topi (y := nI ((hdT ts2).2.1)) x66.2 ?_
          refine r_isub (q := 78) dX12_world_77 rfl ?_
          refine r_ireturn dX12_world_78 rfl ?_
          exact KF (1, (hdT ts2).2.1) _ rfl ((w57.mono tWlp_n).tr (w66.mono (fun a b k z => tWlp_n a b k (tLn_d a b k z)))) x66

set_option maxRecDepth 100000 in
theorem lp_wcp {Po : Option zV → zS → Prop}  : ∀ (d i : Nat) (S : zS), i + d = 1173 → Sd S → (∀ S2, S2 = cpR S 1307 0 1306 0 0 0 i 1173 → Ok mX12_world 119 [some (zr 12 0), some (zi (nI 1173))] [] S2 Po) → Ok mX12_world 94 [some (zr 12 0), some (zi (nI i))] [] S Po := by
  intro d
  induction d with
  | zero =>
    intro i S hi hs  K
    obtain rfl : i = 1173 := by omega
    refine r_iload_n (q := 95) dX12_world_94 rfl rfl rfl ?_
    refine r_sipush (q := 98) (nI 1173) dX12_world_95 rfl (by decide) ?_
    refine r_icmp_geN (q := 101) (t := 119) (by omega) (by omega) dX12_world_98 (by decide) rfl (fun h98 => ?_) (fun h98 => absurd h98 (by omega))
    exact K _ (cpR_all.symm)
  | succ d ih =>
    intro i S hi hs  K
    refine r_iload_n (q := 95) dX12_world_94 rfl rfl rfl ?_
    refine r_sipush (q := 98) (nI 1173) dX12_world_95 rfl (by decide) ?_
    refine r_icmp_geN (q := 101) (t := 119) (by omega) (by omega) dX12_world_98 (by decide) rfl (fun h98 => absurd h98 (by omega)) (fun h98 => ?_)
    refine r_aload_n (q := 102) dX12_world_101 rfl rfl rfl ?_
    refine r_getr (q := 105) (some (1306, 0)) ck12 dX12_world_102 rfl (k := 6) (by decide) wt1284 rfl (hs.e (by decide)) (hs.r (by decide) (by decide)) ?_
    refine r_iload_n (q := 106) dX12_world_105 rfl rfl rfl ?_
    refine r_aload_n (q := 107) dX12_world_106 rfl rfl rfl ?_
    refine r_getr (q := 110) (some (1307, 0)) ck12 dX12_world_107 rfl (k := 7) (by decide) wt1285 rfl (hs.e (by decide)) (hs.r (by decide) (by decide)) ?_
    refine r_iload_n (q := 111) dX12_world_110 rfl rfl rfl ?_
    refine r_ialdN (q := 112) 1173 (by decide) rfl dX12_world_111 rfl (hs.e (by decide)) (hs.n rfl (by decide)) (by omega) (by decide) ?_
    refine r_iastN (q := 113) 3775 (by decide) rfl dX12_world_112 rfl (hs.e (by decide)) (hs.n rfl (by decide)) (by omega) (by decide) ?_
    refine r_iincN (q := 116) (L' := [some (zr 12 0), some (zi (nI (i + 1)))]) 1 rfl dX12_world_113 rfl rfl (by decide) rfl ?_
    refine r_goto (q := 94) dX12_world_116 (by decide) ?_
    exact ih (i + 1) _ (by omega) hs  (fun S2 h => K S2 (h.trans (cpR_step_0 (by omega) (by decide))))

set_option maxRecDepth 100000 in
theorem lp_wnm {Po : Option zV → zS → Prop} {S : zS} (hs : Sd S) (K : Ok mX12_world 146 [some (zr 12 0), some (zi (nI 3))] [] (sJ (sJ (sJ (S) 1308 0 0 (gJ (S) 1308 0 3)) 1308 0 1 (gJ (S) 1308 0 4)) 1308 0 2 (gJ (S) 1308 0 5)) Po) : Ok mX12_world 119 [some (zr 12 0), none] [] S Po := by
  refine r_iconst (q := 120) (nI 0) dX12_world_119 rfl (by decide) ?_
  refine r_istore_n (q := 121) (L' := [some (zr 12 0), some (zi (nI 0))]) dX12_world_120 rfl rfl (by decide) rfl ?_
  refine r_iload_n (q := 122) dX12_world_121 rfl rfl rfl ?_
  refine r_iconst (q := 123) (nI 3) dX12_world_122 rfl (by decide) ?_
  refine r_icmp_geN (q := 126) (t := 146) (by omega) (by omega) dX12_world_123 (by decide) rfl (fun h123 => absurd h123 (by omega)) (fun h123 => ?_)
  refine r_aload_n (q := 127) dX12_world_126 rfl rfl rfl ?_
  refine r_getr (q := 130) (some (1308, 0)) ck12 dX12_world_127 rfl (k := 8) (by decide) wt1286 rfl (hs.e (by decide)) (hs.r (by decide) (by decide)) ?_
  refine r_iload_n (q := 131) dX12_world_130 rfl rfl rfl ?_
  refine r_aload_n (q := 132) dX12_world_131 rfl rfl rfl ?_
  refine r_getr (q := 135) (some (1308, 0)) ck12 dX12_world_132 rfl (k := 8) (by decide) wt1286 rfl (hs.e (by decide)) (hs.r (by decide) (by decide)) ?_
  refine r_iconst (q := 136) (nI 3) dX12_world_135 rfl (by decide) ?_
  refine r_iload_n (q := 137) dX12_world_136 rfl rfl rfl ?_
  refine r_iaddN (q := 138) dX12_world_137 rfl ?_
  refine r_laldN (q := 139) 6 (by decide) rfl dX12_world_138 rfl (hs.e (by decide)) (hs.n rfl (by decide)) (by omega) (by decide) ?_
  refine r_lastN (q := 140) 6 (by decide) rfl dX12_world_139 rfl (hs.e (by decide)) (hs.n rfl (by decide)) (by omega) (by decide) ?_
  refine r_iincN (q := 143) (L' := [some (zr 12 0), some (zi (nI 1))]) 1 rfl dX12_world_140 rfl rfl (by decide) rfl ?_
  refine r_goto (q := 121) dX12_world_143 (by decide) ?_
  refine r_iload_n (q := 122) dX12_world_121 rfl rfl rfl ?_
  refine r_iconst (q := 123) (nI 3) dX12_world_122 rfl (by decide) ?_
  refine r_icmp_geN (q := 126) (t := 146) (by omega) (by omega) dX12_world_123 (by decide) rfl (fun h123 => absurd h123 (by omega)) (fun h123 => ?_)
  refine r_aload_n (q := 127) dX12_world_126 rfl rfl rfl ?_
  refine r_getr (q := 130) (some (1308, 0)) ck12 dX12_world_127 rfl (k := 8) (by decide) wt1286 rfl (hs.e (by decide)) (hs.r (by decide) (by decide)) ?_
  refine r_iload_n (q := 131) dX12_world_130 rfl rfl rfl ?_
  refine r_aload_n (q := 132) dX12_world_131 rfl rfl rfl ?_
  refine r_getr (q := 135) (some (1308, 0)) ck12 dX12_world_132 rfl (k := 8) (by decide) wt1286 rfl (hs.e (by decide)) (hs.r (by decide) (by decide)) ?_
  refine r_iconst (q := 136) (nI 3) dX12_world_135 rfl (by decide) ?_
  refine r_iload_n (q := 137) dX12_world_136 rfl rfl rfl ?_
  refine r_iaddN (q := 138) dX12_world_137 rfl ?_
  refine r_laldN (q := 139) 6 (by decide) rfl dX12_world_138 rfl (hs.e (by decide)) (hs.n rfl (by decide)) (by omega) (by decide) ?_
  refine r_topl (y := gJ S 1308 0 4) (by simp [gI_sI, gJ_sJ, gI_sJ, gJ_sI]) ?_
  refine r_lastN (q := 140) 6 (by decide) rfl dX12_world_139 rfl (hs.e (by decide)) (hs.n rfl (by decide)) (by omega) (by decide) ?_
  refine r_iincN (q := 143) (L' := [some (zr 12 0), some (zi (nI 2))]) 1 rfl dX12_world_140 rfl rfl (by decide) rfl ?_
  refine r_goto (q := 121) dX12_world_143 (by decide) ?_
  refine r_iload_n (q := 122) dX12_world_121 rfl rfl rfl ?_
  refine r_iconst (q := 123) (nI 3) dX12_world_122 rfl (by decide) ?_
  refine r_icmp_geN (q := 126) (t := 146) (by omega) (by omega) dX12_world_123 (by decide) rfl (fun h123 => absurd h123 (by omega)) (fun h123 => ?_)
  refine r_aload_n (q := 127) dX12_world_126 rfl rfl rfl ?_
  refine r_getr (q := 130) (some (1308, 0)) ck12 dX12_world_127 rfl (k := 8) (by decide) wt1286 rfl (hs.e (by decide)) (hs.r (by decide) (by decide)) ?_
  refine r_iload_n (q := 131) dX12_world_130 rfl rfl rfl ?_
  refine r_aload_n (q := 132) dX12_world_131 rfl rfl rfl ?_
  refine r_getr (q := 135) (some (1308, 0)) ck12 dX12_world_132 rfl (k := 8) (by decide) wt1286 rfl (hs.e (by decide)) (hs.r (by decide) (by decide)) ?_
  refine r_iconst (q := 136) (nI 3) dX12_world_135 rfl (by decide) ?_
  refine r_iload_n (q := 137) dX12_world_136 rfl rfl rfl ?_
  refine r_iaddN (q := 138) dX12_world_137 rfl ?_
  refine r_laldN (q := 139) 6 (by decide) rfl dX12_world_138 rfl (hs.e (by decide)) (hs.n rfl (by decide)) (by omega) (by decide) ?_
  refine r_topl (y := gJ S 1308 0 5) (by simp [gI_sI, gJ_sJ, gI_sJ, gJ_sI]) ?_
  refine r_lastN (q := 140) 6 (by decide) rfl dX12_world_139 rfl (hs.e (by decide)) (hs.n rfl (by decide)) (by omega) (by decide) ?_
  refine r_iincN (q := 143) (L' := [some (zr 12 0), some (zi (nI 3))]) 1 rfl dX12_world_140 rfl rfl (by decide) rfl ?_
  refine r_goto (q := 121) dX12_world_143 (by decide) ?_
  refine r_iload_n (q := 122) dX12_world_121 rfl rfl rfl ?_
  refine r_iconst (q := 123) (nI 3) dX12_world_122 rfl (by decide) ?_
  refine r_icmp_geN (q := 126) (t := 146) (by omega) (by omega) dX12_world_123 (by decide) rfl (fun h123 => ?_) (fun h123 => absurd h123 (by omega))
  exact K

set_option maxRecDepth 100000 in
theorem rm_world {S : zS} (hs : Sd S) {bs : List Nat} (hbl : bs.length ≤ 940) (h2 : gI S 12 0 2 = nI bs.length) (hb : Bs S 1301 bs) : Ok mX12_world 0 (ent 2 [zr 12 0]) [] S (fun r S1 => WoR S S1 r (linesP (lexA bs 900 0).length 0 false w0 (lexA bs 900 0))) := by
  show Ok mX12_world 0 [some (zr 12 0), none] [] S _
  refine r_aload_n (q := 1) dX12_world_0 rfl rfl rfl ?_
  refine r_iconst (q := 2) (nI 0) dX12_world_1 rfl (by decide) ?_
  refine r_puti (q := 5) ck12 dX12_world_2 rfl (k := 0) (by decide) wt1278 (Or.inl rfl) rfl (hs.e (by decide)) ?_
  refine r_aload_n (q := 6) dX12_world_5 rfl rfl rfl ?_
  refine r_sipush (q := 9) (nI 900) dX12_world_6 rfl (by decide) ?_
  refine r_callV (Mc := mX12_taken) (q := 12) (As := [zi (nI 900)]) (st := []) ck12 dX12_world_9 rfl rfl mkX12_taken wt1565 wt1567 wp68 rfl (Nat.le_of_ble_eq_true rfl) (Nat.le_of_ble_eq_true rfl) (by decide) (by decide) (by decide) (Or.inl rfl) (hs.e (by decide)) (ok_X12_taken (S := sI S 12 0 0 (nI 0)) hs (nI 900)) (fun r9 S9 hp9 => ?_)
  obtain ⟨rfl, hq9⟩ := hp9
  rw [show gI (sI S 12 0 0 (nI 0)) 12 0 2 = nI bs.length by rw [gI_sI, if_neg (by omega)]; exact h2] at hq9
  rw [hq9]
  show Ok _ _ _ [] _ _
  refine r_aload_n (q := 13) dX12_world_12 rfl rfl rfl ?_
  refine r_iconst (q := 14) (nI 0) dX12_world_13 rfl (by decide) ?_
  refine r_puti (q := 17) ck12 dX12_world_14 rfl (k := 13) (by decide) wt1291 (Or.inl rfl) rfl (hs.e (by decide)) ?_
  refine r_aload_n (q := 18) dX12_world_17 rfl rfl rfl ?_
  refine r_iconst (q := 19) (nI 0) dX12_world_18 rfl (by decide) ?_
  refine r_puti (q := 22) ck12 dX12_world_19 rfl (k := 55) (by decide) wt1333 (Or.inl rfl) rfl (hs.e (by decide)) ?_
  refine r_aload_n (q := 23) dX12_world_22 rfl rfl rfl ?_
  refine r_iconst (q := 24) (nI 0) dX12_world_23 rfl (by decide) ?_
  refine r_putz (q := 27) (by decide) ck12 dX12_world_24 rfl (k := 56) (by decide) wt1334 (Or.inl rfl) rfl (hs.e (by decide)) ?_
  refine r_aload_n (q := 28) dX12_world_27 rfl rfl rfl ?_
  refine r_callV (Mc := mX12_plainWorld) (q := 31) (As := []) (st := []) ck12 dX12_world_28 rfl rfl mkX12_plainWorld wt1270 wt1272 wp66 rfl (Nat.le_of_ble_eq_true rfl) (Nat.le_of_ble_eq_true rfl) (by decide) (by decide) (by decide) (Or.inl rfl) (hs.e (by decide)) (ok_X12_plainWorld (S := sI (sI (sI (sI (sI (sI (sI (sI S 12 0 0 (nI 0)) 12 0 3 (nI bs.length)) 12 0 2 (nI 0)) 12 0 4 (nI 0)) 12 0 5 (nI 900)) 12 0 13 (nI 0)) 12 0 55 (nI 0)) 12 0 56 (nI 0)) hs) (fun r28 S28 hp28 => ?_)
  obtain ⟨rfl, hq28⟩ := hp28
  rw [hq28]
  show Ok _ _ _ [] _ _
  refine r_aload_n (q := 32) dX12_world_31 rfl rfl rfl ?_
  refine r_iconst (q := 33) (nI 3) dX12_world_32 rfl (by decide) ?_
  refine r_puti (q := 36) ck12 dX12_world_33 rfl (k := 53) (by decide) wt1331 (Or.inl rfl) rfl (hs.e (by decide)) ?_
  refine r_aload_n (q := 37) dX12_world_36 rfl rfl rfl ?_
  refine r_iconst (q := 38) (nI 1) dX12_world_37 rfl (by decide) ?_
  refine r_puti (q := 41) ck12 dX12_world_38 rfl (k := 54) (by decide) wt1332 (Or.inl rfl) rfl (hs.e (by decide)) ?_
  refine r_aload_n (q := 42) dX12_world_41 rfl rfl rfl ?_
  refine r_callV (Mc := mX12_otherWorld) (q := 45) (As := []) (st := []) ck12 dX12_world_42 rfl rfl mkX12_otherWorld wt1569 wt1571 wp69 rfl (Nat.le_of_ble_eq_true rfl) (Nat.le_of_ble_eq_true rfl) (by decide) (by decide) (by decide) (Or.inl rfl) (hs.e (by decide)) (ok_otherWorld (S := sI (sI (sI (sI (flS (sI (sI (sI (sI (sI (sI (sI (sI S 12 0 0 (nI 0)) 12 0 3 (nI bs.length)) 12 0 2 (nI 0)) 12 0 4 (nI 0)) 12 0 5 (nI 900)) 12 0 13 (nI 0)) 12 0 55 (nI 0)) 12 0 56 (nI 0)) 1307 0 0 1173 (nI 0)) 1307 0 0 (nI 97)) 1307 0 3 (nI 1)) 12 0 53 (nI 3)) 12 0 54 (nI 1)) hs) (fun r42 S42 hp42 => ?_)
  obtain ⟨rfl, hq42⟩ := hp42
  rw [hq42]
  show Ok _ _ _ [] _ _
  have gx : ∀ a b k, ¬ (a = 12 ∧ b = 0 ∧ (k = 0 ∨ k = 2 ∨ k = 3 ∨ k = 4 ∨ k = 5 ∨ k = 13 ∨ k = 53 ∨ k = 54 ∨ k = 55 ∨ k = 56)) → ¬ (a = 1307 ∧ b = 0) → ¬ (a = 1323 ∧ b = 0 ∧ k = 1) → gI (sI (sI (sI (sI (sI (flS (sI (sI (sI (sI (sI (sI (sI (sI S 12 0 0 (nI 0)) 12 0 3 (nI bs.length)) 12 0 2 (nI 0)) 12 0 4 (nI 0)) 12 0 5 (nI 900)) 12 0 13 (nI 0)) 12 0 55 (nI 0)) 12 0 56 (nI 0)) 1307 0 0 1173 (nI 0)) 1307 0 0 (nI 97)) 1307 0 3 (nI 1)) 12 0 53 (nI 3)) 12 0 54 (nI 1)) 1323 0 1 (nI 0)) a b k = gI S a b k := fun a b k a1 a2 a3 => by simp only [gI_sI, gI_flS]; repeat rw [if_neg (by omega)]
  have y2 : gI (sI (sI (sI (sI (sI (flS (sI (sI (sI (sI (sI (sI (sI (sI S 12 0 0 (nI 0)) 12 0 3 (nI bs.length)) 12 0 2 (nI 0)) 12 0 4 (nI 0)) 12 0 5 (nI 900)) 12 0 13 (nI 0)) 12 0 55 (nI 0)) 12 0 56 (nI 0)) 1307 0 0 1173 (nI 0)) 1307 0 0 (nI 97)) 1307 0 3 (nI 1)) 12 0 53 (nI 3)) 12 0 54 (nI 1)) 1323 0 1 (nI 0)) 12 0 2 = nI 0 := by simp [gI_sI, gI_flS]
  have y3 : gI (sI (sI (sI (sI (sI (flS (sI (sI (sI (sI (sI (sI (sI (sI S 12 0 0 (nI 0)) 12 0 3 (nI bs.length)) 12 0 2 (nI 0)) 12 0 4 (nI 0)) 12 0 5 (nI 900)) 12 0 13 (nI 0)) 12 0 55 (nI 0)) 12 0 56 (nI 0)) 1307 0 0 1173 (nI 0)) 1307 0 0 (nI 97)) 1307 0 3 (nI 1)) 12 0 53 (nI 3)) 12 0 54 (nI 1)) 1323 0 1 (nI 0)) 12 0 3 = nI bs.length := by simp [gI_sI, gI_flS]
  have y4 : gI (sI (sI (sI (sI (sI (flS (sI (sI (sI (sI (sI (sI (sI (sI S 12 0 0 (nI 0)) 12 0 3 (nI bs.length)) 12 0 2 (nI 0)) 12 0 4 (nI 0)) 12 0 5 (nI 900)) 12 0 13 (nI 0)) 12 0 55 (nI 0)) 12 0 56 (nI 0)) 1307 0 0 1173 (nI 0)) 1307 0 0 (nI 97)) 1307 0 3 (nI 1)) 12 0 53 (nI 3)) 12 0 54 (nI 1)) 1323 0 1 (nI 0)) 12 0 4 = nI 0 := by simp [gI_sI, gI_flS]
  have y5 : gI (sI (sI (sI (sI (sI (flS (sI (sI (sI (sI (sI (sI (sI (sI S 12 0 0 (nI 0)) 12 0 3 (nI bs.length)) 12 0 2 (nI 0)) 12 0 4 (nI 0)) 12 0 5 (nI 900)) 12 0 13 (nI 0)) 12 0 55 (nI 0)) 12 0 56 (nI 0)) 1307 0 0 1173 (nI 0)) 1307 0 0 (nI 97)) 1307 0 3 (nI 1)) 12 0 53 (nI 3)) 12 0 54 (nI 1)) 1323 0 1 (nI 0)) 12 0 5 = nI 900 := by simp [gI_sI, gI_flS]
  have y13 : gI (sI (sI (sI (sI (sI (flS (sI (sI (sI (sI (sI (sI (sI (sI S 12 0 0 (nI 0)) 12 0 3 (nI bs.length)) 12 0 2 (nI 0)) 12 0 4 (nI 0)) 12 0 5 (nI 900)) 12 0 13 (nI 0)) 12 0 55 (nI 0)) 12 0 56 (nI 0)) 1307 0 0 1173 (nI 0)) 1307 0 0 (nI 97)) 1307 0 3 (nI 1)) 12 0 53 (nI 3)) 12 0 54 (nI 1)) 1323 0 1 (nI 0)) 12 0 13 = nI 0 := by simp [gI_sI, gI_flS]
  have y53 : gI (sI (sI (sI (sI (sI (flS (sI (sI (sI (sI (sI (sI (sI (sI S 12 0 0 (nI 0)) 12 0 3 (nI bs.length)) 12 0 2 (nI 0)) 12 0 4 (nI 0)) 12 0 5 (nI 900)) 12 0 13 (nI 0)) 12 0 55 (nI 0)) 12 0 56 (nI 0)) 1307 0 0 1173 (nI 0)) 1307 0 0 (nI 97)) 1307 0 3 (nI 1)) 12 0 53 (nI 3)) 12 0 54 (nI 1)) 1323 0 1 (nI 0)) 12 0 53 = nI 3 := by simp [gI_sI, gI_flS]
  have y54 : gI (sI (sI (sI (sI (sI (flS (sI (sI (sI (sI (sI (sI (sI (sI S 12 0 0 (nI 0)) 12 0 3 (nI bs.length)) 12 0 2 (nI 0)) 12 0 4 (nI 0)) 12 0 5 (nI 900)) 12 0 13 (nI 0)) 12 0 55 (nI 0)) 12 0 56 (nI 0)) 1307 0 0 1173 (nI 0)) 1307 0 0 (nI 97)) 1307 0 3 (nI 1)) 12 0 53 (nI 3)) 12 0 54 (nI 1)) 1323 0 1 (nI 0)) 12 0 54 = nI 1 := by simp [gI_sI, gI_flS]
  have y55 : gI (sI (sI (sI (sI (sI (flS (sI (sI (sI (sI (sI (sI (sI (sI S 12 0 0 (nI 0)) 12 0 3 (nI bs.length)) 12 0 2 (nI 0)) 12 0 4 (nI 0)) 12 0 5 (nI 900)) 12 0 13 (nI 0)) 12 0 55 (nI 0)) 12 0 56 (nI 0)) 1307 0 0 1173 (nI 0)) 1307 0 0 (nI 97)) 1307 0 3 (nI 1)) 12 0 53 (nI 3)) 12 0 54 (nI 1)) 1323 0 1 (nI 0)) 12 0 55 = nI 0 := by simp [gI_sI, gI_flS]
  have y56 : gI (sI (sI (sI (sI (sI (flS (sI (sI (sI (sI (sI (sI (sI (sI S 12 0 0 (nI 0)) 12 0 3 (nI bs.length)) 12 0 2 (nI 0)) 12 0 4 (nI 0)) 12 0 5 (nI 900)) 12 0 13 (nI 0)) 12 0 55 (nI 0)) 12 0 56 (nI 0)) 1307 0 0 1173 (nI 0)) 1307 0 0 (nI 97)) 1307 0 3 (nI 1)) 12 0 53 (nI 3)) 12 0 54 (nI 1)) 1323 0 1 (nI 0)) 12 0 56 = nI 0 := by simp [gI_sI, gI_flS]
  have h7 : ∀ k, gI (sI (sI (sI (sI (sI (flS (sI (sI (sI (sI (sI (sI (sI (sI S 12 0 0 (nI 0)) 12 0 3 (nI bs.length)) 12 0 2 (nI 0)) 12 0 4 (nI 0)) 12 0 5 (nI 900)) 12 0 13 (nI 0)) 12 0 55 (nI 0)) 12 0 56 (nI 0)) 1307 0 0 1173 (nI 0)) 1307 0 0 (nI 97)) 1307 0 3 (nI 1)) 12 0 53 (nI 3)) 12 0 54 (nI 1)) 1323 0 1 (nI 0)) 1307 0 k = if k = 3 then nI 1 else if k = 0 then nI 97 else if k < 1173 then nI 0 else gI S 1307 0 k := fun k => by
    simp only [gI_sI, gI_flS]
    by_cases e3 : k = 3
    · subst e3; simp
    · by_cases e0 : k = 0
      · subst e0; simp
      · by_cases e1 : k < 1173
        · simp [e3, e0, e1]
        · simp [e3, e0, e1]
  refine r_aload_n (q := 46) dX12_world_45 rfl rfl rfl ?_
  refine r_callV (Mc := mX12_next) (q := 49) (As := []) (st := []) ck12 dX12_world_46 rfl rfl mkX12_next wt1573 wt1575 wp70 rfl (Nat.le_of_ble_eq_true rfl) (Nat.le_of_ble_eq_true rfl) (by decide) (by decide) (by decide) (Or.inl rfl) (hs.e (by decide)) (ok_X12_next (S := sI (sI (sI (sI (sI (flS (sI (sI (sI (sI (sI (sI (sI (sI S 12 0 0 (nI 0)) 12 0 3 (nI bs.length)) 12 0 2 (nI 0)) 12 0 4 (nI 0)) 12 0 5 (nI 900)) 12 0 13 (nI 0)) 12 0 55 (nI 0)) 12 0 56 (nI 0)) 1307 0 0 1173 (nI 0)) 1307 0 0 (nI 97)) 1307 0 3 (nI 1)) 12 0 53 (nI 3)) 12 0 54 (nI 1)) 1323 0 1 (nI 0)) hs hbl ⟨⟨fun k hk => (gx _ _ _ (by omega) (by omega) (by omega)).trans (hb.1 k hk), hb.2⟩, y3, y5, y4⟩ (by omega) (Nat.zero_le _)) (fun r46 S46 hp46 => ?_)
  obtain ⟨rfl, w46, m46, q46⟩ := hp46
  have g46 : Sd S46 := Sd.fr (S := sI (sI (sI (sI (sI (flS (sI (sI (sI (sI (sI (sI (sI (sI S 12 0 0 (nI 0)) 12 0 3 (nI bs.length)) 12 0 2 (nI 0)) 12 0 4 (nI 0)) 12 0 5 (nI 900)) 12 0 13 (nI 0)) 12 0 55 (nI 0)) 12 0 56 (nI 0)) 1307 0 0 1173 (nI 0)) 1307 0 0 (nI 97)) 1307 0 3 (nI 1)) 12 0 53 (nI 3)) 12 0 54 (nI 1)) 1323 0 1 (nI 0)) hs w46
  show Ok _ _ _ [] _ _
  have f0 : Fr tWld S (sI (sI (sI (sI (sI (flS (sI (sI (sI (sI (sI (sI (sI (sI S 12 0 0 (nI 0)) 12 0 3 (nI bs.length)) 12 0 2 (nI 0)) 12 0 4 (nI 0)) 12 0 5 (nI 900)) 12 0 13 (nI 0)) 12 0 55 (nI 0)) 12 0 56 (nI 0)) 1307 0 0 1173 (nI 0)) 1307 0 0 (nI 97)) 1307 0 3 (nI 1)) 12 0 53 (nI 3)) 12 0 54 (nI 1)) 1323 0 1 (nI 0)) := ⟨fun a b k z => gx a b k (fun y => by obtain ⟨rfl, rfl, y⟩ := y; rcases y with rfl | rfl | rfl | rfl | rfl | rfl | rfl | rfl | rfl | rfl <;> simp [tWld, tLn] at z) (fun y => by rw [y.1, y.2] at z; simp [tWld, tLn] at z) (fun y => by rw [y.1, y.2.1, y.2.2] at z; simp [tWld] at z), fun _ _ _ _ => rfl, rfl⟩
  have f46 : Fr tWld S S46 := f0.tr (w46.mono (fun a b k z => tWld_n a b k (tLn_x a b k z)))
  have v7 : ∀ k, gI S46 1307 0 k = if k = 3 then nI 1 else if k = 0 then nI 97 else if k < 1173 then nI 0 else gI S 1307 0 k := fun k => (w46.1 _ _ _ rfl).trans (h7 k)
  have c0 : WHr S46 w0 := ⟨(v7 0).trans rfl, (v7 1).trans rfl, (v7 2).trans rfl, fun a ha => absurd ha (by simp [w0, wA]), fun L hL => absurd hL (by simp [w0, wL]), fun L hL => by
    have : L = 0 := by have : L ≤ 0 := hL; omega
    subst this
    exact (v7 25).trans rfl, fun L k hL => absurd hL (by simp [w0, wL])⟩
  have l9 : (lexA bs 900 0).length ≤ 901 := lex_len (by omega)
  have hk := lex_tks (lim := 900) hb.2 hbl
  refine lp_rworld hbl (lexA bs 900 0).length 0 S46 false w0 (lexA bs 900 0) (Nat.le_refl _) l9 (by omega) ((w46.1 _ _ _ rfl).trans y55) g46 ⟨m46, q46⟩ ⟨wok0, hk, lex_lk _ _, by show 5 * 0 + _ ≤ 941; omega⟩ c0 ((w46.1 _ _ _ rfl).trans y56) ((w46.1 _ _ _ rfl).trans y53) ((w46.1 _ _ _ rfl).trans y54) ⟨(v7 3).trans rfl, fun k a b => (v7 k).trans (by rw [if_neg (by omega), if_neg (by omega), if_pos b])⟩ (fun x S1 e f1 f2 => ?_) (fun n W S1 e f1 e13 c1 e55 z1 g1 => ?_)
  · rw [e]
    exact ⟨rfl, f46.tr (f1.mono tWlp_d), f2, (f1.1 _ _ _ rfl).trans ((w46.1 _ _ _ rfl).trans y2)⟩
  · rw [e]
    refine r_iconst (q := 93) (nI 0) dX12_world_92 rfl (by decide) ?_
    refine r_istore_n (q := 94) (L' := [some (zr 12 0), some (zi (nI 0))]) dX12_world_93 rfl rfl (by decide) rfl ?_
    refine lp_wcp 1173 0 S1 (by omega) g1 (fun S2 eS2 => ?_)
    subst eS2
    refine r_mask [true, false] rfl ?_
    refine lp_wnm (S := cpR S1 1307 0 1306 0 0 0 0 1173) g1 ?_
    refine r_aload_n (q := 147) dX12_world_146 rfl rfl rfl ?_
    refine r_iconst (q := 148) ((-1 : Int32)) dX12_world_147 rfl (by decide) ?_
    refine r_puti (q := 151) ck12 dX12_world_148 rfl (k := 33) (by decide) wt1311 (Or.inl rfl) rfl (g1.e (by decide)) ?_
    refine r_aload_n (q := 152) dX12_world_151 rfl rfl rfl ?_
    refine r_callV (Mc := mX12_plainSum) (q := 155) (As := []) (st := []) ck12 dX12_world_152 rfl rfl mkX12_plainSum wt1274 wt1276 wp67 rfl (Nat.le_of_ble_eq_true rfl) (Nat.le_of_ble_eq_true rfl) (by decide) (by decide) (by decide) (Or.inl rfl) (g1.e (by decide)) (ok_X12_plainSum (S := sI (sJ (sJ (sJ (cpR S1 1307 0 1306 0 0 0 0 1173) 1308 0 0 (gJ (cpR S1 1307 0 1306 0 0 0 0 1173) 1308 0 3)) 1308 0 1 (gJ (cpR S1 1307 0 1306 0 0 0 0 1173) 1308 0 4)) 1308 0 2 (gJ (cpR S1 1307 0 1306 0 0 0 0 1173) 1308 0 5)) 12 0 33 (-1 : Int32)) g1) (fun r152 S152 hp152 => ?_)
    obtain ⟨rfl, hq152⟩ := hp152
    rw [hq152]
    show Ok _ _ _ [] _ _
    refine r_aload_n (q := 156) dX12_world_155 rfl rfl rfl ?_
    refine r_geti (q := 159) ck12 dX12_world_156 rfl (k := 55) (by decide) wt1333 (Or.inl rfl) (g1.e (by decide)) ?_
    refine r_ireturn dX12_world_159 rfl ?_
    have gs : ∀ k, k < 1173 → gI (sI (sI (sI (sI (sJ (sJ (sJ (cpR S1 1307 0 1306 0 0 0 0 1173) 1308 0 0 (gJ (cpR S1 1307 0 1306 0 0 0 0 1173) 1308 0 3)) 1308 0 1 (gJ (cpR S1 1307 0 1306 0 0 0 0 1173) 1308 0 4)) 1308 0 2 (gJ (cpR S1 1307 0 1306 0 0 0 0 1173) 1308 0 5)) 12 0 33 (-1 : Int32)) 1306 0 1173 (nI 1)) 1306 0 1174 (nI 0)) 12 0 58 (nI 0)) 1306 0 k = gI S1 1307 0 k := fun k hk => by rw [gI_sI, if_neg (by omega), gI_sI, if_neg (by omega), gI_sI, if_neg (by omega), gI_sI, if_neg (by omega), gI_sJ, gI_sJ, gI_sJ, cpR_get, if_pos ⟨rfl, rfl, by omega, by omega⟩, Nat.zero_add, Nat.sub_zero]
    have go : ∀ a b k, ¬ (a = 1306 ∧ b = 0 ∧ k < 1175) → ¬ (a = 12 ∧ b = 0 ∧ (k = 33 ∨ k = 58)) → gI (sI (sI (sI (sI (sJ (sJ (sJ (cpR S1 1307 0 1306 0 0 0 0 1173) 1308 0 0 (gJ (cpR S1 1307 0 1306 0 0 0 0 1173) 1308 0 3)) 1308 0 1 (gJ (cpR S1 1307 0 1306 0 0 0 0 1173) 1308 0 4)) 1308 0 2 (gJ (cpR S1 1307 0 1306 0 0 0 0 1173) 1308 0 5)) 12 0 33 (-1 : Int32)) 1306 0 1173 (nI 1)) 1306 0 1174 (nI 0)) 12 0 58 (nI 0)) a b k = gI S1 a b k := fun a b k a1 a2 => by rw [gI_sI, if_neg (by omega), gI_sI, if_neg (by omega), gI_sI, if_neg (by omega), gI_sI, if_neg (by omega), gI_sJ, gI_sJ, gI_sJ, cpR_get, if_neg (by omega)]
    have gn : ∀ i, i < 3 → gJ (sI (sI (sI (sI (sJ (sJ (sJ (cpR S1 1307 0 1306 0 0 0 0 1173) 1308 0 0 (gJ (cpR S1 1307 0 1306 0 0 0 0 1173) 1308 0 3)) 1308 0 1 (gJ (cpR S1 1307 0 1306 0 0 0 0 1173) 1308 0 4)) 1308 0 2 (gJ (cpR S1 1307 0 1306 0 0 0 0 1173) 1308 0 5)) 12 0 33 (-1 : Int32)) 1306 0 1173 (nI 1)) 1306 0 1174 (nI 0)) 12 0 58 (nI 0)) 1308 0 i = gJ S1 1308 0 (3 + i) := fun i hi => by
      rw [gJ_sI, gJ_sI, gJ_sI, gJ_sI]
      have : i = 0 ∨ i = 1 ∨ i = 2 := by omega
      rcases this with rfl | rfl | rfl <;> simp [gJ_sJ] <;> rfl
    have okW := (linesP_ok _ _ _ _ _ _ _ ⟨wok0, hk, lex_lk _ _, by show 5 * 0 + _ ≤ 941; omega⟩ e).1
    have fT : Fr tWlt S1 (sI (sI (sI (sI (sJ (sJ (sJ (cpR S1 1307 0 1306 0 0 0 0 1173) 1308 0 0 (gJ (cpR S1 1307 0 1306 0 0 0 0 1173) 1308 0 3)) 1308 0 1 (gJ (cpR S1 1307 0 1306 0 0 0 0 1173) 1308 0 4)) 1308 0 2 (gJ (cpR S1 1307 0 1306 0 0 0 0 1173) 1308 0 5)) 12 0 33 (-1 : Int32)) 1306 0 1173 (nI 1)) 1306 0 1174 (nI 0)) 12 0 58 (nI 0)) := ⟨fun a b k z => go a b k (fun y => by rw [y.1, y.2.1] at z; simp [tWlt] at z; omega) (fun y => by obtain ⟨rfl, rfl, y⟩ := y; rcases y with rfl | rfl <;> simp [tWlt] at z), fun a b k z => by rw [gJ_sI, gJ_sI, gJ_sI, gJ_sI]; simp only [gJ_sJ]; rw [if_neg (fun y => by rw [y.1, y.2.1] at z; simp [tWlt] at z), if_neg (fun y => by rw [y.1, y.2.1] at z; simp [tWlt] at z), if_neg (fun y => by rw [y.1, y.2.1] at z; simp [tWlt] at z)]; rfl, rfl⟩
    exact ⟨congrArg (fun z => some (zi z)) ((go _ _ _ (by omega) (by omega)).trans e55), ((f46.tr (f1.mono tWlp_d)).mono tWlt_r).tr fT, (go _ _ _ (by omega) (by omega)).trans (e13.trans ((w46.1 _ _ _ rfl).trans y13)), (go _ _ _ (by omega) (by omega)).trans ((f1.1 _ _ _ rfl).trans ((w46.1 _ _ _ rfl).trans y2)), wqR.cong okW (fun k a _ => (gs k (by omega)).symm) (fun i hi => (gn i hi).symm) c1, ⟨(gs 3 (by omega)).trans z1.1, fun k a b => (gs k b).trans (z1.2 k a b)⟩, by simp [gI_sI], by simp [gI_sI], by simp [gI_sI], by simp [gI_sI]⟩

