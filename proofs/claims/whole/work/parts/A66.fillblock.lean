/-! holds: the class fills its block for a tree -/
def t200 (a b _k : Nat) : Bool := a == 200 && b == 0

set_option maxRecDepth 100000 in
theorem lp_fb20 {c n w L : Nat} {ky0 : Int32} (h1 : 1 ≤ w) (h3 : w ≤ 3) (hL : w * w ≤ L) (hL9 : L ≤ 6561) {Po : Option zV → zS → Prop} {i : Nat} (hi : i < w) : ∀ (d o : Nat) (S : zS), o + d = w → Sd S → gN S 200 0 = L → (∀ x, x < i * w + o → gI S 200 0 x = nI (idB w x)) → (∀ S1, Fr t200 S S1 → (∀ x, x < i * w + w → gI S1 200 0 x = nI (idB w x)) → Ok mX1_fillBlock1 74 [some (zr 1 0), some (zr 9 c), some (zi ky0), some (zi (nI n)), some (zr 7 0), some (zi (nI w)), some (zi (nI i)), some (zi (nI w)), none, none, none, none] [] S1 Po) → Ok mX1_fillBlock1 20 [some (zr 1 0), some (zr 9 c), some (zi ky0), some (zi (nI n)), some (zr 7 0), some (zi (nI w)), some (zi (nI i)), some (zi (nI o)), none, none, none, none] [] S Po := by
  intro d
  induction d with
  | zero =>
    intro o S ho hs hn hD K
    obtain rfl : w = o := by omega
    refine r_iload (q := 22) dX1_fillBlock_20 rfl rfl ?_
    refine r_iload (q := 24) dX1_fillBlock_22 rfl rfl ?_
    refine r_icmp_geN (q := 27) (t := 74) (by omega) (by omega) dX1_fillBlock_24 (by decide) rfl (fun h24 => ?_) (fun h24 => absurd h24 (by omega))
    exact K S Fr.rf hD
  | succ d ih =>
    intro o S ho hs hn hD K
    have g1 : i * w + o < w * w := ix_lt hi (show o < w by omega)
    have e0 : idB w (i * w + o) = if i = o then 1 else 0 := idB_at (show o < w by omega)
    refine r_iload (q := 22) dX1_fillBlock_20 rfl rfl ?_
    refine r_iload (q := 24) dX1_fillBlock_22 rfl rfl ?_
    refine r_icmp_geN (q := 27) (t := 74) (by omega) (by omega) dX1_fillBlock_24 (by decide) rfl (fun h24 => absurd h24 (by omega)) (fun h24 => ?_)
    refine r_iload (q := 29) dX1_fillBlock_27 rfl rfl ?_
    refine r_iload (q := 31) dX1_fillBlock_29 rfl rfl ?_
    refine r_imulN (q := 32) dX1_fillBlock_31 rfl ?_
    refine r_iload (q := 34) dX1_fillBlock_32 rfl rfl ?_
    refine r_iaddN (q := 35) dX1_fillBlock_34 rfl ?_
    refine r_topi (y := nI (i * w + o)) rfl ?_
    refine r_aload_n (q := 36) dX1_fillBlock_35 rfl rfl rfl ?_
    refine r_getr (q := 39) (some (200, 0)) ck1 dX1_fillBlock_36 rfl (k := 0) (by decide) wt228 rfl (hs.e (by decide)) (hs.r (by decide) (by decide)) ?_
    refine r_alen (q := 40) (by decide) (by decide) dX1_fillBlock_39 rfl (hs.e (by decide)) ?_
    refine r_topi (y := nI L) (congrArg nI hn) ?_
    refine r_icmp_geN (q := 43) (t := 74) (by omega) (by omega) dX1_fillBlock_40 (by decide) rfl (fun h40 => absurd h40 (by omega)) (fun h40 => ?_)
    refine r_aload_n (q := 44) dX1_fillBlock_43 rfl rfl rfl ?_
    refine r_getr (q := 47) (some (200, 0)) ck1 dX1_fillBlock_44 rfl (k := 0) (by decide) wt228 rfl (hs.e (by decide)) (hs.r (by decide) (by decide)) ?_
    refine r_iload (q := 49) dX1_fillBlock_47 rfl rfl ?_
    refine r_iload (q := 51) dX1_fillBlock_49 rfl rfl ?_
    refine r_imulN (q := 52) dX1_fillBlock_51 rfl ?_
    refine r_iload (q := 54) dX1_fillBlock_52 rfl rfl ?_
    refine r_iaddN (q := 55) dX1_fillBlock_54 rfl ?_
    refine r_topi (y := nI (i * w + o)) rfl ?_
    refine r_iload (q := 57) dX1_fillBlock_55 rfl rfl ?_
    refine r_iload (q := 59) dX1_fillBlock_57 rfl rfl ?_
    refine r_icmp_neN (q := 62) (t := 66) (by omega) (by omega) dX1_fillBlock_59 (by decide) rfl (fun h59 => ?_) (fun h59 => ?_)
    · skip
      refine r_iconst (q := 67) (nI 0) dX1_fillBlock_66 rfl (by decide) ?_
      refine r_iastN (q := 68) L (by decide) rfl dX1_fillBlock_67 rfl (hs.e (by decide)) hn (by omega) (by omega) ?_
      refine r_iincN (q := 71) (L' := [some (zr 1 0), some (zr 9 c), some (zi ky0), some (zi (nI n)), some (zr 7 0), some (zi (nI w)), some (zi (nI i)), some (zi (nI (o + 1))), none, none, none, none]) 1 rfl dX1_fillBlock_68 rfl rfl (by decide) rfl ?_
      refine r_goto (q := 20) dX1_fillBlock_71 (by decide) ?_
      have f1 : Fr t200 S (sI S 200 0 (i * w + o) (nI 0)) := Fr.rf.i (by simp [t200])
      refine ih (o + 1) (sI S 200 0 (i * w + o) (nI 0)) (by omega) hs hn (fun x hx => ?_) (fun S1 f2 h2 => K S1 (f1.tr f2) h2)
      rw [gI_sI]
      by_cases e : x = i * w + o
      · rw [if_pos ⟨rfl, rfl, e⟩, e, e0]
        first | rw [if_pos (by omega)] | rw [if_neg (by omega)]
      · rw [if_neg (by omega)]
        exact hD x (by omega)
    · skip
      refine r_iconst (q := 63) (nI 1) dX1_fillBlock_62 rfl (by decide) ?_
      refine r_goto (q := 67) dX1_fillBlock_63 (by decide) ?_
      refine r_iastN (q := 68) L (by decide) rfl dX1_fillBlock_67 rfl (hs.e (by decide)) hn (by omega) (by omega) ?_
      refine r_iincN (q := 71) (L' := [some (zr 1 0), some (zr 9 c), some (zi ky0), some (zi (nI n)), some (zr 7 0), some (zi (nI w)), some (zi (nI i)), some (zi (nI (o + 1))), none, none, none, none]) 1 rfl dX1_fillBlock_68 rfl rfl (by decide) rfl ?_
      refine r_goto (q := 20) dX1_fillBlock_71 (by decide) ?_
      have f1 : Fr t200 S (sI S 200 0 (i * w + o) (nI 1)) := Fr.rf.i (by simp [t200])
      refine ih (o + 1) (sI S 200 0 (i * w + o) (nI 1)) (by omega) hs hn (fun x hx => ?_) (fun S1 f2 h2 => K S1 (f1.tr f2) h2)
      rw [gI_sI]
      by_cases e : x = i * w + o
      · rw [if_pos ⟨rfl, rfl, e⟩, e, e0]
        first | rw [if_pos (by omega)] | rw [if_neg (by omega)]
      · rw [if_neg (by omega)]
        exact hD x (by omega)

set_option maxRecDepth 100000 in
theorem lp_fb10 {c n w L : Nat} {ky0 : Int32} (h1 : 1 ≤ w) (h3 : w ≤ 3) (hL : w * w ≤ L) (hL9 : L ≤ 6561) {Po : Option zV → zS → Prop} : ∀ (d i : Nat) (S : zS), i + d = w → Sd S → gN S 200 0 = L → (∀ x, x < i * w → gI S 200 0 x = nI (idB w x)) → (∀ S1, Fr t200 S S1 → (∀ x, x < w * w → gI S1 200 0 x = nI (idB w x)) → Ok mX1_fillBlock1 80 [some (zr 1 0), some (zr 9 c), some (zi ky0), some (zi (nI n)), some (zr 7 0), some (zi (nI w)), some (zi (nI w)), none, none, none, none, none] [] S1 Po) → Ok mX1_fillBlock1 10 [some (zr 1 0), some (zr 9 c), some (zi ky0), some (zi (nI n)), some (zr 7 0), some (zi (nI w)), some (zi (nI i)), none, none, none, none, none] [] S Po := by
  intro d
  induction d with
  | zero =>
    intro i S hi hs hn hD K
    obtain rfl : w = i := by omega
    refine r_iload (q := 12) dX1_fillBlock_10 rfl rfl ?_
    refine r_iload (q := 14) dX1_fillBlock_12 rfl rfl ?_
    refine r_icmp_geN (q := 17) (t := 80) (by omega) (by omega) dX1_fillBlock_14 (by decide) rfl (fun h14 => ?_) (fun h14 => absurd h14 (by omega))
    exact K S Fr.rf hD
  | succ d ih =>
    intro i S hi hs hn hD K
    refine r_iload (q := 12) dX1_fillBlock_10 rfl rfl ?_
    refine r_iload (q := 14) dX1_fillBlock_12 rfl rfl ?_
    refine r_icmp_geN (q := 17) (t := 80) (by omega) (by omega) dX1_fillBlock_14 (by decide) rfl (fun h14 => absurd h14 (by omega)) (fun h14 => ?_)
    refine r_iconst (q := 18) (nI 0) dX1_fillBlock_17 rfl (by decide) ?_
    refine r_istore (q := 20) (L' := [some (zr 1 0), some (zr 9 c), some (zi ky0), some (zi (nI n)), some (zr 7 0), some (zi (nI w)), some (zi (nI i)), some (zi (nI 0)), none, none, none, none]) dX1_fillBlock_18 rfl (by decide) rfl ?_
    refine lp_fb20 (c := c) (n := n) (ky0 := ky0) h1 h3 hL hL9 (show i < w by omega) w 0 S (by omega) hs hn (fun x hx => hD x (by omega)) (fun S1 f1 h2 => ?_)
    refine r_iincN (q := 77) (L' := [some (zr 1 0), some (zr 9 c), some (zi ky0), some (zi (nI n)), some (zr 7 0), some (zi (nI w)), some (zi (nI (i + 1))), some (zi (nI w)), none, none, none, none]) 1 rfl dX1_fillBlock_74 rfl rfl (by decide) rfl ?_
    refine r_goto (q := 10) dX1_fillBlock_77 (by decide) ?_
    refine r_mask [true, true, true, true, true, true, true, false, false, false, false, false] rfl ?_
    exact ih (i + 1) S1 (by omega) (hs.fr f1) ((gN_22 f1.2.2).trans hn) (fun x hx => h2 x (by rw [Nat.succ_mul] at hx; exact hx)) (fun S2 f2 h3' => K S2 (f1.tr f2) h3')

theorem dropA {t : List Nat} {d : Nat} (h : d < t.length) : t.drop d = t.getD d 0 :: t.drop (d + 1) := drop_at h
/-- what the class knows while it fills its block -/
def FbI (S : zS) (c w P L A : Nat) (e : Nat → Nat) (tb : Nat → Nat → Nat) (t : List Nat) : Prop := Sd S ∧ gI S 9 c 0 = nI P ∧ gI S 9 c 1 = nI A ∧ (∀ a, a < A → gI S 1003 c a = nI (e a)) ∧ gI S 7 0 0 = nI w ∧ (∀ a, a < A → TbC S a P (tb a)) ∧ gN S 200 0 = L ∧ gN S 201 0 = L ∧ ∀ i, i < t.length → gI S 203 0 i = nI (nd (t.getD i 0))
theorem FbI.bk {S S1 : zS} {c w P L A : Nat} {e : Nat → Nat} {tb : Nat → Nat → Nat} {t : List Nat} (h : FbI S c w P L A e tb t) (f : Fg tBk1 S S1) (n0 : gN S1 200 0 = L) (n1 : gN S1 201 0 = L) : FbI S1 c w P L A e tb t := by
  obtain ⟨h1, h2, h3, h4, h5, h6, h7, h8, h9⟩ := h
  exact ⟨f.sd, (f.I (by omega) (by unfold tBk1; omega)).trans h2, (f.I (by omega) (by unfold tBk1; omega)).trans h3, fun a ha => (f.I (by omega) (by unfold tBk1; omega)).trans (h4 a ha), (f.I (by omega) (by unfold tBk1; omega)).trans h5, fun a ha i hi => ⟨(f.I (by omega) (by unfold tBk1; omega)).trans (h6 a ha i hi).1, (h6 a ha i hi).2⟩, n0, n1, fun i hi => (f.I (by omega) (by unfold tBk1; omega)).trans (h9 i hi)⟩

set_option maxRecDepth 100000 in
theorem lp_fb100 {c n w P L A : Nat} {e : Nat → Nat} (hE : Eok A e) {tb : Nat → Nat → Nat} (hc4 : c < 4) (h1 : 1 ≤ w) (h3 : w ≤ 3) (hP2 : 2 ≤ P) (hP97 : P ≤ 97) (hn7 : n ≤ 7) (hL : w ^ (n + 1) ≤ L) (hL9 : L ≤ 6561) {t : List Nat} (ht : Tr A e n t) (hl13 : t.length ≤ 13) {Bf : Nat → Nat} : ∀ (d at0 lf op : Nat) (B : Nat → Nat) (S : zS), at0 + d = t.length → FbI S c w P L A e tb t → lf ≤ op → Fs A e (t.drop at0) (op - lf) → lf + lvs (t.drop at0) = n → bkS w P e tb (t.drop at0) lf op B = Bf → (∀ x, x < w ^ (op + 1) → gI S 200 0 x = nI (B x) ∧ B x < P) → Ok mX1_fillBlock1 100 [some (zr 1 0), some (zr 9 c), some (zi (nI (ky t))), some (zi (nI n)), some (zr 7 0), some (zi (nI w)), some (zi (nI lf)), some (zi (nI op)), some (zi (nI t.length)), some (zi (nI at0)), none, none] [] S (fun r S1 => r = none ∧ Fg tBk1 S S1 ∧ gN S1 200 0 = L ∧ gN S1 201 0 = L ∧ ∀ x, x < w ^ (n + 1) → gI S1 200 0 x = nI (Bf x) ∧ Bf x < P) := by
  intro d
  induction d with
  | zero =>
    intro at0 lf op B S hd hI hle hF hlv hB hD
    obtain ⟨hs, i2, i3, i4, i5, i6, i7, i8, i9⟩ := id hI
    obtain rfl : t.length = at0 := by omega
    rw [List.drop_length] at hF hlv hB
    have hF : op - lf = 0 := hF
    have hlv : lf + 0 = n := hlv
    have hB : B = Bf := hB
    obtain rfl : op = n := by omega
    subst hB
    refine r_iload (q := 102) dX1_fillBlock_100 rfl rfl ?_
    refine r_iload (q := 104) dX1_fillBlock_102 rfl rfl ?_
    refine r_icmp_geN (q := 107) (t := 191) (by omega) (by omega) dX1_fillBlock_104 (by decide) rfl (fun h104 => ?_) (fun h104 => absurd h104 (by omega))
    refine r_return dX1_fillBlock_191 rfl ?_
    exact ⟨rfl, Fg.rf hs, i7, i8, hD⟩
  | succ d ih =>
    intro at0 lf op B S hd hI hle hF hlv hB hD
    obtain ⟨hs, i2, i3, i4, i5, i6, i7, i8, i9⟩ := id hI
    have hlt : at0 < t.length := by omega
    have hnode := i9 at0 hlt
    have hA3 := hE.1
    rw [dropA hlt] at hF hlv hB
    obtain ⟨hm, hF⟩ := hF
    have hlv : lf + ((if t.getD at0 0 = 0 then 1 else 0) + lvs (t.drop (at0 + 1))) = n := hlv
    by_cases k0 : t.getD at0 0 = 0
    · rw [if_pos k0] at hF hlv
      rw [bkS, if_pos k0] at hB
      have hnd : gI S 203 0 at0 = nI 3 := by rw [hnode, k0]; rfl
      have hcn := hF.cnt hE.two
      refine r_iload (q := 102) dX1_fillBlock_100 rfl rfl ?_
      refine r_iload (q := 104) dX1_fillBlock_102 rfl rfl ?_
      refine r_icmp_geN (q := 107) (t := 191) (by omega) (by omega) dX1_fillBlock_104 (by decide) rfl (fun h104 => absurd h104 (by omega)) (fun h104 => ?_)
      refine r_aload_n (q := 108) dX1_fillBlock_107 rfl rfl rfl ?_
      refine r_aload_n (q := 109) dX1_fillBlock_108 rfl rfl rfl ?_
      refine r_getr (q := 112) (some (203, 0)) ck1 dX1_fillBlock_109 rfl (k := 3) (by decide) wt231 rfl (hs.e (by decide)) (hs.r (by decide) (by decide)) ?_
      refine r_iload (q := 114) dX1_fillBlock_112 rfl rfl ?_
      refine r_ialdN (q := 115) 13 (by decide) rfl dX1_fillBlock_114 rfl (hs.e (by decide)) (hs.n rfl (by decide)) (by omega) (by decide) ?_
      refine r_topi (y := nI 3) hnd ?_
      refine r_callV (Mc := mX9_hasAct) (q := 118) (As := [zi (nI 3)]) (st := []) ck9 dX1_fillBlock_115 rfl rfl mkX9_hasAct wt1115 wt683 wt684 rfl (Nat.le_of_ble_eq_true rfl) (Nat.le_of_ble_eq_true rfl) (by decide) (by decide) (by decide) (Or.inl rfl) (hs.e (show c < 4 by omega)) (ok_X9_hasAct_out hs hc4 i3 hA3 (fun z => by have z2 := Int32.lt_iff_toInt_lt.mp z.2; rw [nI_toInt (by omega), nI_toInt (by omega)] at z2; omega)) (fun r115 S115 hp115 => ?_)
      obtain ⟨rfl, hq115⟩ := hp115
      rw [hq115]
      show Ok _ _ _ [zi (nI 0)] _ _
      refine r_if_neN (q := 121) (t := 127) (by omega) dX1_fillBlock_118 (by decide) rfl (fun h118 => absurd h118 (by omega)) (fun h118 => ?_)
      refine r_iincN (q := 124) (L' := [some (zr 1 0), some (zr 9 c), some (zi (nI (ky t))), some (zi (nI n)), some (zr 7 0), some (zi (nI w)), some (zi (nI (lf + 1))), some (zi (nI op)), some (zi (nI t.length)), some (zi (nI at0)), none, none]) 1 rfl dX1_fillBlock_121 rfl rfl (by decide) rfl ?_
      refine r_goto (q := 185) dX1_fillBlock_124 (by decide) ?_
      refine r_iincN (q := 188) (L' := [some (zr 1 0), some (zr 9 c), some (zi (nI (ky t))), some (zi (nI n)), some (zr 7 0), some (zi (nI w)), some (zi (nI (lf + 1))), some (zi (nI op)), some (zi (nI t.length)), some (zi (nI (at0 + 1))), none, none]) 1 rfl dX1_fillBlock_185 rfl rfl (by decide) rfl ?_
      refine r_goto (q := 100) dX1_fillBlock_188 (by decide) ?_
      exact ih (at0 + 1) (lf + 1) op B S (by omega) hI (by omega) (by rw [show op - (lf + 1) = op - lf - 1 by omega]; exact hF) (by omega) hB hD
    · rw [if_neg k0] at hF hlv
      rw [bkS, if_neg k0] at hB
      have hka := hF.1
      obtain ⟨a, ha⟩ : ∃ a, t.getD at0 0 = a + 1 := ⟨t.getD at0 0 - 1, by omega⟩
      rw [ha, Nat.add_sub_cancel] at hF hB
      have haA : a < A := by omega
      have hnd : gI S 203 0 at0 = nI a := by rw [hnode, ha]; rfl
      have hea := hE.2 a haA
      have hF2 := hF.2
      have hcn := hF2.cnt hE.two
      have hop : op + e a ≤ n + 1 := by omega
      have hpw : w ^ (op + e a) ≤ w ^ (n + 1) := Nat.pow_le_pow_right h1 hop
      have g8 : lf ≤ 8 := by omega
      have g9 : op - lf ≤ 8 := by omega
      refine r_iload (q := 102) dX1_fillBlock_100 rfl rfl ?_
      refine r_iload (q := 104) dX1_fillBlock_102 rfl rfl ?_
      refine r_icmp_geN (q := 107) (t := 191) (by omega) (by omega) dX1_fillBlock_104 (by decide) rfl (fun h104 => absurd h104 (by omega)) (fun h104 => ?_)
      refine r_aload_n (q := 108) dX1_fillBlock_107 rfl rfl rfl ?_
      refine r_aload_n (q := 109) dX1_fillBlock_108 rfl rfl rfl ?_
      refine r_getr (q := 112) (some (203, 0)) ck1 dX1_fillBlock_109 rfl (k := 3) (by decide) wt231 rfl (hs.e (by decide)) (hs.r (by decide) (by decide)) ?_
      refine r_iload (q := 114) dX1_fillBlock_112 rfl rfl ?_
      refine r_ialdN (q := 115) 13 (by decide) rfl dX1_fillBlock_114 rfl (hs.e (by decide)) (hs.n rfl (by decide)) (by omega) (by decide) ?_
      refine r_topi (y := nI a) hnd ?_
      refine r_callV (Mc := mX9_hasAct) (q := 118) (As := [zi (nI a)]) (st := []) ck9 dX1_fillBlock_115 rfl rfl mkX9_hasAct wt1115 wt683 wt684 rfl (Nat.le_of_ble_eq_true rfl) (Nat.le_of_ble_eq_true rfl) (by decide) (by decide) (by decide) (Or.inl rfl) (hs.e (show c < 4 by omega)) (ok_X9_hasAct_in hs hc4 i3 hA3 haA) (fun r115 S115 hp115 => ?_)
      obtain ⟨rfl, hq115⟩ := hp115
      rw [hq115]
      show Ok _ _ _ [zi (nI 1)] _ _
      refine r_if_neN (q := 121) (t := 127) (by omega) dX1_fillBlock_118 (by decide) rfl (fun h118 => ?_) (fun h118 => absurd h118 (by omega))
      refine r_iload (q := 129) dX1_fillBlock_127 rfl rfl ?_
      refine r_iload (q := 131) dX1_fillBlock_129 rfl rfl ?_
      refine r_callSN (Mc := mX11_power) (q := 134) (As := [zi (nI w), zi (nI lf)]) (st := []) dX1_fillBlock_131 rfl rfl mkX11_power wn1103 wt1089 rfl (Nat.le_of_ble_eq_true rfl) (Nat.le_of_ble_eq_true rfl) (by decide) (by decide) (by decide) (Or.inl rfl) hs.some (ok_pow h1 h3 (by omega)) (fun r131 S131 hp131 => ?_)
      obtain ⟨rfl, hq131⟩ := hp131
      rw [hq131]
      show Ok _ _ _ [zi (nI (w ^ lf))] _ _
      refine r_istore (q := 136) (L' := [some (zr 1 0), some (zr 9 c), some (zi (nI (ky t))), some (zi (nI n)), some (zr 7 0), some (zi (nI w)), some (zi (nI lf)), some (zi (nI op)), some (zi (nI t.length)), some (zi (nI at0)), some (zi (nI (w ^ lf))), none]) dX1_fillBlock_134 rfl (by decide) rfl ?_
      refine r_iload (q := 138) dX1_fillBlock_136 rfl rfl ?_
      refine r_iload (q := 140) dX1_fillBlock_138 rfl rfl ?_
      refine r_iload (q := 142) dX1_fillBlock_140 rfl rfl ?_
      refine r_isubN (q := 143) (by omega) dX1_fillBlock_142 rfl ?_
      refine r_callSN (Mc := mX11_power) (q := 146) (As := [zi (nI w), zi (nI (op - lf))]) (st := []) dX1_fillBlock_143 rfl rfl mkX11_power wn1103 wt1089 rfl (Nat.le_of_ble_eq_true rfl) (Nat.le_of_ble_eq_true rfl) (by decide) (by decide) (by decide) (Or.inl rfl) hs.some (ok_pow h1 h3 (by omega)) (fun r143 S143 hp143 => ?_)
      obtain ⟨rfl, hq143⟩ := hp143
      rw [hq143]
      show Ok _ _ _ [zi (nI (w ^ (op - lf)))] _ _
      refine r_istore (q := 148) (L' := [some (zr 1 0), some (zr 9 c), some (zi (nI (ky t))), some (zi (nI n)), some (zr 7 0), some (zi (nI w)), some (zi (nI lf)), some (zi (nI op)), some (zi (nI t.length)), some (zi (nI at0)), some (zi (nI (w ^ lf))), some (zi (nI (w ^ (op - lf))))]) dX1_fillBlock_146 rfl (by decide) rfl ?_
      refine r_aload_n (q := 149) dX1_fillBlock_148 rfl rfl rfl ?_
      refine r_aload_n (q := 150) dX1_fillBlock_149 rfl rfl rfl ?_
      refine r_aload_n (q := 151) dX1_fillBlock_150 rfl rfl rfl ?_
      refine r_getr (q := 154) (some (203, 0)) ck1 dX1_fillBlock_151 rfl (k := 3) (by decide) wt231 rfl (hs.e (by decide)) (hs.r (by decide) (by decide)) ?_
      refine r_iload (q := 156) dX1_fillBlock_154 rfl rfl ?_
      refine r_ialdN (q := 157) 13 (by decide) rfl dX1_fillBlock_156 rfl (hs.e (by decide)) (hs.n rfl (by decide)) (by omega) (by decide) ?_
      refine r_topi (y := nI a) hnd ?_
      refine r_aload (q := 159) dX1_fillBlock_157 rfl rfl ?_
      refine r_iload (q := 161) dX1_fillBlock_159 rfl rfl ?_
      refine r_iload (q := 163) dX1_fillBlock_161 rfl rfl ?_
      refine r_callV (Mc := mX1_putTable1) (q := 166) (As := [zr 9 c, zi (nI a), zr 7 0, zi (nI (w ^ lf)), zi (nI (w ^ (op - lf)))]) (st := []) ck1 dX1_fillBlock_163 rfl rfl mkX1_putTable1 wt1116 wt1118 wp61 rfl (Nat.le_of_ble_eq_true rfl) (Nat.le_of_ble_eq_true rfl) (by decide) (by decide) (by decide) (Or.inr ⟨Nat.le_of_ble_eq_true rfl, rfl, rfl⟩) (hs.e (by decide)) (ok_putTable (c := c) (a := a) (w := w) (P := P) (L := L) (e := e a) (lf := lf) (op := op) (tb := tb a) (B := B) hc4 (by omega) h1 h3 hP2 hP97 (by omega) (by omega) (by omega) hL9 ⟨hs, i2, i6 a haA, i7, i8, hD⟩ i5 (i4 a haA) (by omega)) (fun r163 S163 hp163 => ?_)
      obtain ⟨rfl, f163, n0, n1, hD3⟩ := hp163
      have hI3 := hI.bk f163 n0 n1
      have hnd3 : gI S163 203 0 at0 = nI a := (f163.I (by omega) (by unfold tBk1; omega)).trans hnd
      have hea3 : gI S163 1003 c a = nI (e a) := hI3.2.2.2.1 a haA
      show Ok _ _ _ [] _ _
      refine r_iload (q := 168) dX1_fillBlock_166 rfl rfl ?_
      refine r_aload_n (q := 169) dX1_fillBlock_168 rfl rfl rfl ?_
      refine r_getr (q := 172) (some (1003, c)) ck9 dX1_fillBlock_169 rfl (k := 3) (by decide) wt307 rfl (f163.sd.e (show c < 4 by omega)) (f163.sd.r (show c < 4 by omega) (by decide)) ?_
      refine r_aload_n (q := 173) dX1_fillBlock_172 rfl rfl rfl ?_
      refine r_getr (q := 176) (some (203, 0)) ck1 dX1_fillBlock_173 rfl (k := 3) (by decide) wt231 rfl (f163.sd.e (by decide)) (f163.sd.r (by decide) (by decide)) ?_
      refine r_iload (q := 178) dX1_fillBlock_176 rfl rfl ?_
      refine r_ialdN (q := 179) 13 (by decide) rfl dX1_fillBlock_178 rfl (f163.sd.e (by decide)) (f163.sd.n rfl (by decide)) (by omega) (by decide) ?_
      refine r_topi (y := nI a) hnd3 ?_
      refine r_ialdN (q := 180) 3 (by decide) rfl dX1_fillBlock_179 rfl (f163.sd.e (show c < 4 by omega)) (f163.sd.n rfl (show c < 4 by omega)) (by omega) (by decide) ?_
      refine r_topi (y := nI (e a)) hea3 ?_
      refine r_iconst (q := 181) (nI 1) dX1_fillBlock_180 rfl (by decide) ?_
      refine r_isubN (q := 182) (by omega) dX1_fillBlock_181 rfl ?_
      refine r_iaddN (q := 183) dX1_fillBlock_182 rfl ?_
      refine r_topi (y := nI (op + e a - 1)) (congrArg nI (by omega)) ?_
      refine r_istore (q := 185) (L' := [some (zr 1 0), some (zr 9 c), some (zi (nI (ky t))), some (zi (nI n)), some (zr 7 0), some (zi (nI w)), some (zi (nI lf)), some (zi (nI (op + e a - 1))), some (zi (nI t.length)), some (zi (nI at0)), some (zi (nI (w ^ lf))), some (zi (nI (w ^ (op - lf))))]) dX1_fillBlock_183 rfl (by decide) rfl ?_
      refine r_iincN (q := 188) (L' := [some (zr 1 0), some (zr 9 c), some (zi (nI (ky t))), some (zi (nI n)), some (zr 7 0), some (zi (nI w)), some (zi (nI lf)), some (zi (nI (op + e a - 1))), some (zi (nI t.length)), some (zi (nI (at0 + 1))), some (zi (nI (w ^ lf))), some (zi (nI (w ^ (op - lf))))]) 1 rfl dX1_fillBlock_185 rfl rfl (by decide) rfl ?_
      refine r_goto (q := 100) dX1_fillBlock_188 (by decide) ?_
      refine r_mask [true, true, true, true, true, true, true, true, true, true, false, false] rfl ?_
      exact Ok.mono (ih (at0 + 1) lf (op + e a - 1) _ S163 (by omega) hI3 (by omega) (by rw [show op + e a - 1 - lf = op - lf - 1 + e a by omega]; exact hF2) (by omega) hB (fun x hx => hD3 x (by rw [show op + e a = op + e a - 1 + 1 by omega]; exact hx))) fun r S1 z => ⟨z.1, f163.tr z.2.1, z.2.2⟩

def tFb (a b k : Nat) : Prop := tBk1 a b k ∨ a = 203 ∧ b = 0

set_option maxRecDepth 100000 in
theorem ok_fillBlock {S : zS} (hs : Sd S) {c n w P L A : Nat} {e : Nat → Nat} (hE : Eok A e) {tb : Nat → Nat → Nat} (hc4 : c < 4) (h1 : 1 ≤ w) (h3 : w ≤ 3) (hP2 : 2 ≤ P) (hP97 : P ≤ 97) (hn1 : 1 ≤ n) (hn7 : n ≤ 7) (hL : w ^ (n + 1) ≤ L) (hL9 : L ≤ 6561) {t : List Nat} (ht : Tr A e n t) (hp0 : gI S 9 c 0 = nI P) (hA : gI S 9 c 1 = nI A) (he : ∀ a, a < A → gI S 1003 c a = nI (e a)) (hw : gI S 7 0 0 = nI w) (hT : ∀ a, a < A → TbC S a P (tb a)) (hn0 : gN S 200 0 = L) (hn2 : gN S 201 0 = L) : Ok mX1_fillBlock1 0 (ent 12 [zr 1 0, zr 9 c, zi (nI (ky t)), zi (nI n), zr 7 0]) [] S (fun r S1 => r = none ∧ Fg tFb S S1 ∧ gN S1 200 0 = L ∧ gN S1 201 0 = L ∧ ∀ x, x < w ^ (n + 1) → gI S1 200 0 x = nI (bkS w P e tb t 0 1 (idB w) x) ∧ bkS w P e tb t 0 1 (idB w) x < P) := by
  have hl1 : 1 ≤ t.length := by have := len_la t; have := ht.1.cnt (fun a ha => (hE.2 a ha).1); omega
  have hl13 : t.length ≤ 13 := by have := len_la t; have := ht.1.cnt (fun a ha => (hE.2 a ha).1); have := ht.2; omega
  show Ok mX1_fillBlock1 0 [some (zr 1 0), some (zr 9 c), some (zi (nI (ky t))), some (zi (nI n)), some (zr 7 0), none, none, none, none, none, none, none] [] S _
  refine r_aload (q := 2) dX1_fillBlock_0 rfl rfl ?_
  refine r_geti (q := 5) ck7 dX1_fillBlock_2 rfl (k := 0) (by decide) wt38 (Or.inl rfl) (hs.e (by decide)) ?_
  refine r_topi (y := nI w) hw ?_
  refine r_istore (q := 7) (L' := [some (zr 1 0), some (zr 9 c), some (zi (nI (ky t))), some (zi (nI n)), some (zr 7 0), some (zi (nI w)), none, none, none, none, none, none]) dX1_fillBlock_5 rfl (by decide) rfl ?_
  refine r_iconst (q := 8) (nI 0) dX1_fillBlock_7 rfl (by decide) ?_
  refine r_istore (q := 10) (L' := [some (zr 1 0), some (zr 9 c), some (zi (nI (ky t))), some (zi (nI n)), some (zr 7 0), some (zi (nI w)), some (zi (nI 0)), none, none, none, none, none]) dX1_fillBlock_8 rfl (by decide) rfl ?_
  have hww : w * w ≤ w ^ (n + 1) := by rw [← Nat.pow_two]; exact Nat.pow_le_pow_right h1 (by omega)
  refine lp_fb10 (c := c) (n := n) (ky0 := nI (ky t)) h1 h3 (by omega) hL9 w 0 S (by omega) hs hn0 (fun x hx => absurd hx (by rw [Nat.zero_mul]; exact Nat.not_lt_zero x)) (fun S1 f1 hD => ?_)
  have hs1 : Sd S1 := hs.fr f1
  refine r_iconst (q := 81) (nI 0) dX1_fillBlock_80 rfl (by decide) ?_
  refine r_istore (q := 83) (L' := [some (zr 1 0), some (zr 9 c), some (zi (nI (ky t))), some (zi (nI n)), some (zr 7 0), some (zi (nI w)), some (zi (nI 0)), none, none, none, none, none]) dX1_fillBlock_81 rfl (by decide) rfl ?_
  refine r_iconst (q := 84) (nI 1) dX1_fillBlock_83 rfl (by decide) ?_
  refine r_istore (q := 86) (L' := [some (zr 1 0), some (zr 9 c), some (zi (nI (ky t))), some (zi (nI n)), some (zr 7 0), some (zi (nI w)), some (zi (nI 0)), some (zi (nI 1)), none, none, none, none]) dX1_fillBlock_84 rfl (by decide) rfl ?_
  refine r_iload_n (q := 87) dX1_fillBlock_86 rfl rfl rfl ?_
  refine r_iload_n (q := 88) dX1_fillBlock_87 rfl rfl rfl ?_
  refine r_aload_n (q := 89) dX1_fillBlock_88 rfl rfl rfl ?_
  refine r_getr (q := 92) (some (203, 0)) ck1 dX1_fillBlock_89 rfl (k := 3) (by decide) wt231 rfl (hs1.e (by decide)) (hs1.r (by decide) (by decide)) ?_
  refine r_callS (Mc := mX6_open) (q := 95) (As := [zi (nI (ky t)), zi (nI n), zr 203 0]) (st := []) dX1_fillBlock_92 rfl rfl mkX6_open wt1114 wt746 rfl (Nat.le_of_ble_eq_true rfl) (Nat.le_of_ble_eq_true rfl) (by decide) (by decide) (by decide) (Or.inl rfl) hs1.some (ok_open_203 hs1 hE ht hn7) (fun r92 S92 hp92 => ?_)
  obtain ⟨rfl, hq92⟩ := hp92
  rw [hq92]
  show Ok _ _ _ [zi (nI t.length)] _ _
  refine r_istore (q := 97) (L' := [some (zr 1 0), some (zr 9 c), some (zi (nI (ky t))), some (zi (nI n)), some (zr 7 0), some (zi (nI w)), some (zi (nI 0)), some (zi (nI 1)), some (zi (nI t.length)), none, none, none]) dX1_fillBlock_95 rfl (by decide) rfl ?_
  refine r_iconst (q := 98) (nI 0) dX1_fillBlock_97 rfl (by decide) ?_
  refine r_istore (q := 100) (L' := [some (zr 1 0), some (zr 9 c), some (zi (nI (ky t))), some (zi (nI n)), some (zr 7 0), some (zi (nI w)), some (zi (nI 0)), some (zi (nI 1)), some (zi (nI t.length)), some (zi (nI 0)), none, none]) dX1_fillBlock_98 rfl (by decide) rfl ?_
  have f2 : Fr (fun a b k => a == 203 && b == 0) S1 (stR S1 203 0 (t.map nd)) := ⟨fun x y k h => gI_stR_x (fun z => by rw [z.1, z.2] at h; simp at h), fun _ _ _ _ => rfl, rfl⟩
  have k1 : ∀ x y k, x ≠ 200 → x ≠ 203 → gI (stR S1 203 0 (t.map nd)) x y k = gI S x y k := fun x y k a1 a2 => (f2.1 _ _ _ (by simp [a2])).trans (f1.1 _ _ _ (by simp [t200, a1]))
  have hI2 : FbI (stR S1 203 0 (t.map nd)) c w P L A e tb t := ⟨hs1.fr f2, (k1 _ _ _ (by omega) (by omega)).trans hp0, (k1 _ _ _ (by omega) (by omega)).trans hA, fun a ha => (k1 _ _ _ (by omega) (by omega)).trans (he a ha), (k1 _ _ _ (by omega) (by omega)).trans hw, fun a ha i hi => ⟨(k1 _ _ _ (by omega) (by omega)).trans (hT a ha i hi).1, (hT a ha i hi).2⟩, (gN_22 f1.2.2).trans hn0, (gN_22 f1.2.2).trans hn2, fun i hi => by rw [gI_stR_k (by rw [List.length_map]; exact hi), List.getD_eq_getElem?_getD, List.getElem?_map, List.getD_eq_getElem?_getD, List.getElem?_eq_getElem hi]; rfl⟩
  refine Ok.mono (lp_fb100 hE hc4 h1 h3 hP2 hP97 hn7 hL hL9 ht hl13 t.length 0 0 1 (idB w) _ (by omega) hI2 (by omega) ht.1 (by rw [Nat.zero_add]; exact ht.2) rfl (fun x hx => ⟨(f2.1 _ _ _ rfl).trans (hD x (by rw [← Nat.pow_two]; exact hx)), by unfold idB; split <;> omega⟩)) fun r S2 z => ⟨z.1, ?_, z.2.2⟩
  exact ((f1.fg hs (fun a b k z => Or.inl (by simp [t200] at z; exact ⟨Or.inl z.1, z.2⟩))).tr (f2.fg hs1 (fun a b k z => Or.inr (by simp at z; exact z)))).tr (z.2.1.mono fun _ _ _ z => Or.inl z)

