/-! holds: the reference -/
def tRho (x y k : Nat) : Bool := tRdn x y k || x == 12 && y == 0 && k == 0
/-- what it reads -/
def RhI (S : zS) (w P A n l f : Nat) (e : Nat → Nat) (tb : Nat → Nat → Nat) (cs : List zT) : Prop := Sd S ∧ gI S 1306 0 0 = nI P ∧ (∀ a, a < A → gI S 1306 0 (4 + a) = nI (e a)) ∧ gI S 1306 0 3 = nI w ∧ (∀ a, a < A → TbR S a P (tb a)) ∧ gI S 1306 0 (7 + l) = nI n ∧ gI S 1306 0 (25 + l) = nI f ∧ gI S 1306 0 (25 + (l + 1)) = nI (f + cs.length) ∧ ∀ k, k < cs.length → gI S 1306 0 (44 + (f + k)) = nI (cd (cs.getD k zd).1) ∧ gI S 1306 0 (244 + (f + k)) = nI (cs.getD k zd).2
theorem RhI.fr {S S1 : zS} {w P A n l f : Nat} {e : Nat → Nat} {tb : Nat → Nat → Nat} {cs : List zT} (h : RhI S w P A n l f e tb cs) (g : Fr tRho S S1) : RhI S1 w P A n l f e tb cs := by
  obtain ⟨h1, h2, h3, h4, h5, h6, h7, h8, h9⟩ := h
  have k1 : ∀ k, gI S1 1306 0 k = gI S 1306 0 k := fun k => g.1 _ _ _ rfl
  exact ⟨h1.fr g, (k1 _).trans h2, fun a ha => (k1 _).trans (h3 a ha), (k1 _).trans h4, fun a ha i hi => ⟨(k1 _).trans (h5 a ha i hi).1, (h5 a ha i hi).2⟩, (k1 _).trans h6, (k1 _).trans h7, (k1 _).trans h8, fun k hk => ⟨(k1 _).trans (h9 k hk).1, (k1 _).trans (h9 k hk).2⟩⟩

set_option maxRecDepth 100000 in
theorem lp_rh27 {S : zS} (hs : Sd S) {l w n : Nat} (hl18 : l < 18) (h1 : 1 ≤ w) (h3 : w ≤ 3) (hn7 : n ≤ 7) (hn : gI S 1306 0 (7 + l) = nI n) {Po : Option zV → zS → Prop} (K : Ok mX12_holds 51 [some (zr 12 0), some (zi (nI l)), some (zi (nI w)), some (zi (nI (w ^ n))), some (zi (nI n)), none, none] [] S Po) : ∀ (d i : Nat), i + d = n → Ok mX12_holds 27 [some (zr 12 0), some (zi (nI l)), some (zi (nI w)), some (zi (nI (w ^ i))), some (zi (nI i)), none, none] [] S Po := by
  intro d
  induction d with
  | zero =>
    intro i hi
    obtain rfl : n = i := by omega
    refine r_iload (q := 29) dX12_holds_27 rfl rfl ?_
    refine r_aload_n (q := 30) dX12_holds_29 rfl rfl rfl ?_
    refine r_getr (q := 33) (some (1306, 0)) ck12 dX12_holds_30 rfl (k := 6) (by decide) wt1284 rfl (hs.e (by decide)) (hs.r (by decide) (by decide)) ?_
    refine r_bipush (q := 35) (nI 7) dX12_holds_33 rfl (by decide) ?_
    refine r_iload_n (q := 36) dX12_holds_35 rfl rfl rfl ?_
    refine r_iaddN (q := 37) dX12_holds_36 rfl ?_
    refine r_ialdN (q := 38) 3775 (by decide) rfl dX12_holds_37 rfl (hs.e (by decide)) (hs.n rfl (by decide)) (by omega) (by decide) ?_
    refine r_topi (y := nI n) hn ?_
    refine r_icmp_geN (q := 41) (t := 51) (by omega) (by omega) dX12_holds_38 (by decide) rfl (fun h38 => ?_) (fun h38 => absurd h38 (by omega))
    exact K
  | succ d ih =>
    intro i hi
    refine r_iload (q := 29) dX12_holds_27 rfl rfl ?_
    refine r_aload_n (q := 30) dX12_holds_29 rfl rfl rfl ?_
    refine r_getr (q := 33) (some (1306, 0)) ck12 dX12_holds_30 rfl (k := 6) (by decide) wt1284 rfl (hs.e (by decide)) (hs.r (by decide) (by decide)) ?_
    refine r_bipush (q := 35) (nI 7) dX12_holds_33 rfl (by decide) ?_
    refine r_iload_n (q := 36) dX12_holds_35 rfl rfl rfl ?_
    refine r_iaddN (q := 37) dX12_holds_36 rfl ?_
    refine r_ialdN (q := 38) 3775 (by decide) rfl dX12_holds_37 rfl (hs.e (by decide)) (hs.n rfl (by decide)) (by omega) (by decide) ?_
    refine r_topi (y := nI n) hn ?_
    refine r_icmp_geN (q := 41) (t := 51) (by omega) (by omega) dX12_holds_38 (by decide) rfl (fun h38 => absurd h38 (by omega)) (fun h38 => ?_)
    refine r_iload_n (q := 42) dX12_holds_41 rfl rfl rfl ?_
    refine r_iload_n (q := 43) dX12_holds_42 rfl rfl rfl ?_
    refine r_imulN (q := 44) dX12_holds_43 rfl ?_
    refine r_topi (y := nI (w ^ (i + 1))) (congrArg nI (Nat.pow_succ w i).symm) ?_
    refine r_istore_n (q := 45) (L' := [some (zr 12 0), some (zi (nI l)), some (zi (nI w)), some (zi (nI (w ^ (i + 1)))), some (zi (nI i)), none, none]) dX12_holds_44 rfl rfl (by decide) rfl ?_
    refine r_iincN (q := 48) (L' := [some (zr 12 0), some (zi (nI l)), some (zi (nI w)), some (zi (nI (w ^ (i + 1)))), some (zi (nI (i + 1))), none, none]) 1 rfl dX12_holds_45 rfl rfl (by decide) rfl ?_
    refine r_goto (q := 27) dX12_holds_48 (by decide) ?_
    exact ih (i + 1) (by omega)

set_option maxRecDepth 100000 in
theorem lp_rh67 {l w n r p : Nat} (hl18 : l < 18) (h1 : 1 ≤ w) (h3 : w ≤ 3) (hn7 : n ≤ 7) (hr9 : r < 2187) {Po : Option zV → zS → Prop} : ∀ (d j : Nat) (S : zS), j + d = n → Sd S → gI S 1306 0 (7 + l) = nI n → (∀ i, i < j → gI S 1387 0 i = nI (r / w ^ i % w)) → (∀ S1, Fr tWyo S S1 → (∀ i, i < n → gI S1 1387 0 i = nI (r / w ^ i % w)) → Ok mX12_holds 104 [some (zr 12 0), some (zi (nI l)), some (zi (nI w)), some (zi (nI p)), some (zi (nI r)), some (zi (nI (r / w ^ n))), some (zi (nI n))] [] S1 Po) → Ok mX12_holds 67 [some (zr 12 0), some (zi (nI l)), some (zi (nI w)), some (zi (nI p)), some (zi (nI r)), some (zi (nI (r / w ^ j))), some (zi (nI j))] [] S Po := by
  intro d
  induction d with
  | zero =>
    intro j S hj hs hn hlo K
    obtain rfl : n = j := by omega
    refine r_iload (q := 69) dX12_holds_67 rfl rfl ?_
    refine r_aload_n (q := 70) dX12_holds_69 rfl rfl rfl ?_
    refine r_getr (q := 73) (some (1306, 0)) ck12 dX12_holds_70 rfl (k := 6) (by decide) wt1284 rfl (hs.e (by decide)) (hs.r (by decide) (by decide)) ?_
    refine r_bipush (q := 75) (nI 7) dX12_holds_73 rfl (by decide) ?_
    refine r_iload_n (q := 76) dX12_holds_75 rfl rfl rfl ?_
    refine r_iaddN (q := 77) dX12_holds_76 rfl ?_
    refine r_ialdN (q := 78) 3775 (by decide) rfl dX12_holds_77 rfl (hs.e (by decide)) (hs.n rfl (by decide)) (by omega) (by decide) ?_
    refine r_topi (y := nI n) hn ?_
    refine r_icmp_geN (q := 81) (t := 104) (by omega) (by omega) dX12_holds_78 (by decide) rfl (fun h78 => ?_) (fun h78 => absurd h78 (by omega))
    exact K S Fr.rf hlo
  | succ d ih =>
    intro j S hj hs hn hlo K
    have hrj : r / w ^ j ≤ r := Nat.div_le_self _ _
    have hwj : r / w ^ j % w < w := Nat.mod_lt _ (by omega)
    refine r_iload (q := 69) dX12_holds_67 rfl rfl ?_
    refine r_aload_n (q := 70) dX12_holds_69 rfl rfl rfl ?_
    refine r_getr (q := 73) (some (1306, 0)) ck12 dX12_holds_70 rfl (k := 6) (by decide) wt1284 rfl (hs.e (by decide)) (hs.r (by decide) (by decide)) ?_
    refine r_bipush (q := 75) (nI 7) dX12_holds_73 rfl (by decide) ?_
    refine r_iload_n (q := 76) dX12_holds_75 rfl rfl rfl ?_
    refine r_iaddN (q := 77) dX12_holds_76 rfl ?_
    refine r_ialdN (q := 78) 3775 (by decide) rfl dX12_holds_77 rfl (hs.e (by decide)) (hs.n rfl (by decide)) (by omega) (by decide) ?_
    refine r_topi (y := nI n) hn ?_
    refine r_icmp_geN (q := 81) (t := 104) (by omega) (by omega) dX12_holds_78 (by decide) rfl (fun h78 => absurd h78 (by omega)) (fun h78 => ?_)
    refine r_aload_n (q := 82) dX12_holds_81 rfl rfl rfl ?_
    refine r_getr (q := 85) (some (1387, 0)) ck12 dX12_holds_82 rfl (k := 87) (by decide) wt1365 rfl (hs.e (by decide)) (hs.r (by decide) (by decide)) ?_
    refine r_iload (q := 87) dX12_holds_85 rfl rfl ?_
    refine r_iload (q := 89) dX12_holds_87 rfl rfl ?_
    refine r_iload_n (q := 90) dX12_holds_89 rfl rfl rfl ?_
    refine r_iremN (q := 91) (by omega) (by omega) (by omega) dX12_holds_90 rfl ?_
    refine r_topi (y := nI (r / w ^ j % w)) rfl ?_
    refine r_iastN (q := 92) 8 (by decide) rfl dX12_holds_91 rfl (hs.e (by decide)) (hs.n rfl (by decide)) (by omega) (by decide) ?_
    refine r_iload (q := 94) dX12_holds_92 rfl rfl ?_
    refine r_iload_n (q := 95) dX12_holds_94 rfl rfl rfl ?_
    refine r_idivN (q := 96) (by omega) (by omega) (by omega) dX12_holds_95 rfl ?_
    refine r_topi (y := nI (r / w ^ (j + 1))) (congrArg nI (by rw [Nat.div_div_eq_div_mul, ← Nat.pow_succ])) ?_
    refine r_istore (q := 98) (L' := [some (zr 12 0), some (zi (nI l)), some (zi (nI w)), some (zi (nI p)), some (zi (nI r)), some (zi (nI (r / w ^ (j + 1)))), some (zi (nI j))]) dX12_holds_96 rfl (by decide) rfl ?_
    refine r_iincN (q := 101) (L' := [some (zr 12 0), some (zi (nI l)), some (zi (nI w)), some (zi (nI p)), some (zi (nI r)), some (zi (nI (r / w ^ (j + 1)))), some (zi (nI (j + 1)))]) 1 rfl dX12_holds_98 rfl rfl (by decide) rfl ?_
    refine r_goto (q := 67) dX12_holds_101 (by decide) ?_
    have f1 : Fr tWyo S (sI S 1387 0 j (nI (r / w ^ j % w))) := Fr.rf.i (by simp [tWyo])
    refine ih (j + 1) (sI S 1387 0 j (nI (r / w ^ j % w))) (by omega) (hs.fr f1) hn (fun i hi => ?_) (fun S1 f2 h2 => K S1 (f1.tr f2) h2)
    rw [gI_sI]
    by_cases e1 : i = j
    · rw [if_pos ⟨rfl, rfl, e1⟩, e1]
    · rw [if_neg (by omega)]; exact hlo i (by omega)

set_option maxRecDepth 100000 in
theorem lp_rh107 {l w r p x : Nat} {Po : Option zV → zS → Prop} : ∀ (d j : Nat) (S : zS), j + d = 3 → Sd S → (∀ i, i < j → gI S 1389 0 i = nI 0) → (∀ S1, Fr tRds S S1 → (∀ i, i < 3 → gI S1 1389 0 i = nI 0) → Ok mX12_holds 127 [some (zr 12 0), some (zi (nI l)), some (zi (nI w)), some (zi (nI p)), some (zi (nI r)), some (zi (nI x)), some (zi (nI 3))] [] S1 Po) → Ok mX12_holds 107 [some (zr 12 0), some (zi (nI l)), some (zi (nI w)), some (zi (nI p)), some (zi (nI r)), some (zi (nI x)), some (zi (nI j))] [] S Po := by
  intro d
  induction d with
  | zero =>
    intro j S hj hs hlo K
    obtain rfl : j = 3 := by omega
    refine r_iload (q := 109) dX12_holds_107 rfl rfl ?_
    refine r_iconst (q := 110) (nI 3) dX12_holds_109 rfl (by decide) ?_
    refine r_icmp_geN (q := 113) (t := 127) (by omega) (by omega) dX12_holds_110 (by decide) rfl (fun h110 => ?_) (fun h110 => absurd h110 (by omega))
    exact K S Fr.rf hlo
  | succ d ih =>
    intro j S hj hs hlo K
    have f1 : Fr tRds S (sI S 1389 0 j (nI 0)) := (Fr.rf).i rfl
    refine r_iload (q := 109) dX12_holds_107 rfl rfl ?_
    refine r_iconst (q := 110) (nI 3) dX12_holds_109 rfl (by decide) ?_
    refine r_icmp_geN (q := 113) (t := 127) (by omega) (by omega) dX12_holds_110 (by decide) rfl (fun h110 => absurd h110 (by omega)) (fun h110 => ?_)
    refine r_aload_n (q := 114) dX12_holds_113 rfl rfl rfl ?_
    refine r_getr (q := 117) (some (1389, 0)) ck12 dX12_holds_114 rfl (k := 89) (by decide) wt1367 rfl (hs.e (by decide)) (hs.r (by decide) (by decide)) ?_
    refine r_iload (q := 119) dX12_holds_117 rfl rfl ?_
    refine r_iconst (q := 120) (nI 0) dX12_holds_119 rfl (by decide) ?_
    refine r_iastN (q := 121) 3 (by decide) rfl dX12_holds_120 rfl (hs.e (by decide)) (hs.n rfl (by decide)) (by omega) (by decide) ?_
    refine r_iincN (q := 124) (L' := [some (zr 12 0), some (zi (nI l)), some (zi (nI w)), some (zi (nI p)), some (zi (nI r)), some (zi (nI x)), some (zi (nI (j + 1)))]) 1 rfl dX12_holds_121 rfl rfl (by decide) rfl ?_
    refine r_goto (q := 107) dX12_holds_124 (by decide) ?_
    refine ih (j + 1) (sI S 1389 0 j (nI 0)) (by omega) (hs.fr f1) (fun i hi => ?_) (fun S1 g h1' => K S1 (f1.tr g) h1')
    rw [gI_sI]
    by_cases e1 : i = j
    · rw [if_pos ⟨rfl, rfl, e1⟩]
    · rw [if_neg (by omega)]; exact hlo i (by omega)

set_option maxRecDepth 100000 in
theorem lp_rh138 {w P A n l f : Nat} {e : Nat → Nat} (hE : Eok A e) {tb : Nat → Nat → Nat} {cs : List zT} (hq : Ce A e P n cs) (hl18 : l < 18) (h1 : 1 ≤ w) (h3 : w ≤ 3) (hP2 : 2 ≤ P) (hP97 : P ≤ 97) (hn7 : n ≤ 7) (hf : f + cs.length ≤ 200) {r p x : Nat} {Po : Option zV → zS → Prop} : ∀ (d i : Nat) (S : zS), i + d = cs.length → RhI S w P A n l f e tb cs → (∀ i, i < n → gI S 1387 0 i = nI (r / w ^ i % w)) → (∀ j, j < w → gI S 1389 0 j = nI (dsA (fun t => (dvS w P e tb (fun i => r / w ^ i % w) n t).1 0 j) P cs i)) → (∀ S1, Fr tRdt S S1 → (∀ j, j < w → gI S1 1389 0 j = nI (dsA (fun t => (dvS w P e tb (fun i => r / w ^ i % w) n t).1 0 j) P cs cs.length)) → Ok mX12_holds 185 [some (zr 12 0), some (zi (nI l)), some (zi (nI w)), some (zi (nI p)), some (zi (nI r)), some (zi (nI x)), some (zi (nI (f + cs.length)))] [] S1 Po) → Ok mX12_holds 138 [some (zr 12 0), some (zi (nI l)), some (zi (nI w)), some (zi (nI p)), some (zi (nI r)), some (zi (nI x)), some (zi (nI (f + i)))] [] S Po := by
  intro d
  induction d with
  | zero =>
    intro i S hi hI hwy hD K
    obtain ⟨hs, i2, i3, i4, i5, i6, i7, i8, i9⟩ := id hI
    obtain rfl : i = cs.length := by omega
    refine r_iload (q := 140) dX12_holds_138 rfl rfl ?_
    refine r_aload_n (q := 141) dX12_holds_140 rfl rfl rfl ?_
    refine r_getr (q := 144) (some (1306, 0)) ck12 dX12_holds_141 rfl (k := 6) (by decide) wt1284 rfl (hs.e (by decide)) (hs.r (by decide) (by decide)) ?_
    refine r_bipush (q := 146) (nI 25) dX12_holds_144 rfl (by decide) ?_
    refine r_iload_n (q := 147) dX12_holds_146 rfl rfl rfl ?_
    refine r_iaddN (q := 148) dX12_holds_147 rfl ?_
    refine r_iconst (q := 149) (nI 1) dX12_holds_148 rfl (by decide) ?_
    refine r_iaddN (q := 150) dX12_holds_149 rfl ?_
    refine r_topi (y := nI (25 + (l + 1))) rfl ?_
    refine r_ialdN (q := 151) 3775 (by decide) rfl dX12_holds_150 rfl (hs.e (by decide)) (hs.n rfl (by decide)) (by omega) (by decide) ?_
    refine r_topi (y := nI (f + cs.length)) i8 ?_
    refine r_icmp_geN (q := 154) (t := 185) (by omega) (by omega) dX12_holds_151 (by decide) rfl (fun h151 => ?_) (fun h151 => absurd h151 (by omega))
    exact K S Fr.rf hD
  | succ d ih =>
    intro i S hi hI hwy hD K
    obtain ⟨hs, i2, i3, i4, i5, i6, i7, i8, i9⟩ := id hI
    have hil : i < cs.length := by omega
    obtain ⟨hk1, hk2⟩ := i9 i hil
    obtain ⟨htr, hnum⟩ := hq.1.2 _ (mem_getD hil)
    refine r_iload (q := 140) dX12_holds_138 rfl rfl ?_
    refine r_aload_n (q := 141) dX12_holds_140 rfl rfl rfl ?_
    refine r_getr (q := 144) (some (1306, 0)) ck12 dX12_holds_141 rfl (k := 6) (by decide) wt1284 rfl (hs.e (by decide)) (hs.r (by decide) (by decide)) ?_
    refine r_bipush (q := 146) (nI 25) dX12_holds_144 rfl (by decide) ?_
    refine r_iload_n (q := 147) dX12_holds_146 rfl rfl rfl ?_
    refine r_iaddN (q := 148) dX12_holds_147 rfl ?_
    refine r_iconst (q := 149) (nI 1) dX12_holds_148 rfl (by decide) ?_
    refine r_iaddN (q := 150) dX12_holds_149 rfl ?_
    refine r_topi (y := nI (25 + (l + 1))) rfl ?_
    refine r_ialdN (q := 151) 3775 (by decide) rfl dX12_holds_150 rfl (hs.e (by decide)) (hs.n rfl (by decide)) (by omega) (by decide) ?_
    refine r_topi (y := nI (f + cs.length)) i8 ?_
    refine r_icmp_geN (q := 154) (t := 185) (by omega) (by omega) dX12_holds_151 (by decide) rfl (fun h151 => absurd h151 (by omega)) (fun h151 => ?_)
    refine r_aload_n (q := 155) dX12_holds_154 rfl rfl rfl ?_
    refine r_aload_n (q := 156) dX12_holds_155 rfl rfl rfl ?_
    refine r_getr (q := 159) (some (1306, 0)) ck12 dX12_holds_156 rfl (k := 6) (by decide) wt1284 rfl (hs.e (by decide)) (hs.r (by decide) (by decide)) ?_
    refine r_bipush (q := 161) (nI 44) dX12_holds_159 rfl (by decide) ?_
    refine r_iload (q := 163) dX12_holds_161 rfl rfl ?_
    refine r_iaddN (q := 164) dX12_holds_163 rfl ?_
    refine r_ialdN (q := 165) 3775 (by decide) rfl dX12_holds_164 rfl (hs.e (by decide)) (hs.n rfl (by decide)) (by omega) (by decide) ?_
    refine r_topi (y := nI (cd (cs.getD i zd).1)) hk1 ?_
    refine r_aload_n (q := 166) dX12_holds_165 rfl rfl rfl ?_
    refine r_getr (q := 169) (some (1306, 0)) ck12 dX12_holds_166 rfl (k := 6) (by decide) wt1284 rfl (hs.e (by decide)) (hs.r (by decide) (by decide)) ?_
    refine r_sipush (q := 172) (nI 244) dX12_holds_169 rfl (by decide) ?_
    refine r_iload (q := 174) dX12_holds_172 rfl rfl ?_
    refine r_iaddN (q := 175) dX12_holds_174 rfl ?_
    refine r_ialdN (q := 176) 3775 (by decide) rfl dX12_holds_175 rfl (hs.e (by decide)) (hs.n rfl (by decide)) (by omega) (by decide) ?_
    refine r_topi (y := nI ((cs.getD i zd).2)) hk2 ?_
    refine r_callV (Mc := mX12_doTree) (q := 179) (As := [zi (nI (cd (cs.getD i zd).1)), zi (nI ((cs.getD i zd).2))]) (st := []) ck12 dX12_holds_176 rfl rfl mkX12_doTree wt1992 wt1994 wp142 rfl (Nat.le_of_ble_eq_true rfl) (Nat.le_of_ble_eq_true rfl) (by decide) (by decide) (by decide) (Or.inl rfl) (hs.e (by decide)) (ok_doTreeR hs h1 h3 hP2 hP97 hnum hn7 hE (tb := tb) (way := fun i => r / w ^ i % w) htr i2 i3 i4 i5 (fun i hi => ⟨hwy i hi, by have := Nat.mod_lt (r / w ^ i) (show 0 < w by omega); show r / w ^ i % w ≤ 3; omega⟩) (D := fun j => dsA (fun t => (dvS w P e tb (fun i => r / w ^ i % w) n t).1 0 j) P cs i) (fun j hj => ⟨hD j hj, dsA_lt (by omega) i⟩)) (fun r176 S176 hp176 => ?_)
    obtain ⟨rfl, f1, hd1⟩ := hp176
    show Ok _ _ _ [] _ _
    refine r_iincN (q := 182) (L' := [some (zr 12 0), some (zi (nI l)), some (zi (nI w)), some (zi (nI p)), some (zi (nI r)), some (zi (nI x)), some (zi (nI (f + i + 1)))]) 1 rfl dX12_holds_179 rfl rfl (by decide) rfl ?_
    refine r_goto (q := 138) dX12_holds_182 (by decide) ?_
    exact ih (i + 1) S176 (by omega) (hI.fr (f1.mono (fun x y k h => by simp [tRho, tRdn, h]))) (fun i hi => (f1.1 _ _ _ rfl).trans (hwy i hi)) hd1 (fun S2 f2 h2 => K S2 (f1.tr f2) h2)

set_option maxRecDepth 100000 in
theorem lp_rh188 {S : zS} (hs : Sd S) {l w r p x : Nat} (h3 : w ≤ 3) {D : Nat → Nat} (hD : ∀ j, j < w → gI S 1389 0 j = nI (D j) ∧ D j < 97) {Po : Option zV → zS → Prop} (K : (∀ j, j < w → D j = 0) → Ok mX12_holds 212 [some (zr 12 0), some (zi (nI l)), some (zi (nI w)), some (zi (nI p)), some (zi (nI r)), some (zi (nI x)), some (zi (nI w))] [] S Po) (Kn : (∃ j, j < w ∧ D j ≠ 0) → Po (some (zi (nI 0))) S) : ∀ (d j : Nat), j + d = w → (∀ i, i < j → D i = 0) → Ok mX12_holds 188 [some (zr 12 0), some (zi (nI l)), some (zi (nI w)), some (zi (nI p)), some (zi (nI r)), some (zi (nI x)), some (zi (nI j))] [] S Po := by
  intro d
  induction d with
  | zero =>
    intro j hj hlo
    obtain rfl : w = j := by omega
    refine r_iload (q := 190) dX12_holds_188 rfl rfl ?_
    refine r_iload_n (q := 191) dX12_holds_190 rfl rfl rfl ?_
    refine r_icmp_geN (q := 194) (t := 212) (by omega) (by omega) dX12_holds_191 (by decide) rfl (fun h191 => ?_) (fun h191 => absurd h191 (by omega))
    exact K hlo
  | succ d ih =>
    intro j hj hlo
    have hjw : j < w := by omega
    have hdj := hD j hjw
    by_cases z0 : D j = 0
    · skip
      refine r_iload (q := 190) dX12_holds_188 rfl rfl ?_
      refine r_iload_n (q := 191) dX12_holds_190 rfl rfl rfl ?_
      refine r_icmp_geN (q := 194) (t := 212) (by omega) (by omega) dX12_holds_191 (by decide) rfl (fun h191 => absurd h191 (by omega)) (fun h191 => ?_)
      refine r_aload_n (q := 195) dX12_holds_194 rfl rfl rfl ?_
      refine r_getr (q := 198) (some (1389, 0)) ck12 dX12_holds_195 rfl (k := 89) (by decide) wt1367 rfl (hs.e (by decide)) (hs.r (by decide) (by decide)) ?_
      refine r_iload (q := 200) dX12_holds_198 rfl rfl ?_
      refine r_ialdN (q := 201) 3 (by decide) rfl dX12_holds_200 rfl (hs.e (by decide)) (hs.n rfl (by decide)) (by omega) (by decide) ?_
      refine r_topi (y := nI (D j)) hdj.1 ?_
      refine r_if_eqN (q := 204) (t := 206) (by omega) dX12_holds_201 (by decide) rfl (fun h201 => ?_) (fun h201 => absurd h201 (by omega))
      refine r_iincN (q := 209) (L' := [some (zr 12 0), some (zi (nI l)), some (zi (nI w)), some (zi (nI p)), some (zi (nI r)), some (zi (nI x)), some (zi (nI (j + 1)))]) 1 rfl dX12_holds_206 rfl rfl (by decide) rfl ?_
      refine r_goto (q := 188) dX12_holds_209 (by decide) ?_
      exact ih (j + 1) (by omega) (fun i hi => by by_cases e : i = j; (rw [e]; exact z0); exact hlo i (by omega))
    · skip
      refine r_iload (q := 190) dX12_holds_188 rfl rfl ?_
      refine r_iload_n (q := 191) dX12_holds_190 rfl rfl rfl ?_
      refine r_icmp_geN (q := 194) (t := 212) (by omega) (by omega) dX12_holds_191 (by decide) rfl (fun h191 => absurd h191 (by omega)) (fun h191 => ?_)
      refine r_aload_n (q := 195) dX12_holds_194 rfl rfl rfl ?_
      refine r_getr (q := 198) (some (1389, 0)) ck12 dX12_holds_195 rfl (k := 89) (by decide) wt1367 rfl (hs.e (by decide)) (hs.r (by decide) (by decide)) ?_
      refine r_iload (q := 200) dX12_holds_198 rfl rfl ?_
      refine r_ialdN (q := 201) 3 (by decide) rfl dX12_holds_200 rfl (hs.e (by decide)) (hs.n rfl (by decide)) (by omega) (by decide) ?_
      refine r_topi (y := nI (D j)) hdj.1 ?_
      refine r_if_eqN (q := 204) (t := 206) (by omega) dX12_holds_201 (by decide) rfl (fun h201 => absurd h201 (by omega)) (fun h201 => ?_)
      refine r_iconst (q := 205) (nI 0) dX12_holds_204 rfl (by decide) ?_
      refine r_ireturn dX12_holds_205 rfl ?_
      exact Kn ⟨j, hjw, z0⟩

set_option maxRecDepth 100000 in
theorem lp_rh54 {w P A n l f : Nat} {e : Nat → Nat} (hE : Eok A e) {tb : Nat → Nat → Nat} {cs : List zT} (hq : Ce A e P n cs) (hl18 : l < 18) (h1 : 1 ≤ w) (h3 : w ≤ 3) (hP2 : 2 ≤ P) (hP97 : P ≤ 97) (hn7 : n ≤ 7) (hf : f + cs.length ≤ 200) (hp9 : w ^ n ≤ 2187) : ∀ (d r : Nat) (S : zS), r + d = w ^ n → RhI S w P A n l f e tb cs → (∀ k, k < r → ∀ o, o < w → dsA (fun t => (dvS w P e tb (fun i => k / w ^ i % w) n t).1 0 o) P cs cs.length = 0) → Ok mX12_holds 54 [some (zr 12 0), some (zi (nI l)), some (zi (nI w)), some (zi (nI (w ^ n))), some (zi (nI r)), none, none] [] S (fun z S1 => Fr tRho S S1 ∧ ∃ v, v ≤ 1 ∧ z = some (zi (nI v)) ∧ (v = 1 ↔ ∀ r, r < w ^ n → ∀ o, o < w → dsA (fun t => (dvS w P e tb (fun i => r / w ^ i % w) n t).1 0 o) P cs cs.length = 0)) := by
  intro d
  induction d with
  | zero =>
    intro r S hr hI hlo
    have hs := hI.1
    obtain rfl : r = w ^ n := by omega
    refine r_iload (q := 56) dX12_holds_54 rfl rfl ?_
    refine r_iload_n (q := 57) dX12_holds_56 rfl rfl rfl ?_
    refine r_icmp_geN (q := 60) (t := 218) (by omega) (by omega) dX12_holds_57 (by decide) rfl (fun h57 => ?_) (fun h57 => absurd h57 (by omega))
    refine r_iconst (q := 219) (nI 1) dX12_holds_218 rfl (by decide) ?_
    refine r_ireturn dX12_holds_219 rfl ?_
    exact ⟨Fr.rf, 1, Nat.le_refl _, rfl, fun _ => hlo, fun _ => rfl⟩
  | succ d ih =>
    intro r S hr hI hlo
    have hrn : r < w ^ n := by omega
    obtain ⟨hs, i2, i3, i4, i5, i6, i7, i8, i9⟩ := id hI
    refine r_iload (q := 56) dX12_holds_54 rfl rfl ?_
    refine r_iload_n (q := 57) dX12_holds_56 rfl rfl rfl ?_
    refine r_icmp_geN (q := 60) (t := 218) (by omega) (by omega) dX12_holds_57 (by decide) rfl (fun h57 => absurd h57 (by omega)) (fun h57 => ?_)
    refine r_iload (q := 62) dX12_holds_60 rfl rfl ?_
    refine r_istore (q := 64) (L' := [some (zr 12 0), some (zi (nI l)), some (zi (nI w)), some (zi (nI (w ^ n))), some (zi (nI r)), some (zi (nI r)), none]) dX12_holds_62 rfl (by decide) rfl ?_
    refine r_iconst (q := 65) (nI 0) dX12_holds_64 rfl (by decide) ?_
    refine r_istore (q := 67) (L' := [some (zr 12 0), some (zi (nI l)), some (zi (nI w)), some (zi (nI (w ^ n))), some (zi (nI r)), some (zi (nI r)), some (zi (nI 0))]) dX12_holds_65 rfl (by decide) rfl ?_
    refine r_locs (L1 := [some (zr 12 0), some (zi (nI l)), some (zi (nI w)), some (zi (nI (w ^ n))), some (zi (nI r)), some (zi (nI (r / w ^ 0))), some (zi (nI 0))]) (by rw [Nat.pow_zero, Nat.div_one]) ?_
    refine lp_rh67 hl18 h1 h3 hn7 (by omega) n 0 S (by omega) hs i6 (fun i hi => absurd hi (Nat.not_lt_zero i)) (fun S2 f2 hwy2 => ?_)
    have hs2 : Sd S2 := hs.fr f2
    refine r_iconst (q := 105) (nI 0) dX12_holds_104 rfl (by decide) ?_
    refine r_istore (q := 107) (L' := [some (zr 12 0), some (zi (nI l)), some (zi (nI w)), some (zi (nI (w ^ n))), some (zi (nI r)), some (zi (nI (r / w ^ n))), some (zi (nI 0))]) dX12_holds_105 rfl (by decide) rfl ?_
    refine lp_rh107 3 0 S2 (by omega) hs2 (fun i hi => absurd hi (Nat.not_lt_zero i)) (fun S3 f3 hz3 => ?_)
    have g3 : Fr tRho S S3 := (f2.mono (fun x y k h => by simp [tWyo] at h; simp [tRho, tRdn, h])).tr (f3.mono (fun x y k h => by simp [tRds] at h; simp [tRho, tRdn, tRdt, h]))
    have hI3 := hI.fr g3
    have hs3 := hI3.1
    refine r_aload_n (q := 128) dX12_holds_127 rfl rfl rfl ?_
    refine r_getr (q := 131) (some (1306, 0)) ck12 dX12_holds_128 rfl (k := 6) (by decide) wt1284 rfl (hs3.e (by decide)) (hs3.r (by decide) (by decide)) ?_
    refine r_bipush (q := 133) (nI 25) dX12_holds_131 rfl (by decide) ?_
    refine r_iload_n (q := 134) dX12_holds_133 rfl rfl rfl ?_
    refine r_iaddN (q := 135) dX12_holds_134 rfl ?_
    refine r_ialdN (q := 136) 3775 (by decide) rfl dX12_holds_135 rfl (hs3.e (by decide)) (hs3.n rfl (by decide)) (by omega) (by decide) ?_
    refine r_topi (y := nI f) hI3.2.2.2.2.2.2.1 ?_
    refine r_istore (q := 138) (L' := [some (zr 12 0), some (zi (nI l)), some (zi (nI w)), some (zi (nI (w ^ n))), some (zi (nI r)), some (zi (nI (r / w ^ n))), some (zi (nI f))]) dX12_holds_136 rfl (by decide) rfl ?_
    refine lp_rh138 hE hq hl18 h1 h3 hP2 hP97 hn7 hf (r := r) cs.length 0 S3 (by omega) hI3 (fun i hi => (f3.1 _ _ _ rfl).trans (hwy2 i hi)) (fun j hj => hz3 j (by omega)) (fun S4 f4 hD4 => ?_)
    have g4 : Fr tRho S S4 := g3.tr (f4.mono (fun x y k h => by simp [tRho, tRdn, h]))
    have hs4 : Sd S4 := hs.fr g4
    refine r_iconst (q := 186) (nI 0) dX12_holds_185 rfl (by decide) ?_
    refine r_istore (q := 188) (L' := [some (zr 12 0), some (zi (nI l)), some (zi (nI w)), some (zi (nI (w ^ n))), some (zi (nI r)), some (zi (nI (r / w ^ n))), some (zi (nI 0))]) dX12_holds_186 rfl (by decide) rfl ?_
    refine lp_rh188 hs4 h3 (D := fun j => dsA (fun t => (dvS w P e tb (fun i => r / w ^ i % w) n t).1 0 j) P cs cs.length) (fun j hj => ⟨hD4 j hj, Nat.lt_of_lt_of_le (dsA_lt (by omega) _) hP97⟩) (fun hz => ?_) (fun hz => ⟨g4, 0, Nat.zero_le _, rfl, fun z => absurd z (by decide), fun z => by obtain ⟨j, j1, j2⟩ := hz; exact absurd (z r hrn j j1) j2⟩) w 0 (by omega) (fun i hi => absurd hi (Nat.not_lt_zero i))
    refine r_iincN (q := 215) (L' := [some (zr 12 0), some (zi (nI l)), some (zi (nI w)), some (zi (nI (w ^ n))), some (zi (nI (r + 1))), some (zi (nI (r / w ^ n))), some (zi (nI w))]) 1 rfl dX12_holds_212 rfl rfl (by decide) rfl ?_
    refine r_goto (q := 54) dX12_holds_215 (by decide) ?_
    refine r_mask [true, true, true, true, true, false, false] rfl ?_
    exact Ok.mono (ih (r + 1) S4 (by omega) (hI.fr g4) (fun k hk => by by_cases e : k = r; (rw [e]; exact hz); exact hlo k (by omega))) (fun z S5 h => ⟨g4.tr h.1, h.2⟩)

set_option maxRecDepth 100000 in
theorem rm_ho_y {S : zS} {w P A n l f : Nat} {e : Nat → Nat} (hE : Eok A e) {tb : Nat → Nat → Nat} {cs : List zT} (hq : Ce A e P n cs) (hl18 : l < 18) (h1 : 1 ≤ w) (h3 : w ≤ 3) (hP2 : 2 ≤ P) (hP97 : P ≤ 97) (hn7 : n ≤ 7) (hf : f + cs.length ≤ 200) (hI : RhI S w P A n l f e tb cs) {m : Nat} (hm : gI S 1306 0 2 = nI m) (hm18 : m ≤ 18) (hlm : l < m) : Ok mX12_holds 0 (ent 7 [zr 12 0, zi (nI l)]) [] S (fun z S1 => Fr tRho S S1 ∧ ∃ v, v ≤ 1 ∧ z = some (zi (nI v)) ∧ (v = 1 ↔ hoP w P e tb n cs)) := by
  have hs := hI.1
  have hp9 : w ^ n ≤ 2187 := Nat.le_trans (Nat.pow_le_pow_left h3 n) (Nat.le_trans (Nat.pow_le_pow_right (show 1 ≤ 3 by omega) hn7) (by decide))
  show Ok mX12_holds 0 [some (zr 12 0), some (zi (nI l)), none, none, none, none, none] [] S _
  refine r_aload_n (q := 1) dX12_holds_0 rfl rfl rfl ?_
  refine r_iconst (q := 2) (nI 0) dX12_holds_1 rfl (by decide) ?_
  refine r_puti (q := 5) ck12 dX12_holds_2 rfl (k := 0) (by decide) wt1278 (Or.inl rfl) rfl (hI.1.e (by decide)) ?_
  refine r_aload_n (q := 6) dX12_holds_5 rfl rfl rfl ?_
  refine r_iload_n (q := 7) dX12_holds_6 rfl rfl rfl ?_
  refine r_callV (Mc := mX12_isLaw) (q := 10) (As := [zi (nI l)]) (st := []) ck12 dX12_holds_7 rfl rfl mkX12_isLaw wt1677 wt1679 wp89 rfl (Nat.le_of_ble_eq_true rfl) (Nat.le_of_ble_eq_true rfl) (by decide) (by decide) (by decide) (Or.inl rfl) (hI.1.e (by decide)) (ok_X12_isLaw_in (S := sI S 12 0 0 (nI 0)) hs hm hm18 hlm) (fun r7 S7 hp7 => ?_)
  obtain ⟨rfl, hq7⟩ := hp7
  rw [hq7]
  show Ok _ _ _ [zi (nI 1)] _ _
  refine r_if_neN (q := 13) (t := 15) (by omega) dX12_holds_10 (by decide) rfl (fun h10 => ?_) (fun h10 => absurd h10 (by omega))
  refine r_aload_n (q := 16) dX12_holds_15 rfl rfl rfl ?_
  refine r_getr (q := 19) (some (1306, 0)) ck12 dX12_holds_16 rfl (k := 6) (by decide) wt1284 rfl (hI.1.e (by decide)) (hI.1.r (by decide) (by decide)) ?_
  refine r_iconst (q := 20) (nI 3) dX12_holds_19 rfl (by decide) ?_
  refine r_ialdN (q := 21) 3775 (by decide) rfl dX12_holds_20 rfl (hI.1.e (by decide)) (hI.1.n rfl (by decide)) (by omega) (by decide) ?_
  refine r_topi (y := gI S 1306 0 3) (by simp [gI_sI, gJ_sJ, gI_sJ, gJ_sI]) ?_
  refine r_topi (y := nI w) hI.2.2.2.1 ?_
  refine r_istore_n (q := 22) (L' := [some (zr 12 0), some (zi (nI l)), some (zi (nI w)), none, none, none, none]) dX12_holds_21 rfl rfl (by decide) rfl ?_
  refine r_iconst (q := 23) (nI 1) dX12_holds_22 rfl (by decide) ?_
  refine r_istore_n (q := 24) (L' := [some (zr 12 0), some (zi (nI l)), some (zi (nI w)), some (zi (nI 1)), none, none, none]) dX12_holds_23 rfl rfl (by decide) rfl ?_
  refine r_iconst (q := 25) (nI 0) dX12_holds_24 rfl (by decide) ?_
  refine r_istore (q := 27) (L' := [some (zr 12 0), some (zi (nI l)), some (zi (nI w)), some (zi (nI 1)), some (zi (nI 0)), none, none]) dX12_holds_25 rfl (by decide) rfl ?_
  have f1 : Fr tRho S (sI S 12 0 0 (nI 0)) := Fr.rf.i (by simp [tRho])
  have hI1 := hI.fr f1
  have hs1 := hI1.1
  refine r_locs (L1 := [some (zr 12 0), some (zi (nI l)), some (zi (nI w)), some (zi (nI (w ^ 0))), some (zi (nI 0)), none, none]) (by rw [Nat.pow_zero]) ?_
  refine lp_rh27 hs1 hl18 h1 h3 hn7 hI1.2.2.2.2.2.1 ?_ n 0 (by omega)
  refine r_iconst (q := 52) (nI 0) dX12_holds_51 rfl (by decide) ?_
  refine r_istore (q := 54) (L' := [some (zr 12 0), some (zi (nI l)), some (zi (nI w)), some (zi (nI (w ^ n))), some (zi (nI 0)), none, none]) dX12_holds_52 rfl (by decide) rfl ?_
  exact Ok.mono (lp_rh54 hE hq hl18 h1 h3 hP2 hP97 hn7 hf hp9 (w ^ n) 0 _ (by omega) hI1 (fun k hk => absurd hk (Nat.not_lt_zero k))) (fun z S5 h => ⟨f1.tr h.1, by obtain ⟨v, v1, v2, v3⟩ := h.2; exact ⟨v, v1, v2, v3.trans (hoP_r (by omega) (fun k hk => (hq.1.2 _ (mem_getD hk)).1)).symm⟩⟩)

set_option maxRecDepth 100000 in
theorem rm_ho_n {S : zS} (hs : Sd S) {m : Nat} (hm : gI S 1306 0 2 = nI m) (hm18 : m ≤ 18) {a : Int32} (ha : ¬ (0 ≤ a ∧ a < nI m)) : Ok mX12_holds 0 (ent 7 [zr 12 0, zi a]) [] S (fun r S1 => r = some (zi (-1)) ∧ Fr tRho S S1) := by
  show Ok mX12_holds 0 [some (zr 12 0), some (zi a), none, none, none, none, none] [] S _
  refine r_aload_n (q := 1) dX12_holds_0 rfl rfl rfl ?_
  refine r_iconst (q := 2) (nI 0) dX12_holds_1 rfl (by decide) ?_
  refine r_puti (q := 5) ck12 dX12_holds_2 rfl (k := 0) (by decide) wt1278 (Or.inl rfl) rfl (hs.e (by decide)) ?_
  refine r_aload_n (q := 6) dX12_holds_5 rfl rfl rfl ?_
  refine r_iload_n (q := 7) dX12_holds_6 rfl rfl rfl ?_
  refine r_callV (Mc := mX12_isLaw) (q := 10) (As := [zi a]) (st := []) ck12 dX12_holds_7 rfl rfl mkX12_isLaw wt1677 wt1679 wp89 rfl (Nat.le_of_ble_eq_true rfl) (Nat.le_of_ble_eq_true rfl) (by decide) (by decide) (by decide) (Or.inl rfl) (hs.e (by decide)) (ok_X12_isLaw_out (S := sI S 12 0 0 (nI 0)) hs hm hm18 ha) (fun r7 S7 hp7 => ?_)
  obtain ⟨rfl, hq7⟩ := hp7
  rw [hq7]
  show Ok _ _ _ [zi (nI 0)] _ _
  refine r_if_neN (q := 13) (t := 15) (by omega) dX12_holds_10 (by decide) rfl (fun h10 => absurd h10 (by omega)) (fun h10 => ?_)
  refine r_iconst (q := 14) ((-1 : Int32)) dX12_holds_13 rfl (by decide) ?_
  refine r_ireturn dX12_holds_14 rfl ?_
  exact ⟨rfl, Fr.rf.i (by simp [tRho])⟩

