/-! doing -/
/-- the product along a place's digits -/
def cfP (w P : Nat) (v : Nat → Nat → Nat) (sz : Nat) : Nat → Nat → Nat → Nat
  | 0, _, a => a
  | k + 1, t, a => cfP w P v sz k (t / w) (a * v (sz - (k + 1)) (t % w) % P)
theorem cfP_zero {w P : Nat} {v : Nat → Nat → Nat} {sz : Nat} : ∀ (k t : Nat), cfP w P v sz k t 0 = 0
  | 0, _ => rfl
  | k + 1, t => by rw [cfP, Nat.zero_mul, Nat.zero_mod]; exact cfP_zero k _
theorem cfP_lt {w P : Nat} (hP : 0 < P) {v : Nat → Nat → Nat} {sz : Nat} : ∀ (k t a : Nat), a < P → cfP w P v sz k t a < P
  | 0, _, _, h => h
  | k + 1, t, a, _ => cfP_lt hP k _ _ (Nat.mod_lt _ hP)
def oaP (w P : Nat) (v : Nat → Nat → Nat) (sz e : Nat) (tb : Nat → Nat) : Nat → Nat → Nat
  | 0, _ => 0
  | T + 1, j => (oaP w P v sz e tb T j + cfP w P v sz e T 1 * tb (T * w + j)) % P
theorem oaP_lt {w P : Nat} (hP : 0 < P) {v : Nat → Nat → Nat} {sz e : Nat} {tb : Nat → Nat} : ∀ (T j : Nat), oaP w P v sz e tb T j < P
  | 0, _ => hP
  | _ + 1, _ => Nat.mod_lt _ hP
theorem oaP_skip {w P : Nat} (hP : 0 < P) {v : Nat → Nat → Nat} {sz e : Nat} {tb : Nat → Nat} {T j : Nat} (h : cfP w P v sz e T 1 = 0) : oaP w P v sz e tb (T + 1) j = oaP w P v sz e tb T j := by
  rw [oaP, h, Nat.zero_mul, Nat.add_zero, Nat.mod_eq_of_lt (oaP_lt hP T j)]
theorem pw_le {w e : Nat} (h1 : 1 ≤ w) (h3 : w ≤ 3) {n : Nat} (he : e ≤ n) : w ^ e ≤ 3 ^ n := Nat.le_trans (Nat.pow_le_pow_right h1 he) (Nat.pow_le_pow_left h3 n)
theorem tw_lt {w e T j : Nat} (h1 : 1 ≤ w) (h3 : w ≤ 3) (he : e ≤ 4) (hT : T < w ^ e) (hj : j < w) : T * w + j < 243 := by
  have a : (T + 1) * w ≤ w ^ e * w := Nat.mul_le_mul_right w hT
  have b : w ^ e * w ≤ 3 ^ 5 := by rw [← Nat.pow_succ]; exact pw_le h1 h3 (by omega)
  rw [Nat.succ_mul] at a
  omega
/-- the class's rows on the stack -/
def CSt (S : zS) (w P : Nat) (v : Nat → Nat → Nat) (sz : Nat) : Prop := ∀ p j, p < sz → j < w → gI S 204 0 (p * w + j) = nI (v p j) ∧ v p j < P
theorem pw_ix {w p j sz : Nat} (h3 : w ≤ 3) (hp : p < sz) (hj : j < w) (hs : sz ≤ 13) : p * w + j < 39 := by
  have a : (p + 1) * w ≤ 13 * 3 := Nat.mul_le_mul (by omega) h3
  rw [Nat.succ_mul] at a
  omega

set_option maxRecDepth 100000 in
theorem lp_pow {b n : Nat} (h1 : 1 ≤ b) (h3 : b ≤ 3) (hn : n ≤ 8) {S : zS} : ∀ (d i : Nat), i + d = n → Ok mX11_power 4 [some (zi (nI b)), some (zi (nI n)), some (zi (nI (b ^ i))), some (zi (nI i))] [] S (fun r S1 => r = some (zi (nI (b ^ n))) ∧ S1 = S) := by
  intro d
  induction d with
  | zero =>
    intro i hi
    obtain rfl : i = n := by omega
    refine r_iload_n (q := 5) dX11_power_4 rfl rfl rfl ?_
    refine r_iload_n (q := 6) dX11_power_5 rfl rfl rfl ?_
    refine r_icmp_geN (q := 9) (t := 19) (by omega) (by omega) dX11_power_6 (by decide) rfl (fun h6 => ?_) (fun h6 => absurd h6 (by omega))
    refine r_iload_n (q := 20) dX11_power_19 rfl rfl rfl ?_
    refine r_ireturn dX11_power_20 rfl ?_
    exact ⟨rfl, rfl⟩
  | succ d ih =>
    intro i hi
    refine r_iload_n (q := 5) dX11_power_4 rfl rfl rfl ?_
    refine r_iload_n (q := 6) dX11_power_5 rfl rfl rfl ?_
    refine r_icmp_geN (q := 9) (t := 19) (by omega) (by omega) dX11_power_6 (by decide) rfl (fun h6 => absurd h6 (by omega)) (fun h6 => ?_)
    refine r_iload_n (q := 10) dX11_power_9 rfl rfl rfl ?_
    refine r_iload_n (q := 11) dX11_power_10 rfl rfl rfl ?_
    refine r_imulN (q := 12) dX11_power_11 rfl ?_
    refine r_istore_n (q := 13) (L' := [some (zi (nI b)), some (zi (nI n)), some (zi (nI ((b ^ i) * b))), some (zi (nI i))]) dX11_power_12 rfl rfl (by decide) rfl ?_
    refine r_iincN (q := 16) (L' := [some (zi (nI b)), some (zi (nI n)), some (zi (nI ((b ^ i) * b))), some (zi (nI (i + 1)))]) 1 rfl dX11_power_13 rfl rfl (by decide) rfl ?_
    refine r_goto (q := 4) dX11_power_16 (by decide) ?_
    rw [← Nat.pow_succ]
    exact ih (i + 1) (by omega)

set_option maxRecDepth 100000 in
theorem ok_pow {S : zS} {b n : Nat} (h1 : 1 ≤ b) (h3 : b ≤ 3) (hn : n ≤ 8) : Ok mX11_power 0 (ent 4 [zi (nI b), zi (nI n)]) [] S (fun r S1 => r = some (zi (nI (b ^ n))) ∧ S1 = S) := by
  show Ok mX11_power 0 [some (zi (nI b)), some (zi (nI n)), none, none] [] S _
  refine r_iconst (q := 1) (nI 1) dX11_power_0 rfl (by decide) ?_
  refine r_istore_n (q := 2) (L' := [some (zi (nI b)), some (zi (nI n)), some (zi (nI 1)), none]) dX11_power_1 rfl rfl (by decide) rfl ?_
  refine r_iconst (q := 3) (nI 0) dX11_power_2 rfl (by decide) ?_
  refine r_istore_n (q := 4) (L' := [some (zi (nI b)), some (zi (nI n)), some (zi (nI 1)), some (zi (nI 0))]) dX11_power_3 rfl rfl (by decide) rfl ?_
  exact lp_pow h1 h3 hn n 0 (by omega)

set_option maxRecDepth 100000 in
theorem lp_da59 {c a sz w e P : Nat} (hc4 : c < 4) (ha3 : a < 3) (hsz : sz ≤ 13) (hesz : e ≤ sz) (he4 : e ≤ 4) (h1 : 1 ≤ w) (h3 : w ≤ 3) (hP2 : 2 ≤ P) (hP97 : P ≤ 97) {v : Nat → Nat → Nat} {S : zS} (hs : Sd S) (hp0 : gI S 9 c 0 = nI P) (hv : CSt S w P v sz) {T : Nat} {Po : Option zV → zS → Prop} (K : Ok mX1_doAct 138 [some (zr 1 0), some (zr 9 c), some (zi (nI a)), some (zr 7 0), some (zi (nI sz)), some (zi (nI w)), some (zi (nI e)), some (zi (nI (w ^ e))), some (zi (nI T)), some (zi (nI (cfP w P v sz e T 1))), none, none, none] [] S Po) : ∀ (k t x : Nat), k ≤ e → t < 81 → x < P → cfP w P v sz k t x = cfP w P v sz e T 1 → Ok mX1_doAct 59 [some (zr 1 0), some (zr 9 c), some (zi (nI a)), some (zr 7 0), some (zi (nI sz)), some (zi (nI w)), some (zi (nI e)), some (zi (nI (w ^ e))), some (zi (nI T)), some (zi (nI x)), some (zi (nI t)), some (zi (nI k)), none] [] S Po := by
  have hwe : w ^ e ≤ 81 := pw_le h1 h3 he4
  intro k
  induction k with
  | zero =>
    intro t x hk ht hx hr
    obtain rfl : x = cfP w P v sz e T 1 := hr
    refine r_iload (q := 61) dX1_doAct_59 rfl rfl ?_
    refine r_iconst (q := 62) (nI 1) dX1_doAct_61 rfl (by decide) ?_
    refine r_icmp_ltN (q := 65) (t := 138) (by omega) (by omega) dX1_doAct_62 (by decide) rfl (fun h62 => ?_) (fun h62 => absurd h62 (by omega))
    refine r_mask [true, true, true, true, true, true, true, true, true, true, false, false, false] rfl ?_
    exact K
  | succ k ih =>
    intro t x hk ht hx hr
    by_cases hx0 : x = 0
    · subst hx0
      rw [cfP_zero] at hr
      refine r_iload (q := 61) dX1_doAct_59 rfl rfl ?_
      refine r_iconst (q := 62) (nI 1) dX1_doAct_61 rfl (by decide) ?_
      refine r_icmp_ltN (q := 65) (t := 138) (by omega) (by omega) dX1_doAct_62 (by decide) rfl (fun h62 => absurd h62 (by omega)) (fun h62 => ?_)
      refine r_iload (q := 67) dX1_doAct_65 rfl rfl ?_
      refine r_if_eqN (q := 70) (t := 138) (by omega) dX1_doAct_67 (by decide) rfl (fun h67 => ?_) (fun h67 => absurd h67 (by omega))
      rw [← hr] at K
      refine r_mask [true, true, true, true, true, true, true, true, true, true, false, false, false] rfl ?_
      exact K
    · have hm : t % w < w := Nat.mod_lt _ h1
      obtain ⟨z1, z2⟩ := hv (sz - (k + 1)) (t % w) (by omega) hm
      have hix := pw_ix h3 (show sz - (k + 1) < sz by omega) hm hsz
      have hdl : t / w ≤ t := Nat.div_le_self _ _
      have hmul : x * v (sz - (k + 1)) (t % w) ≤ 97 * 97 := Nat.mul_le_mul (by omega) (by omega)
      refine r_iload (q := 61) dX1_doAct_59 rfl rfl ?_
      refine r_iconst (q := 62) (nI 1) dX1_doAct_61 rfl (by decide) ?_
      refine r_icmp_ltN (q := 65) (t := 138) (by omega) (by omega) dX1_doAct_62 (by decide) rfl (fun h62 => absurd h62 (by omega)) (fun h62 => ?_)
      refine r_iload (q := 67) dX1_doAct_65 rfl rfl ?_
      refine r_if_eqN (q := 70) (t := 138) (by omega) dX1_doAct_67 (by decide) rfl (fun h67 => absurd h67 (by omega)) (fun h67 => ?_)
      refine r_iload (q := 72) dX1_doAct_70 rfl rfl ?_
      refine r_iconst (q := 73) (nI 1) dX1_doAct_72 rfl (by decide) ?_
      refine r_icmp_geN (q := 76) (t := 80) (by omega) (by omega) dX1_doAct_73 (by decide) rfl (fun h73 => ?_) (fun h73 => absurd h73 (by omega))
      refine r_iload (q := 82) dX1_doAct_80 rfl rfl ?_
      refine r_iload (q := 84) dX1_doAct_82 rfl rfl ?_
      refine r_iremN (q := 85) (by omega) (by omega) (by omega) dX1_doAct_84 rfl ?_
      refine r_istore (q := 87) (L' := [some (zr 1 0), some (zr 9 c), some (zi (nI a)), some (zr 7 0), some (zi (nI sz)), some (zi (nI w)), some (zi (nI e)), some (zi (nI (w ^ e))), some (zi (nI T)), some (zi (nI x)), some (zi (nI t)), some (zi (nI (k + 1))), some (zi (nI (t % w)))]) dX1_doAct_85 rfl (by decide) rfl ?_
      refine r_iload (q := 89) dX1_doAct_87 rfl rfl ?_
      refine r_iconst (q := 90) (nI 1) dX1_doAct_89 rfl (by decide) ?_
      refine r_icmp_geN (q := 93) (t := 97) (by omega) (by omega) dX1_doAct_90 (by decide) rfl (fun h90 => ?_) (fun h90 => absurd h90 (by omega))
      refine r_iload (q := 99) dX1_doAct_97 rfl rfl ?_
      refine r_iload (q := 101) dX1_doAct_99 rfl rfl ?_
      refine r_idivN (q := 102) (by omega) (by omega) (by omega) dX1_doAct_101 rfl ?_
      refine r_istore (q := 104) (L' := [some (zr 1 0), some (zr 9 c), some (zi (nI a)), some (zr 7 0), some (zi (nI sz)), some (zi (nI w)), some (zi (nI e)), some (zi (nI (w ^ e))), some (zi (nI T)), some (zi (nI x)), some (zi (nI (t / w))), some (zi (nI (k + 1))), some (zi (nI (t % w)))]) dX1_doAct_102 rfl (by decide) rfl ?_
      refine r_iload (q := 106) dX1_doAct_104 rfl rfl ?_
      refine r_aload_n (q := 107) dX1_doAct_106 rfl rfl rfl ?_
      refine r_getr (q := 110) (some (204, 0)) ck1 dX1_doAct_107 rfl (k := 4) (by decide) wt232 rfl (hs.e (by decide)) (hs.r (by decide) (by decide)) ?_
      refine r_iload (q := 112) dX1_doAct_110 rfl rfl ?_
      refine r_iload (q := 114) dX1_doAct_112 rfl rfl ?_
      refine r_isubN (q := 115) (by omega) dX1_doAct_114 rfl ?_
      refine r_iload (q := 117) dX1_doAct_115 rfl rfl ?_
      refine r_imulN (q := 118) dX1_doAct_117 rfl ?_
      refine r_iload (q := 120) dX1_doAct_118 rfl rfl ?_
      refine r_iaddN (q := 121) dX1_doAct_120 rfl ?_
      refine r_ialdN (q := 122) 39 (by decide) rfl dX1_doAct_121 rfl (hs.e (by decide)) (hs.n rfl (by decide)) (by omega) (by decide) ?_
      refine r_topi (y := nI (v (sz - (k + 1)) (t % w))) z1 ?_
      refine r_imulN (q := 123) dX1_doAct_122 rfl ?_
      refine r_aload_n (q := 124) dX1_doAct_123 rfl rfl rfl ?_
      refine r_geti (q := 127) ck9 dX1_doAct_124 rfl (k := 0) (by decide) wt291 (Or.inl rfl) (hs.e (show c < 4 by omega)) ?_
      refine r_topi (y := nI P) hp0 ?_
      refine r_callSN (Mc := mX11_rest) (q := 130) (As := [zi (nI (x * (v (sz - (k + 1)) (t % w)))), zi (nI P)]) (st := []) dX1_doAct_127 rfl rfl mkX11_rest wn1124 wt614 rfl (Nat.le_of_ble_eq_true rfl) (Nat.le_of_ble_eq_true rfl) (by decide) (by decide) (by decide) (Or.inl rfl) hs.some (ok_X11_rest (by omega) hP2 (by omega)) (fun r127 S127 hp127 => ?_)
      obtain ⟨rfl, hq127⟩ := hp127
      rw [hq127]
      show Ok _ _ _ [zi (nI ((x * (v (sz - (k + 1)) (t % w))) % P))] _ _
      refine r_istore (q := 132) (L' := [some (zr 1 0), some (zr 9 c), some (zi (nI a)), some (zr 7 0), some (zi (nI sz)), some (zi (nI w)), some (zi (nI e)), some (zi (nI (w ^ e))), some (zi (nI T)), some (zi (nI ((x * (v (sz - (k + 1)) (t % w))) % P))), some (zi (nI (t / w))), some (zi (nI (k + 1))), some (zi (nI (t % w)))]) dX1_doAct_130 rfl (by decide) rfl ?_
      refine r_idecN (q := 135) (L' := [some (zr 1 0), some (zr 9 c), some (zi (nI a)), some (zr 7 0), some (zi (nI sz)), some (zi (nI w)), some (zi (nI e)), some (zi (nI (w ^ e))), some (zi (nI T)), some (zi (nI ((x * (v (sz - (k + 1)) (t % w))) % P))), some (zi (nI (t / w))), some (zi (nI (k + 1 - 1))), some (zi (nI (t % w)))]) 1 (by omega) rfl dX1_doAct_132 rfl rfl (by decide) rfl ?_
      refine r_goto (q := 59) dX1_doAct_135 (by decide) ?_
      refine r_mask [true, true, true, true, true, true, true, true, true, true, true, true, false] rfl ?_
      exact ih (t / w) _ (by omega) (by omega) (Nat.mod_lt _ (by omega)) hr

def tDa (x y _k : Nat) : Bool := x == 205 && y == 0
/-- an act's table, as the class holds it -/
def TbC (S : zS) (a P : Nat) (tb : Nat → Nat) : Prop := ∀ i, i < 243 → gI S 801 0 (a * 243 + i) = nI (tb i) ∧ tb i < P
theorem CSt.da {S S1 : zS} {w P sz : Nat} {v : Nat → Nat → Nat} (h : CSt S w P v sz) (f : Fr tDa S S1) : CSt S1 w P v sz := fun p j a b => ⟨(f.1 _ _ _ rfl).trans (h p j a b).1, (h p j a b).2⟩
theorem TbC.fr {S S1 : zS} {a P : Nat} {tb : Nat → Nat} (h : TbC S a P tb) {U : Nat → Nat → Nat → Bool} (f : Fr U S S1) (t : ∀ k, U 801 0 k = false) : TbC S1 a P tb := fun i hi => ⟨(f.1 _ _ _ (t _)).trans (h i hi).1, (h i hi).2⟩

set_option maxRecDepth 100000 in
theorem lp_da141 {c a sz w e P : Nat} (hc4 : c < 4) (ha3 : a < 3) (hsz : sz ≤ 13) (hesz : e ≤ sz) (he4 : e ≤ 4) (h1 : 1 ≤ w) (h3 : w ≤ 3) (hP2 : 2 ≤ P) (hP97 : P ≤ 97) {v : Nat → Nat → Nat} {tb : Nat → Nat} {T x : Nat} (hT : T < w ^ e) (hx : x = cfP w P v sz e T 1) {Po : Option zV → zS → Prop} : ∀ (d j : Nat) (S : zS), j + d = w → Sd S → gI S 9 c 0 = nI P → TbC S a P tb → (∀ i, i < j → gI S 205 0 i = nI (oaP w P v sz e tb (T + 1) i)) → (∀ i, j ≤ i → i < w → gI S 205 0 i = nI (oaP w P v sz e tb T i)) → (∀ S1, Fr tDa S S1 → (∀ i, i < w → gI S1 205 0 i = nI (oaP w P v sz e tb (T + 1) i)) → Ok mX1_doAct 197 [some (zr 1 0), some (zr 9 c), some (zi (nI a)), some (zr 7 0), some (zi (nI sz)), some (zi (nI w)), some (zi (nI e)), some (zi (nI (w ^ e))), some (zi (nI T)), some (zi (nI x)), none, none, none] [] S1 Po) → Ok mX1_doAct 141 [some (zr 1 0), some (zr 9 c), some (zi (nI a)), some (zr 7 0), some (zi (nI sz)), some (zi (nI w)), some (zi (nI e)), some (zi (nI (w ^ e))), some (zi (nI T)), some (zi (nI x)), none, some (zi (nI j)), none] [] S Po := by
  have hwe : w ^ e ≤ 81 := pw_le h1 h3 he4
  have hxP : x < P := by rw [hx]; exact cfP_lt (by omega) _ _ _ (by omega)
  intro d
  induction d with
  | zero =>
    intro j S hj hs hp0 hT1 hlo hhi K
    obtain rfl : w = j := by omega
    refine r_iload (q := 143) dX1_doAct_141 rfl rfl ?_
    refine r_iload (q := 145) dX1_doAct_143 rfl rfl ?_
    refine r_icmp_geN (q := 148) (t := 197) (by omega) (by omega) dX1_doAct_145 (by decide) rfl (fun h145 => ?_) (fun h145 => absurd h145 (by omega))
    refine r_mask [true, true, true, true, true, true, true, true, true, true, true, false, true] rfl ?_
    exact K S Fr.rf hlo
  | succ d ih =>
    intro j S hj hs hp0 hT1 hlo hhi K
    by_cases hx0 : x = 0
    · subst hx0
      refine r_iload (q := 143) dX1_doAct_141 rfl rfl ?_
      refine r_iload (q := 145) dX1_doAct_143 rfl rfl ?_
      refine r_icmp_geN (q := 148) (t := 197) (by omega) (by omega) dX1_doAct_145 (by decide) rfl (fun h145 => absurd h145 (by omega)) (fun h145 => ?_)
      refine r_iload (q := 150) dX1_doAct_148 rfl rfl ?_
      refine r_if_eqN (q := 153) (t := 197) (by omega) dX1_doAct_150 (by decide) rfl (fun h150 => ?_) (fun h150 => absurd h150 (by omega))
      refine r_mask [true, true, true, true, true, true, true, true, true, true, true, false, true] rfl ?_
      exact K S Fr.rf (fun i hi => (Nat.lt_or_ge i j).elim (hlo i) (fun z => by rw [oaP_skip (by omega) hx.symm]; exact hhi i z hi))
    · have htw := tw_lt h1 h3 he4 hT (show j < w by omega)
      obtain ⟨tb1, tb2⟩ := hT1 (T * w + j) htw
      have hr := hhi j (Nat.le_refl _) (by omega)
      have hro := oaP_lt (w := w) (P := P) (v := v) (sz := sz) (e := e) (tb := tb) (by omega) T j
      have hmul : x * tb (T * w + j) ≤ 97 * 97 := Nat.mul_le_mul (by omega) (by omega)
      have f1 : Fr tDa S (sI S 205 0 j (nI ((oaP w P v sz e tb T j + x * tb (T * w + j)) % P))) := (Fr.rf).i rfl
      refine r_iload (q := 143) dX1_doAct_141 rfl rfl ?_
      refine r_iload (q := 145) dX1_doAct_143 rfl rfl ?_
      refine r_icmp_geN (q := 148) (t := 197) (by omega) (by omega) dX1_doAct_145 (by decide) rfl (fun h145 => absurd h145 (by omega)) (fun h145 => ?_)
      refine r_iload (q := 150) dX1_doAct_148 rfl rfl ?_
      refine r_if_eqN (q := 153) (t := 197) (by omega) dX1_doAct_150 (by decide) rfl (fun h150 => absurd h150 (by omega)) (fun h150 => ?_)
      refine r_aload_n (q := 154) dX1_doAct_153 rfl rfl rfl ?_
      refine r_getr (q := 157) (some (205, 0)) ck1 dX1_doAct_154 rfl (k := 5) (by decide) wt233 rfl (hs.e (by decide)) (hs.r (by decide) (by decide)) ?_
      refine r_iload (q := 159) dX1_doAct_157 rfl rfl ?_
      refine r_aload_n (q := 160) dX1_doAct_159 rfl rfl rfl ?_
      refine r_getr (q := 163) (some (205, 0)) ck1 dX1_doAct_160 rfl (k := 5) (by decide) wt233 rfl (hs.e (by decide)) (hs.r (by decide) (by decide)) ?_
      refine r_iload (q := 165) dX1_doAct_163 rfl rfl ?_
      refine r_ialdN (q := 166) 3 (by decide) rfl dX1_doAct_165 rfl (hs.e (by decide)) (hs.n rfl (by decide)) (by omega) (by decide) ?_
      refine r_topi (y := nI (oaP w P v sz e tb T j)) hr ?_
      refine r_iload (q := 168) dX1_doAct_166 rfl rfl ?_
      refine r_aload_n (q := 169) dX1_doAct_168 rfl rfl rfl ?_
      refine r_iload_n (q := 170) dX1_doAct_169 rfl rfl rfl ?_
      refine r_iload (q := 172) dX1_doAct_170 rfl rfl ?_
      refine r_iload (q := 174) dX1_doAct_172 rfl rfl ?_
      refine r_imulN (q := 175) dX1_doAct_174 rfl ?_
      refine r_iload (q := 177) dX1_doAct_175 rfl rfl ?_
      refine r_iaddN (q := 178) dX1_doAct_177 rfl ?_
      refine r_callV (Mc := mX7_get) (q := 181) (As := [zi (nI a), zi (nI ((T * w) + j))]) (st := [zi (nI x), zi (nI (oaP w P v sz e tb T j)), zi (nI j), zr 205 0]) ck7 dX1_doAct_178 rfl rfl mkX7_get wt1120 wt1121 wt1122 rfl (Nat.le_of_ble_eq_true rfl) (Nat.le_of_ble_eq_true rfl) (by decide) (by decide) (by decide) (Or.inl rfl) (hs.e (by decide)) (ok_X7_get hs (by omega) ha3 htw) (fun r178 S178 hp178 => ?_)
      rw [tb1] at hp178
      obtain ⟨rfl, hq178⟩ := hp178
      rw [hq178]
      show Ok _ _ _ [zi (nI (tb (T * w + j))), zi (nI x), zi (nI (oaP w P v sz e tb T j)), zi (nI j), zr 205 0] _ _
      refine r_imulN (q := 182) dX1_doAct_181 rfl ?_
      refine r_iaddN (q := 183) dX1_doAct_182 rfl ?_
      refine r_aload_n (q := 184) dX1_doAct_183 rfl rfl rfl ?_
      refine r_geti (q := 187) ck9 dX1_doAct_184 rfl (k := 0) (by decide) wt291 (Or.inl rfl) (hs.e (show c < 4 by omega)) ?_
      refine r_topi (y := nI P) hp0 ?_
      refine r_callSN (Mc := mX11_rest) (q := 190) (As := [zi (nI ((oaP w P v sz e tb T j) + (x * (tb (T * w + j))))), zi (nI P)]) (st := [zi (nI j), zr 205 0]) dX1_doAct_187 rfl rfl mkX11_rest wn1124 wt614 rfl (Nat.le_of_ble_eq_true rfl) (Nat.le_of_ble_eq_true rfl) (by decide) (by decide) (by decide) (Or.inl rfl) hs.some (ok_X11_rest (by omega) hP2 (by omega)) (fun r187 S187 hp187 => ?_)
      obtain ⟨rfl, hq187⟩ := hp187
      rw [hq187]
      show Ok _ _ _ [zi (nI (((oaP w P v sz e tb T j) + (x * (tb (T * w + j)))) % P)), zi (nI j), zr 205 0] _ _
      refine r_iastN (q := 191) 3 (by decide) rfl dX1_doAct_190 rfl (hs.e (by decide)) (hs.n rfl (by decide)) (by omega) (by decide) ?_
      refine r_iincN (q := 194) (L' := [some (zr 1 0), some (zr 9 c), some (zi (nI a)), some (zr 7 0), some (zi (nI sz)), some (zi (nI w)), some (zi (nI e)), some (zi (nI (w ^ e))), some (zi (nI T)), some (zi (nI x)), none, some (zi (nI (j + 1))), none]) 1 rfl dX1_doAct_191 rfl rfl (by decide) rfl ?_
      refine r_goto (q := 141) dX1_doAct_194 (by decide) ?_
      refine ih (j + 1) (sI S 205 0 j (nI ((oaP w P v sz e tb T j + x * tb (T * w + j)) % P))) (by omega) (hs.fr f1) hp0 (hT1.fr f1 (fun _ => rfl)) (fun i hi => ?_) (fun i a b => ?_) (fun S1 g h => K S1 (f1.tr g) h)
      · rw [gI_sI]
        by_cases e1 : i = j
        · rw [if_pos ⟨rfl, rfl, e1⟩, e1, oaP, ← hx]
        · rw [if_neg (by omega)]; exact hlo i (by omega)
      · rw [gI_sI, if_neg (by omega)]; exact hhi i (by omega) b

set_option maxRecDepth 100000 in
theorem lp_da34 {c a sz w e P : Nat} (hc4 : c < 4) (ha3 : a < 3) (hsz : sz ≤ 13) (hesz : e ≤ sz) (he4 : e ≤ 4) (h1 : 1 ≤ w) (h3 : w ≤ 3) (hP2 : 2 ≤ P) (hP97 : P ≤ 97) {v : Nat → Nat → Nat} {tb : Nat → Nat} : ∀ (d T : Nat) (S : zS), T + d = w ^ e → Sd S → gI S 9 c 0 = nI P → CSt S w P v sz → TbC S a P tb → (∀ i, i < w → gI S 205 0 i = nI (oaP w P v sz e tb T i)) → Ok mX1_doAct 34 [some (zr 1 0), some (zr 9 c), some (zi (nI a)), some (zr 7 0), some (zi (nI sz)), some (zi (nI w)), some (zi (nI e)), some (zi (nI (w ^ e))), some (zi (nI T)), none, none, none, none] [] S (fun r S1 => r = none ∧ Fr tDa S S1 ∧ ∀ i, i < w → gI S1 205 0 i = nI (oaP w P v sz e tb (w ^ e) i)) := by
  have hwe : w ^ e ≤ 81 := pw_le h1 h3 he4
  intro d
  induction d with
  | zero =>
    intro T S hT hs hp0 hv hT1 hr
    have eT : T = w ^ e := by omega
    refine r_iload (q := 36) dX1_doAct_34 rfl rfl ?_
    refine r_iload (q := 38) dX1_doAct_36 rfl rfl ?_
    refine r_icmp_geN (q := 41) (t := 203) (by omega) (by omega) dX1_doAct_38 (by decide) rfl (fun h38 => ?_) (fun h38 => absurd h38 (by omega))
    refine r_return dX1_doAct_203 rfl ?_
    exact ⟨rfl, Fr.rf, by rw [← eT]; exact hr⟩
  | succ d ih =>
    intro T S hT hs hp0 hv hT1 hr
    refine r_iload (q := 36) dX1_doAct_34 rfl rfl ?_
    refine r_iload (q := 38) dX1_doAct_36 rfl rfl ?_
    refine r_icmp_geN (q := 41) (t := 203) (by omega) (by omega) dX1_doAct_38 (by decide) rfl (fun h38 => absurd h38 (by omega)) (fun h38 => ?_)
    refine r_iload (q := 43) dX1_doAct_41 rfl rfl ?_
    refine r_iload (q := 45) dX1_doAct_43 rfl rfl ?_
    refine r_icmp_ltN (q := 48) (t := 203) (by omega) (by omega) dX1_doAct_45 (by decide) rfl (fun h45 => absurd h45 (by omega)) (fun h45 => ?_)
    refine r_iconst (q := 49) (nI 1) dX1_doAct_48 rfl (by decide) ?_
    refine r_istore (q := 51) (L' := [some (zr 1 0), some (zr 9 c), some (zi (nI a)), some (zr 7 0), some (zi (nI sz)), some (zi (nI w)), some (zi (nI e)), some (zi (nI (w ^ e))), some (zi (nI T)), some (zi (nI 1)), none, none, none]) dX1_doAct_49 rfl (by decide) rfl ?_
    refine r_iload (q := 53) dX1_doAct_51 rfl rfl ?_
    refine r_istore (q := 55) (L' := [some (zr 1 0), some (zr 9 c), some (zi (nI a)), some (zr 7 0), some (zi (nI sz)), some (zi (nI w)), some (zi (nI e)), some (zi (nI (w ^ e))), some (zi (nI T)), some (zi (nI 1)), some (zi (nI T)), none, none]) dX1_doAct_53 rfl (by decide) rfl ?_
    refine r_iload (q := 57) dX1_doAct_55 rfl rfl ?_
    refine r_istore (q := 59) (L' := [some (zr 1 0), some (zr 9 c), some (zi (nI a)), some (zr 7 0), some (zi (nI sz)), some (zi (nI w)), some (zi (nI e)), some (zi (nI (w ^ e))), some (zi (nI T)), some (zi (nI 1)), some (zi (nI T)), some (zi (nI e)), none]) dX1_doAct_57 rfl (by decide) rfl ?_
    refine lp_da59 hc4 ha3 hsz hesz he4 h1 h3 hP2 hP97 hs hp0 hv ?_ e T 1 (Nat.le_refl _) (by omega) (by omega) rfl
    refine r_iconst (q := 139) (nI 0) dX1_doAct_138 rfl (by decide) ?_
    refine r_istore (q := 141) (L' := [some (zr 1 0), some (zr 9 c), some (zi (nI a)), some (zr 7 0), some (zi (nI sz)), some (zi (nI w)), some (zi (nI e)), some (zi (nI (w ^ e))), some (zi (nI T)), some (zi (nI (cfP w P v sz e T 1))), none, some (zi (nI 0)), none]) dX1_doAct_139 rfl (Nat.le_of_ble_eq_true rfl) rfl ?_
    refine lp_da141 hc4 ha3 hsz hesz he4 h1 h3 hP2 hP97 (show T < w ^ e by omega) rfl w 0 S (by omega) hs hp0 hT1 (fun i hi => absurd hi (by omega)) (fun i _ hi => hr i hi) (fun S1 g h => ?_)
    refine r_iincN (q := 200) (L' := [some (zr 1 0), some (zr 9 c), some (zi (nI a)), some (zr 7 0), some (zi (nI sz)), some (zi (nI w)), some (zi (nI e)), some (zi (nI (w ^ e))), some (zi (nI (T + 1))), some (zi (nI (cfP w P v sz e T 1))), none, none, none]) 1 rfl dX1_doAct_197 rfl rfl (Nat.le_of_ble_eq_true rfl) rfl ?_
    refine r_goto (q := 34) dX1_doAct_200 (by decide) ?_
    refine r_mask [true, true, true, true, true, true, true, true, true, false, true, true, true] rfl ?_
    exact Ok.mono (ih (T + 1) S1 (by omega) (hs.fr g) ((g.1 _ _ _ rfl).trans hp0) (hv.da g) (hT1.fr g (fun _ => rfl)) h) (fun r S2 z => ⟨z.1, g.tr z.2.1, z.2.2⟩)

set_option maxRecDepth 100000 in
theorem ok_doAct {S : zS} (hs : Sd S) {c a sz w e P : Nat} (hc4 : c < 4) (ha3 : a < 3) (hsz : sz ≤ 13) (hesz : e ≤ sz) (he4 : e ≤ 4) (h1 : 1 ≤ w) (h3 : w ≤ 3) (hP2 : 2 ≤ P) (hP97 : P ≤ 97) {v : Nat → Nat → Nat} (hw : gI S 7 0 0 = nI w) (he : gI S 1003 c a = nI e) (hp0 : gI S 9 c 0 = nI P) (hv : CSt S w P v sz) {tb : Nat → Nat} (hT : TbC S a P tb) : Ok mX1_doAct 0 (ent 13 [zr 1 0, zr 9 c, zi (nI a), zr 7 0, zi (nI sz)]) [] S (fun r S1 => r = none ∧ Fr tDa S S1 ∧ ∀ i, i < w → gI S1 205 0 i = nI (oaP w P v sz e tb (w ^ e) i)) := by
  show Ok mX1_doAct 0 [some (zr 1 0), some (zr 9 c), some (zi (nI a)), some (zr 7 0), some (zi (nI sz)), none, none, none, none, none, none, none, none] [] S _
  refine r_aload_n (q := 1) dX1_doAct_0 rfl rfl rfl ?_
  refine r_geti (q := 4) ck7 dX1_doAct_1 rfl (k := 0) (by decide) wt38 (Or.inl rfl) (hs.e (by decide)) ?_
  refine r_topi (y := nI w) hw ?_
  refine r_istore (q := 6) (L' := [some (zr 1 0), some (zr 9 c), some (zi (nI a)), some (zr 7 0), some (zi (nI sz)), some (zi (nI w)), none, none, none, none, none, none, none]) dX1_doAct_4 rfl (by decide) rfl ?_
  refine r_aload_n (q := 7) dX1_doAct_6 rfl rfl rfl ?_
  refine r_getr (q := 10) (some (1003, c)) ck9 dX1_doAct_7 rfl (k := 3) (by decide) wt307 rfl (hs.e (show c < 4 by omega)) (hs.r (show c < 4 by omega) (by decide)) ?_
  refine r_iload_n (q := 11) dX1_doAct_10 rfl rfl rfl ?_
  refine r_ialdN (q := 12) 3 (by decide) rfl dX1_doAct_11 rfl (hs.e (show c < 4 by omega)) (hs.n rfl (show c < 4 by omega)) (by omega) (by decide) ?_
  refine r_topi (y := nI e) he ?_
  refine r_istore (q := 14) (L' := [some (zr 1 0), some (zr 9 c), some (zi (nI a)), some (zr 7 0), some (zi (nI sz)), some (zi (nI w)), some (zi (nI e)), none, none, none, none, none, none]) dX1_doAct_12 rfl (by decide) rfl ?_
  refine r_iload (q := 16) dX1_doAct_14 rfl rfl ?_
  refine r_iload (q := 18) dX1_doAct_16 rfl rfl ?_
  refine r_callSN (Mc := mX11_power) (q := 21) (As := [zi (nI w), zi (nI e)]) (st := []) dX1_doAct_18 rfl rfl mkX11_power wn1103 wt1089 rfl (Nat.le_of_ble_eq_true rfl) (Nat.le_of_ble_eq_true rfl) (by decide) (by decide) (by decide) (Or.inl rfl) hs.some (ok_pow h1 h3 (by omega)) (fun r18 S18 hp18 => ?_)
  obtain ⟨rfl, hq18⟩ := hp18
  rw [hq18]
  show Ok _ _ _ [zi (nI (w ^ e))] _ _
  refine r_istore (q := 23) (L' := [some (zr 1 0), some (zr 9 c), some (zi (nI a)), some (zr 7 0), some (zi (nI sz)), some (zi (nI w)), some (zi (nI e)), some (zi (nI (w ^ e))), none, none, none, none, none]) dX1_doAct_21 rfl (by decide) rfl ?_
  refine r_aload_n (q := 24) dX1_doAct_23 rfl rfl rfl ?_
  refine r_getr (q := 27) (some (205, 0)) ck1 dX1_doAct_24 rfl (k := 5) (by decide) wt233 rfl (hs.e (by decide)) (hs.r (by decide) (by decide)) ?_
  refine r_iconst (q := 28) (nI 0) dX1_doAct_27 rfl (by decide) ?_
  refine r_callS (Mc := mJ7_fill_53178) (q := 31) (As := [zr 205 0, zi (nI 0)]) (st := []) dX1_doAct_28 rfl rfl mkJ7_fill_53178 wt1141 wt372 rfl (Nat.le_of_ble_eq_true rfl) (Nat.le_of_ble_eq_true rfl) (by decide) (by decide) (by decide) (Or.inl rfl) hs.some (ok_fill2 (n := 3) (by decide) rfl (hs.e (by decide)) (hs.n rfl (by decide)) (by decide)) (fun r28 S28 hp28 => ?_)
  obtain ⟨rfl, hq28⟩ := hp28
  rw [hq28]
  show Ok _ _ _ [] _ _
  refine r_iconst (q := 32) (nI 0) dX1_doAct_31 rfl (by decide) ?_
  refine r_istore (q := 34) (L' := [some (zr 1 0), some (zr 9 c), some (zi (nI a)), some (zr 7 0), some (zi (nI sz)), some (zi (nI w)), some (zi (nI e)), some (zi (nI (w ^ e))), some (zi (nI 0)), none, none, none, none]) dX1_doAct_32 rfl (by decide) rfl ?_
  have f0 : Fr tDa S (flS S 205 0 0 3 (nI 0)) := ⟨fun x y k h => by rw [gI_fl, if_neg (fun z => by simp [tDa, z.1, z.2.1] at h)], fun _ _ _ _ => rfl, rfl⟩
  exact Ok.mono (lp_da34 hc4 ha3 hsz hesz he4 h1 h3 hP2 hP97 (w ^ e) 0 (flS S 205 0 0 3 (nI 0)) (by omega) (hs.fr f0) hp0 (hv.da f0) (hT.fr f0 (fun _ => rfl)) (fun i hi => by rw [gI_fl, if_pos ⟨rfl, rfl, by omega, by omega⟩]; rfl)) (fun r S1 z => ⟨z.1, f0.tr z.2.1, z.2.2⟩)

