/-! rules loaded, stored and entered -/
theorem prB_inv : ((List.range 98).all fun P => !prB P || (List.range P).all fun v => v == 0 || (List.range P).any fun i => i * v % P == 1) = true := by decide +kernel
theorem inv_ex {P v : Nat} (h : 2 ≤ P) (hP : P ≤ 97) (hp : ∀ d, 2 ≤ d → d < P → P % d ≠ 0) (h0 : v ≠ 0) (hv : v < P) : ∃ i, 1 ≤ i ∧ i < P ∧ i * v % P = 1 := by
  have h1 := List.all_eq_true.mp prB_inv P (List.mem_range.mpr (by omega))
  rw [prB_t.mpr ⟨h, hp⟩] at h1
  have h2 : ∀ x, x < P → x = 0 ∨ ∃ y, y < P ∧ y * x % P = 1 := by simpa using h1
  obtain ⟨i, hi, e⟩ := (h2 v hv).resolve_left h0
  refine ⟨i, ?_, hi, e⟩
  cases i with
  | zero => rw [Nat.zero_mul, Nat.zero_mod] at e; omega
  | succ i => omega
theorem fr_cp {S : zS} {b s n : Nat} : Fr (tVe b) S (cpS S 107 b 703 b s 0 n) := ⟨fun x y k hz => by
  rw [gI_cpS, if_neg (fun z => by unfold tVe at hz; simp [z.1, z.2] at hz)], fun _ _ _ _ => rfl, rfl⟩

theorem vx_load {S : zS} {b m P t f : Nat} (hP : 0 < P) {rl : Nat → Nat} (h : ∀ j, j < t → gI S 107 b (f + j) = nI (rl j) ∧ rl j < P) : Vx (cpS (flS S 703 b 0 m (nI 0)) 107 b 703 b f 0 t) b m P (fun j => if j < t then rl j else 0) := fun j hj => by
  show _ = nI (if j < t then rl j else 0) ∧ (if j < t then rl j else 0) < P
  rw [gI_cpS, if_pos ⟨rfl, rfl⟩]
  unfold va_cpy
  by_cases e : j < t
  · rw [if_pos ⟨by omega, by omega⟩, if_pos e, gI_fl, if_neg (by omega), Nat.sub_zero]; exact h j e
  · rw [if_neg (by omega), if_neg e, gI_fl, if_pos ⟨rfl, rfl, by omega, hj⟩]; exact ⟨rfl, hP⟩

set_option maxRecDepth 100000 in
theorem ok_loadRule {S : zS} (hs : Sd S) {b n f0 : Nat} (hb4 : b < 4) (hn7 : n ≤ 7) {T : List (List Nat)} (hL : Lx S b n f0 T) {P rf t : Nat} (hP0 : 0 < P) {mk : Nat → Nat} {rl : Nat → Nat → Nat} (hU : Ux S b n rf T.length P mk rl) (ht : t < T.length) (hm : mk t ≠ 0) : Ok mX0_loadRule 0 (ent 3 [zr 0 b, zi (nI n), zi (nI t)]) [] S (fun r S1 => r = none ∧ Fr (tVe b) S S1 ∧ Vx S1 b T.length P (fun j => if j < t then rl t j else 0)) := by
  obtain ⟨l1, l2, l3, l4, l5⟩ := hL
  have hL : Lx S b n f0 T := ⟨l1, l2, l3, l4, l5⟩
  obtain ⟨u1, u2, u3, u4⟩ := hU
  have htri := tri_le (t := t) (m := T.length) ht
  have u1' : gI (flS S 703 b 0 T.length (nI 0)) 106 b n = nI rf := by rw [gI_fl, if_neg (by omega)]; exact u1
  show Ok mX0_loadRule 0 [some (zr 0 b), some (zi (nI n)), some (zi (nI t))] [] S _
  refine r_aload_n (q := 1) dX0_loadRule_0 rfl rfl rfl ?_
  refine r_iload_n (q := 2) dX0_loadRule_1 rfl rfl rfl ?_
  refine r_callV (Mc := mX0_clearVector) (q := 5) (As := [zi (nI n)]) (st := []) ck0 dX0_loadRule_2 rfl rfl mkX0_clearVector wt848 wt850 wp36 rfl (Nat.le_of_ble_eq_true rfl) (Nat.le_of_ble_eq_true rfl) (by decide) (by decide) (by decide) (Or.inl rfl) (hs.e (show b < 4 by omega)) (ok_clearVector hs hb4 hn7 hL) (fun r2 S2 hp2 => ?_)
  obtain ⟨rfl, hq2⟩ := hp2
  rw [hq2]
  show Ok _ _ _ [] _ _
  refine r_aload_n (q := 6) dX0_loadRule_5 rfl rfl rfl ?_
  refine r_getr (q := 9) (some (107, b)) ck0 dX0_loadRule_6 rfl (k := 7) (by decide) wt384 rfl (hs.e (show b < 4 by omega)) (hs.r (show b < 4 by omega) (by decide)) ?_
  refine r_aload_n (q := 10) dX0_loadRule_9 rfl rfl rfl ?_
  refine r_iload_n (q := 11) dX0_loadRule_10 rfl rfl rfl ?_
  refine r_iload_n (q := 12) dX0_loadRule_11 rfl rfl rfl ?_
  refine r_callV (Mc := mX0_ruleOf) (q := 15) (As := [zi (nI n), zi (nI t)]) (st := [zr 107 b]) ck0 dX0_loadRule_12 rfl rfl mkX0_ruleOf wt852 wt854 wp37 rfl (Nat.le_of_ble_eq_true rfl) (Nat.le_of_ble_eq_true rfl) (by decide) (by decide) (by decide) (Or.inl rfl) (hs.e (show b < 4 by omega)) (ok_ruleOf (S := flS S 703 b 0 T.length (nI 0)) hs hb4 hn7 u1' (by omega)) (fun r12 S12 hp12 => ?_)
  obtain ⟨rfl, hq12⟩ := hp12
  rw [hq12]
  show Ok _ _ _ [zi (nI (rf + tri t)), zr 107 b] _ _
  refine r_aload_n (q := 16) dX0_loadRule_15 rfl rfl rfl ?_
  refine r_getr (q := 19) (some (6, b)) ck0 dX0_loadRule_16 rfl (k := 1) (by decide) wt378 rfl (hs.e (show b < 4 by omega)) (hs.r (show b < 4 by omega) (by decide)) ?_
  refine r_getr (q := 22) (some (703, b)) ck6 dX0_loadRule_19 rfl (k := 3) (by decide) wt103 rfl (hs.e (show b < 5 by omega)) (hs.r (show b < 5 by omega) (by decide)) ?_
  refine r_iconst (q := 23) (nI 0) dX0_loadRule_22 rfl (by decide) ?_
  refine r_iload_n (q := 24) dX0_loadRule_23 rfl rfl rfl ?_
  refine r_copyi (q := 27) (by decide) (by decide) rfl rfl (hs.e (show b < 4 by omega)) (hs.e (show b < 5 by omega)) dX0_loadRule_24 rfl wt787 wt640 wt641 wt16 (Nat.le_of_ble_eq_true rfl) (by decide) (by decide) (by omega) (by omega) (by omega) (by show rf + tri t + t ≤ gN S 107 b; omega) (by rw [show gN (flS S 703 b 0 T.length (nI 0)) 703 b = 300 from (hs.n rfl (show b < 5 by omega))]; omega) ?_
  refine r_return dX0_loadRule_27 rfl ?_
  exact ⟨rfl, (vx_clear (P := P) hP0).2.tr fr_cp, fun j hj => vx_load hP0 (fun j hj => u4 t ht hm j hj) j hj⟩

set_option maxRecDepth 100000 in
theorem lp_store {b n m P t rf bq : Nat} (hb4 : b < 4) (h2 : 2 ≤ P) (hP : P ≤ 97) (hm300 : m ≤ 300) (htm : t < m) {y : Int32} (hy : -1000 < y.toInt ∧ y.toInt < 1000) (hbq : rsN y P = bq) {v : Nat → Nat} {Po : Option zV → zS → Prop} : ∀ (d j : Nat) (S : zS), j + d = t → Sd S → rf + tri t + t ≤ gN S 107 b → gN S 107 b ≤ 160000 → gI S 9 b 0 = nI P → Vx S b m P v → (∀ S1, Fr (tRl b (rf + tri t) t) S S1 → (∀ i, i < t → gI S1 107 b (rf + tri t + i) = if j ≤ i then nI (v i * bq % P) else gI S 107 b (rf + tri t + i)) → Po none S1) → Ok mX0_storeRule 11 [some (zr 0 b), some (zi (nI n)), some (zi (nI t)), some (zi y), some (zi (nI (rf + tri t))), some (zi (nI j))] [] S Po := by
  intro d
  induction d with
  | zero =>
    intro j S hj hs hl hl2 hp hV K
    obtain rfl : j = t := by omega
    refine r_iload (q := 13) dX0_storeRule_11 rfl rfl ?_
    refine r_iload_n (q := 14) dX0_storeRule_13 rfl rfl rfl ?_
    refine r_icmp_geN (q := 17) (t := 55) (by omega) (by omega) dX0_storeRule_14 (by decide) rfl (fun h14 => ?_) (fun h14 => absurd h14 (by omega))
    refine r_return dX0_storeRule_55 rfl ?_
    exact K S Fr.rf (fun i hi => (if_neg (by omega)).symm)
  | succ d ih =>
    intro j S hj hs hl hl2 hp hV K
    obtain ⟨w1, w2⟩ := hV j (by omega)
    refine r_iload (q := 13) dX0_storeRule_11 rfl rfl ?_
    refine r_iload_n (q := 14) dX0_storeRule_13 rfl rfl rfl ?_
    refine r_icmp_geN (q := 17) (t := 55) (by omega) (by omega) dX0_storeRule_14 (by decide) rfl (fun h14 => absurd h14 (by omega)) (fun h14 => ?_)
    refine r_aload_n (q := 18) dX0_storeRule_17 rfl rfl rfl ?_
    refine r_getr (q := 21) (some (107, b)) ck0 dX0_storeRule_18 rfl (k := 7) (by decide) wt384 rfl (hs.e (show b < 4 by omega)) (hs.r (show b < 4 by omega) (by decide)) ?_
    refine r_iload (q := 23) dX0_storeRule_21 rfl rfl ?_
    refine r_iload (q := 25) dX0_storeRule_23 rfl rfl ?_
    refine r_iaddN (q := 26) dX0_storeRule_25 rfl ?_
    refine r_aload_n (q := 27) dX0_storeRule_26 rfl rfl rfl ?_
    refine r_getr (q := 30) (some (6, b)) ck0 dX0_storeRule_27 rfl (k := 1) (by decide) wt378 rfl (hs.e (show b < 4 by omega)) (hs.r (show b < 4 by omega) (by decide)) ?_
    refine r_getr (q := 33) (some (703, b)) ck6 dX0_storeRule_30 rfl (k := 3) (by decide) wt103 rfl (hs.e (show b < 5 by omega)) (hs.r (show b < 5 by omega) (by decide)) ?_
    refine r_iload (q := 35) dX0_storeRule_33 rfl rfl ?_
    refine r_ialdN (q := 36) 300 (by decide) rfl dX0_storeRule_35 rfl (hs.e (show b < 5 by omega)) (hs.n rfl (show b < 5 by omega)) (by omega) (by decide) ?_
    refine r_topi (y := nI (v j)) w1 ?_
    refine r_iload_n (q := 37) dX0_storeRule_36 rfl rfl rfl ?_
    refine r_imul (q := 38) dX0_storeRule_37 rfl ?_
    refine r_aload_n (q := 39) dX0_storeRule_38 rfl rfl rfl ?_
    refine r_getr (q := 42) (some (9, b)) ck0 dX0_storeRule_39 rfl (k := 0) (by decide) wt374 rfl (hs.e (show b < 4 by omega)) (hs.r (show b < 4 by omega) (by decide)) ?_
    refine r_geti (q := 45) ck9 dX0_storeRule_42 rfl (k := 0) (by decide) wt294 (Or.inl rfl) (hs.e (show b < 4 by omega)) ?_
    refine r_topi (y := nI P) hp ?_
    refine r_callSN (Mc := mX11_rest) (q := 48) (As := [zi ((nI (v j)) * y), zi (nI P)]) (st := [zi (nI ((rf + tri t) + j)), zr 107 b]) dX0_storeRule_45 rfl rfl mkX11_rest wn864 wt614 rfl (Nat.le_of_ble_eq_true rfl) (Nat.le_of_ble_eq_true rfl) (by decide) (by decide) (by decide) (Or.inl rfl) hs.some (ok_X11_rest_i h2 hP) (fun r45 S45 hp45 => ?_)
    obtain ⟨rfl, hq45⟩ := hp45
    rw [hq45]
    rw [rsN_mul (by omega) h2 hy, hbq]
    show Ok _ _ _ [zi (nI (v j * bq % P)), zi (nI ((rf + tri t) + j)), zr 107 b] _ _
    refine r_iastN (q := 49) (gN S 107 b) (by decide) rfl dX0_storeRule_48 rfl (hs.e (show b < 4 by omega)) rfl (by omega) (by omega) ?_
    refine r_iincN (q := 52) (L' := [some (zr 0 b), some (zi (nI n)), some (zi (nI t)), some (zi y), some (zi (nI (rf + tri t))), some (zi (nI (j + 1)))]) 1 rfl dX0_storeRule_49 rfl rfl (by decide) rfl ?_
    refine r_goto (q := 11) dX0_storeRule_52 (by decide) ?_
    have f1 : Fr (tRl b (rf + tri t) t) S (sI S 107 b (rf + tri t + j) (nI (v j * bq % P))) := (Fr.rf).i (by unfold tRl; simp; omega)
    exact ih (j + 1) _ (by omega) hs hl hl2 (by rw [gI_sI, if_neg (by omega)]; exact hp) (hV.fr f1 (fun k => rfl)) (fun S1 f2 h1 => K S1 (f1.tr f2) (fun i hi => by
      rw [h1 i hi]
      by_cases e : i = j
      · rw [if_neg (by omega), if_pos (by omega), gI_sI, if_pos ⟨rfl, rfl, by omega⟩, e]
      · by_cases q : j + 1 ≤ i
        · rw [if_pos q, if_pos (by omega)]
        · rw [if_neg q, if_neg (by omega), gI_sI, if_neg (by omega)]))

set_option maxRecDepth 100000 in
theorem ok_storeRule {S : zS} (hs : Sd S) {b n m rf t P bq : Nat} (hb4 : b < 4) (hn7 : n ≤ 7) (h2 : 2 ≤ P) (hP : P ≤ 97) (hm300 : m ≤ 300) (ht : t < m) (u1 : gI S 106 b n = nI rf) (u2 : rf + tri m ≤ gN S 107 b) (u3 : gN S 107 b ≤ 160000) (hp : gI S 9 b 0 = nI P) {v : Nat → Nat} (hV : Vx S b m P v) {y : Int32} (hy : -1000 < y.toInt ∧ y.toInt < 1000) (hbq : rsN y P = bq) : Ok mX0_storeRule 0 (ent 6 [zr 0 b, zi (nI n), zi (nI t), zi y]) [] S (fun r S1 => r = none ∧ Fr (tRl b (rf + tri t) t) S S1 ∧ ∀ i, i < t → gI S1 107 b (rf + tri t + i) = nI (v i * bq % P)) := by
  have htri := tri_le (t := t) (m := m) ht
  show Ok mX0_storeRule 0 [some (zr 0 b), some (zi (nI n)), some (zi (nI t)), some (zi y), none, none] [] S _
  refine r_aload_n (q := 1) dX0_storeRule_0 rfl rfl rfl ?_
  refine r_iload_n (q := 2) dX0_storeRule_1 rfl rfl rfl ?_
  refine r_iload_n (q := 3) dX0_storeRule_2 rfl rfl rfl ?_
  refine r_callV (Mc := mX0_ruleOf) (q := 6) (As := [zi (nI n), zi (nI t)]) (st := []) ck0 dX0_storeRule_3 rfl rfl mkX0_ruleOf wt852 wt854 wp37 rfl (Nat.le_of_ble_eq_true rfl) (Nat.le_of_ble_eq_true rfl) (by decide) (by decide) (by decide) (Or.inl rfl) (hs.e (show b < 4 by omega)) (ok_ruleOf hs hb4 hn7 u1 (by omega)) (fun r3 S3 hp3 => ?_)
  obtain ⟨rfl, hq3⟩ := hp3
  rw [hq3]
  show Ok _ _ _ [zi (nI (rf + tri t))] _ _
  refine r_istore (q := 8) (L' := [some (zr 0 b), some (zi (nI n)), some (zi (nI t)), some (zi y), some (zi (nI (rf + tri t))), none]) dX0_storeRule_6 rfl (by decide) rfl ?_
  refine r_iconst (q := 9) (nI 0) dX0_storeRule_8 rfl (by decide) ?_
  refine r_istore (q := 11) (L' := [some (zr 0 b), some (zi (nI n)), some (zi (nI t)), some (zi y), some (zi (nI (rf + tri t))), some (zi (nI 0))]) dX0_storeRule_9 rfl (by decide) rfl ?_
  exact lp_store hb4 h2 hP hm300 ht hy hbq t 0 S (by omega) hs (by omega) u3 hp hV (fun S1 f1 h1 => ⟨rfl, f1, fun i hi => by rw [h1 i hi, if_pos (by omega)]⟩)

set_option maxRecDepth 100000 in
theorem lp_inv {S : zS} (hs : Sd S) {P v : Nat} (h2 : 2 ≤ P) (hP : P ≤ 97) (hv : v < P) (hex : ∃ i, 1 ≤ i ∧ i < P ∧ i * v % P = 1) : ∀ (d i : Nat), i + d = P → 1 ≤ i → (∀ k, 1 ≤ k → k < i → k * v % P ≠ 1) → Ok mX11_inverseOf 2 [some (zi (nI v)), some (zi (nI P)), some (zi (nI i))] [] S (fun r S1 => (∃ i, 1 ≤ i ∧ i < P ∧ i * v % P = 1 ∧ r = some (zi (nI i))) ∧ S1 = S) := by
  intro d
  induction d with
  | zero =>
    intro i hi h1 hn
    obtain ⟨k, k1, k2, k3⟩ := hex
    exact absurd k3 (hn k k1 (by omega))
  | succ d ih =>
    intro i hi h1 hn
    have hiv : i * v < 97 * 97 := Nat.lt_of_le_of_lt (Nat.mul_le_mul_left i (show v ≤ 97 by omega)) (by have : i * 97 ≤ 96 * 97 := Nat.mul_le_mul_right _ (by omega); omega)
    refine r_iload_n (q := 3) dX11_inverseOf_2 rfl rfl rfl ?_
    refine r_iload_n (q := 4) dX11_inverseOf_3 rfl rfl rfl ?_
    refine r_icmp_geN (q := 7) (t := 26) (by omega) (by omega) dX11_inverseOf_4 (by decide) rfl (fun h4 => absurd h4 (by omega)) (fun h4 => ?_)
    refine r_iload_n (q := 8) dX11_inverseOf_7 rfl rfl rfl ?_
    refine r_iload_n (q := 9) dX11_inverseOf_8 rfl rfl rfl ?_
    refine r_imulN (q := 10) dX11_inverseOf_9 rfl ?_
    refine r_iload_n (q := 11) dX11_inverseOf_10 rfl rfl rfl ?_
    refine r_callS (Mc := mX11_rest) (q := 14) (As := [zi (nI (i * v)), zi (nI P)]) (st := []) dX11_inverseOf_11 rfl rfl mkX11_rest wt884 wt614 rfl (Nat.le_of_ble_eq_true rfl) (Nat.le_of_ble_eq_true rfl) (by decide) (by decide) (by decide) (Or.inl rfl) hs.some (ok_X11_rest_i h2 hP) (fun r11 S11 hp11 => ?_)
    obtain ⟨rfl, hq11⟩ := hp11
    rw [hq11]
    rw [rsN_nI (by omega) (by omega)]
    have hmod : i * v % P < P := Nat.mod_lt _ (by omega)
    show Ok _ _ _ [zi (nI (i * v % P))] _ _
    refine r_iconst (q := 15) (nI 1) dX11_inverseOf_14 rfl (by decide) ?_
    refine r_icmp_neN (q := 18) (t := 20) (by omega) (by omega) dX11_inverseOf_15 (by decide) rfl (fun h15 => ?_) (fun h15 => ?_)
    · skip
      refine r_iincN (q := 23) (L' := [some (zi (nI v)), some (zi (nI P)), some (zi (nI (i + 1)))]) 1 rfl dX11_inverseOf_20 rfl rfl (by decide) rfl ?_
      refine r_goto (q := 2) dX11_inverseOf_23 (by decide) ?_
      exact ih (i + 1) (by omega) (by omega) (fun k k1 k2 => if e : k = i then by rw [e]; omega else hn k k1 (by omega))
    · skip
      refine r_iload_n (q := 19) dX11_inverseOf_18 rfl rfl rfl ?_
      refine r_ireturn dX11_inverseOf_19 rfl ?_
      exact ⟨⟨i, h1, by omega, by omega, rfl⟩, rfl⟩

set_option maxRecDepth 100000 in
theorem ok_inverseOf {S : zS} (hs : Sd S) {P v : Nat} (h2 : 2 ≤ P) (hP : P ≤ 97) (hv : v < P) (hex : ∃ i, 1 ≤ i ∧ i < P ∧ i * v % P = 1) : Ok mX11_inverseOf 0 (ent 3 [zi (nI v), zi (nI P)]) [] S (fun r S1 => (∃ i, 1 ≤ i ∧ i < P ∧ i * v % P = 1 ∧ r = some (zi (nI i))) ∧ S1 = S) := by
  show Ok mX11_inverseOf 0 [some (zi (nI v)), some (zi (nI P)), none] [] S _
  refine r_iconst (q := 1) (nI 1) dX11_inverseOf_0 rfl (by decide) ?_
  refine r_istore_n (q := 2) (L' := [some (zi (nI v)), some (zi (nI P)), some (zi (nI 1))]) dX11_inverseOf_1 rfl rfl (by decide) rfl ?_
  exact lp_inv hs h2 hP hv hex (P - 1) 1 (by omega) (by omega) (fun k k1 k2 => absurd k1 (by omega))

/-- a vector entered -/
def EntS (T : List (List Nat)) (P : Nat) (mk : Nat → Nat) (rl : Nat → Nat → Nat) (mk' : Nat → Nat) (rl' : Nat → Nat → Nat) (v : Nat → Nat) : Prop := Sp P (Rw T (mkb mk') (RC rl')) (Vn T v) ∧ (∀ t, t < T.length → mk t ≠ 0 → mk' t = mk t ∧ ∀ j, j < t → rl' t j = rl t j) ∧ ∀ t, t < T.length → mk' t ≠ 0 → mk t ≠ 0 ∨ mk' t = 2 ∧ Sp P (fun r => r = Vn T v ∨ RwK T mk rl T.length r) (V T (RC rl' t))
theorem V_cong {T : List (List Nat)} {v w : Nat → Int} (h : ∀ j, j < T.length → v j = w j) : V T v = V T w := List.map_congr_left fun j hj => by rw [h j (List.mem_range.mp hj)]
theorem RC_cong {rl rl' : Nat → Nat → Nat} {t : Nat} (h : ∀ j, j < t → rl' t j = rl t j) (j : Nat) : RC rl' t j = RC rl t j := by
  unfold RC
  by_cases e : j = t
  · rw [if_pos e, if_pos e]
  · rw [if_neg e, if_neg e]
    by_cases q : j < t
    · rw [if_pos q, if_pos q, h j q]
    · rw [if_neg q, if_neg q]
theorem EntS.mono {T : List (List Nat)} {P : Nat} {mk mk' : Nat → Nat} {rl rl' : Nat → Nat → Nat} {v : Nat → Nat} (h : EntS T P mk rl mk' rl' v) : ∀ u, Rw T (mkb mk) (RC rl) u → Rw T (mkb mk') (RC rl') u := fun u hu => by
  obtain ⟨t, ht, hm, rfl⟩ := hu
  have hm := mkb_t.mp hm
  have h1 := h.2.1 t ht hm
  exact ⟨t, ht, mkb_t.mpr (by rw [h1.1]; exact hm), V_cong fun j _ => (RC_cong h1.2 j).symm⟩
theorem RwK.rw {T : List (List Nat)} {mk : Nat → Nat} {rl : Nat → Nat → Nat} {K : Nat} {u : zL} (h : RwK T mk rl K u) : Rw T (mkb mk) (RC rl) u := by
  obtain ⟨s, _, h1, h2, rfl⟩ := h
  exact ⟨s, h1, mkb_t.mpr h2, rfl⟩
theorem ent_none {T : List (List Nat)} {P : Nat} {mk : Nat → Nat} {rl : Nat → Nat → Nat} {v v' : Nat → Nat} (h : RedS T P mk rl v v') (hz : ∀ j, j < T.length → v' j = 0) : EntS T P mk rl mk rl v := by
  have h1 := (h.2 T.length (fun t a b => absurd a (by omega))).2
  refine ⟨Cg.sp (h1.mono fun u hu => hu.rw) ?_, fun t ht hm => ⟨rfl, fun _ _ => rfl⟩, fun t ht hm => Or.inl hm⟩
  refine Sp.nil.li (li_T (T := T) (fun p hp => absurd hp List.not_mem_nil) V_mem fun k hk => ?_)
  rw [co_nil]
  by_cases hT : co (Vn T v') (T.getD k []) = 0
  · rw [hT]; exact dvd_rf
  · exfalso
    apply hT
    unfold co Vn
    rw [ev_V]
    exact smz_zero fun i hi => by rw [hz i hi]; simp
theorem ent_top {T : List (List Nat)} (hT : T.Nodup) {P : Nat} (hP : 0 < P) {mk : Nat → Nat} {rl : Nat → Nat → Nat} {v v' : Nat → Nat} (h : RedS T P mk rl v v') {t i : Nat} (ht : t < T.length) (h0 : v' t ≠ 0) (hgt : ∀ j, t < j → j < T.length → v' j = 0) (hi : i < P) (hinv : i * v' t % P = 1) : EntS T P mk rl (fun s => if s = t then 2 else mk s) (fun s j => if s = t then v' j * (P - i) % P else rl s j) v := by
  have hmt : mk t = 0 := Classical.byContradiction fun z => h0 (h.1 t ht z)
  have h1 := (h.2 T.length (fun t a b => absurd a (by omega))).2
  have hiv : (P : Int) ∣ (i : Int) * (v' t : Int) - 1 := by
    have := mod_dvd (i * v' t) P
    rw [hinv, Int.natCast_mul] at this
    exact dvd_sy this
  have hrow : Li P (V T (RC (fun s j => if s = t then v' j * (P - i) % P else rl s j) t)) (scl (i : Int) (Vn T v')) := by
    unfold Vn
    rw [V_sc]
    refine li_VV hT fun j hj => ?_
    unfold RC
    rcases Nat.lt_trichotomy j t with q | q | q
    · rw [if_neg (by omega), if_pos q]
      show (P : Int) ∣ -(((if t = t then v' j * (P - i) % P else rl t j : Nat)) : Int) - (i : Int) * (v' j : Int)
      rw [if_pos rfl]
      have h3 := mod_dvd (v' j * (P - i)) P
      rw [Int.natCast_mul, Int.natCast_sub (by omega), Int.mul_sub] at h3
      have h4 : (P : Int) ∣ (v' j : Int) * (P : Int) := Int.dvd_mul_left _ _
      have h5 := Int.dvd_neg.mpr (Int.dvd_add h3 h4)
      rw [show -((v' j * (P - i) % P : Nat) : Int) - (i : Int) * (v' j : Int) = -((v' j * (P - i) % P : Nat) - ((v' j : Int) * (P : Int) - (v' j : Int) * (i : Int)) + (v' j : Int) * (P : Int)) by rw [Int.mul_comm (i : Int)]; omega]
      exact h5
    · rw [if_pos q, q]; exact dvd_sy hiv
    · rw [if_neg (by omega), if_neg (by omega), hgt j q hj]; simp
  have hsub : ∀ u, RwK T mk rl T.length u → Rw T (mkb (fun s => if s = t then 2 else mk s)) (RC (fun s j => if s = t then v' j * (P - i) % P else rl s j)) u := fun u hu => by
    obtain ⟨s, _, s1, s2, rfl⟩ := hu
    have hst : s ≠ t := fun z => s2 (by rw [z]; exact hmt)
    exact ⟨s, s1, mkb_t.mpr (by show (if s = t then 2 else mk s) ≠ 0; rw [if_neg hst]; exact s2), V_cong fun j _ => (RC_cong (fun k _ => if_neg hst) j).symm⟩
  refine ⟨Cg.sp (h1.mono hsub) ?_, fun s hs hm => ?_, fun s hs hm => ?_⟩
  · have g1 : Sp P (Rw T (mkb (fun s => if s = t then 2 else mk s)) (RC (fun s j => if s = t then v' j * (P - i) % P else rl s j))) (scl (v' t : Int) (V T (RC (fun s j => if s = t then v' j * (P - i) % P else rl s j) t))) := (Sp.gen ⟨t, ht, mkb_t.mpr (by show (if t = t then 2 else mk t) ≠ 0; rw [if_pos rfl]; omega), rfl⟩).sc _
    refine g1.li ((hrow.sc _).tr fun s => ?_)
    rw [co_sc, co_sc, ← Int.mul_assoc, Int.mul_comm (v' t : Int)]
    have := dvd_mulR (k := co (Vn T v') s) hiv
    rw [Int.one_mul] at this; exact this
  · have hst : s ≠ t := fun z => hm (by rw [z]; exact hmt)
    exact ⟨if_neg hst, fun j _ => if_neg hst⟩
  · by_cases hst : s = t
    · right
      subst hst
      have g2 : Cg P (fun r => r = Vn T v ∨ RwK T mk rl T.length r) (Vn T v) (Vn T v') := h1.mono fun u hu => Or.inr hu
      have g3 : Sp P (fun r => r = Vn T v ∨ RwK T mk rl T.length r) (Vn T v) := Sp.gen (Or.inl rfl)
      exact ⟨if_pos rfl, Sp.li (Sp.sc (g2.sy.sp g3) (i : Int)) hrow.sy⟩
    · left
      have : (if s = t then 2 else mk s) ≠ 0 := hm
      rw [if_neg hst] at this; exact this

def tEn (b f0 rf m x y k : Nat) : Bool := y == b && (x == 703 || x == 105 && decide (f0 ≤ k) && decide (k < f0 + m) || x == 107 && decide (rf ≤ k) && decide (k < rf + tri m))
theorem tEn_ve {b f0 rf m : Nat} (x y k : Nat) (h : tVe b x y k = true) : tEn b f0 rf m x y k = true := by
  simp [tVe] at h
  simp [tEn, h.1, h.2]
theorem tEn_rl {b f0 rf m t : Nat} (ht : t < m) (x y k : Nat) (h : tRl b (rf + tri t) t x y k = true) : tEn b f0 rf m x y k = true := by
  simp [tRl] at h
  have := tri_le ht
  simp [tEn, h.1]
  omega

set_option maxRecDepth 100000 in
theorem lp_enter {S : zS} (hs : Sd S) {b n f0 : Nat} (hb4 : b < 4) (hn7 : n ≤ 7) {T : List (List Nat)} (hL : Lx S b n f0 T) (hTn : T.Nodup) {P rf : Nat} (h2 : 2 ≤ P) (hP : P ≤ 97) (hpr : ∀ d, 2 ≤ d → d < P → P % d ≠ 0) (hp : gI S 9 b 0 = nI P) {v : Nat → Nat} {mk : Nat → Nat} {rl : Nat → Nat → Nat} (hM : Mx S b f0 T.length mk) (hU : Ux S b n rf T.length P mk rl) {v1 : Nat → Nat} (hV : Vx S b T.length P v1) (hR : RedS T P mk rl v v1) : ∀ (d : Nat) (x : Int32), x = nI d - 1 → d ≤ T.length → (∀ t, d ≤ t → t < T.length → v1 t = 0) → Ok mX0_enterVector 13 [some (zr 0 b), some (zi (nI n)), some (zi x)] [] S (fun r S1 => r = none ∧ Fr (tEn b f0 rf T.length) S S1 ∧ ∃ mk' rl', Mx S1 b f0 T.length mk' ∧ Ux S1 b n rf T.length P mk' rl' ∧ EntS T P mk rl mk' rl' v) := by
  obtain ⟨l1, l2, l3, l4, l5⟩ := hL
  have hL : Lx S b n f0 T := ⟨l1, l2, l3, l4, l5⟩
  obtain ⟨u1, u2, u3, u4⟩ := hU
  have hU : Ux S b n rf T.length P mk rl := ⟨u1, u2, u3, u4⟩
  intro d
  induction d with
  | zero =>
    intro x hx hd hz
    obtain rfl : x = -1 := hx.trans (by decide)
    refine r_iload_n (q := 14) dX0_enterVector_13 rfl rfl rfl ?_
    refine r_if_lt (q := 17) (t := 35) dX0_enterVector_14 (by decide) rfl (fun h14 => ?_) (fun h14 => absurd h14 (by decide))
    refine r_iload_n (q := 36) dX0_enterVector_35 rfl rfl rfl ?_
    refine r_if_lt (q := 39) (t := 79) dX0_enterVector_36 (by decide) rfl (fun h36 => ?_) (fun h36 => absurd h36 (by decide))
    refine r_return dX0_enterVector_79 rfl ?_
    exact ⟨rfl, Fr.rf, mk, rl, hM, hU, ent_none hR (fun j hj => hz j (by omega) hj)⟩
  | succ t ih =>
    intro x hx hd hz
    obtain rfl : x = nI t := hx.trans (nI_prd t)
    obtain ⟨w1, w2⟩ := hV t (by omega)
    by_cases hv0 : v1 t = 0
    · skip
      refine r_iload_n (q := 14) dX0_enterVector_13 rfl rfl rfl ?_
      refine r_if_ltN (q := 17) (t := 35) (by omega) dX0_enterVector_14 (by decide) rfl ?_
      refine r_aload_n (q := 18) dX0_enterVector_17 rfl rfl rfl ?_
      refine r_getr (q := 21) (some (6, b)) ck0 dX0_enterVector_18 rfl (k := 1) (by decide) wt378 rfl (hs.e (show b < 4 by omega)) (hs.r (show b < 4 by omega) (by decide)) ?_
      refine r_getr (q := 24) (some (703, b)) ck6 dX0_enterVector_21 rfl (k := 3) (by decide) wt103 rfl (hs.e (show b < 5 by omega)) (hs.r (show b < 5 by omega) (by decide)) ?_
      refine r_iload_n (q := 25) dX0_enterVector_24 rfl rfl rfl ?_
      refine r_ialdN (q := 26) 300 (by decide) rfl dX0_enterVector_25 rfl (hs.e (show b < 5 by omega)) (hs.n rfl (show b < 5 by omega)) (by omega) (by decide) ?_
      refine r_topi (y := nI (v1 t)) w1 ?_
      refine r_if_neN (q := 29) (t := 35) (by omega) dX0_enterVector_26 (by decide) rfl (fun h26 => absurd h26 (by omega)) (fun h26 => ?_)
      refine r_iinc (q := 32) (L' := [some (zr 0 b), some (zi (nI n)), some (zi ((nI t) + (-1)))]) ((nI t) + (-1)) dX0_enterVector_29 rfl rfl (by decide) rfl rfl ?_
      refine r_goto (q := 13) dX0_enterVector_32 (by decide) ?_
      exact ih _ (Int32.sub_eq_add_neg _ _).symm (by omega) (fun s h1 h3 => if e : s = t then by rw [e]; exact hv0 else hz s (by omega) h3)
    · skip
      refine r_iload_n (q := 14) dX0_enterVector_13 rfl rfl rfl ?_
      refine r_if_ltN (q := 17) (t := 35) (by omega) dX0_enterVector_14 (by decide) rfl ?_
      refine r_aload_n (q := 18) dX0_enterVector_17 rfl rfl rfl ?_
      refine r_getr (q := 21) (some (6, b)) ck0 dX0_enterVector_18 rfl (k := 1) (by decide) wt378 rfl (hs.e (show b < 4 by omega)) (hs.r (show b < 4 by omega) (by decide)) ?_
      refine r_getr (q := 24) (some (703, b)) ck6 dX0_enterVector_21 rfl (k := 3) (by decide) wt103 rfl (hs.e (show b < 5 by omega)) (hs.r (show b < 5 by omega) (by decide)) ?_
      refine r_iload_n (q := 25) dX0_enterVector_24 rfl rfl rfl ?_
      refine r_ialdN (q := 26) 300 (by decide) rfl dX0_enterVector_25 rfl (hs.e (show b < 5 by omega)) (hs.n rfl (show b < 5 by omega)) (by omega) (by decide) ?_
      refine r_topi (y := nI (v1 t)) w1 ?_
      refine r_if_neN (q := 29) (t := 35) (by omega) dX0_enterVector_26 (by decide) rfl (fun h26 => ?_) (fun h26 => absurd h26 (by omega))
      refine r_iload_n (q := 36) dX0_enterVector_35 rfl rfl rfl ?_
      refine r_if_ltN (q := 39) (t := 79) (by omega) dX0_enterVector_36 (by decide) rfl ?_
      refine r_aload_n (q := 40) dX0_enterVector_39 rfl rfl rfl ?_
      refine r_iload_n (q := 41) dX0_enterVector_40 rfl rfl rfl ?_
      refine r_iload_n (q := 42) dX0_enterVector_41 rfl rfl rfl ?_
      refine r_aload_n (q := 43) dX0_enterVector_42 rfl rfl rfl ?_
      refine r_getr (q := 46) (some (6, b)) ck0 dX0_enterVector_43 rfl (k := 1) (by decide) wt378 rfl (hs.e (show b < 4 by omega)) (hs.r (show b < 4 by omega) (by decide)) ?_
      refine r_getr (q := 49) (some (703, b)) ck6 dX0_enterVector_46 rfl (k := 3) (by decide) wt103 rfl (hs.e (show b < 5 by omega)) (hs.r (show b < 5 by omega) (by decide)) ?_
      refine r_iload_n (q := 50) dX0_enterVector_49 rfl rfl rfl ?_
      refine r_ialdN (q := 51) 300 (by decide) rfl dX0_enterVector_50 rfl (hs.e (show b < 5 by omega)) (hs.n rfl (show b < 5 by omega)) (by omega) (by decide) ?_
      refine r_topi (y := nI (v1 t)) w1 ?_
      refine r_aload_n (q := 52) dX0_enterVector_51 rfl rfl rfl ?_
      refine r_getr (q := 55) (some (9, b)) ck0 dX0_enterVector_52 rfl (k := 0) (by decide) wt374 rfl (hs.e (show b < 4 by omega)) (hs.r (show b < 4 by omega) (by decide)) ?_
      refine r_geti (q := 58) ck9 dX0_enterVector_55 rfl (k := 0) (by decide) wt294 (Or.inl rfl) (hs.e (show b < 4 by omega)) ?_
      refine r_topi (y := nI P) hp ?_
      refine r_callSN (Mc := mX11_inverseOf) (q := 61) (As := [zi (nI (v1 t)), zi (nI P)]) (st := [zi (nI t), zi (nI n), zr 0 b]) dX0_enterVector_58 rfl rfl mkX11_inverseOf wn881 wt882 rfl (Nat.le_of_ble_eq_true rfl) (Nat.le_of_ble_eq_true rfl) (by decide) (by decide) (by decide) (Or.inl rfl) hs.some (ok_inverseOf hs h2 hP w2 (inv_ex h2 hP hpr hv0 w2)) (fun r58 S58 hp58 => ?_)
      obtain ⟨⟨i, i1, i2, i3, rfl⟩, hq58⟩ := hp58
      rw [hq58]
      show Ok _ _ _ [zi (nI i), zi (nI t), zi (nI n), zr 0 b] _ _
      refine r_ineg (q := 62) dX0_enterVector_61 rfl ?_
      refine r_callV (Mc := mX0_storeRule) (q := 65) (As := [zi (nI n), zi (nI t), zi (-(nI i))]) (st := []) ck0 dX0_enterVector_62 rfl rfl mkX0_storeRule wt869 wt871 wp40 rfl (Nat.le_of_ble_eq_true rfl) (Nat.le_of_ble_eq_true rfl) (by decide) (by decide) (by decide) (Or.inl rfl) (hs.e (show b < 4 by omega)) (ok_storeRule hs hb4 hn7 h2 hP l4 (show t < T.length by omega) u1 u2 u3 hp hV (y := -nI i) (by rw [show (-nI i).toInt = -(i : Int) by rw [Int32.toInt_neg, nI_toInt (by omega)]; exact Int.bmod_eq_of_le (by omega) (by omega)]; omega) (bq := P - i) ((rsN_neg h2 (by omega)).trans (by unfold tval; rw [if_pos rfl, Nat.mod_eq_of_lt i2, Nat.mod_eq_of_lt (by omega)]))) (fun r62 S62 hp62 => ?_)
      obtain ⟨rfl, f1, g1⟩ := hp62
      show Ok _ _ _ [] _ _
      refine r_aload_n (q := 66) dX0_enterVector_65 rfl rfl rfl ?_
      refine r_getr (q := 69) (some (105, b)) ck0 dX0_enterVector_66 rfl (k := 5) (by decide) wt382 rfl ((hs.fr f1).e (show b < 4 by omega)) ((hs.fr f1).r (show b < 4 by omega) (by decide)) ?_
      refine r_aload_n (q := 70) dX0_enterVector_69 rfl rfl rfl ?_
      refine r_getr (q := 73) (some (103, b)) ck0 dX0_enterVector_70 rfl (k := 3) (by decide) wt380 rfl ((hs.fr f1).e (show b < 4 by omega)) ((hs.fr f1).r (show b < 4 by omega) (by decide)) ?_
      refine r_iload_n (q := 74) dX0_enterVector_73 rfl rfl rfl ?_
      refine r_ialdN (q := 75) 9 (by decide) rfl dX0_enterVector_74 rfl ((hs.fr f1).e (show b < 4 by omega)) ((hs.fr f1).n rfl (show b < 4 by omega)) (by omega) (by decide) ?_
      refine r_topi (y := nI f0) ((f1.1 _ _ _ rfl).trans l1) ?_
      refine r_iload_n (q := 76) dX0_enterVector_75 rfl rfl rfl ?_
      refine r_iaddN (q := 77) dX0_enterVector_76 rfl ?_
      refine r_iconst (q := 78) (nI 2) dX0_enterVector_77 rfl (by decide) ?_
      refine r_iastN (q := 79) 400 (by decide) rfl dX0_enterVector_78 rfl ((hs.fr f1).e (show b < 4 by omega)) ((hs.fr f1).n rfl (show b < 4 by omega)) (by omega) (by decide) ?_
      refine r_return dX0_enterVector_79 rfl ?_
      have f2 : Fr (tEn b f0 rf T.length) S (sI S62 105 b (f0 + t) (nI 2)) := (f1.mono (fun a b k => tEn_rl (by omega) a b k)).i (by unfold tEn; simp; omega)
      exact ⟨rfl, f2, (fun s => if s = t then 2 else mk s), (fun s j => if s = t then v1 j * (P - i) % P else rl s j), (fun s hs' => by
        show _ = nI (if s = t then 2 else mk s) ∧ (if s = t then 2 else mk s) ≤ 2
        by_cases e : s = t
        · rw [if_pos e, gI_sI, if_pos ⟨rfl, rfl, by omega⟩]; exact ⟨rfl, by omega⟩
        · rw [if_neg e, gI_sI, if_neg (by omega), f1.1 _ _ _ rfl]; exact hM s hs'), ⟨(f2.1 _ _ _ (by simp [tEn])).trans u1, by rw [gN_22 f2.2.2]; exact u2, by rw [gN_22 f2.2.2]; exact u3, fun s hs' hm j hj => by
        have hm : (if s = t then 2 else mk s) ≠ 0 := hm
        show _ = nI (if s = t then v1 j * (P - i) % P else rl s j) ∧ (if s = t then v1 j * (P - i) % P else rl s j) < P
        by_cases e : s = t
        · subst e
          rw [if_pos rfl, gI_sI, if_neg (by omega), g1 j hj]; exact ⟨rfl, Nat.mod_lt _ (by omega)⟩
        · rw [if_neg e] at hm
          rw [if_neg e, gI_sI, if_neg (by omega), f1.1 _ _ _ (by
            unfold tRl
            rcases Nat.lt_or_gt_of_ne e with q | q
            · have := tri_lt (m := t) q hj; simp; omega
            · have := tri_le (m := s) q; simp; omega)]
          exact u4 s hs' hm j hj⟩, ent_top hTn (by omega) hR (by omega) hv0 (fun j a b => hz j (by omega) b) i2 i3⟩

set_option maxRecDepth 100000 in
theorem ok_enterVector {S : zS} (hs : Sd S) {b n f0 : Nat} (hb4 : b < 4) (hn7 : n ≤ 7) {T : List (List Nat)} (hL : Lx S b n f0 T) (hTn : T.Nodup) {P rf : Nat} (h2 : 2 ≤ P) (hP : P ≤ 97) (hpr : ∀ d, 2 ≤ d → d < P → P % d ≠ 0) (hp : gI S 9 b 0 = nI P) {v : Nat → Nat} {mk : Nat → Nat} {rl : Nat → Nat → Nat} (hM : Mx S b f0 T.length mk) (hU : Ux S b n rf T.length P mk rl) (hV : Vx S b T.length P v) : Ok mX0_enterVector 0 (ent 3 [zr 0 b, zi (nI n)]) [] S (fun r S1 => r = none ∧ Fr (tEn b f0 rf T.length) S S1 ∧ ∃ mk' rl', Mx S1 b f0 T.length mk' ∧ Ux S1 b n rf T.length P mk' rl' ∧ EntS T P mk rl mk' rl' v) := by
  show Ok mX0_enterVector 0 [some (zr 0 b), some (zi (nI n)), none] [] S _
  refine r_aload_n (q := 1) dX0_enterVector_0 rfl rfl rfl ?_
  refine r_iload_n (q := 2) dX0_enterVector_1 rfl rfl rfl ?_
  refine r_callV (Mc := mX0_reduceVector) (q := 5) (As := [zi (nI n)]) (st := []) ck0 dX0_enterVector_2 rfl rfl mkX0_reduceVector wt865 wt867 wp39 rfl (Nat.le_of_ble_eq_true rfl) (Nat.le_of_ble_eq_true rfl) (by decide) (by decide) (by decide) (Or.inl rfl) (hs.e (show b < 4 by omega)) (ok_reduceVector hs hb4 hn7 hL hTn h2 hP hp hV hM hU) (fun r2 S2 hp2 => ?_)
  obtain ⟨rfl, f1, v1, hV1, hR⟩ := hp2
  show Ok _ _ _ [] _ _
  refine r_aload_n (q := 6) dX0_enterVector_5 rfl rfl rfl ?_
  refine r_iload_n (q := 7) dX0_enterVector_6 rfl rfl rfl ?_
  refine r_callV (Mc := mX0_treesOf) (q := 10) (As := [zi (nI n)]) (st := []) ck0 dX0_enterVector_7 rfl rfl mkX0_treesOf wt788 wt789 wt790 rfl (Nat.le_of_ble_eq_true rfl) (Nat.le_of_ble_eq_true rfl) (by decide) (by decide) (by decide) (Or.inl rfl) ((hs.fr f1).e (show b < 4 by omega)) (ok_treesOf (hs.fr f1) hb4 hn7 (hL.fr f1 (fun k => ⟨rfl, rfl⟩))) (fun r7 S7 hp7 => ?_)
  obtain ⟨rfl, hq7⟩ := hp7
  rw [hq7]
  show Ok _ _ _ [zi (nI T.length)] _ _
  refine r_iconst (q := 11) (nI 1) dX0_enterVector_10 rfl (by decide) ?_
  refine r_isub (q := 12) dX0_enterVector_11 rfl ?_
  refine r_istore_n (q := 13) (L' := [some (zr 0 b), some (zi (nI n)), some (zi ((nI T.length) - (nI 1)))]) dX0_enterVector_12 rfl rfl (by decide) rfl ?_
  refine Ok.mono (lp_enter (hs.fr f1) hb4 hn7 (hL.fr f1 (fun k => ⟨rfl, rfl⟩)) hTn h2 hP hpr ((f1.1 _ _ _ rfl).trans hp) (hM.fr f1 (fun k => rfl)) (hU.fr f1 (fun k => ⟨rfl, rfl⟩)) hV1 hR T.length _ rfl (Nat.le_refl _) (fun t a b => absurd a (by omega))) fun r S2 z => ⟨z.1, (f1.mono tEn_ve).tr z.2.1, z.2.2⟩

