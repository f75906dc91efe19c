/-! sums added term by term, times a number -/
def adds (P b : Nat) (r l : List zT) : List zT := l.foldl (fun r p => addT P p.1 (p.2 * b % P) r) r
def puts (P b : Nat) (c l : List zT) : List zT := l.foldl (fun c p => cl (addT P p.1 (p.2 * b % P) c)) c
theorem adds_cons {P b : Nat} {r l : List zT} {p : zT} : adds P b r (p :: l) = adds P b (addT P p.1 (p.2 * b % P) r) l := rfl
theorem puts_cons {P b : Nat} {c l : List zT} {p : zT} : puts P b c (p :: l) = puts P b (cl (addT P p.1 (p.2 * b % P) c)) l := rfl
theorem Re.adds {A : Nat} {e : Nat → Nat} (hE : Eok A e) {P n b : Nat} (hP : 0 < P) (hn : n ≤ 7) : ∀ {l r : List zT}, Re A e P n r → (∀ p, p ∈ l → Tr A e n p.1) → Re A e P n (_root_.Jvm.Pilot.CLeafWorldsLaw_law_r8483_d58aac.adds P b r l)
  | [], _, h, _ => h
  | p :: l, r, h, hl => Re.adds hE hP hn (l := l) (h.add hE hP hn (hl p List.mem_cons_self)) (fun q hq => hl q (List.mem_cons_of_mem _ hq))
theorem puts_adds {A : Nat} {e : Nat → Nat} (hE : Eok A e) {P n b : Nat} (hP : 0 < P) (hn : n ≤ 7) : ∀ {l r : List zT}, Re A e P n r → (∀ p, p ∈ l → Tr A e n p.1) → puts P b (cl r) l = cl (adds P b r l)
  | [], _, _, _ => rfl
  | p :: l, r, h, hl => by
    rw [puts_cons, adds_cons, ← cl_addT h.1 (fun q hq => (h.2 q hq).2)]
    exact puts_adds hE hP hn (h.add hE hP hn (hl p List.mem_cons_self)) (fun q hq => hl q (List.mem_cons_of_mem _ hq))
theorem mem_adds {P b : Nat} {U : List (List Nat)} : ∀ {l r : List zT}, (∀ p, p ∈ r → p.1 ∈ U) → (∀ p, p ∈ l → p.1 ∈ U) → ∀ p, p ∈ adds P b r l → p.1 ∈ U
  | [], _, hr, _ => hr
  | q :: l, r, hr, hl => mem_adds (l := l) (fun p hp => by
      rcases mem_addT hp with z | z
      · exact hr p z
      · rw [z.1]; exact hl q List.mem_cons_self) (fun p hp => hl p (List.mem_cons_of_mem _ hp))
theorem mem_cl {r : List zT} {p : zT} (h : p ∈ cl r) : p ∈ r := (List.mem_filter.mp h).1
theorem Ce.put {A : Nat} {e : Nat → Nat} (hE : Eok A e) {P n : Nat} (hP : 0 < P) (hn : n ≤ 7) {t : List Nat} {v : Nat} (ht : Tr A e n t) {c : List zT} (h : Ce A e P n c) : Ce A e P n (cl (addT P t v c)) := (h.1.add hE hP hn ht).cl
theorem len_U {A : Nat} {e : Nat → Nat} {P n : Nat} {r : List zT} (h : Re A e P n r) {U : List (List Nat)} (hU : ∀ p, p ∈ r → p.1 ∈ U) : r.length ≤ U.length := by
  have := nodup_le (r.map Prod.fst) U h.1.nodup (fun x hx => by obtain ⟨p, h1, h2⟩ := List.mem_map.mp hx; rw [← h2]; exact hU p h1)
  rwa [List.length_map] at this
theorem mul_toInt {x : Nat} {y : Int32} (hx : x < 97) (hy : -1000 < y.toInt ∧ y.toInt < 1000) : (nI x * y).toInt = x * y.toInt := by
  rw [Int32.toInt_mul, nI_toInt (by omega)]
  have h1 : (x : Int) * y.toInt ≤ x * 999 := Int.mul_le_mul_of_nonneg_left (by omega) (by omega)
  have h2 : (x : Int) * (-999) ≤ x * y.toInt := Int.mul_le_mul_of_nonneg_left (by omega) (by omega)
  exact Int.bmod_eq_of_le (by omega) (by omega)
theorem rsN_int {x : Int32} {P : Nat} (h : 0 < P) : ((rsN x P : Nat) : Int) = x.toInt % (P : Int) := Int.toNat_of_nonneg (Int.emod_nonneg _ (by omega))
theorem rsN_mul {x P : Nat} {y : Int32} (hx : x < 97) (h2 : 2 ≤ P) (hy : -1000 < y.toInt ∧ y.toInt < 1000) : rsN (nI x * y) P = x * rsN y P % P := by
  apply Int.ofNat.inj
  show ((rsN (nI x * y) P : Nat) : Int) = ((x * rsN y P % P : Nat) : Int)
  rw [rsN_int (by omega), mul_toInt hx hy, Int.natCast_emod, Int.natCast_mul, rsN_int (by omega)]
  simp [Int.mul_emod]
theorem rsN_nI {x P : Nat} (hx : x < 2147483648) (hP : 0 < P) : rsN (nI x) P = x % P := by
  apply Int.ofNat.inj
  show ((rsN (nI x) P : Nat) : Int) = ((x % P : Nat) : Int)
  rw [rsN_int hP, nI_toInt (by omega), Int.natCast_emod]

set_option maxRecDepth 100000 in
theorem lp_putAll {A n P b : Nat} {e : Nat → Nat} (hE : Eok A e) (hn : n ≤ 7) (h2 : 2 ≤ P) (hP : P ≤ 97) {y : Int32} (hy : -1000 < y.toInt ∧ y.toInt < 1000) (hb : rsN y P = b) {U : List (List Nat)} (hU : U.length ≤ 1200) {j i : Nat} (hj : j < 19) (hi : i < 19) (hij : i ≠ j) {l : List zT} (hL : ∀ p, p ∈ l → Tr A e n p.1 ∧ p.2 < P) (hlU : ∀ p, p ∈ l → p.1 ∈ U) : ∀ (d k : Nat) (S : zS) (c : List zT), k + d = l.length → Sd S → Ty S i l → Ty S j c → Ce A e P n c → (∀ p, p ∈ c → p.1 ∈ U) → Ok mX8_putAll 3 [some (zr 8 j), some (zr 8 i), some (zi y), some (zi (nI P)), some (zi (nI k))] [] S (fun r S1 => r = none ∧ Fg (tTy j) S S1 ∧ Ty S1 j (puts P b c (l.drop k))) := by
  intro d
  induction d with
  | zero =>
    intro k S c hk hs hl hc hC hcU
    obtain rfl : l.length = k := by omega
    obtain ⟨m, hm2, hm3, hm32, hm12, hcm⟩ := hl.2.2
    refine r_iload (q := 5) dX8_putAll_3 rfl rfl ?_
    refine r_aload_n (q := 6) dX8_putAll_5 rfl rfl rfl ?_
    refine r_geti (q := 9) ck8 dX8_putAll_6 rfl (k := 1) (by decide) wt62 (Or.inl rfl) (hs.e (show i < 19 by omega)) ?_
    refine r_topi (y := nI l.length) hl.1 ?_
    refine r_icmp_geN (q := 12) (t := 39) (by omega) (by omega) dX8_putAll_9 (by decide) rfl (fun h9 => ?_) (fun h9 => absurd h9 (by omega))
    refine r_return dX8_putAll_39 rfl ?_
    exact ⟨rfl, Fg.rf hs, by rw [List.drop_length]; exact hc⟩
  | succ d ih =>
    intro k S c hk hs hl hc hC hcU
    obtain ⟨m, hm2, hm3, hm32, hm12, hcm⟩ := hl.2.2
    have hkl : k < l.length := by omega
    obtain ⟨r1, r2⟩ := hl.2.1 k hkl
    have hp := hL _ (mem_getD hkl)
    rw [getD_drop0 hkl, puts_cons]
    refine r_iload (q := 5) dX8_putAll_3 rfl rfl ?_
    refine r_aload_n (q := 6) dX8_putAll_5 rfl rfl rfl ?_
    refine r_geti (q := 9) ck8 dX8_putAll_6 rfl (k := 1) (by decide) wt62 (Or.inl rfl) (hs.e (show i < 19 by omega)) ?_
    refine r_topi (y := nI l.length) hl.1 ?_
    refine r_icmp_geN (q := 12) (t := 39) (by omega) (by omega) dX8_putAll_9 (by decide) rfl (fun h9 => absurd h9 (by omega)) (fun h9 => ?_)
    refine r_aload_n (q := 13) dX8_putAll_12 rfl rfl rfl ?_
    refine r_aload_n (q := 14) dX8_putAll_13 rfl rfl rfl ?_
    refine r_getr (q := 17) (some (902, i)) ck8 dX8_putAll_14 rfl (k := 2) (by decide) wt69 rfl (hs.e (show i < 19 by omega)) (hs.r (show i < 19 by omega) (by decide)) ?_
    refine r_iload (q := 19) dX8_putAll_17 rfl rfl ?_
    refine r_ialdN (q := 20) m (by decide) rfl dX8_putAll_19 rfl (hs.e (show i < 19 by omega)) hm2 (by omega) (by omega) ?_
    refine r_topi (y := nI (ky (l.getD k zd).1)) r1 ?_
    refine r_aload_n (q := 21) dX8_putAll_20 rfl rfl rfl ?_
    refine r_getr (q := 24) (some (903, i)) ck8 dX8_putAll_21 rfl (k := 3) (by decide) wt75 rfl (hs.e (show i < 19 by omega)) (hs.r (show i < 19 by omega) (by decide)) ?_
    refine r_iload (q := 26) dX8_putAll_24 rfl rfl ?_
    refine r_ialdN (q := 27) m (by decide) rfl dX8_putAll_26 rfl (hs.e (show i < 19 by omega)) hm3 (by omega) (by omega) ?_
    refine r_topi (y := nI ((l.getD k zd).2)) r2 ?_
    refine r_iload_n (q := 28) dX8_putAll_27 rfl rfl rfl ?_
    refine r_imul (q := 29) dX8_putAll_28 rfl ?_
    refine r_iload_n (q := 30) dX8_putAll_29 rfl rfl rfl ?_
    refine r_callV (Mc := mX8_put) (q := 33) (As := [zi (nI (ky (l.getD k zd).1)), zi ((nI ((l.getD k zd).2)) * y), zi (nI P)]) (st := []) ck8 dX8_putAll_30 rfl rfl mkX8_put wt962 wt610 wt611 rfl (Nat.le_of_ble_eq_true rfl) (Nat.le_of_ble_eq_true rfl) (by decide) (by decide) (by decide) (Or.inr ⟨Nat.le_of_ble_eq_true rfl, rfl, rfl⟩) (hs.e (show j < 19 by omega)) (ok_X8_put hs hj hE hp.1 hn hc hC h2 hP hU (hlU _ (mem_getD hkl)) hcU (nI (l.getD k zd).2 * y)) (fun r30 S30 hp30 => ?_)
    obtain ⟨rfl, f1, f2⟩ := hp30
    rw [rsN_mul (by omega) h2 hy, hb] at f2
    show Ok _ _ _ [] _ _
    refine r_iincN (q := 36) (L' := [some (zr 8 j), some (zr 8 i), some (zi y), some (zi (nI P)), some (zi (nI (k + 1)))]) 1 rfl dX8_putAll_33 rfl rfl (by decide) rfl ?_
    refine r_goto (q := 3) dX8_putAll_36 (by decide) ?_
    have hl' : Ty S30 i l := ⟨(f1.I (by omega) (by unfold tTy; omega)).trans hl.1, fun q hq => ⟨(f1.I (by omega) (by unfold tTy; omega)).trans (hl.2.1 q hq).1, (f1.I (by omega) (by unfold tTy; omega)).trans (hl.2.1 q hq).2⟩, m, (f1.N (by omega) (by unfold tTy; omega)).trans hm2, (f1.N (by omega) (by unfold tTy; omega)).trans hm3, hm32, hm12, hcm⟩
    exact Ok.mono (ih (k + 1) S30 _ (by omega) f1.sd hl' f2 (hC.put hE (by omega) hn hp.1) (fun p hp' => by rcases mem_addT (mem_cl hp') with z | z; exact hcU p z; rw [z.1]; exact hlU _ (mem_getD hkl))) (fun _ _ z => ⟨z.1, f1.tr z.2.1, z.2.2⟩)

set_option maxRecDepth 100000 in
theorem ok_X8_putAll {S : zS} (hs : Sd S) {A n P b : Nat} {e : Nat → Nat} (hE : Eok A e) (hn : n ≤ 7) (h2 : 2 ≤ P) (hP : P ≤ 97) {y : Int32} (hy : -1000 < y.toInt ∧ y.toInt < 1000) (hb : rsN y P = b) {U : List (List Nat)} (hU : U.length ≤ 1200) {j i : Nat} (hj : j < 19) (hi : i < 19) (hij : i ≠ j) {l : List zT} (hL : ∀ p, p ∈ l → Tr A e n p.1 ∧ p.2 < P) (hlU : ∀ p, p ∈ l → p.1 ∈ U) {c : List zT} (hl : Ty S i l) (hc : Ty S j c) (hC : Ce A e P n c) (hcU : ∀ p, p ∈ c → p.1 ∈ U) : Ok mX8_putAll 0 (ent 5 [zr 8 j, zr 8 i, zi y, zi (nI P)]) [] S (fun r S1 => r = none ∧ Fg (tTy j) S S1 ∧ Ty S1 j (puts P b c l)) := by
  show Ok mX8_putAll 0 [some (zr 8 j), some (zr 8 i), some (zi y), some (zi (nI P)), none] [] S _
  refine r_iconst (q := 1) (nI 0) dX8_putAll_0 rfl (by decide) ?_
  refine r_istore (q := 3) (L' := [some (zr 8 j), some (zr 8 i), some (zi y), some (zi (nI P)), some (zi (nI 0))]) dX8_putAll_1 rfl (by decide) rfl ?_
  exact lp_putAll hE hn h2 hP hy hb hU hj hi hij hL hlU l.length 0 S c (by omega) hs hl hc hC hcU

def Lw (S : zS) (s L f P : Nat) (l : List zT) : Prop := gI S 1006 s L = nI f ∧ gI S 1006 s (L + 1) = nI (f + l.length) ∧ gI S 9 s 0 = nI P ∧ ∀ k, k < l.length → gI S 1007 s (f + k) = nI (ky (l.getD k zd).1) ∧ gI S 1008 s (f + k) = nI (l.getD k zd).2

set_option maxRecDepth 100000 in
theorem lp_lawInto {A n P b : Nat} {e : Nat → Nat} (hE : Eok A e) (hn : n ≤ 7) (h2 : 2 ≤ P) (hP : P ≤ 97) {y : Int32} (hy : -1000 < y.toInt ∧ y.toInt < 1000) (hb : rsN y P = b) {U : List (List Nat)} (hU : U.length ≤ 1200) {j s L f : Nat} (hj : j < 19) (hs4 : s < 4) (hL18 : L < 18) {l : List zT} (hf : f + l.length ≤ 200) (hL : ∀ p, p ∈ l → Tr A e n p.1 ∧ p.2 < P) (hlU : ∀ p, p ∈ l → p.1 ∈ U) : ∀ (d k : Nat) (S : zS) (c : List zT), k + d = l.length → Sd S → Lw S s L f P l → Ty S j c → Ce A e P n c → (∀ p, p ∈ c → p.1 ∈ U) → Ok mX9_lawInto 8 [some (zr 9 s), some (zr 8 j), some (zi (nI L)), some (zi y), some (zi (nI (f + k)))] [] S (fun r S1 => r = none ∧ Fg (tTy j) S S1 ∧ Ty S1 j (puts P b c (l.drop k))) := by
  intro d
  induction d with
  | zero =>
    intro k S c hk hs hl hc hC hcU
    obtain rfl : l.length = k := by omega
    refine r_iload (q := 10) dX9_lawInto_8 rfl rfl ?_
    refine r_aload_n (q := 11) dX9_lawInto_10 rfl rfl rfl ?_
    refine r_getr (q := 14) (some (1006, s)) ck9 dX9_lawInto_11 rfl (k := 6) (by decide) wt322 rfl (hs.e (show s < 4 by omega)) (hs.r (show s < 4 by omega) (by decide)) ?_
    refine r_iload_n (q := 15) dX9_lawInto_14 rfl rfl rfl ?_
    refine r_iconst (q := 16) (nI 1) dX9_lawInto_15 rfl (by decide) ?_
    refine r_iaddN (q := 17) dX9_lawInto_16 rfl ?_
    refine r_ialdN (q := 18) 19 (by decide) rfl dX9_lawInto_17 rfl (hs.e (show s < 4 by omega)) (hs.n rfl (show s < 4 by omega)) (by omega) (by decide) ?_
    refine r_topi (y := nI (f + l.length)) hl.2.1 ?_
    refine r_icmp_geN (q := 21) (t := 51) (by omega) (by omega) dX9_lawInto_18 (by decide) rfl (fun h18 => ?_) (fun h18 => absurd h18 (by omega))
    refine r_return dX9_lawInto_51 rfl ?_
    exact ⟨rfl, Fg.rf hs, by rw [List.drop_length]; exact hc⟩
  | succ d ih =>
    intro k S c hk hs hl hc hC hcU
    have hkl : k < l.length := by omega
    obtain ⟨r1, r2⟩ := hl.2.2.2 k hkl
    have hp := hL _ (mem_getD hkl)
    rw [getD_drop0 hkl, puts_cons]
    refine r_iload (q := 10) dX9_lawInto_8 rfl rfl ?_
    refine r_aload_n (q := 11) dX9_lawInto_10 rfl rfl rfl ?_
    refine r_getr (q := 14) (some (1006, s)) ck9 dX9_lawInto_11 rfl (k := 6) (by decide) wt322 rfl (hs.e (show s < 4 by omega)) (hs.r (show s < 4 by omega) (by decide)) ?_
    refine r_iload_n (q := 15) dX9_lawInto_14 rfl rfl rfl ?_
    refine r_iconst (q := 16) (nI 1) dX9_lawInto_15 rfl (by decide) ?_
    refine r_iaddN (q := 17) dX9_lawInto_16 rfl ?_
    refine r_ialdN (q := 18) 19 (by decide) rfl dX9_lawInto_17 rfl (hs.e (show s < 4 by omega)) (hs.n rfl (show s < 4 by omega)) (by omega) (by decide) ?_
    refine r_topi (y := nI (f + l.length)) hl.2.1 ?_
    refine r_icmp_geN (q := 21) (t := 51) (by omega) (by omega) dX9_lawInto_18 (by decide) rfl (fun h18 => absurd h18 (by omega)) (fun h18 => ?_)
    refine r_aload_n (q := 22) dX9_lawInto_21 rfl rfl rfl ?_
    refine r_aload_n (q := 23) dX9_lawInto_22 rfl rfl rfl ?_
    refine r_getr (q := 26) (some (1007, s)) ck9 dX9_lawInto_23 rfl (k := 7) (by decide) wt328 rfl (hs.e (show s < 4 by omega)) (hs.r (show s < 4 by omega) (by decide)) ?_
    refine r_iload (q := 28) dX9_lawInto_26 rfl rfl ?_
    refine r_ialdN (q := 29) 200 (by decide) rfl dX9_lawInto_28 rfl (hs.e (show s < 4 by omega)) (hs.n rfl (show s < 4 by omega)) (by omega) (by decide) ?_
    refine r_topi (y := nI (ky (l.getD k zd).1)) r1 ?_
    refine r_aload_n (q := 30) dX9_lawInto_29 rfl rfl rfl ?_
    refine r_getr (q := 33) (some (1008, s)) ck9 dX9_lawInto_30 rfl (k := 8) (by decide) wt333 rfl (hs.e (show s < 4 by omega)) (hs.r (show s < 4 by omega) (by decide)) ?_
    refine r_iload (q := 35) dX9_lawInto_33 rfl rfl ?_
    refine r_ialdN (q := 36) 200 (by decide) rfl dX9_lawInto_35 rfl (hs.e (show s < 4 by omega)) (hs.n rfl (show s < 4 by omega)) (by omega) (by decide) ?_
    refine r_topi (y := nI ((l.getD k zd).2)) r2 ?_
    refine r_iload_n (q := 37) dX9_lawInto_36 rfl rfl rfl ?_
    refine r_imul (q := 38) dX9_lawInto_37 rfl ?_
    refine r_aload_n (q := 39) dX9_lawInto_38 rfl rfl rfl ?_
    refine r_geti (q := 42) ck9 dX9_lawInto_39 rfl (k := 0) (by decide) wt289 (Or.inl rfl) (hs.e (show s < 4 by omega)) ?_
    refine r_topi (y := nI P) hl.2.2.1 ?_
    refine r_callV (Mc := mX8_put) (q := 45) (As := [zi (nI (ky (l.getD k zd).1)), zi ((nI ((l.getD k zd).2)) * y), zi (nI P)]) (st := []) ck8 dX9_lawInto_42 rfl rfl mkX8_put wt702 wt610 wt611 rfl (Nat.le_of_ble_eq_true rfl) (Nat.le_of_ble_eq_true rfl) (by decide) (by decide) (by decide) (Or.inr ⟨Nat.le_of_ble_eq_true rfl, rfl, rfl⟩) (hs.e (show j < 19 by omega)) (ok_X8_put hs hj hE hp.1 hn hc hC h2 hP hU (hlU _ (mem_getD hkl)) hcU (nI (l.getD k zd).2 * y)) (fun r42 S42 hp42 => ?_)
    obtain ⟨rfl, f1, f2⟩ := hp42
    rw [rsN_mul (by omega) h2 hy, hb] at f2
    show Ok _ _ _ [] _ _
    refine r_iincN (q := 48) (L' := [some (zr 9 s), some (zr 8 j), some (zi (nI L)), some (zi y), some (zi (nI (f + k + 1)))]) 1 rfl dX9_lawInto_45 rfl rfl (by decide) rfl ?_
    refine r_goto (q := 8) dX9_lawInto_48 (by decide) ?_
    have hl' : Lw S42 s L f P l := ⟨(f1.I (by omega) (by unfold tTy; omega)).trans hl.1, (f1.I (by omega) (by unfold tTy; omega)).trans hl.2.1, (f1.I (by omega) (by unfold tTy; omega)).trans hl.2.2.1, fun q hq => ⟨(f1.I (by omega) (by unfold tTy; omega)).trans (hl.2.2.2 q hq).1, (f1.I (by omega) (by unfold tTy; omega)).trans (hl.2.2.2 q hq).2⟩⟩
    exact Ok.mono (ih (k + 1) S42 _ (by omega) f1.sd hl' f2 (hC.put hE (by omega) hn hp.1) (fun p hp' => by rcases mem_addT (mem_cl hp') with z | z; exact hcU p z; rw [z.1]; exact hlU _ (mem_getD hkl))) (fun _ _ z => ⟨z.1, f1.tr z.2.1, z.2.2⟩)

set_option maxRecDepth 100000 in
theorem ok_X9_lawInto {S : zS} (hs : Sd S) {A n P b : Nat} {e : Nat → Nat} (hE : Eok A e) (hn : n ≤ 7) (h2 : 2 ≤ P) (hP : P ≤ 97) {y : Int32} (hy : -1000 < y.toInt ∧ y.toInt < 1000) (hb : rsN y P = b) {U : List (List Nat)} (hU : U.length ≤ 1200) {j s L f : Nat} (hj : j < 19) (hs4 : s < 4) (hL18 : L < 18) {l : List zT} (hf : f + l.length ≤ 200) (hL : ∀ p, p ∈ l → Tr A e n p.1 ∧ p.2 < P) (hlU : ∀ p, p ∈ l → p.1 ∈ U) {c : List zT} (hl : Lw S s L f P l) (hc : Ty S j c) (hC : Ce A e P n c) (hcU : ∀ p, p ∈ c → p.1 ∈ U) : Ok mX9_lawInto 0 (ent 5 [zr 9 s, zr 8 j, zi (nI L), zi y]) [] S (fun r S1 => r = none ∧ Fg (tTy j) S S1 ∧ Ty S1 j (puts P b c l)) := by
  show Ok mX9_lawInto 0 [some (zr 9 s), some (zr 8 j), some (zi (nI L)), some (zi y), none] [] S _
  refine r_aload_n (q := 1) dX9_lawInto_0 rfl rfl rfl ?_
  refine r_getr (q := 4) (some (1006, s)) ck9 dX9_lawInto_1 rfl (k := 6) (by decide) wt322 rfl (hs.e (show s < 4 by omega)) (hs.r (show s < 4 by omega) (by decide)) ?_
  refine r_iload_n (q := 5) dX9_lawInto_4 rfl rfl rfl ?_
  refine r_ialdN (q := 6) 19 (by decide) rfl dX9_lawInto_5 rfl (hs.e (show s < 4 by omega)) (hs.n rfl (show s < 4 by omega)) (by omega) (by decide) ?_
  refine r_topi (y := nI f) hl.1 ?_
  refine r_istore (q := 8) (L' := [some (zr 9 s), some (zr 8 j), some (zi (nI L)), some (zi y), some (zi (nI f))]) dX9_lawInto_6 rfl (by decide) rfl ?_
  exact lp_lawInto hE hn h2 hP hy hb hU hj hs4 hL18 hf hL hlU l.length 0 S c (by omega) hs hl hc hC hcU

def Hr (S : zS) (P : Nat) (l : List zT) : Prop := gI S 1306 0 1174 = nI l.length ∧ gI S 1306 0 0 = nI P ∧ ∀ k, k < l.length → gI S 1306 0 (1175 + k) = nI (cd (l.getD k zd).1) ∧ gI S 1306 0 (2475 + k) = nI (l.getD k zd).2
def Lr (S : zS) (L f P : Nat) (l : List zT) : Prop := gI S 1306 0 (25 + L) = nI f ∧ gI S 1306 0 (25 + L + 1) = nI (f + l.length) ∧ gI S 1306 0 0 = nI P ∧ ∀ k, k < l.length → gI S 1306 0 (44 + (f + k)) = nI (cd (l.getD k zd).1) ∧ gI S 1306 0 (244 + (f + k)) = nI (l.getD k zd).2
def Ow (S : zS) (A : Nat) (e : Nat → Nat) : Prop := ∀ a, a < A → gI S 1322 0 (1173 * 0 + 4 + a) = nI (e a)
theorem Ow.fr {S S1 : zS} {A : Nat} {e : Nat → Nat} (h : Ow S A e) (hf : Fr tAT S S1) : Ow S1 A e := fun a ha => (hf.1 _ _ _ rfl).trans (h a ha)

set_option maxRecDepth 100000 in
theorem lp_addHere {A n P b : Nat} {e : Nat → Nat} (hE : Eok A e) (hn : n ≤ 7) (h2 : 2 ≤ P) (hP : P ≤ 97) (hb : b < 97) {U : List (List Nat)} (hU : U.length ≤ 1200) {l : List zT} (hL : ∀ p, p ∈ l → Tr A e n p.1 ∧ p.2 < P) (hlU : ∀ p, p ∈ l → p.1 ∈ U) (hl12 : l.length ≤ 1200) : ∀ (d k : Nat) (S : zS) (r : List zT), k + d = l.length → Sd S → Hr S P l → Ow S A e → Rs e S r → Re A e P n r → (∀ p, p ∈ r → p.1 ∈ U) → Ok mX12_addHere 2 [some (zr 12 0), some (zi (nI b)), some (zi (nI k))] [] S (fun x S1 => x = none ∧ Fr tAT S S1 ∧ Rs e S1 (adds P b r (l.drop k))) := by
  intro d
  induction d with
  | zero =>
    intro k S r hk hs hl hw hr hR hrU
    obtain rfl : l.length = k := by omega
    refine r_iload_n (q := 3) dX12_addHere_2 rfl rfl rfl ?_
    refine r_aload_n (q := 4) dX12_addHere_3 rfl rfl rfl ?_
    refine r_getr (q := 7) (some (1306, 0)) ck12 dX12_addHere_4 rfl (k := 6) (by decide) wt1284 rfl (hs.e (by decide)) (hs.r (by decide) (by decide)) ?_
    refine r_sipush (q := 10) (nI 1174) dX12_addHere_7 rfl (by decide) ?_
    refine r_ialdN (q := 11) 3775 (by decide) rfl dX12_addHere_10 rfl (hs.e (by decide)) (hs.n rfl (by decide)) (by omega) (by decide) ?_
    refine r_topi (y := nI l.length) hl.1 ?_
    refine r_icmp_geN (q := 14) (t := 60) (by omega) (by omega) dX12_addHere_11 (by decide) rfl (fun h11 => ?_) (fun h11 => absurd h11 (by omega))
    refine r_return dX12_addHere_60 rfl ?_
    exact ⟨rfl, Fr.rf, by rw [List.drop_length]; exact hr⟩
  | succ d ih =>
    intro k S r hk hs hl hw hr hR hrU
    have hkl : k < l.length := by omega
    obtain ⟨r1, r2⟩ := hl.2.2 k hkl
    have hp := hL _ (mem_getD hkl)
    have hmul : (l.getD k zd).2 * b ≤ 96 * 96 := Nat.mul_le_mul (by omega) (by omega)
    have hlen := len_U hR hrU
    have hmod := Nat.mod_lt ((l.getD k zd).2 * b) (show 0 < P by omega)
    rw [getD_drop0 hkl, adds_cons]
    refine r_iload_n (q := 3) dX12_addHere_2 rfl rfl rfl ?_
    refine r_aload_n (q := 4) dX12_addHere_3 rfl rfl rfl ?_
    refine r_getr (q := 7) (some (1306, 0)) ck12 dX12_addHere_4 rfl (k := 6) (by decide) wt1284 rfl (hs.e (by decide)) (hs.r (by decide) (by decide)) ?_
    refine r_sipush (q := 10) (nI 1174) dX12_addHere_7 rfl (by decide) ?_
    refine r_ialdN (q := 11) 3775 (by decide) rfl dX12_addHere_10 rfl (hs.e (by decide)) (hs.n rfl (by decide)) (by omega) (by decide) ?_
    refine r_topi (y := nI l.length) hl.1 ?_
    refine r_icmp_geN (q := 14) (t := 60) (by omega) (by omega) dX12_addHere_11 (by decide) rfl (fun h11 => absurd h11 (by omega)) (fun h11 => ?_)
    refine r_aload_n (q := 15) dX12_addHere_14 rfl rfl rfl ?_
    refine r_aload_n (q := 16) dX12_addHere_15 rfl rfl rfl ?_
    refine r_getr (q := 19) (some (1306, 0)) ck12 dX12_addHere_16 rfl (k := 6) (by decide) wt1284 rfl (hs.e (by decide)) (hs.r (by decide) (by decide)) ?_
    refine r_sipush (q := 22) (nI 1175) dX12_addHere_19 rfl (by decide) ?_
    refine r_iload_n (q := 23) dX12_addHere_22 rfl rfl rfl ?_
    refine r_iaddN (q := 24) dX12_addHere_23 rfl ?_
    refine r_ialdN (q := 25) 3775 (by decide) rfl dX12_addHere_24 rfl (hs.e (by decide)) (hs.n rfl (by decide)) (by omega) (by decide) ?_
    refine r_topi (y := nI (cd (l.getD k zd).1)) r1 ?_
    refine r_aload_n (q := 26) dX12_addHere_25 rfl rfl rfl ?_
    refine r_getr (q := 29) (some (1306, 0)) ck12 dX12_addHere_26 rfl (k := 6) (by decide) wt1284 rfl (hs.e (by decide)) (hs.r (by decide) (by decide)) ?_
    refine r_sipush (q := 32) (nI 2475) dX12_addHere_29 rfl (by decide) ?_
    refine r_iload_n (q := 33) dX12_addHere_32 rfl rfl rfl ?_
    refine r_iaddN (q := 34) dX12_addHere_33 rfl ?_
    refine r_ialdN (q := 35) 3775 (by decide) rfl dX12_addHere_34 rfl (hs.e (by decide)) (hs.n rfl (by decide)) (by omega) (by decide) ?_
    refine r_topi (y := nI ((l.getD k zd).2)) r2 ?_
    refine r_iload_n (q := 36) dX12_addHere_35 rfl rfl rfl ?_
    refine r_imulN (q := 37) dX12_addHere_36 rfl ?_
    refine r_aload_n (q := 38) dX12_addHere_37 rfl rfl rfl ?_
    refine r_getr (q := 41) (some (1306, 0)) ck12 dX12_addHere_38 rfl (k := 6) (by decide) wt1284 rfl (hs.e (by decide)) (hs.r (by decide) (by decide)) ?_
    refine r_iconst (q := 42) (nI 0) dX12_addHere_41 rfl (by decide) ?_
    refine r_ialdN (q := 43) 3775 (by decide) rfl dX12_addHere_42 rfl (hs.e (by decide)) (hs.n rfl (by decide)) (by omega) (by decide) ?_
    refine r_topi (y := nI P) hl.2.1 ?_
    refine r_iremN (q := 44) (by omega) (by omega) (by omega) dX12_addHere_43 rfl ?_
    refine r_iconst (q := 45) (nI 0) dX12_addHere_44 rfl (by decide) ?_
    refine r_aload_n (q := 46) dX12_addHere_45 rfl rfl rfl ?_
    refine r_getr (q := 49) (some (1306, 0)) ck12 dX12_addHere_46 rfl (k := 6) (by decide) wt1284 rfl (hs.e (by decide)) (hs.r (by decide) (by decide)) ?_
    refine r_iconst (q := 50) (nI 0) dX12_addHere_49 rfl (by decide) ?_
    refine r_ialdN (q := 51) 3775 (by decide) rfl dX12_addHere_50 rfl (hs.e (by decide)) (hs.n rfl (by decide)) (by omega) (by decide) ?_
    refine r_topi (y := nI P) hl.2.1 ?_
    refine r_callV (Mc := mX12_addTerm) (q := 54) (As := [zi (nI (cd (l.getD k zd).1)), zi (nI ((((l.getD k zd).2) * b) % P)), zi (nI 0), zi (nI P)]) (st := []) ck12 dX12_addHere_51 rfl rfl mkX12_addTerm wt1641 wt1643 wp83 rfl (Nat.le_of_ble_eq_true rfl) (Nat.le_of_ble_eq_true rfl) (by decide) (by decide) (by decide) (Or.inl rfl) (hs.e (by decide)) (ok_X12_addTerm hs hE hp.1 hn hr hR.2 h2 hP (by omega) (by omega) (show 0 ≤ 1 by omega) hw) (fun r51 S51 hp51 => ?_)
    obtain ⟨rfl, f1, f2⟩ := hp51
    show Ok _ _ _ [] _ _
    refine r_iincN (q := 57) (L' := [some (zr 12 0), some (zi (nI b)), some (zi (nI (k + 1)))]) 1 rfl dX12_addHere_54 rfl rfl (by decide) rfl ?_
    refine r_goto (q := 2) dX12_addHere_57 (by decide) ?_
    have hl' : Hr S51 P l := ⟨(f1.1 _ _ _ rfl).trans hl.1, (f1.1 _ _ _ rfl).trans hl.2.1, fun q hq => ⟨(f1.1 _ _ _ rfl).trans (hl.2.2 q hq).1, (f1.1 _ _ _ rfl).trans (hl.2.2 q hq).2⟩⟩
    exact Ok.mono (ih (k + 1) S51 _ (by omega) (hs.fr f1) hl' (hw.fr f1) f2 (hR.add hE (by omega) hn hp.1) (fun p hp' => by rcases mem_addT hp' with z | z; exact hrU p z; rw [z.1]; exact hlU _ (mem_getD hkl))) (fun _ _ z => ⟨z.1, f1.tr z.2.1, z.2.2⟩)

set_option maxRecDepth 100000 in
theorem ok_X12_addHere {S : zS} (hs : Sd S) {A n P b : Nat} {e : Nat → Nat} (hE : Eok A e) (hn : n ≤ 7) (h2 : 2 ≤ P) (hP : P ≤ 97) (hb : b < 97) {U : List (List Nat)} (hU : U.length ≤ 1200) {l : List zT} (hL : ∀ p, p ∈ l → Tr A e n p.1 ∧ p.2 < P) (hlU : ∀ p, p ∈ l → p.1 ∈ U) (hl12 : l.length ≤ 1200) {r : List zT} (hl : Hr S P l) (hw : Ow S A e) (hr : Rs e S r) (hR : Re A e P n r) (hrU : ∀ p, p ∈ r → p.1 ∈ U) : Ok mX12_addHere 0 (ent 3 [zr 12 0, zi (nI b)]) [] S (fun x S1 => x = none ∧ Fr tAT S S1 ∧ Rs e S1 (adds P b r l)) := by
  show Ok mX12_addHere 0 [some (zr 12 0), some (zi (nI b)), none] [] S _
  refine r_iconst (q := 1) (nI 0) dX12_addHere_0 rfl (by decide) ?_
  refine r_istore_n (q := 2) (L' := [some (zr 12 0), some (zi (nI b)), some (zi (nI 0))]) dX12_addHere_1 rfl rfl (by decide) rfl ?_
  exact lp_addHere hE hn h2 hP hb hU hL hlU hl12 l.length 0 S r (by omega) hs hl hw hr hR hrU

set_option maxRecDepth 100000 in
theorem lp_addLaw {A n P b : Nat} {e : Nat → Nat} (hE : Eok A e) (hn : n ≤ 7) (h2 : 2 ≤ P) (hP : P ≤ 97) (hb : b < 97) {U : List (List Nat)} (hU : U.length ≤ 1200) {l : List zT} (hL : ∀ p, p ∈ l → Tr A e n p.1 ∧ p.2 < P) (hlU : ∀ p, p ∈ l → p.1 ∈ U) {L f : Nat} (hL18 : L < 18) (hf : f + l.length ≤ 200) : ∀ (d k : Nat) (S : zS) (r : List zT), k + d = l.length → Sd S → Lr S L f P l → Ow S A e → Rs e S r → Re A e P n r → (∀ p, p ∈ r → p.1 ∈ U) → Ok mX12_addLaw 10 [some (zr 12 0), some (zi (nI L)), some (zi (nI b)), some (zi (nI (f + k)))] [] S (fun x S1 => x = none ∧ Fr tAT S S1 ∧ Rs e S1 (adds P b r (l.drop k))) := by
  intro d
  induction d with
  | zero =>
    intro k S r hk hs hl hw hr hR hrU
    obtain rfl : l.length = k := by omega
    refine r_iload_n (q := 11) dX12_addLaw_10 rfl rfl rfl ?_
    refine r_aload_n (q := 12) dX12_addLaw_11 rfl rfl rfl ?_
    refine r_getr (q := 15) (some (1306, 0)) ck12 dX12_addLaw_12 rfl (k := 6) (by decide) wt1284 rfl (hs.e (by decide)) (hs.r (by decide) (by decide)) ?_
    refine r_bipush (q := 17) (nI 25) dX12_addLaw_15 rfl (by decide) ?_
    refine r_iload_n (q := 18) dX12_addLaw_17 rfl rfl rfl ?_
    refine r_iaddN (q := 19) dX12_addLaw_18 rfl ?_
    refine r_iconst (q := 20) (nI 1) dX12_addLaw_19 rfl (by decide) ?_
    refine r_iaddN (q := 21) dX12_addLaw_20 rfl ?_
    refine r_topi (y := nI (25 + L + 1)) rfl ?_
    refine r_ialdN (q := 22) 3775 (by decide) rfl dX12_addLaw_21 rfl (hs.e (by decide)) (hs.n rfl (by decide)) (by omega) (by decide) ?_
    refine r_topi (y := nI (f + l.length)) hl.2.1 ?_
    refine r_icmp_geN (q := 25) (t := 70) (by omega) (by omega) dX12_addLaw_22 (by decide) rfl (fun h22 => ?_) (fun h22 => absurd h22 (by omega))
    refine r_return dX12_addLaw_70 rfl ?_
    exact ⟨rfl, Fr.rf, by rw [List.drop_length]; exact hr⟩
  | succ d ih =>
    intro k S r hk hs hl hw hr hR hrU
    have hkl : k < l.length := by omega
    obtain ⟨r1, r2⟩ := hl.2.2.2 k hkl
    have hp := hL _ (mem_getD hkl)
    have hmul : (l.getD k zd).2 * b ≤ 96 * 96 := Nat.mul_le_mul (by omega) (by omega)
    have hlen := len_U hR hrU
    have hmod := Nat.mod_lt ((l.getD k zd).2 * b) (show 0 < P by omega)
    rw [getD_drop0 hkl, adds_cons]
    refine r_iload_n (q := 11) dX12_addLaw_10 rfl rfl rfl ?_
    refine r_aload_n (q := 12) dX12_addLaw_11 rfl rfl rfl ?_
    refine r_getr (q := 15) (some (1306, 0)) ck12 dX12_addLaw_12 rfl (k := 6) (by decide) wt1284 rfl (hs.e (by decide)) (hs.r (by decide) (by decide)) ?_
    refine r_bipush (q := 17) (nI 25) dX12_addLaw_15 rfl (by decide) ?_
    refine r_iload_n (q := 18) dX12_addLaw_17 rfl rfl rfl ?_
    refine r_iaddN (q := 19) dX12_addLaw_18 rfl ?_
    refine r_iconst (q := 20) (nI 1) dX12_addLaw_19 rfl (by decide) ?_
    refine r_iaddN (q := 21) dX12_addLaw_20 rfl ?_
    refine r_topi (y := nI (25 + L + 1)) rfl ?_
    refine r_ialdN (q := 22) 3775 (by decide) rfl dX12_addLaw_21 rfl (hs.e (by decide)) (hs.n rfl (by decide)) (by omega) (by decide) ?_
    refine r_topi (y := nI (f + l.length)) hl.2.1 ?_
    refine r_icmp_geN (q := 25) (t := 70) (by omega) (by omega) dX12_addLaw_22 (by decide) rfl (fun h22 => absurd h22 (by omega)) (fun h22 => ?_)
    refine r_aload_n (q := 26) dX12_addLaw_25 rfl rfl rfl ?_
    refine r_aload_n (q := 27) dX12_addLaw_26 rfl rfl rfl ?_
    refine r_getr (q := 30) (some (1306, 0)) ck12 dX12_addLaw_27 rfl (k := 6) (by decide) wt1284 rfl (hs.e (by decide)) (hs.r (by decide) (by decide)) ?_
    refine r_bipush (q := 32) (nI 44) dX12_addLaw_30 rfl (by decide) ?_
    refine r_iload_n (q := 33) dX12_addLaw_32 rfl rfl rfl ?_
    refine r_iaddN (q := 34) dX12_addLaw_33 rfl ?_
    refine r_topi (y := nI (44 + (f + k))) rfl ?_
    refine r_ialdN (q := 35) 3775 (by decide) rfl dX12_addLaw_34 rfl (hs.e (by decide)) (hs.n rfl (by decide)) (by omega) (by decide) ?_
    refine r_topi (y := nI (cd (l.getD k zd).1)) r1 ?_
    refine r_aload_n (q := 36) dX12_addLaw_35 rfl rfl rfl ?_
    refine r_getr (q := 39) (some (1306, 0)) ck12 dX12_addLaw_36 rfl (k := 6) (by decide) wt1284 rfl (hs.e (by decide)) (hs.r (by decide) (by decide)) ?_
    refine r_sipush (q := 42) (nI 244) dX12_addLaw_39 rfl (by decide) ?_
    refine r_iload_n (q := 43) dX12_addLaw_42 rfl rfl rfl ?_
    refine r_iaddN (q := 44) dX12_addLaw_43 rfl ?_
    refine r_ialdN (q := 45) 3775 (by decide) rfl dX12_addLaw_44 rfl (hs.e (by decide)) (hs.n rfl (by decide)) (by omega) (by decide) ?_
    refine r_topi (y := nI ((l.getD k zd).2)) r2 ?_
    refine r_iload_n (q := 46) dX12_addLaw_45 rfl rfl rfl ?_
    refine r_imulN (q := 47) dX12_addLaw_46 rfl ?_
    refine r_aload_n (q := 48) dX12_addLaw_47 rfl rfl rfl ?_
    refine r_getr (q := 51) (some (1306, 0)) ck12 dX12_addLaw_48 rfl (k := 6) (by decide) wt1284 rfl (hs.e (by decide)) (hs.r (by decide) (by decide)) ?_
    refine r_iconst (q := 52) (nI 0) dX12_addLaw_51 rfl (by decide) ?_
    refine r_ialdN (q := 53) 3775 (by decide) rfl dX12_addLaw_52 rfl (hs.e (by decide)) (hs.n rfl (by decide)) (by omega) (by decide) ?_
    refine r_topi (y := nI P) hl.2.2.1 ?_
    refine r_iremN (q := 54) (by omega) (by omega) (by omega) dX12_addLaw_53 rfl ?_
    refine r_iconst (q := 55) (nI 0) dX12_addLaw_54 rfl (by decide) ?_
    refine r_aload_n (q := 56) dX12_addLaw_55 rfl rfl rfl ?_
    refine r_getr (q := 59) (some (1306, 0)) ck12 dX12_addLaw_56 rfl (k := 6) (by decide) wt1284 rfl (hs.e (by decide)) (hs.r (by decide) (by decide)) ?_
    refine r_iconst (q := 60) (nI 0) dX12_addLaw_59 rfl (by decide) ?_
    refine r_ialdN (q := 61) 3775 (by decide) rfl dX12_addLaw_60 rfl (hs.e (by decide)) (hs.n rfl (by decide)) (by omega) (by decide) ?_
    refine r_topi (y := nI P) hl.2.2.1 ?_
    refine r_callV (Mc := mX12_addTerm) (q := 64) (As := [zi (nI (cd (l.getD k zd).1)), zi (nI ((((l.getD k zd).2) * b) % P)), zi (nI 0), zi (nI P)]) (st := []) ck12 dX12_addLaw_61 rfl rfl mkX12_addTerm wt1641 wt1643 wp83 rfl (Nat.le_of_ble_eq_true rfl) (Nat.le_of_ble_eq_true rfl) (by decide) (by decide) (by decide) (Or.inl rfl) (hs.e (by decide)) (ok_X12_addTerm hs hE hp.1 hn hr hR.2 h2 hP (by omega) (by omega) (show 0 ≤ 1 by omega) hw) (fun r61 S61 hp61 => ?_)
    obtain ⟨rfl, f1, f2⟩ := hp61
    show Ok _ _ _ [] _ _
    refine r_iincN (q := 67) (L' := [some (zr 12 0), some (zi (nI L)), some (zi (nI b)), some (zi (nI (f + k + 1)))]) 1 rfl dX12_addLaw_64 rfl rfl (by decide) rfl ?_
    refine r_goto (q := 10) dX12_addLaw_67 (by decide) ?_
    have hl' : Lr S61 L f P l := ⟨(f1.1 _ _ _ rfl).trans hl.1, (f1.1 _ _ _ rfl).trans hl.2.1, (f1.1 _ _ _ rfl).trans hl.2.2.1, fun q hq => ⟨(f1.1 _ _ _ rfl).trans (hl.2.2.2 q hq).1, (f1.1 _ _ _ rfl).trans (hl.2.2.2 q hq).2⟩⟩
    exact Ok.mono (ih (k + 1) S61 _ (by omega) (hs.fr f1) hl' (hw.fr f1) f2 (hR.add hE (by omega) hn hp.1) (fun p hp' => by rcases mem_addT hp' with z | z; exact hrU p z; rw [z.1]; exact hlU _ (mem_getD hkl))) (fun _ _ z => ⟨z.1, f1.tr z.2.1, z.2.2⟩)

set_option maxRecDepth 100000 in
theorem ok_X12_addLaw {S : zS} (hs : Sd S) {A n P b : Nat} {e : Nat → Nat} (hE : Eok A e) (hn : n ≤ 7) (h2 : 2 ≤ P) (hP : P ≤ 97) (hb : b < 97) {U : List (List Nat)} (hU : U.length ≤ 1200) {l : List zT} (hL : ∀ p, p ∈ l → Tr A e n p.1 ∧ p.2 < P) (hlU : ∀ p, p ∈ l → p.1 ∈ U) {L f : Nat} (hL18 : L < 18) (hf : f + l.length ≤ 200) {r : List zT} (hl : Lr S L f P l) (hw : Ow S A e) (hr : Rs e S r) (hR : Re A e P n r) (hrU : ∀ p, p ∈ r → p.1 ∈ U) : Ok mX12_addLaw 0 (ent 4 [zr 12 0, zi (nI L), zi (nI b)]) [] S (fun x S1 => x = none ∧ Fr tAT S S1 ∧ Rs e S1 (adds P b r l)) := by
  show Ok mX12_addLaw 0 [some (zr 12 0), some (zi (nI L)), some (zi (nI b)), none] [] S _
  refine r_aload_n (q := 1) dX12_addLaw_0 rfl rfl rfl ?_
  refine r_getr (q := 4) (some (1306, 0)) ck12 dX12_addLaw_1 rfl (k := 6) (by decide) wt1284 rfl (hs.e (by decide)) (hs.r (by decide) (by decide)) ?_
  refine r_bipush (q := 6) (nI 25) dX12_addLaw_4 rfl (by decide) ?_
  refine r_iload_n (q := 7) dX12_addLaw_6 rfl rfl rfl ?_
  refine r_iaddN (q := 8) dX12_addLaw_7 rfl ?_
  refine r_ialdN (q := 9) 3775 (by decide) rfl dX12_addLaw_8 rfl (hs.e (by decide)) (hs.n rfl (by decide)) (by omega) (by decide) ?_
  refine r_topi (y := nI f) hl.1 ?_
  refine r_istore_n (q := 10) (L' := [some (zr 12 0), some (zi (nI L)), some (zi (nI b)), some (zi (nI f))]) dX12_addLaw_9 rfl rfl (by decide) rfl ?_
  exact lp_addLaw hE hn h2 hP hb hU hL hlU hL18 hf l.length 0 S r (by omega) hs hl hw hr hR hrU

set_option maxRecDepth 100000 in
theorem ok_X12_rest {S : zS} (hs : Sd S) {P : Nat} (h2 : 2 ≤ P) (hP : P ≤ 97) (hp : gI S 1306 0 0 = nI P) (x : Int32) : Ok mX12_rest 0 (ent 2 [zr 12 0, zi x]) [] S (fun r S1 => r = some (zi (nI (rsN x P))) ∧ S1 = S) := by
  have hlt := rsN_lt (x := x) (P := P) (by omega)
  have hne : (nI P).toInt ≠ 0 := by rw [nI_toInt (by omega)]; omega
  by_cases h : 0 ≤ x - x / nI P * nI P
  · show Ok mX12_rest 0 [some (zr 12 0), some (zi x)] [] S _
    refine r_iload_n (q := 1) dX12_rest_0 rfl rfl rfl ?_
    refine r_aload_n (q := 2) dX12_rest_1 rfl rfl rfl ?_
    refine r_getr (q := 5) (some (1306, 0)) ck12 dX12_rest_2 rfl (k := 6) (by decide) wt1284 rfl (hs.e (by decide)) (hs.r (by decide) (by decide)) ?_
    refine r_iconst (q := 6) (nI 0) dX12_rest_5 rfl (by decide) ?_
    refine r_ialdN (q := 7) 3775 (by decide) rfl dX12_rest_6 rfl (hs.e (by decide)) (hs.n rfl (by decide)) (by omega) (by decide) ?_
    refine r_topi (y := nI P) hp ?_
    refine r_irem (q := 8) dX12_rest_7 rfl (by intro z; exact nI_nz (show 0 < P by omega) (by omega) z) ?_
    refine r_aload_n (q := 9) dX12_rest_8 rfl rfl rfl ?_
    refine r_getr (q := 12) (some (1306, 0)) ck12 dX12_rest_9 rfl (k := 6) (by decide) wt1284 rfl (hs.e (by decide)) (hs.r (by decide) (by decide)) ?_
    refine r_iconst (q := 13) (nI 0) dX12_rest_12 rfl (by decide) ?_
    refine r_ialdN (q := 14) 3775 (by decide) rfl dX12_rest_13 rfl (hs.e (by decide)) (hs.n rfl (by decide)) (by omega) (by decide) ?_
    refine r_topi (y := nI P) hp ?_
    refine r_iadd (q := 15) dX12_rest_14 rfl ?_
    refine r_topi (y := nI (rsN x P + P)) (by rw [rsN_ge h2 hP h, nI_add]) ?_
    refine r_aload_n (q := 16) dX12_rest_15 rfl rfl rfl ?_
    refine r_getr (q := 19) (some (1306, 0)) ck12 dX12_rest_16 rfl (k := 6) (by decide) wt1284 rfl (hs.e (by decide)) (hs.r (by decide) (by decide)) ?_
    refine r_iconst (q := 20) (nI 0) dX12_rest_19 rfl (by decide) ?_
    refine r_ialdN (q := 21) 3775 (by decide) rfl dX12_rest_20 rfl (hs.e (by decide)) (hs.n rfl (by decide)) (by omega) (by decide) ?_
    refine r_topi (y := nI P) hp ?_
    refine r_iremN (q := 22) (by omega) (by omega) (by omega) dX12_rest_21 rfl ?_
    refine r_ireturn dX12_rest_22 rfl ?_
    exact ⟨by rw [Nat.add_mod_right, Nat.mod_eq_of_lt hlt], rfl⟩
  · show Ok mX12_rest 0 [some (zr 12 0), some (zi x)] [] S _
    refine r_iload_n (q := 1) dX12_rest_0 rfl rfl rfl ?_
    refine r_aload_n (q := 2) dX12_rest_1 rfl rfl rfl ?_
    refine r_getr (q := 5) (some (1306, 0)) ck12 dX12_rest_2 rfl (k := 6) (by decide) wt1284 rfl (hs.e (by decide)) (hs.r (by decide) (by decide)) ?_
    refine r_iconst (q := 6) (nI 0) dX12_rest_5 rfl (by decide) ?_
    refine r_ialdN (q := 7) 3775 (by decide) rfl dX12_rest_6 rfl (hs.e (by decide)) (hs.n rfl (by decide)) (by omega) (by decide) ?_
    refine r_topi (y := nI P) hp ?_
    refine r_irem (q := 8) dX12_rest_7 rfl (by intro z; exact nI_nz (show 0 < P by omega) (by omega) z) ?_
    refine r_aload_n (q := 9) dX12_rest_8 rfl rfl rfl ?_
    refine r_getr (q := 12) (some (1306, 0)) ck12 dX12_rest_9 rfl (k := 6) (by decide) wt1284 rfl (hs.e (by decide)) (hs.r (by decide) (by decide)) ?_
    refine r_iconst (q := 13) (nI 0) dX12_rest_12 rfl (by decide) ?_
    refine r_ialdN (q := 14) 3775 (by decide) rfl dX12_rest_13 rfl (hs.e (by decide)) (hs.n rfl (by decide)) (by omega) (by decide) ?_
    refine r_topi (y := nI P) hp ?_
    refine r_iadd (q := 15) dX12_rest_14 rfl ?_
    refine r_topi (y := nI (rsN x P)) (by rw [rsN_nge h2 hP h]) ?_
    refine r_aload_n (q := 16) dX12_rest_15 rfl rfl rfl ?_
    refine r_getr (q := 19) (some (1306, 0)) ck12 dX12_rest_16 rfl (k := 6) (by decide) wt1284 rfl (hs.e (by decide)) (hs.r (by decide) (by decide)) ?_
    refine r_iconst (q := 20) (nI 0) dX12_rest_19 rfl (by decide) ?_
    refine r_ialdN (q := 21) 3775 (by decide) rfl dX12_rest_20 rfl (hs.e (by decide)) (hs.n rfl (by decide)) (by omega) (by decide) ?_
    refine r_topi (y := nI P) hp ?_
    refine r_iremN (q := 22) (by omega) (by omega) (by omega) dX12_rest_21 rfl ?_
    refine r_ireturn dX12_rest_22 rfl ?_
    exact ⟨by rw [Nat.mod_eq_of_lt hlt], rfl⟩

theorem cpR_step_0 {S : zS} {a0 b0 a1 b1 i hi : Nat} (h : i < hi) (hd : ¬ (a0 = a1 ∧ b0 = b1)) : cpR (sI S a1 b1 i (gI S a0 b0 i)) a0 b0 a1 b1 0 0 (i + 1) hi = cpR S a0 b0 a1 b1 0 0 i hi := by
  have := cpR_step (S := S) (so := 0) (to := 0) h hd
  simp only [Nat.zero_add] at this
  exact this
set_option maxRecDepth 100000 in
theorem lp_own {Po : Option zV → zS → Prop}  : ∀ (d i : Nat) (S : zS), i + d = 1173 → Sd S → (∀ S2, S2 = cpR S 1306 0 1322 0 0 0 i 1173 → Ok mX12_ownWorld 41 [some (zr 12 0), some (zi (nI 1173))] [] S2 Po) → Ok mX12_ownWorld 16 [some (zr 12 0), some (zi (nI i))] [] S Po := by
  intro d
  induction d with
  | zero =>
    intro i S hi hs  K
    obtain rfl : i = 1173 := by omega
    refine r_iload_n (q := 17) dX12_ownWorld_16 rfl rfl rfl ?_
    refine r_sipush (q := 20) (nI 1173) dX12_ownWorld_17 rfl (by decide) ?_
    refine r_icmp_geN (q := 23) (t := 41) (by omega) (by omega) dX12_ownWorld_20 (by decide) rfl (fun h20 => ?_) (fun h20 => absurd h20 (by omega))
    exact K _ (cpR_all.symm)
  | succ d ih =>
    intro i S hi hs  K
    refine r_iload_n (q := 17) dX12_ownWorld_16 rfl rfl rfl ?_
    refine r_sipush (q := 20) (nI 1173) dX12_ownWorld_17 rfl (by decide) ?_
    refine r_icmp_geN (q := 23) (t := 41) (by omega) (by omega) dX12_ownWorld_20 (by decide) rfl (fun h20 => absurd h20 (by omega)) (fun h20 => ?_)
    refine r_aload_n (q := 24) dX12_ownWorld_23 rfl rfl rfl ?_
    refine r_getr (q := 27) (some (1322, 0)) ck12 dX12_ownWorld_24 rfl (k := 22) (by decide) wt1300 rfl (hs.e (by decide)) (hs.r (by decide) (by decide)) ?_
    refine r_iload_n (q := 28) dX12_ownWorld_27 rfl rfl rfl ?_
    refine r_aload_n (q := 29) dX12_ownWorld_28 rfl rfl rfl ?_
    refine r_getr (q := 32) (some (1306, 0)) ck12 dX12_ownWorld_29 rfl (k := 6) (by decide) wt1284 rfl (hs.e (by decide)) (hs.r (by decide) (by decide)) ?_
    refine r_iload_n (q := 33) dX12_ownWorld_32 rfl rfl rfl ?_
    refine r_ialdN (q := 34) 3775 (by decide) rfl dX12_ownWorld_33 rfl (hs.e (by decide)) (hs.n rfl (by decide)) (by omega) (by decide) ?_
    refine r_iastN (q := 35) 2346 (by decide) rfl dX12_ownWorld_34 rfl (hs.e (by decide)) (hs.n rfl (by decide)) (by omega) (by decide) ?_
    refine r_iincN (q := 38) (L' := [some (zr 12 0), some (zi (nI (i + 1)))]) 1 rfl dX12_ownWorld_35 rfl rfl (by decide) rfl ?_
    refine r_goto (q := 16) dX12_ownWorld_38 (by decide) ?_
    exact ih (i + 1) _ (by omega) hs  (fun S2 h => K S2 (h.trans (cpR_step_0 (by omega) (by decide))))

def owS (S : zS) : zS := sI (cpR (sI S 12 0 33 (nI 1)) 1306 0 1322 0 0 0 0 1173) 1323 0 0 (nI 0)

set_option maxRecDepth 100000 in
theorem ok_X12_ownWorld_n {S : zS} (hs : Sd S) (hn : ¬ gI S 12 0 33 = nI 1) : Ok mX12_ownWorld 0 (ent 2 [zr 12 0]) [] S (fun r S1 => r = none ∧ S1 = owS S) := by
  show Ok mX12_ownWorld 0 [some (zr 12 0), none] [] S _
  refine r_aload_n (q := 1) dX12_ownWorld_0 rfl rfl rfl ?_
  refine r_geti (q := 4) ck12 dX12_ownWorld_1 rfl (k := 33) (by decide) wt1311 (Or.inl rfl) (hs.e (by decide)) ?_
  refine r_iconst (q := 5) (nI 1) dX12_ownWorld_4 rfl (by decide) ?_
  refine r_icmp_ne (q := 8) (t := 9) dX12_ownWorld_5 (by decide) rfl (fun h5 => ?_) (fun h5 => absurd h5 (fun z => z hn))
  refine r_aload_n (q := 10) dX12_ownWorld_9 rfl rfl rfl ?_
  refine r_iconst (q := 11) (nI 1) dX12_ownWorld_10 rfl (by decide) ?_
  refine r_puti (q := 14) ck12 dX12_ownWorld_11 rfl (k := 33) (by decide) wt1311 (Or.inl rfl) rfl (hs.e (by decide)) ?_
  refine r_iconst (q := 15) (nI 0) dX12_ownWorld_14 rfl (by decide) ?_
  refine r_istore_n (q := 16) (L' := [some (zr 12 0), some (zi (nI 0))]) dX12_ownWorld_15 rfl rfl (by decide) rfl ?_
  refine lp_own 1173 0 _ (by omega) hs (fun S2 h => ?_)
  have hs2 : Sd S2 := by rw [h]; exact hs
  refine r_aload_n (q := 42) dX12_ownWorld_41 rfl rfl rfl ?_
  refine r_getr (q := 45) (some (1323, 0)) ck12 dX12_ownWorld_42 rfl (k := 23) (by decide) wt1301 rfl (hs2.e (by decide)) (hs2.r (by decide) (by decide)) ?_
  refine r_iconst (q := 46) (nI 0) dX12_ownWorld_45 rfl (by decide) ?_
  refine r_iconst (q := 47) (nI 0) dX12_ownWorld_46 rfl (by decide) ?_
  refine r_iastN (q := 48) 2 (by decide) rfl dX12_ownWorld_47 rfl (hs2.e (by decide)) (hs2.n rfl (by decide)) (by omega) (by decide) ?_
  refine r_return dX12_ownWorld_48 rfl ?_
  exact ⟨rfl, by rw [h]; rfl⟩

set_option maxRecDepth 100000 in
theorem ok_X12_ownWorld_y {S : zS} (hs : Sd S) (hn : gI S 12 0 33 = nI 1) : Ok mX12_ownWorld 0 (ent 2 [zr 12 0]) [] S (fun r S1 => r = none ∧ S1 = S) := by
  show Ok mX12_ownWorld 0 [some (zr 12 0), none] [] S _
  refine r_aload_n (q := 1) dX12_ownWorld_0 rfl rfl rfl ?_
  refine r_geti (q := 4) ck12 dX12_ownWorld_1 rfl (k := 33) (by decide) wt1311 (Or.inl rfl) (hs.e (by decide)) ?_
  refine r_topi (y := nI 1) hn ?_
  refine r_iconst (q := 5) (nI 1) dX12_ownWorld_4 rfl (by decide) ?_
  refine r_icmp_neN (q := 8) (t := 9) (by omega) (by omega) dX12_ownWorld_5 (by decide) rfl (fun h5 => absurd h5 (by omega)) (fun h5 => ?_)
  refine r_return dX12_ownWorld_8 rfl ?_
  exact ⟨rfl, rfl⟩

