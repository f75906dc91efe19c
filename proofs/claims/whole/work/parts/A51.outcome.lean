/-! a sum done -/
def dsA (f : List Nat → Nat) (P : Nat) (c : List zT) : Nat → Nat
  | 0 => 0
  | i + 1 => (dsA f P c i + (c.getD i zd).2 * f (c.getD i zd).1) % P
theorem dsA_lt {f : List Nat → Nat} {P : Nat} (hP : 0 < P) {c : List zT} : ∀ i, dsA f P c i < P
  | 0 => hP
  | _ + 1 => Nat.mod_lt _ hP
theorem CSt.top {S : zS} {w P : Nat} {v : Nat → Nat → Nat} {sz : Nat} (h : CSt S w P v sz) (hz : sz = 1) {j : Nat} (hj : j < w) : gI S 204 0 j = nI (v 0 j) ∧ v 0 j < P := by
  have := h 0 j (by omega) hj
  rw [Nat.zero_mul, Nat.zero_add] at this
  exact this

theorem Ty.dt {S S1 : zS} {q : List zT} (h : Ty S 0 q) (f : Fr tDt S S1) : Ty S1 0 q := by
  obtain ⟨h1, h2, m, h3, h4, h5⟩ := h
  have eN : ∀ a b, gN S1 a b = gN S a b := fun a b => by
    have := f.2.2
    show S1.2.2.1 a b = S.2.2.1 a b
    rw [this]
  exact ⟨(f.1 _ _ _ rfl).trans h1, fun k hk => ⟨(f.1 _ _ _ rfl).trans (h2 k hk).1, (f.1 _ _ _ rfl).trans (h2 k hk).2⟩, m, (eN _ _).trans h3, (eN _ _).trans h4, h5⟩

set_option maxRecDepth 100000 in
theorem lp_oc6 {c n w P : Nat} (hc4 : c < 4) (hn7 : n ≤ 7) (h1 : 1 ≤ w) (h3 : w ≤ 3) (hP2 : 2 ≤ P) (hP97 : P ≤ 97) {A : Nat} {e : Nat → Nat} (hE : Eok A e) {tb : Nat → Nat → Nat} {way : Nat → Nat} {q : List zT} (hq : Ce A e P n q) {y : Nat} (hy : y < w) : ∀ (d i : Nat) (S : zS), i + d = q.length → Sd S → gI S 9 c 0 = nI P → gI S 9 c 1 = nI A → (∀ a, a < A → gI S 1003 c a = nI (e a)) → gI S 7 0 0 = nI w → (∀ a, a < A → TbC S a P (tb a)) → (∀ i, i < n → gI S 1200 0 i = nI (way i) ∧ way i ≤ 3) → gI S 8 0 0 = nI n → Ty S 0 q → Ok mX1_outcome 6 [some (zr 1 0), some (zr 9 c), some (zr 8 0), some (zr 7 0), some (zr 1200 0), some (zi (nI y)), some (zi (nI (dsA (fun t => (dvS w P e tb way n (t)).1 0 y) P q i))), some (zi (nI i))] [] S (fun r S1 => r = some (zi (nI (dsA (fun t => (dvS w P e tb way n (t)).1 0 y) P q q.length))) ∧ Fr tDt S S1) := by
  intro d
  induction d with
  | zero =>
    intro i S hi hs hp0 hA he hw hT hway hn0 hty
    have hl := hty.1
    have ei : i = q.length := by omega
    subst ei
    have hq12 : q.length ≤ 1200 := by obtain ⟨_, _, m, _, _, _, _, _⟩ := hty; omega
    refine r_iload (q := 8) dX1_outcome_6 rfl rfl ?_
    refine r_aload_n (q := 9) dX1_outcome_8 rfl rfl rfl ?_
    refine r_geti (q := 12) ck8 dX1_outcome_9 rfl (k := 1) (by decide) wt64 (Or.inl rfl) (hs.e (by decide)) ?_
    refine r_topi (y := nI q.length) hl ?_
    refine r_icmp_geN (q := 15) (t := 67) (by omega) (by omega) dX1_outcome_12 (by decide) rfl (fun h12 => ?_) (fun h12 => absurd h12 (by omega))
    refine r_iload (q := 69) dX1_outcome_67 rfl rfl ?_
    refine r_ireturn dX1_outcome_69 rfl ?_
    exact ⟨rfl, Fr.rf⟩
  | succ d ih =>
    intro i S hi hs hp0 hA he hw hT hway hn0 hty
    have hil : i < q.length := by omega
    have hl := hty.1
    obtain ⟨m, hm2, hm3, hm32, hm12, hlm⟩ := hty.2.2
    obtain ⟨hk2, hk3⟩ := hty.2.1 i hil
    obtain ⟨htr, hnum⟩ := hq.1.2 _ (mem_getD hil)
    have ho := dsA_lt (f := (fun t => (dvS w P e tb way n (t)).1 0 y)) (P := P) (c := q) (by omega) i
    refine r_iload (q := 8) dX1_outcome_6 rfl rfl ?_
    refine r_aload_n (q := 9) dX1_outcome_8 rfl rfl rfl ?_
    refine r_geti (q := 12) ck8 dX1_outcome_9 rfl (k := 1) (by decide) wt64 (Or.inl rfl) (hs.e (by decide)) ?_
    refine r_topi (y := nI q.length) hl ?_
    refine r_icmp_geN (q := 15) (t := 67) (by omega) (by omega) dX1_outcome_12 (by decide) rfl (fun h12 => absurd h12 (by omega)) (fun h12 => ?_)
    refine r_aload_n (q := 16) dX1_outcome_15 rfl rfl rfl ?_
    refine r_aload_n (q := 17) dX1_outcome_16 rfl rfl rfl ?_
    refine r_aload_n (q := 18) dX1_outcome_17 rfl rfl rfl ?_
    refine r_getr (q := 21) (some (902, 0)) ck8 dX1_outcome_18 rfl (k := 2) (by decide) wt70 rfl (hs.e (by decide)) (hs.r (by decide) (by decide)) ?_
    refine r_iload (q := 23) dX1_outcome_21 rfl rfl ?_
    refine r_ialdN (q := 24) m (by decide) rfl dX1_outcome_23 rfl (hs.e (by decide)) hm2 (by omega) (by omega) ?_
    refine r_topi (y := nI (ky (q.getD i zd).1)) hk2 ?_
    refine r_aload_n (q := 25) dX1_outcome_24 rfl rfl rfl ?_
    refine r_geti (q := 28) ck8 dX1_outcome_25 rfl (k := 0) (by decide) wt56 (Or.inl rfl) (hs.e (by decide)) ?_
    refine r_topi (y := nI n) hn0 ?_
    refine r_aload_n (q := 29) dX1_outcome_28 rfl rfl rfl ?_
    refine r_aload (q := 31) dX1_outcome_29 rfl rfl ?_
    refine r_callV (Mc := mX1_doTree) (q := 34) (As := [zr 9 c, zi (nI (ky (q.getD i zd).1)), zi (nI n), zr 7 0, zr 1200 0]) (st := []) ck1 dX1_outcome_31 rfl rfl mkX1_doTree wt1133 wt1135 wp62 rfl (Nat.le_of_ble_eq_true rfl) (Nat.le_of_ble_eq_true rfl) (by decide) (by decide) (by decide) (Or.inl rfl) (hs.e (by decide)) (ok_doTreeC hs hc4 hn7 h1 h3 hP2 hP97 hE (tb := tb) (way := way) htr hp0 hA he hw hT hway) (fun r31 S31 hp31 => ?_)
    obtain ⟨rfl, f1, hv⟩ := hp31
    have hs1 : Sd S31 := hs.fr f1
    obtain ⟨v1, v2⟩ := hv.top (dvS_sz htr.1) hy
    have hmul : (q.getD i zd).2 * (dvS w P e tb way n ((q.getD i zd).1)).1 0 y ≤ 97 * 97 := Nat.mul_le_mul (by omega) (by omega)
    have hk31 : gI S31 903 0 i = nI (q.getD i zd).2 := (f1.1 _ _ _ rfl).trans hk3
    have hm31 : gN S31 903 0 = m := by rw [← hm3]; show S31.2.2.1 903 0 = S.2.2.1 903 0; rw [f1.2.2]
    have hp01 : gI S31 9 c 0 = nI P := (f1.1 _ _ _ rfl).trans hp0
    show Ok _ _ _ [] _ _
    refine r_iload (q := 36) dX1_outcome_34 rfl rfl ?_
    refine r_aload_n (q := 37) dX1_outcome_36 rfl rfl rfl ?_
    refine r_getr (q := 40) (some (903, 0)) ck8 dX1_outcome_37 rfl (k := 3) (by decide) wt76 rfl (hs1.e (by decide)) (hs1.r (by decide) (by decide)) ?_
    refine r_iload (q := 42) dX1_outcome_40 rfl rfl ?_
    refine r_ialdN (q := 43) m (by decide) rfl dX1_outcome_42 rfl (hs1.e (by decide)) hm31 (by omega) (by omega) ?_
    refine r_topi (y := nI ((q.getD i zd).2)) hk31 ?_
    refine r_aload_n (q := 44) dX1_outcome_43 rfl rfl rfl ?_
    refine r_getr (q := 47) (some (204, 0)) ck1 dX1_outcome_44 rfl (k := 4) (by decide) wt232 rfl (hs1.e (by decide)) (hs1.r (by decide) (by decide)) ?_
    refine r_iload (q := 49) dX1_outcome_47 rfl rfl ?_
    refine r_ialdN (q := 50) 39 (by decide) rfl dX1_outcome_49 rfl (hs1.e (by decide)) (hs1.n rfl (by decide)) (by omega) (by decide) ?_
    refine r_topi (y := nI ((dvS w P e tb way n ((q.getD i zd).1)).1 0 y)) v1 ?_
    refine r_imulN (q := 51) dX1_outcome_50 rfl ?_
    refine r_iaddN (q := 52) dX1_outcome_51 rfl ?_
    refine r_aload_n (q := 53) dX1_outcome_52 rfl rfl rfl ?_
    refine r_geti (q := 56) ck9 dX1_outcome_53 rfl (k := 0) (by decide) wt291 (Or.inl rfl) (hs1.e (show c < 4 by omega)) ?_
    refine r_topi (y := nI P) hp01 ?_
    refine r_callSN (Mc := mX11_rest) (q := 59) (As := [zi (nI ((dsA (fun t => (dvS w P e tb way n (t)).1 0 y) P q i) + (((q.getD i zd).2) * ((dvS w P e tb way n ((q.getD i zd).1)).1 0 y)))), zi (nI P)]) (st := []) dX1_outcome_56 rfl rfl mkX11_rest wn1124 wt614 rfl (Nat.le_of_ble_eq_true rfl) (Nat.le_of_ble_eq_true rfl) (by decide) (by decide) (by decide) (Or.inl rfl) hs1.some (ok_X11_rest (by omega) hP2 (by omega)) (fun r56 S56 hp56 => ?_)
    obtain ⟨rfl, hq56⟩ := hp56
    rw [hq56]
    show Ok _ _ _ [zi (nI (((dsA (fun t => (dvS w P e tb way n (t)).1 0 y) P q i) + (((q.getD i zd).2) * ((dvS w P e tb way n ((q.getD i zd).1)).1 0 y))) % P))] _ _
    refine r_istore (q := 61) (L' := [some (zr 1 0), some (zr 9 c), some (zr 8 0), some (zr 7 0), some (zr 1200 0), some (zi (nI y)), some (zi (nI (((dsA (fun t => (dvS w P e tb way n (t)).1 0 y) P q i) + (((q.getD i zd).2) * ((dvS w P e tb way n ((q.getD i zd).1)).1 0 y))) % P))), some (zi (nI i))]) dX1_outcome_59 rfl (by decide) rfl ?_
    refine r_iincN (q := 64) (L' := [some (zr 1 0), some (zr 9 c), some (zr 8 0), some (zr 7 0), some (zr 1200 0), some (zi (nI y)), some (zi (nI (((dsA (fun t => (dvS w P e tb way n (t)).1 0 y) P q i) + (((q.getD i zd).2) * ((dvS w P e tb way n ((q.getD i zd).1)).1 0 y))) % P))), some (zi (nI (i + 1)))]) 1 rfl dX1_outcome_61 rfl rfl (by decide) rfl ?_
    refine r_goto (q := 6) dX1_outcome_64 (by decide) ?_
    exact Ok.mono (ih (i + 1) S31 (by omega) (hs.fr f1) ((f1.1 _ _ _ rfl).trans hp0) ((f1.1 _ _ _ rfl).trans hA) (fun a ha => (f1.1 _ _ _ rfl).trans (he a ha)) ((f1.1 _ _ _ rfl).trans hw) (fun a ha => (hT a ha).fr f1 (fun _ => rfl)) (fun i hi => ⟨(f1.1 _ _ _ rfl).trans (hway i hi).1, (hway i hi).2⟩) ((f1.1 _ _ _ rfl).trans hn0) (hty.dt f1)) (fun r S2 z => ⟨z.1, f1.tr z.2⟩)

set_option maxRecDepth 100000 in
theorem ok_outcome {S : zS} (hs : Sd S) {c n w P : Nat} (hc4 : c < 4) (hn7 : n ≤ 7) (h1 : 1 ≤ w) (h3 : w ≤ 3) (hP2 : 2 ≤ P) (hP97 : P ≤ 97) {A : Nat} {e : Nat → Nat} (hE : Eok A e) {tb : Nat → Nat → Nat} {way : Nat → Nat} {q : List zT} (hq : Ce A e P n q) {y : Nat} (hy : y < w) (hp0 : gI S 9 c 0 = nI P) (hA : gI S 9 c 1 = nI A) (he : ∀ a, a < A → gI S 1003 c a = nI (e a)) (hw : gI S 7 0 0 = nI w) (hT : ∀ a, a < A → TbC S a P (tb a)) (hway : ∀ i, i < n → gI S 1200 0 i = nI (way i) ∧ way i ≤ 3) (hn0 : gI S 8 0 0 = nI n) (hty : Ty S 0 q) : Ok mX1_outcome 0 (ent 8 [zr 1 0, zr 9 c, zr 8 0, zr 7 0, zr 1200 0, zi (nI y)]) [] S (fun r S1 => r = some (zi (nI (dsA (fun t => (dvS w P e tb way n (t)).1 0 y) P q q.length))) ∧ Fr tDt S S1) := by
  show Ok mX1_outcome 0 [some (zr 1 0), some (zr 9 c), some (zr 8 0), some (zr 7 0), some (zr 1200 0), some (zi (nI y)), none, none] [] S _
  refine r_iconst (q := 1) (nI 0) dX1_outcome_0 rfl (by decide) ?_
  refine r_istore (q := 3) (L' := [some (zr 1 0), some (zr 9 c), some (zr 8 0), some (zr 7 0), some (zr 1200 0), some (zi (nI y)), some (zi (nI 0)), none]) dX1_outcome_1 rfl (by decide) rfl ?_
  refine r_iconst (q := 4) (nI 0) dX1_outcome_3 rfl (by decide) ?_
  refine r_istore (q := 6) (L' := [some (zr 1 0), some (zr 9 c), some (zr 8 0), some (zr 7 0), some (zr 1200 0), some (zi (nI y)), some (zi (nI 0)), some (zi (nI 0))]) dX1_outcome_4 rfl (by decide) rfl ?_
  exact lp_oc6 hc4 hn7 h1 h3 hP2 hP97 hE hq hy q.length 0 S (by omega) hs hp0 hA he hw hT hway hn0 hty

