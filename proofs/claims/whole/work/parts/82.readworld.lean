def tLi (s a b k : Nat) : Prop := tLw s a b k ∨ tPm s a b k = true ∨ tAc s a b k = true
/-- one line of the class: what all three readers leave -/
def LiR (S S1 : zS) (s : Nat) (r : Option zV) : zEr ⊕ ((Bool × zWd) × List zTk) → Prop
  | Sum.inl x => r = some (zi (nI 0)) ∧ Fg (tLi s) S S1 ∧ Fl S1 x ∧ TL S1 12
  | Sum.inr ((told, W), ts) => r = some (zi (nI 1)) ∧ Fg (tLi s) S S1 ∧ gI S1 4 0 14 = gI S 4 0 14 ∧ Rc S1 ts ∧ WC S1 s W ∧ TL S1 12 ∧ gI S1 4 0 8 = nI (b01 told)
theorem PmR.li {S S1 : zS} (hs : Sd S) {s : Nat} {r : Option zV} (hT : TL S 12) : ∀ {x : zEr ⊕ ((Bool × zWd) × List zTk)}, PmR S S1 s r x → LiR S S1 s r x
  | Sum.inl x, h => ⟨h.1, h.2.1.fg hs fun a b k z => Or.inr (Or.inl z), h.2.2, hT.cong (gN_22 h.2.1.2.2) (gN_22 h.2.1.2.2) (h.2.1.1 _ _ _ rfl)⟩
  | Sum.inr ((told, W), ts), h => ⟨h.1, h.2.1.fg hs fun a b k z => Or.inr (Or.inl z), h.2.2.1, h.2.2.2.1, h.2.2.2.2.1, hT.cong (gN_22 h.2.1.2.2) (gN_22 h.2.1.2.2) (h.2.1.1 _ _ _ rfl), h.2.2.2.2.2⟩
theorem AcR.li {S S1 : zS} (hs : Sd S) {s : Nat} {r : Option zV} (hT : TL S 12) {told0 : Bool} (h8 : gI S 4 0 8 = nI (b01 told0)) : ∀ {x : zEr ⊕ ((Bool × zWd) × List zTk)}, AcR S S1 s told0 r x → LiR S S1 s r x
  | Sum.inl x, h => ⟨h.1, h.2.1.fg hs fun a b k z => Or.inr (Or.inr z), h.2.2, hT.cong (gN_22 h.2.1.2.2) (gN_22 h.2.1.2.2) (h.2.1.1 _ _ _ (by unfold tAc; simp [tSk]))⟩
  | Sum.inr ((told, W), ts), h => ⟨h.1, h.2.1.fg hs fun a b k z => Or.inr (Or.inr z), h.2.2.1, h.2.2.2.1, h.2.2.2.2.1, hT.cong (gN_22 h.2.1.2.2) (gN_22 h.2.1.2.2) (h.2.1.1 _ _ _ (by unfold tAc; simp [tSk])), by rw [h.2.2.2.2.2]; exact (h.2.1.1 _ _ _ (by unfold tAc; simp [tSk])).trans h8⟩
theorem LwR.li {S S1 : zS} {s : Nat} {r : Option zV} {told0 : Bool} (h8 : gI S 4 0 8 = nI (b01 told0)) : ∀ {x : zEr ⊕ ((Bool × zWd) × List zTk)}, LwR S S1 s told0 r x → LiR S S1 s r x
  | Sum.inl x, h => ⟨h.1, h.2.1.mono fun a b k z => Or.inl z, h.2.2⟩
  | Sum.inr ((told, W), ts), h => ⟨h.1, h.2.1.mono fun a b k z => Or.inl z, h.2.2.1, h.2.2.2.1, h.2.2.2.2.1, h.2.2.2.2.2.1, by
      rw [h.2.2.2.2.2.2]
      exact (h.2.1.I (by omega) (by unfold tLw tTm tTy; simp [tTr, tCa, tSk])).trans h8⟩

theorem LiR.v {S S1 : zS} {s : Nat} {r : Option zV} : ∀ {x : zEr ⊕ ((Bool × zWd) × List zTk)}, LiR S S1 s r x → ∃ v, r = some (zi v)
  | Sum.inl x, h => ⟨_, h.1⟩
  | Sum.inr ((told, W), ts), h => ⟨_, h.1⟩

set_option maxRecDepth 100000 in
theorem ok_X9_clear {S : zS} (hs : Sd S) {s : Nat} (hs4 : s < 4) : Ok mX9_clear 0 (ent 1 [zr 9 s]) [] S (fun r S1 => r = none ∧ S1 = sI (sI (sI S 9 s 0 (nI 97)) 9 s 1 (nI 0)) 9 s 4 (nI 0)) := by
  show Ok mX9_clear 0 [some (zr 9 s)] [] S _
  refine r_aload_n (q := 1) dX9_clear_0 rfl rfl rfl ?_
  refine r_bipush (q := 3) (nI 97) dX9_clear_1 rfl (by decide) ?_
  refine r_puti (q := 6) ck9 dX9_clear_3 rfl (k := 0) (by decide) wt289 (Or.inl rfl) rfl (hs.e (show s < 4 by omega)) ?_
  refine r_aload_n (q := 7) dX9_clear_6 rfl rfl rfl ?_
  refine r_iconst (q := 8) (nI 0) dX9_clear_7 rfl (by decide) ?_
  refine r_puti (q := 11) ck9 dX9_clear_8 rfl (k := 1) (by decide) wt296 (Or.inl rfl) rfl (hs.e (show s < 4 by omega)) ?_
  refine r_aload_n (q := 12) dX9_clear_11 rfl rfl rfl ?_
  refine r_iconst (q := 13) (nI 0) dX9_clear_12 rfl (by decide) ?_
  refine r_puti (q := 16) ck9 dX9_clear_13 rfl (k := 4) (by decide) wt312 (Or.inl rfl) rfl (hs.e (show s < 4 by omega)) ?_
  refine r_return dX9_clear_16 rfl ?_
  exact ⟨rfl, rfl⟩

theorem wc_clear {S : zS} {s : Nat} (h : gI S 1006 s 0 = nI 0) : WC (sI (sI (sI S 9 s 0 (nI 97)) 9 s 1 (nI 0)) 9 s 4 (nI 0)) s w0 :=
  ⟨by rw [gI_sI, if_neg (by omega), gI_sI, if_neg (by omega), gI_sI, if_pos ⟨rfl, rfl, rfl⟩]; rfl, by rw [gI_sI, if_neg (by omega), gI_sI, if_pos ⟨rfl, rfl, rfl⟩]; rfl, by rw [gI_sI, if_pos ⟨rfl, rfl, rfl⟩]; rfl, fun a ha => absurd ha (by simp [w0, wA]), fun L hL => absurd hL (by simp [w0, wL]), fun L hL => by
    have : L = 0 := by have : L ≤ 0 := hL; omega
    subst this
    rw [gI_sI, if_neg (by omega), gI_sI, if_neg (by omega), gI_sI, if_neg (by omega)]; exact h, fun L k hL => absurd hL (by simp [w0, wL])⟩

set_option maxRecDepth 100000 in
theorem lp_line_m {S : zS} (hs : Sd S) {ts : List zTk} (hr : Rc S ts) {s : Nat} (hs4 : s < 4) {W : zWd} (h : Wpk W ts) (hc : WC S s W) (hTL : TL S 12) {told : Bool} (h8 : gI S 4 0 8 = nI (b01 told)) {k : Nat} {w3 : Option zV} {Po : Option zV → zS → Prop} (K : ∀ v S1, LiR S S1 s (some (zi v)) (lineP told W ts) → Ok mX4_readWorld 93 [some (zr 4 0), some (zr 9 s), some (zi (nI k)), some (zi v)] [] S1 Po) (i30 : isWb ts 7171940 = true) : Ok mX4_readWorld 26 [some (zr 4 0), some (zr 9 s), some (zi (nI k)), none] [] S Po := by
  obtain ⟨f5, f6, f7⟩ := hr.f
  obtain ⟨t1, t2, t3, t4⟩ := h.2.1.hd
  have e : lineP told W ts = primeP told W ts := (if_pos i30)
  rw [e] at K
  refine r_aload_n (q := 27) dX4_readWorld_26 rfl rfl rfl ?_
  refine r_ldc2 (q := 30) (7171940 : Int64) dX4_readWorld_27 rfl wt541 ?_
  refine r_topl (y := lN 7171940) rfl ?_
  refine r_callV (Mc := mX4_isWord) (q := 33) (As := [zl (lN 7171940)]) (st := []) ck4 dX4_readWorld_30 rfl rfl mkX4_isWord wt542 wt544 wp5 rfl (Nat.le_of_ble_eq_true rfl) (Nat.le_of_ble_eq_true rfl) (by decide) (by decide) (by decide) (Or.inl rfl) (hs.e (by decide)) (ok_isWord hs hr h.2.1 (by decide)) (fun r30 S30 hp30 => ?_)
  obtain ⟨rfl, hq30⟩ := hp30
  rw [hq30]
  rw [if_pos i30]
  show Ok _ _ _ [zi (nI 1)] _ _
  refine r_if_eqN (q := 36) (t := 45) (by omega) dX4_readWorld_33 (by decide) rfl (fun h33 => absurd h33 (by omega)) (fun h33 => ?_)
  refine r_aload_n (q := 37) dX4_readWorld_36 rfl rfl rfl ?_
  refine r_aload_n (q := 38) dX4_readWorld_37 rfl rfl rfl ?_
  refine r_callV (Mc := mX4_readPrime) (q := 41) (As := [zr 9 s]) (st := []) ck4 dX4_readWorld_38 rfl rfl mkX4_readPrime wt546 wt548 wp6 rfl (Nat.le_of_ble_eq_true rfl) (Nat.le_of_ble_eq_true rfl) (by decide) (by decide) (by decide) (Or.inl rfl) (hs.e (by decide)) (Ok.mono (ok_readPrime hs hr hs4 h hc h8) fun r S1 z => PmR.li hs hTL z) (fun r38 S38 hp38 => ?_)
  obtain ⟨v, rfl⟩ := LiR.v hp38
  show Ok _ _ _ [zi v] _ _
  refine r_istore_n (q := 42) (L' := [some (zr 4 0), some (zr 9 s), some (zi (nI k)), some (zi v)]) dX4_readWorld_41 rfl rfl (by decide) rfl ?_
  refine r_goto (q := 93) dX4_readWorld_42 (by decide) ?_
  exact K v _ hp38

set_option maxRecDepth 100000 in
theorem lp_line_a {S : zS} (hs : Sd S) {ts : List zTk} (hr : Rc S ts) {s : Nat} (hs4 : s < 4) {W : zWd} (h : Wpk W ts) (hc : WC S s W) (hTL : TL S 12) {told : Bool} (h8 : gI S 4 0 8 = nI (b01 told)) {k : Nat} {w3 : Option zV} {Po : Option zV → zS → Prop} (K : ∀ v S1, LiR S S1 s (some (zi v)) (lineP told W ts) → Ok mX4_readWorld 93 [some (zr 4 0), some (zr 9 s), some (zi (nI k)), some (zi v)] [] S1 Po) (i30 : ¬ isWb ts 7171940 = true) (i49 : isWb ts 6382452 = true) : Ok mX4_readWorld 26 [some (zr 4 0), some (zr 9 s), some (zi (nI k)), none] [] S Po := by
  obtain ⟨f5, f6, f7⟩ := hr.f
  obtain ⟨t1, t2, t3, t4⟩ := h.2.1.hd
  have e : lineP told W ts = actP told W ts := (if_neg i30).trans (if_pos i49)
  rw [e] at K
  refine r_aload_n (q := 27) dX4_readWorld_26 rfl rfl rfl ?_
  refine r_ldc2 (q := 30) (7171940 : Int64) dX4_readWorld_27 rfl wt541 ?_
  refine r_topl (y := lN 7171940) rfl ?_
  refine r_callV (Mc := mX4_isWord) (q := 33) (As := [zl (lN 7171940)]) (st := []) ck4 dX4_readWorld_30 rfl rfl mkX4_isWord wt542 wt544 wp5 rfl (Nat.le_of_ble_eq_true rfl) (Nat.le_of_ble_eq_true rfl) (by decide) (by decide) (by decide) (Or.inl rfl) (hs.e (by decide)) (ok_isWord hs hr h.2.1 (by decide)) (fun r30 S30 hp30 => ?_)
  obtain ⟨rfl, hq30⟩ := hp30
  rw [hq30]
  rw [if_neg i30]
  show Ok _ _ _ [zi (nI 0)] _ _
  refine r_if_eqN (q := 36) (t := 45) (by omega) dX4_readWorld_33 (by decide) rfl (fun h33 => ?_) (fun h33 => absurd h33 (by omega))
  refine r_aload_n (q := 46) dX4_readWorld_45 rfl rfl rfl ?_
  refine r_ldc2 (q := 49) (6382452 : Int64) dX4_readWorld_46 rfl wt557 ?_
  refine r_topl (y := lN 6382452) rfl ?_
  refine r_callV (Mc := mX4_isWord) (q := 52) (As := [zl (lN 6382452)]) (st := []) ck4 dX4_readWorld_49 rfl rfl mkX4_isWord wt542 wt544 wp5 rfl (Nat.le_of_ble_eq_true rfl) (Nat.le_of_ble_eq_true rfl) (by decide) (by decide) (by decide) (Or.inl rfl) (hs.e (by decide)) (ok_isWord hs hr h.2.1 (by decide)) (fun r49 S49 hp49 => ?_)
  obtain ⟨rfl, hq49⟩ := hp49
  rw [hq49]
  rw [if_pos i49]
  show Ok _ _ _ [zi (nI 1)] _ _
  refine r_if_eqN (q := 55) (t := 64) (by omega) dX4_readWorld_52 (by decide) rfl (fun h52 => absurd h52 (by omega)) (fun h52 => ?_)
  refine r_aload_n (q := 56) dX4_readWorld_55 rfl rfl rfl ?_
  refine r_aload_n (q := 57) dX4_readWorld_56 rfl rfl rfl ?_
  refine r_callV (Mc := mX4_readAct) (q := 60) (As := [zr 9 s]) (st := []) ck4 dX4_readWorld_57 rfl rfl mkX4_readAct wt558 wt560 wp8 rfl (Nat.le_of_ble_eq_true rfl) (Nat.le_of_ble_eq_true rfl) (by decide) (by decide) (by decide) (Or.inl rfl) (hs.e (by decide)) (Ok.mono (ok_readAct hs hr hs4 h hc told) fun r S1 z => AcR.li hs hTL h8 z) (fun r57 S57 hp57 => ?_)
  obtain ⟨v, rfl⟩ := LiR.v hp57
  show Ok _ _ _ [zi v] _ _
  refine r_istore_n (q := 61) (L' := [some (zr 4 0), some (zr 9 s), some (zi (nI k)), some (zi v)]) dX4_readWorld_60 rfl rfl (by decide) rfl ?_
  refine r_goto (q := 93) dX4_readWorld_61 (by decide) ?_
  exact K v _ hp57

set_option maxRecDepth 100000 in
theorem lp_line_l {S : zS} (hs : Sd S) {ts : List zTk} (hr : Rc S ts) {s : Nat} (hs4 : s < 4) {W : zWd} (h : Wpk W ts) (hc : WC S s W) (hTL : TL S 12) {told : Bool} (h8 : gI S 4 0 8 = nI (b01 told)) {k : Nat} {w3 : Option zV} {Po : Option zV → zS → Prop} (K : ∀ v S1, LiR S S1 s (some (zi v)) (lineP told W ts) → Ok mX4_readWorld 93 [some (zr 4 0), some (zr 9 s), some (zi (nI k)), some (zi v)] [] S1 Po) (i30 : ¬ isWb ts 7171940 = true) (i49 : ¬ isWb ts 6382452 = true) (i68 : isWb ts 7102839 = true) : Ok mX4_readWorld 26 [some (zr 4 0), some (zr 9 s), some (zi (nI k)), none] [] S Po := by
  obtain ⟨f5, f6, f7⟩ := hr.f
  obtain ⟨t1, t2, t3, t4⟩ := h.2.1.hd
  have e : lineP told W ts = lawP told W ts := (if_neg i30).trans ((if_neg i49).trans (if_pos i68))
  rw [e] at K
  refine r_aload_n (q := 27) dX4_readWorld_26 rfl rfl rfl ?_
  refine r_ldc2 (q := 30) (7171940 : Int64) dX4_readWorld_27 rfl wt541 ?_
  refine r_topl (y := lN 7171940) rfl ?_
  refine r_callV (Mc := mX4_isWord) (q := 33) (As := [zl (lN 7171940)]) (st := []) ck4 dX4_readWorld_30 rfl rfl mkX4_isWord wt542 wt544 wp5 rfl (Nat.le_of_ble_eq_true rfl) (Nat.le_of_ble_eq_true rfl) (by decide) (by decide) (by decide) (Or.inl rfl) (hs.e (by decide)) (ok_isWord hs hr h.2.1 (by decide)) (fun r30 S30 hp30 => ?_)
  obtain ⟨rfl, hq30⟩ := hp30
  rw [hq30]
  rw [if_neg i30]
  show Ok _ _ _ [zi (nI 0)] _ _
  refine r_if_eqN (q := 36) (t := 45) (by omega) dX4_readWorld_33 (by decide) rfl (fun h33 => ?_) (fun h33 => absurd h33 (by omega))
  refine r_aload_n (q := 46) dX4_readWorld_45 rfl rfl rfl ?_
  refine r_ldc2 (q := 49) (6382452 : Int64) dX4_readWorld_46 rfl wt557 ?_
  refine r_topl (y := lN 6382452) rfl ?_
  refine r_callV (Mc := mX4_isWord) (q := 52) (As := [zl (lN 6382452)]) (st := []) ck4 dX4_readWorld_49 rfl rfl mkX4_isWord wt542 wt544 wp5 rfl (Nat.le_of_ble_eq_true rfl) (Nat.le_of_ble_eq_true rfl) (by decide) (by decide) (by decide) (Or.inl rfl) (hs.e (by decide)) (ok_isWord hs hr h.2.1 (by decide)) (fun r49 S49 hp49 => ?_)
  obtain ⟨rfl, hq49⟩ := hp49
  rw [hq49]
  rw [if_neg i49]
  show Ok _ _ _ [zi (nI 0)] _ _
  refine r_if_eqN (q := 55) (t := 64) (by omega) dX4_readWorld_52 (by decide) rfl (fun h52 => ?_) (fun h52 => absurd h52 (by omega))
  refine r_aload_n (q := 65) dX4_readWorld_64 rfl rfl rfl ?_
  refine r_ldc2 (q := 68) (7102839 : Int64) dX4_readWorld_65 rfl wt567 ?_
  refine r_topl (y := lN 7102839) rfl ?_
  refine r_callV (Mc := mX4_isWord) (q := 71) (As := [zl (lN 7102839)]) (st := []) ck4 dX4_readWorld_68 rfl rfl mkX4_isWord wt542 wt544 wp5 rfl (Nat.le_of_ble_eq_true rfl) (Nat.le_of_ble_eq_true rfl) (by decide) (by decide) (by decide) (Or.inl rfl) (hs.e (by decide)) (ok_isWord hs hr h.2.1 (by decide)) (fun r68 S68 hp68 => ?_)
  obtain ⟨rfl, hq68⟩ := hp68
  rw [hq68]
  rw [if_pos i68]
  show Ok _ _ _ [zi (nI 1)] _ _
  refine r_if_eqN (q := 74) (t := 83) (by omega) dX4_readWorld_71 (by decide) rfl (fun h71 => absurd h71 (by omega)) (fun h71 => ?_)
  refine r_aload_n (q := 75) dX4_readWorld_74 rfl rfl rfl ?_
  refine r_aload_n (q := 76) dX4_readWorld_75 rfl rfl rfl ?_
  refine r_callV (Mc := mX4_readLaw) (q := 79) (As := [zr 9 s]) (st := []) ck4 dX4_readWorld_76 rfl rfl mkX4_readLaw wt578 wt580 wp10 rfl (Nat.le_of_ble_eq_true rfl) (Nat.le_of_ble_eq_true rfl) (by decide) (by decide) (by decide) (Or.inr ⟨Nat.le_of_ble_eq_true rfl, rfl, rfl⟩) (hs.e (by decide)) (Ok.mono (ok_readLaw hs hr hs4 h hc hTL told i68) fun r S1 z => LwR.li h8 z) (fun r76 S76 hp76 => ?_)
  obtain ⟨v, rfl⟩ := LiR.v hp76
  show Ok _ _ _ [zi v] _ _
  refine r_istore_n (q := 80) (L' := [some (zr 4 0), some (zr 9 s), some (zi (nI k)), some (zi v)]) dX4_readWorld_79 rfl rfl (by decide) rfl ?_
  refine r_goto (q := 93) dX4_readWorld_80 (by decide) ?_
  exact K v _ hp76

set_option maxRecDepth 100000 in
theorem lp_line_n {S : zS} (hs : Sd S) {ts : List zTk} (hr : Rc S ts) {s : Nat} (hs4 : s < 4) {W : zWd} (h : Wpk W ts) (hc : WC S s W) (hTL : TL S 12) {told : Bool} (h8 : gI S 4 0 8 = nI (b01 told)) {k : Nat} {w3 : Option zV} {Po : Option zV → zS → Prop} (K : ∀ v S1, LiR S S1 s (some (zi v)) (lineP told W ts) → Ok mX4_readWorld 93 [some (zr 4 0), some (zr 9 s), some (zi (nI k)), some (zi v)] [] S1 Po) (i30 : ¬ isWb ts 7171940 = true) (i49 : ¬ isWb ts 6382452 = true) (i68 : ¬ isWb ts 7102839 = true) : Ok mX4_readWorld 26 [some (zr 4 0), some (zr 9 s), some (zi (nI k)), none] [] S Po := by
  obtain ⟨f5, f6, f7⟩ := hr.f
  obtain ⟨t1, t2, t3, t4⟩ := h.2.1.hd
  have e : lineP told W ts = Sum.inl (1, (hdT ts).2.1) := (if_neg i30).trans ((if_neg i49).trans (if_neg i68))
  rw [e] at K
  refine r_aload_n (q := 27) dX4_readWorld_26 rfl rfl rfl ?_
  refine r_ldc2 (q := 30) (7171940 : Int64) dX4_readWorld_27 rfl wt541 ?_
  refine r_topl (y := lN 7171940) rfl ?_
  refine r_callV (Mc := mX4_isWord) (q := 33) (As := [zl (lN 7171940)]) (st := []) ck4 dX4_readWorld_30 rfl rfl mkX4_isWord wt542 wt544 wp5 rfl (Nat.le_of_ble_eq_true rfl) (Nat.le_of_ble_eq_true rfl) (by decide) (by decide) (by decide) (Or.inl rfl) (hs.e (by decide)) (ok_isWord hs hr h.2.1 (by decide)) (fun r30 S30 hp30 => ?_)
  obtain ⟨rfl, hq30⟩ := hp30
  rw [hq30]
  rw [if_neg i30]
  show Ok _ _ _ [zi (nI 0)] _ _
  refine r_if_eqN (q := 36) (t := 45) (by omega) dX4_readWorld_33 (by decide) rfl (fun h33 => ?_) (fun h33 => absurd h33 (by omega))
  refine r_aload_n (q := 46) dX4_readWorld_45 rfl rfl rfl ?_
  refine r_ldc2 (q := 49) (6382452 : Int64) dX4_readWorld_46 rfl wt557 ?_
  refine r_topl (y := lN 6382452) rfl ?_
  refine r_callV (Mc := mX4_isWord) (q := 52) (As := [zl (lN 6382452)]) (st := []) ck4 dX4_readWorld_49 rfl rfl mkX4_isWord wt542 wt544 wp5 rfl (Nat.le_of_ble_eq_true rfl) (Nat.le_of_ble_eq_true rfl) (by decide) (by decide) (by decide) (Or.inl rfl) (hs.e (by decide)) (ok_isWord hs hr h.2.1 (by decide)) (fun r49 S49 hp49 => ?_)
  obtain ⟨rfl, hq49⟩ := hp49
  rw [hq49]
  rw [if_neg i49]
  show Ok _ _ _ [zi (nI 0)] _ _
  refine r_if_eqN (q := 55) (t := 64) (by omega) dX4_readWorld_52 (by decide) rfl (fun h52 => ?_) (fun h52 => absurd h52 (by omega))
  refine r_aload_n (q := 65) dX4_readWorld_64 rfl rfl rfl ?_
  refine r_ldc2 (q := 68) (7102839 : Int64) dX4_readWorld_65 rfl wt567 ?_
  refine r_topl (y := lN 7102839) rfl ?_
  refine r_callV (Mc := mX4_isWord) (q := 71) (As := [zl (lN 7102839)]) (st := []) ck4 dX4_readWorld_68 rfl rfl mkX4_isWord wt542 wt544 wp5 rfl (Nat.le_of_ble_eq_true rfl) (Nat.le_of_ble_eq_true rfl) (by decide) (by decide) (by decide) (Or.inl rfl) (hs.e (by decide)) (ok_isWord hs hr h.2.1 (by decide)) (fun r68 S68 hp68 => ?_)
  obtain ⟨rfl, hq68⟩ := hp68
  rw [hq68]
  rw [if_neg i68]
  show Ok _ _ _ [zi (nI 0)] _ _
  refine r_if_eqN (q := 74) (t := 83) (by omega) dX4_readWorld_71 (by decide) rfl (fun h71 => ?_) (fun h71 => absurd h71 (by omega))
  refine r_aload_n (q := 84) dX4_readWorld_83 rfl rfl rfl ?_
  refine r_iconst (q := 85) (nI 1) dX4_readWorld_84 rfl (by decide) ?_
  refine r_aload_n (q := 86) dX4_readWorld_85 rfl rfl rfl ?_
  refine r_geti (q := 89) ck4 dX4_readWorld_86 rfl (k := 6) (by decide) wt127 (Or.inl rfl) (hs.e (by decide)) ?_
  refine r_topi (y := nI ((hdT ts).2.1)) f6 ?_
  refine r_callV (Mc := mX4_fail) (q := 92) (As := [zi (nI 1), zi (nI ((hdT ts).2.1))]) (st := []) ck4 dX4_readWorld_89 rfl rfl mkX4_fail wt550 wt552 wp7 rfl (Nat.le_of_ble_eq_true rfl) (Nat.le_of_ble_eq_true rfl) (by decide) (by decide) (by decide) (Or.inl rfl) (hs.e (by decide)) (ok_fail hs 1 ((hdT ts).2.1)) (fun r89 S89 hp89 => ?_)
  obtain ⟨rfl, w89, x89⟩ := hp89
  show Ok _ _ _ [zi (nI 0)] _ _
  refine r_istore_n (q := 93) (L' := [some (zr 4 0), some (zr 9 s), some (zi (nI k)), some (zi (nI 0))]) dX4_readWorld_92 rfl rfl (by decide) rfl ?_
  exact K (nI 0) S89 ⟨rfl, w89.fg hs (fun a b k z => Or.inr (Or.inl (by unfold tPm; rw [tSk_fl a b k z]; rfl))), x89, hTL.cong (gN_22 w89.2.2) (gN_22 w89.2.2) (w89.1 _ _ _ rfl)⟩

theorem lp_line {S : zS} (hs : Sd S) {ts : List zTk} (hr : Rc S ts) {s : Nat} (hs4 : s < 4) {W : zWd} (h : Wpk W ts) (hc : WC S s W) (hTL : TL S 12) {told : Bool} (h8 : gI S 4 0 8 = nI (b01 told)) {k : Nat} {w3 : Option zV} {Po : Option zV → zS → Prop} (K : ∀ v S1, LiR S S1 s (some (zi v)) (lineP told W ts) → Ok mX4_readWorld 93 [some (zr 4 0), some (zr 9 s), some (zi (nI k)), some (zi v)] [] S1 Po) : Ok mX4_readWorld 26 [some (zr 4 0), some (zr 9 s), some (zi (nI k)), none] [] S Po := by
  by_cases i30 : isWb ts 7171940 = true
  · exact lp_line_m (w3 := none) hs hr hs4 h hc hTL h8 K i30
  by_cases i49 : isWb ts 6382452 = true
  · exact lp_line_a (w3 := none) hs hr hs4 h hc hTL h8 K i30 i49
  by_cases i68 : isWb ts 7102839 = true
  · exact lp_line_l (w3 := none) hs hr hs4 h hc hTL h8 K i30 i49 i68
  · exact lp_line_n (w3 := none) hs hr hs4 h hc hTL h8 K i30 i49 i68
def RwR (S S1 : zS) (s : Nat) (r : Option zV) : zEr ⊕ (Nat × zWd) → Prop
  | Sum.inl x => r = some (zi (-1)) ∧ Fg (tLi s) S S1 ∧ Fl S1 x ∧ TL S1 12
  | Sum.inr (n, W) => r = some (zi (nI n)) ∧ Fg (tLi s) S S1 ∧ gI S1 4 0 14 = gI S 4 0 14 ∧ WC S1 s W ∧ TL S1 12
theorem RwR.pre {S S0 S1 : zS} {s : Nat} {r : Option zV} (f : Fg (tLi s) S S0) (e : gI S0 4 0 14 = gI S 4 0 14) : ∀ {x : zEr ⊕ (Nat × zWd)}, RwR S0 S1 s r x → RwR S S1 s r x
  | Sum.inl x, h => ⟨h.1, f.tr h.2.1, h.2.2⟩
  | Sum.inr (n, W), h => ⟨h.1, f.tr h.2.1, h.2.2.1.trans e, h.2.2.2⟩

set_option maxRecDepth 100000 in
theorem lp_readWorld {s : Nat} (hs4 : s < 4) {tn : Nat} (htn : tn ≤ 941) : ∀ (f k : Nat) (S : zS) (told : Bool) (W : zWd) (ts : List zTk), ts.length ≤ f → k + ts.length ≤ tn → gI S 4 0 3 = nI tn → Sd S → Rc S ts → Wpk W ts → WC S s W → TL S 12 → gI S 4 0 8 = nI (b01 told) → Ok mX4_readWorld 11 [some (zr 4 0), some (zr 9 s), some (zi (nI k)), none] [] S (fun r S1 => RwR S S1 s r (linesP f k told W ts)) := by
  intro f
  induction f with
  | zero =>
    intro k S told W ts hf hk h3 hs hr h hc hTL h8
    exact absurd (List.length_eq_zero_iff.mp (by omega)) h.2.1.1
  | succ f ih =>
    intro k S told W ts hf hk h3 hs hr h hc hTL h8
    obtain ⟨f5, f6, f7⟩ := hr.f
    obtain ⟨t1, t2, t3, t4⟩ := h.2.1.hd
    have hl1 : 0 < ts.length := List.length_pos_iff.mpr h.2.1.1
    rw [linesP]
    by_cases h0 : (hdT ts).1 = 0
    · rw [if_pos h0]
      refine r_iload_n (q := 12) dX4_readWorld_11 rfl rfl rfl ?_
      refine r_aload_n (q := 13) dX4_readWorld_12 rfl rfl rfl ?_
      refine r_geti (q := 16) ck4 dX4_readWorld_13 rfl (k := 3) (by decide) wt124 (Or.inl rfl) (hs.e (by decide)) ?_
      refine r_topi (y := nI tn) h3 ?_
      refine r_icmp_geN (q := 19) (t := 114) (by omega) (by omega) dX4_readWorld_16 (by decide) rfl (fun h16 => absurd h16 (by omega)) (fun h16 => ?_)
      refine r_aload_n (q := 20) dX4_readWorld_19 rfl rfl rfl ?_
      refine r_geti (q := 23) ck4 dX4_readWorld_20 rfl (k := 5) (by decide) wt126 (Or.inl rfl) (hs.e (by decide)) ?_
      refine r_topi (y := nI ((hdT ts).1)) f5 ?_
      refine r_if_eqN (q := 26) (t := 114) (by omega) dX4_readWorld_23 (by decide) rfl (fun h23 => ?_) (fun h23 => absurd h23 (by omega))
      refine r_iload_n (q := 115) dX4_readWorld_114 rfl rfl rfl ?_
      refine r_ireturn dX4_readWorld_115 rfl ?_
      exact ⟨rfl, Fg.rf hs, rfl, hc, hTL⟩
    · rw [if_neg h0]
      refine r_iload_n (q := 12) dX4_readWorld_11 rfl rfl rfl ?_
      refine r_aload_n (q := 13) dX4_readWorld_12 rfl rfl rfl ?_
      refine r_geti (q := 16) ck4 dX4_readWorld_13 rfl (k := 3) (by decide) wt124 (Or.inl rfl) (hs.e (by decide)) ?_
      refine r_topi (y := nI tn) h3 ?_
      refine r_icmp_geN (q := 19) (t := 114) (by omega) (by omega) dX4_readWorld_16 (by decide) rfl (fun h16 => absurd h16 (by omega)) (fun h16 => ?_)
      refine r_aload_n (q := 20) dX4_readWorld_19 rfl rfl rfl ?_
      refine r_geti (q := 23) ck4 dX4_readWorld_20 rfl (k := 5) (by decide) wt126 (Or.inl rfl) (hs.e (by decide)) ?_
      refine r_topi (y := nI ((hdT ts).1)) f5 ?_
      refine r_if_eqN (q := 26) (t := 114) (by omega) dX4_readWorld_23 (by decide) rfl (fun h23 => absurd h23 (by omega)) (fun h23 => ?_)
      refine lp_line (w3 := none) hs hr hs4 h hc hTL h8 (fun v S1 z => ?_)
      cases q : lineP told W ts with
      | inl x =>
        rw [q] at z
        obtain ⟨z0, z1, z2, z3⟩ := z
        cases z0
        show Ok _ _ _ _ _ (fun r S1 => RwR S S1 s r (Sum.inl x))
        refine r_iload_n (q := 94) dX4_readWorld_93 rfl rfl rfl ?_
        refine r_if_eqN (q := 97) (t := 106) (by omega) dX4_readWorld_94 (by decide) rfl (fun h94 => ?_) (fun h94 => absurd h94 (by omega))
        refine r_iconst (q := 107) ((-1 : Int32)) dX4_readWorld_106 rfl (by decide) ?_
        refine r_ireturn dX4_readWorld_107 rfl ?_
        exact ⟨rfl, z1, z2, z3⟩
      | inr x =>
        obtain ⟨⟨b, W2⟩, ts2⟩ := x
        have ok2 := lineP_ok h q
        rw [q] at z
        obtain ⟨z0, z1, z2, z3, z4, z5, z6⟩ := z
        cases z0
        show Ok _ _ _ _ _ (fun r S1 => RwR S S1 s r (if (hdT ts2).1 = 59 then linesP f (k + 1) b W2 (adv ts2) else Sum.inl (1, (hdT ts2).2.1)))
        by_cases h59 : (hdT ts2).1 = 59
        · rw [if_pos h59]
          refine r_iload_n (q := 94) dX4_readWorld_93 rfl rfl rfl ?_
          refine r_if_eqN (q := 97) (t := 106) (by omega) dX4_readWorld_94 (by decide) rfl (fun h94 => absurd h94 (by omega)) (fun h94 => ?_)
          refine r_aload_n (q := 98) dX4_readWorld_97 rfl rfl rfl ?_
          refine r_bipush (q := 100) (nI 59) dX4_readWorld_98 rfl (by decide) ?_
          refine r_callV (Mc := mX4_skip) (q := 103) (As := [zi (nI 59)]) (st := []) ck4 dX4_readWorld_100 rfl rfl mkX4_skip wt594 wt596 wp14 rfl (Nat.le_of_ble_eq_true rfl) (Nat.le_of_ble_eq_true rfl) (by decide) (by decide) (by decide) (Or.inl rfl) (z1.sd.e (by decide)) (ok_skip_y z1.sd z3 ok2.1.2.1 h59) (fun r100 S100 hp100 => ?_)
          obtain ⟨rfl, w100, x100⟩ := hp100
          show Ok _ _ _ [zi (nI 1)] _ _
          refine r_if_neN (q := 106) (t := 108) (by omega) dX4_readWorld_103 (by decide) rfl (fun h103 => ?_) (fun h103 => absurd h103 (by omega))
          refine r_iincN (q := 111) (L' := [some (zr 4 0), some (zr 9 s), some (zi (nI (k + 1))), some (zi (nI 1))]) 1 rfl dX4_readWorld_108 rfl rfl (by decide) rfl ?_
          refine r_goto (q := 11) dX4_readWorld_111 (by decide) ?_
          have al := adv_len ts2
          have g1 : Fg (tLi s) S S100 := z1.tr (w100.fg z1.sd (fun a b k z => Or.inr (Or.inl (by unfold tPm; rw [tSk_av a b k z]; rfl))))
          refine r_mask [true, true, true, false] rfl ?_
          exact Ok.mono (ih (k + 1) S100 b W2 (adv ts2) (by omega) (by omega) ((g1.I (by omega) (by unfold tLi tLw tTm tTy; simp [tTr, tCa, tSk, tPm, tAc])).trans h3) (z1.sd.fr w100) x100 ok2.1.adv (z4.fr w100 (fun a k ha => by unfold tAv; simp; omega)) (z5.cong (gN_22 w100.2.2) (gN_22 w100.2.2) (w100.1 _ _ _ rfl)) ((w100.1 _ _ _ rfl).trans z6)) fun r S2 y => RwR.pre g1 ((w100.1 _ _ _ rfl).trans z2) y
        · rw [if_neg h59]
          refine r_iload_n (q := 94) dX4_readWorld_93 rfl rfl rfl ?_
          refine r_if_eqN (q := 97) (t := 106) (by omega) dX4_readWorld_94 (by decide) rfl (fun h94 => absurd h94 (by omega)) (fun h94 => ?_)
          refine r_aload_n (q := 98) dX4_readWorld_97 rfl rfl rfl ?_
          refine r_bipush (q := 100) (nI 59) dX4_readWorld_98 rfl (by decide) ?_
          refine r_callV (Mc := mX4_skip) (q := 103) (As := [zi (nI 59)]) (st := []) ck4 dX4_readWorld_100 rfl rfl mkX4_skip wt594 wt596 wp14 rfl (Nat.le_of_ble_eq_true rfl) (Nat.le_of_ble_eq_true rfl) (by decide) (by decide) (by decide) (Or.inl rfl) (z1.sd.e (by decide)) (ok_skip_n z1.sd z3 ok2.1.2.1 h59 (by omega)) (fun r100 S100 hp100 => ?_)
          obtain ⟨rfl, w100, x100⟩ := hp100
          show Ok _ _ _ [zi (nI 0)] _ _
          refine r_if_neN (q := 106) (t := 108) (by omega) dX4_readWorld_103 (by decide) rfl (fun h103 => absurd h103 (by omega)) (fun h103 => ?_)
          refine r_iconst (q := 107) ((-1 : Int32)) dX4_readWorld_106 rfl (by decide) ?_
          refine r_ireturn dX4_readWorld_107 rfl ?_
          exact ⟨rfl, z1.tr (w100.fg z1.sd (fun a b k z => Or.inr (Or.inl (by unfold tPm; rw [tSk_fl a b k z]; rfl)))), x100, z5.cong (gN_22 w100.2.2) (gN_22 w100.2.2) (w100.1 _ _ _ rfl)⟩

set_option maxRecDepth 100000 in
theorem ok_readWorld {S : zS} (hs : Sd S) {ts : List zTk} (hr : Rc S ts) (hk : Tks ts) (hlk : Lk ts) {s : Nat} (hs4 : s < 4) (h6 : gI S 1006 s 0 = nI 0) (hTL : TL S 12) : Ok mX4_readWorld 0 (ent 4 [zr 4 0, zr 9 s]) [] S (fun r S1 => RwR S S1 s r (linesP ts.length 0 false w0 ts)) := by
  show Ok mX4_readWorld 0 [some (zr 4 0), some (zr 9 s), none, none] [] S _
  refine r_aload_n (q := 1) dX4_readWorld_0 rfl rfl rfl ?_
  refine r_callV (Mc := mX9_clear) (q := 4) (As := []) (st := []) ck9 dX4_readWorld_1 rfl rfl mkX9_clear wt537 wt538 wt539 rfl (Nat.le_of_ble_eq_true rfl) (Nat.le_of_ble_eq_true rfl) (by decide) (by decide) (by decide) (Or.inl rfl) (hs.e (show s < 4 by omega)) (ok_X9_clear hs hs4) (fun r1 S1 hp1 => ?_)
  obtain ⟨rfl, hq1⟩ := hp1
  rw [hq1]
  show Ok _ _ _ [] _ _
  refine r_aload_n (q := 5) dX4_readWorld_4 rfl rfl rfl ?_
  refine r_iconst (q := 6) (nI 0) dX4_readWorld_5 rfl (by decide) ?_
  refine r_putz (q := 9) (by decide) ck4 dX4_readWorld_6 rfl (k := 8) (by decide) wt129 (Or.inl rfl) rfl (hs.e (by decide)) ?_
  refine r_iconst (q := 10) (nI 0) dX4_readWorld_9 rfl (by decide) ?_
  refine r_istore_n (q := 11) (L' := [some (zr 4 0), some (zr 9 s), some (zi (nI 0)), none]) dX4_readWorld_10 rfl rfl (by decide) rfl ?_
  have g0 : Fg (tLi s) S (sI (sI (sI (sI S 9 s 0 (nI 97)) 9 s 1 (nI 0)) 9 s 4 (nI 0)) 4 0 8 (nI 0)) := Fg.of22 (S1 := sI (sI (sI (sI S 9 s 0 (nI 97)) 9 s 1 (nI 0)) 9 s 4 (nI 0)) 4 0 8 (nI 0)) hs rfl (fun a b k _ hz => by rw [gI_sI, if_neg (fun z => hz (Or.inr (Or.inl (by unfold tPm; simp [z.1, z.2.1, z.2.2])))), gI_sI, if_neg (fun z => hz (Or.inl (Or.inr ⟨z.2.1, by omega⟩))), gI_sI, if_neg (fun z => hz (Or.inr (Or.inr (by unfold tAc; simp [z.1, z.2.1, z.2.2])))), gI_sI, if_neg (fun z => hz (Or.inr (Or.inl (by unfold tPm; simp [z.1, z.2.1, z.2.2]))))]) (fun _ _ _ _ _ => rfl)
  have gn : ∀ x y k, x = 4 ∧ k ≠ 8 ∨ x = 8 ∨ x = 500 ∨ x = 501 → gI (sI (sI (sI (sI S 9 s 0 (nI 97)) 9 s 1 (nI 0)) 9 s 4 (nI 0)) 4 0 8 (nI 0)) x y k = gI S x y k := fun x y k hx => by rw [gI_sI, if_neg (by omega), gI_sI, if_neg (by omega), gI_sI, if_neg (by omega), gI_sI, if_neg (by omega)]
  have hW : WC (sI (sI (sI (sI S 9 s 0 (nI 97)) 9 s 1 (nI 0)) 9 s 4 (nI 0)) 4 0 8 (nI 0)) s w0 := (wc_clear h6).fr (T := fun a b k => a == 4) (Fr.rf.i rfl) (fun a k ha => by simp; omega)
  obtain ⟨tn, n1, n2, n3⟩ := hr.n
  exact Ok.mono (lp_readWorld hs4 n2 ts.length 0 (sI (sI (sI (sI S 9 s 0 (nI 97)) 9 s 1 (nI 0)) 9 s 4 (nI 0)) 4 0 8 (nI 0)) false w0 ts (Nat.le_refl _) (by omega) ((gn 4 0 3 (by omega)).trans n1) hs (hr.cong (fun i => ⟨gn 500 0 i (by omega), gn 501 0 i (by omega), rfl⟩) (fun k hk => gn 4 0 k (by omega)) rfl) ⟨wok0, hk, hlk, by show 5 * 0 + _ ≤ 941; have := hk.2.1; omega⟩ hW (hTL.cong rfl rfl (gn 8 12 1 (by omega))) (by rw [gI_sI, if_pos ⟨rfl, rfl, rfl⟩]; rfl)) fun r S1 y => RwR.pre g0 (gn 4 0 14 (by omega)) y

