/-! bare, closed: both sides -/
theorem pvT_C {W : zWd} (hW : Wok W) {mk : Nat → Nat → Nat} {rl : Nat → Nat → Nat → Nat} {n t : Nat} (hC : LvC W mk rl n) (ht : t < (tl W n).length) : mk n t ≠ 0 ↔ PvT W n t := by
  constructor
  · intro hm
    refine ⟨_, (hC.1 t ht hm).2.1, ?_, fun s h1 h2 => ?_⟩
    · rw [co_V tl_nodup ht]
      have : RC (rl n) t t = 1 := if_pos rfl
      rw [this]
      intro z
      have := nat_mod (P := wP W) (a := 1) (b := 0) (by have := hW.1.1; omega) (by have := hW.1.1; omega) (by simpa using z)
      omega
    · rw [co_V tl_nodup h2]
      have : RC (rl n) t s = 0 := (if_neg (by omega)).trans (if_neg (by omega))
      rw [this]; exact Int.dvd_zero _
  · rintro ⟨g, g1, g2, g3⟩
    exact top_piv hC g1 ht g2 g3
theorem LvR.ech {W : zWd} {pv : Nat → Nat → Bool} {bs : Nat → Nat → Nat → Nat} {n : Nat} (h : LvR W pv bs n) : Ech (wP W) (tl W n).length (pv n) (RR (bs n)) := fun t ht hm => by
  obtain ⟨_, a, b, _⟩ := h.1 t ht hm
  exact ⟨by unfold RR; rw [a]; exact dvd_rf, fun s h1 h2 => by unfold RR; rw [b s h1 h2]; exact Int.dvd_zero _⟩
theorem LvR.red {W : zWd} {pv : Nat → Nat → Bool} {bs : Nat → Nat → Nat → Nat} {n : Nat} (h : LvR W pv bs n) : Red (wP W) (tl W n).length (pv n) (RR (bs n)) := fun t s ht hs hm hms hne => by
  unfold RR
  rw [(h.1 t ht hm).2.2.2.1 s hs hne hms]; exact Int.dvd_zero _
theorem pvT_R {W : zWd} (hW : Wok W) {pv : Nat → Nat → Bool} {bs : Nat → Nat → Nat → Nat} {n t : Nat} (hC : LvR W pv bs n) (ht : t < (tl W n).length) : pv n t = true ↔ PvT W n t := by
  constructor
  · intro hm
    obtain ⟨_, a, b, _, d⟩ := hC.1 t ht hm
    refine ⟨_, d, ?_, fun s h1 h2 => ?_⟩
    · rw [co_V tl_nodup ht]
      unfold RR
      rw [a]
      intro z
      have := nat_mod (P := wP W) (a := 1) (b := 0) (by have := hW.1.1; omega) (by have := hW.1.1; omega) (by simpa using z)
      omega
    · rw [co_V tl_nodup h2]
      unfold RR
      rw [b s h1 h2]; exact Int.dvd_zero _
  · rintro ⟨g, g1, g2, g3⟩
    cases q : pv n t with
    | true => rfl
    | false =>
      refine absurd ?_ g2
      have := rep tl_nodup hC.ech hC.red (Sp.le g1 hC.2) t ht
      refine dvd_of this (smz_dvd fun s hs => ?_)
      by_cases z : pv n s = true
      · rw [if_pos z]
        rcases Nat.lt_trichotomy s t with y | y | y
        · exact Int.dvd_mul_of_dvd_right ((hC.ech s hs z).2 t y ht)
        · rw [y, q] at z; cases z
        · exact Int.dvd_mul_of_dvd_left (g3 s y hs)
      · rw [if_neg z]; exact Int.dvd_zero _
/-- a bare tree that is not normal, in a world -/
def UncW (W : zWd) (n : Nat) : Prop := ∃ t, t < (tl W n).length ∧ isB W ((tl W n).getD t []) = true ∧ PvT W n t
theorem uncW_C {W : zWd} (hW : Wok W) {mk : Nat → Nat → Nat} {rl : Nat → Nat → Nat → Nat} {n : Nat} (hC : LvC W mk rl n) : Unc W n (mk n) (tl W n).length ↔ UncW W n := ⟨fun ⟨t, a, b, c⟩ => ⟨t, a, b, (pvT_C hW hC a).mp c⟩, fun ⟨t, a, b, c⟩ => ⟨t, a, b, (pvT_C hW hC a).mpr c⟩⟩
theorem cnt_unc {W : zWd} {n : Nat} {pv : Nat → Bool} : ∀ (k : Nat), (∀ t, t < k → pv t = false → isB W ((tl W n).getD t []) = true) → k ≤ nB W n k + cntp pv k ∧ (nB W n k + cntp pv k = k ↔ ¬ ∃ t, t < k ∧ isB W ((tl W n).getD t []) = true ∧ pv t = true)
  | 0, _ => ⟨Nat.le_refl _, fun _ ⟨t, a, _⟩ => absurd a (by omega), fun _ => rfl⟩
  | k + 1, h => by
    obtain ⟨i1, i2⟩ := cnt_unc (W := W) (n := n) (pv := pv) k (fun t ht => h t (by omega))
    have hk := h k (by omega)
    have e1 : nB W n (k + 1) = nB W n k + (if isB W ((tl W n).getD k []) = true then 1 else 0) := rfl
    have e2 : cntp pv (k + 1) = cntp pv k + (if pv k = true then 1 else 0) := rfl
    have ex : (∃ t, t < k + 1 ∧ isB W ((tl W n).getD t []) = true ∧ pv t = true) ↔ (∃ t, t < k ∧ isB W ((tl W n).getD t []) = true ∧ pv t = true) ∨ isB W ((tl W n).getD k []) = true ∧ pv k = true := by
      constructor
      · rintro ⟨t, a, b⟩
        by_cases e : t = k
        · subst e; exact Or.inr b
        · exact Or.inl ⟨t, by omega, b⟩
      · rintro (⟨t, a, b⟩ | b)
        · exact ⟨t, by omega, b⟩
        · exact ⟨k, by omega, b⟩
    rw [e1, e2, ex]
    cases hb : isB W ((tl W n).getD k []) with
    | true =>
      cases hp : pv k with
      | true =>
        simp only [if_true, true_and, and_self, or_true, not_true_eq_false, iff_false]
        exact ⟨by omega, by omega⟩
      | false =>
        simp only [if_true, Bool.false_eq_true, if_false, and_false, or_false]
        refine ⟨by omega, ?_⟩
        rw [← i2]
        omega
    | false =>
      cases hp : pv k with
      | true =>
        simp only [if_true, Bool.false_eq_true, if_false, false_and, or_false]
        refine ⟨by omega, ?_⟩
        rw [← i2]
        omega
      | false => exact absurd (hb.symm.trans (hk hp)) (by decide)
theorem uncW_R {W : zWd} (hW : Wok W) {pv : Nat → Nat → Bool} {bs : Nat → Nat → Nat → Nat} {n : Nat} (hn7 : n ≤ 7) (hC : LvR W pv bs n) : nB W n (tl W n).length ≠ (tl W n).length - cntp (pv n) (tl W n).length ↔ UncW W n := by
  have hle := cntp_le (pv := pv n) (tl W n).length
  obtain ⟨h1, h2⟩ := cnt_unc (W := W) (n := n) (pv := pv n) (tl W n).length (fun t ht hp => by
    unfold isB
    rw [List.all_eq_true]
    intro L hL
    have hL := List.mem_range.mp hL
    by_cases q : (lw W L).2.length = 0
    · simp [q]
    · have : hasP (we W) ((lw W L).2.getD 0 zd).1 ((tl W n).getD t []) = false := by
        cases z : hasP (we W) ((lw W L).2.getD 0 zd).1 ((tl W n).getD t []) with
        | false => rfl
        | true => exact absurd ((pvT_R hW hC ht).mpr (piece_gen hW hn7 hL (by omega) ht z)) (by rw [hp]; decide)
      rw [this]; simp)
  constructor
  · intro h
    obtain ⟨t, a, b, c⟩ := Classical.byContradiction (fun z => h (by have := h2.mpr z; omega))
    exact ⟨t, a, b, (pvT_R hW hC a).mp c⟩
  · rintro ⟨t, a, b, c⟩ z
    exact h2.mp (by omega) ⟨t, a, b, (pvT_R hW hC a).mpr c⟩
/-- the least number of leaves that is not closed -/
noncomputable def cloA (W : zWd) : Nat → Nat → Int32
  | 0, _ => -1
  | d + 1, k => if tc W k ≤ 300 then (if @decide (UncW W k) (Classical.propDecidable _) = true then nI k else cloA W d (k + 1)) else -1
theorem cloA_n {W : zWd} {d k : Nat} (h : ¬ tc W k ≤ 300) : cloA W (d + 1) k = -1 := if_neg h
theorem cloA_u {W : zWd} {d k : Nat} (h : tc W k ≤ 300) (u : UncW W k) : cloA W (d + 1) k = nI k := by
  rw [cloA, if_pos h, if_pos (@decide_eq_true _ (Classical.propDecidable _) u)]
theorem cloA_c {W : zWd} {d k : Nat} (h : tc W k ≤ 300) (u : ¬ UncW W k) : cloA W (d + 1) k = cloA W d (k + 1) := by
  rw [cloA, if_pos h, if_neg (fun z => u (@of_decide_eq_true _ (Classical.propDecidable _) z))]
def tBb (cc a b k : Nat) : Prop := tBz cc a b k ∨ b = cc ∧ (a = 109 ∨ a = 110) ∨ tBo a b k = true
/-- caches of a world in the class: levels and bare trees -/
def CbB (S : zS) (cc : Nat) (W : zWd) : Prop := WC S cc W ∧ Tcs S cc W ∧ (∃ n mk rl, CB S cc W n mk rl) ∧ Bc S cc W
theorem Bc.fg {S S1 : zS} {b : Nat} {W : zWd} (h : Bc S b W) {T : Nat → Nat → Nat → Prop} (f : Fg T S S1) (t : ∀ k, ¬ T 109 b k ∧ ¬ T 110 b k) : Bc S1 b W := fun n n1 n7 => by
  rw [f.I (by omega) (t n).1, f.I (by omega) (t n).2]
  exact h n n1 n7
theorem tCb_p {b n a c k : Nat} (h : tCb b n a c k = true) : c = b ∧ (a = 700 ∨ a = 701 ∨ a = 109 ∨ a = 110) := by
  simp [tCb, tIb] at h
  omega
theorem CB.cb {S S1 : zS} {b n m : Nat} {W : zWd} {mk : Nat → Nat → Nat} {rl : Nat → Nat → Nat → Nat} (h : CB S b W n mk rl) (hs : Sd S) (f : Fr (tCb b m) S S1) : CB S1 b W n mk rl := h.fg (f.fg hs (U := fun a _ _ => a = 700 ∨ a = 701 ∨ a = 109 ∨ a = 110) (fun a c k z => (tCb_p z).2)) ⟨by omega, fun x k a b => by omega⟩
def tRb (cc a b k : Nat) : Prop := tRe cc a b k ∨ b = cc ∧ (a = 109 ∨ a = 110)
theorem fg_cb {S S1 : zS} {cc m : Nat} (hs : Sd S) (f : Fr (tCb cc m) S S1) : Fg (tRb cc) S S1 := f.fg hs (fun a c k z => by have := tCb_p z; unfold tRb tRe; omega)
theorem rc_rb {S S1 : zS} {cc : Nat} (f : Fg (tRb cc) S S1) : RcI S S1 := RcI.of f ⟨by unfold tRb tRe; omega, by unfold tRb tRe; omega, fun x k a b => by unfold tRb tRe; omega, fun k _ => by unfold tRb tRe; omega⟩
theorem wqR.rb {S S1 : zS} {W : zWd} (hW : Wok W) {cc : Nat} (f : Fg (tRb cc) S S1) {n9 : Nat → Int64} (h : wqR W (fun k => gI S 1306 0 k) n9) : wqR W (fun k => gI S1 1306 0 k) n9 := wqR.cong hW (fun k _ _ => (f.I (by omega) (by unfold tRb tRe; omega)).symm) (fun _ _ => rfl) h
theorem tRb_re {cc : Nat} (a b k : Nat) (h : tRe cc a b k) : tRb cc a b k := Or.inl h

set_option maxRecDepth 100000 in
theorem cm_bare_y {S : zS} (hs : Sd S) {W : zWd} (hW : Wok W) {cc : Nat} (hcc : gI S 11 0 3 = nI cc) (hc4 : cc < 4) (hc : WC S cc W) (hT : Tcs S cc W) {n0 : Nat} {mk : Nat → Nat → Nat} {rl : Nat → Nat → Nat → Nat} (hB : CB S cc W n0 mk rl) (hbc : Bc S cc W) {n : Nat} (hn1 : 1 ≤ n) (hn7 : n ≤ 7) (h3 : tc W n ≤ 300) : Ok mX11_bare 0 (ent 3 [zr 11 0, zi (nI n)]) [] S (fun r S1 => Fg (tRb cc) S S1 ∧ (∃ n1 mk1 rl1, CB S1 cc W n1 mk1 rl1) ∧ Bc S1 cc W ∧ r = some (zi (nI (nB W n (tl W n).length)))) := by
  show Ok mX11_bare 0 [some (zr 11 0), some (zi (nI n)), none] [] S _
  refine r_aload_n (q := 1) dX11_bare_0 rfl rfl rfl ?_
  refine r_callV (Mc := mX11_basisHere) (q := 4) (As := []) (st := []) ck11 dX11_bare_1 rfl rfl mkX11_basisHere wt766 wt768 wp27 rfl (Nat.le_of_ble_eq_true rfl) (Nat.le_of_ble_eq_true rfl) (by decide) (by decide) (by decide) (Or.inl rfl) (hs.e (by decide)) (ok_basisHere hs hcc hc4) (fun r1 S1 hp1 => ?_)
  obtain ⟨rfl, hq1⟩ := hp1
  rw [hq1]
  show Ok _ _ _ [zr 0 cc] _ _
  refine r_astore_n (q := 5) (L' := [some (zr 11 0), some (zi (nI n)), some (zr 0 cc)]) dX11_bare_4 rfl rfl (by decide) rfl ?_
  refine r_aload_n (q := 6) dX11_bare_5 rfl rfl rfl ?_
  refine r_iload_n (q := 7) dX11_bare_6 rfl rfl rfl ?_
  refine r_callV (Mc := mX0_reach) (q := 10) (As := [zi (nI n)]) (st := []) ck0 dX11_bare_7 rfl rfl mkX0_reach wt770 wt771 wt772 rfl (Nat.le_of_ble_eq_true rfl) (Nat.le_of_ble_eq_true rfl) (by decide) (by decide) (by decide) (Or.inr ⟨Nat.le_of_ble_eq_true rfl, rfl, rfl⟩) (hs.e (show cc < 4 by omega)) (ok_reach_y hs hW hc4 hn1 hn7 hc hT hB h3) (fun r7 S7 hp7 => ?_)
  obtain ⟨rfl, f1, hc1, n1, mk1, rl1, hB1, hn⟩ := hp7
  have hbc1 : Bc S7 cc W := hbc.fg f1 (fun k => ⟨by unfold tRe; omega, by unfold tRe; omega⟩)
  show Ok _ _ _ [zi (nI 1)] _ _
  refine r_if_eqN (q := 13) (t := 21) (by omega) dX11_bare_10 (by decide) rfl (fun h10 => absurd h10 (by omega)) (fun h10 => ?_)
  refine r_aload_n (q := 14) dX11_bare_13 rfl rfl rfl ?_
  refine r_iload_n (q := 15) dX11_bare_14 rfl rfl rfl ?_
  refine r_callV (Mc := mX0_countBare) (q := 18) (As := [zi (nI n)]) (st := []) ck0 dX11_bare_15 rfl rfl mkX0_countBare wt924 wt925 wt926 rfl (Nat.le_of_ble_eq_true rfl) (Nat.le_of_ble_eq_true rfl) (by decide) (by decide) (by decide) (Or.inl rfl) (f1.sd.e (show cc < 4 by omega)) (ok_countBare f1.sd hc4 hW hc1 hB1 hbc1 hn1 hn7 hn) (fun r15 S15 hp15 => ?_)
  obtain ⟨rfl, f2, hbc2, _⟩ := hp15
  show Ok _ _ _ [zi (nI (nB W n (tl W n).length))] _ _
  refine r_goto (q := 22) dX11_bare_18 (by decide) ?_
  refine r_ireturn dX11_bare_22 rfl ?_
  exact ⟨(f1.mono tRb_re).tr (fg_cb f1.sd f2), ⟨n1, mk1, rl1, hB1.cb f1.sd f2⟩, hbc2, rfl⟩

set_option maxRecDepth 100000 in
theorem cm_bare_n {S : zS} (hs : Sd S) {W : zWd} (hW : Wok W) {cc : Nat} (hcc : gI S 11 0 3 = nI cc) (hc4 : cc < 4) (hc : WC S cc W) (hT : Tcs S cc W) {n0 : Nat} {mk : Nat → Nat → Nat} {rl : Nat → Nat → Nat → Nat} (hB : CB S cc W n0 mk rl) (hbc : Bc S cc W) {n : Nat} (hn1 : 1 ≤ n) (hn7 : n ≤ 7) (h3 : ¬ tc W n ≤ 300) : Ok mX11_bare 0 (ent 3 [zr 11 0, zi (nI n)]) [] S (fun r S1 => Fg (tRb cc) S S1 ∧ (∃ n1 mk1 rl1, CB S1 cc W n1 mk1 rl1) ∧ Bc S1 cc W ∧ r = some (zi (-1))) := by
  show Ok mX11_bare 0 [some (zr 11 0), some (zi (nI n)), none] [] S _
  refine r_aload_n (q := 1) dX11_bare_0 rfl rfl rfl ?_
  refine r_callV (Mc := mX11_basisHere) (q := 4) (As := []) (st := []) ck11 dX11_bare_1 rfl rfl mkX11_basisHere wt766 wt768 wp27 rfl (Nat.le_of_ble_eq_true rfl) (Nat.le_of_ble_eq_true rfl) (by decide) (by decide) (by decide) (Or.inl rfl) (hs.e (by decide)) (ok_basisHere hs hcc hc4) (fun r1 S1 hp1 => ?_)
  obtain ⟨rfl, hq1⟩ := hp1
  rw [hq1]
  show Ok _ _ _ [zr 0 cc] _ _
  refine r_astore_n (q := 5) (L' := [some (zr 11 0), some (zi (nI n)), some (zr 0 cc)]) dX11_bare_4 rfl rfl (by decide) rfl ?_
  refine r_aload_n (q := 6) dX11_bare_5 rfl rfl rfl ?_
  refine r_iload_n (q := 7) dX11_bare_6 rfl rfl rfl ?_
  refine r_callV (Mc := mX0_reach) (q := 10) (As := [zi (nI n)]) (st := []) ck0 dX11_bare_7 rfl rfl mkX0_reach wt770 wt771 wt772 rfl (Nat.le_of_ble_eq_true rfl) (Nat.le_of_ble_eq_true rfl) (by decide) (by decide) (by decide) (Or.inr ⟨Nat.le_of_ble_eq_true rfl, rfl, rfl⟩) (hs.e (show cc < 4 by omega)) (ok_reach_n hs hW hc4 hn1 hn7 hc hT hB h3) (fun r7 S7 hp7 => ?_)
  obtain ⟨rfl, f1, hc1, n1, mk1, rl1, hB1⟩ := hp7
  show Ok _ _ _ [zi (nI 0)] _ _
  refine r_if_eqN (q := 13) (t := 21) (by omega) dX11_bare_10 (by decide) rfl (fun h10 => ?_) (fun h10 => absurd h10 (by omega))
  refine r_iconst (q := 22) ((-1 : Int32)) dX11_bare_21 rfl (by decide) ?_
  refine r_ireturn dX11_bare_22 rfl ?_
  exact ⟨f1.mono tRb_re, ⟨n1, mk1, rl1, hB1⟩, hbc.fg f1 (fun k => ⟨by unfold tRe; omega, by unfold tRe; omega⟩), rfl⟩

set_option maxRecDepth 100000 in
theorem cm_bare_x {S : zS} (hs : Sd S) {cc : Nat} (hcc : gI S 11 0 3 = nI cc) (hc4 : cc < 4) {x : Int32} (hx : ¬ (nI 1 ≤ x ∧ x ≤ nI 7)) : Ok mX11_bare 0 (ent 3 [zr 11 0, zi x]) [] S (fun r S1 => r = some (zi (-1)) ∧ S1 = S) := by
  show Ok mX11_bare 0 [some (zr 11 0), some (zi x), none] [] S _
  refine r_aload_n (q := 1) dX11_bare_0 rfl rfl rfl ?_
  refine r_callV (Mc := mX11_basisHere) (q := 4) (As := []) (st := []) ck11 dX11_bare_1 rfl rfl mkX11_basisHere wt766 wt768 wp27 rfl (Nat.le_of_ble_eq_true rfl) (Nat.le_of_ble_eq_true rfl) (by decide) (by decide) (by decide) (Or.inl rfl) (hs.e (by decide)) (ok_basisHere hs hcc hc4) (fun r1 S1 hp1 => ?_)
  obtain ⟨rfl, hq1⟩ := hp1
  rw [hq1]
  show Ok _ _ _ [zr 0 cc] _ _
  refine r_astore_n (q := 5) (L' := [some (zr 11 0), some (zi x), some (zr 0 cc)]) dX11_bare_4 rfl rfl (by decide) rfl ?_
  refine r_aload_n (q := 6) dX11_bare_5 rfl rfl rfl ?_
  refine r_iload_n (q := 7) dX11_bare_6 rfl rfl rfl ?_
  refine r_callV (Mc := mX0_reach) (q := 10) (As := [zi x]) (st := []) ck0 dX11_bare_7 rfl rfl mkX0_reach wt770 wt771 wt772 rfl (Nat.le_of_ble_eq_true rfl) (Nat.le_of_ble_eq_true rfl) (by decide) (by decide) (by decide) (Or.inr ⟨Nat.le_of_ble_eq_true rfl, rfl, rfl⟩) (hs.e (show cc < 4 by omega)) (ok_reach_out hs hc4 hx) (fun r7 S7 hp7 => ?_)
  obtain ⟨rfl, hq7⟩ := hp7
  rw [hq7]
  show Ok _ _ _ [zi (nI 0)] _ _
  refine r_if_eqN (q := 13) (t := 21) (by omega) dX11_bare_10 (by decide) rfl (fun h10 => ?_) (fun h10 => absurd h10 (by omega))
  refine r_iconst (q := 22) ((-1 : Int32)) dX11_bare_21 rfl (by decide) ?_
  refine r_ireturn dX11_bare_22 rfl ?_
  exact ⟨rfl, rfl⟩

theorem rc_bo {S S1 : zS} {W : zWd} (hs : Sd S) (f : Fr tBo S S1) : (CR S W → CR S1 W) ∧ (Cw S → Cw S1) ∧ (IvI S → IvI S1) := (RcI.of (f.fg hs (U := fun a _ k => a = 1361 ∨ a = 1316 ∨ a = 12 ∧ k = 20) (fun a b k z => by simp [tBo] at z; omega)) ⟨by omega, by omega, fun x k a b => by omega, fun k _ => by omega⟩).rc

set_option maxRecDepth 100000 in
theorem rm_bare_y {S : zS} (hs : Sd S) {W : zWd} (hW : Wok W) {n9 : Nat → Int64} (hR : wqR W (fun k => gI S 1306 0 k) n9) (hO : Cw S) (hcr : CR S W) (hI : IvI S) {n : Nat} (hn1 : 1 ≤ n) (hn7 : n ≤ 7) (h3 : tc W n ≤ 300) : Ok mX12_bare 0 (ent 2 [zr 12 0, zi (nI n)]) [] S (fun r S1 => (Fr (fun x y k => (tBy x y k || tBo x y k) || x == 12 && y == 0 && k == 0) S S1 ∧ Cw S1 ∧ CR S1 W ∧ IvI S1) ∧ r = some (zi (nI (nB W n (tl W n).length)))) := by
  show Ok mX12_bare 0 [some (zr 12 0), some (zi (nI n))] [] S _
  refine r_aload_n (q := 1) dX12_bare_0 rfl rfl rfl ?_
  refine r_iconst (q := 2) (nI 0) dX12_bare_1 rfl (by decide) ?_
  refine r_puti (q := 5) ck12 dX12_bare_2 rfl (k := 0) (by decide) wt1278 (Or.inl rfl) rfl (hs.e (by decide)) ?_
  refine r_iload_n (q := 6) dX12_bare_5 rfl rfl rfl ?_
  refine r_iconst (q := 7) (nI 1) dX12_bare_6 rfl (by decide) ?_
  refine r_bipush (q := 9) (nI 7) dX12_bare_7 rfl (by decide) ?_
  refine r_callS (Mc := mX12_isIn) (q := 12) (As := [zi (nI n), zi (nI 1), zi (nI 7)]) (st := []) dX12_bare_9 rfl rfl mkX12_isIn wt1614 wt1615 rfl (Nat.le_of_ble_eq_true rfl) (Nat.le_of_ble_eq_true rfl) (by decide) (by decide) (by decide) (Or.inl rfl) hs.some (ok_X12_isIn_in (by omega) (by omega) (by omega)) (fun r9 S9 hp9 => ?_)
  obtain ⟨rfl, hq9⟩ := hp9
  rw [hq9]
  show Ok _ _ _ [zi (nI 1)] _ _
  refine r_if_eqN (q := 15) (t := 24) (by omega) dX12_bare_12 (by decide) rfl (fun h12 => absurd h12 (by omega)) (fun h12 => ?_)
  refine r_aload_n (q := 16) dX12_bare_15 rfl rfl rfl ?_
  refine r_iconst (q := 17) (nI 0) dX12_bare_16 rfl (by decide) ?_
  refine r_iload_n (q := 18) dX12_bare_17 rfl rfl rfl ?_
  refine r_callV (Mc := mX12_isBeyond) (q := 21) (As := [zi (nI 0), zi (nI n)]) (st := []) ck12 dX12_bare_18 rfl rfl mkX12_isBeyond wt1751 wt1753 wp99 rfl (Nat.le_of_ble_eq_true rfl) (Nat.le_of_ble_eq_true rfl) (by decide) (by decide) (by decide) (Or.inl rfl) (hs.e (by decide)) (ok_beyond0_n (S := sI S 12 0 0 (nI 0)) hs hW hn1 hn7 (wqR_thr hW hR) (rc_thr.rc (W := W).2.1 hO) (rc_thr.rc.1 hcr) (rc_thr.rc (W := W).2.2 hI) h3) (fun r18 S18 hp18 => ?_)
  obtain ⟨f1, hon, hcw, hiv, hws, L, pvs, bss, hB, hz⟩ := hp18
  have hs1 : Sd S18 := Sd.fr (S := sI S 12 0 0 (nI 0)) hs f1
  have hR1 : wqR W (fun k => gI S18 1306 0 k) n9 := wqR.cong hW (fun k _ _ => ((f1.1 1306 0 k rfl).trans (by rw [gI_sI, if_neg (by omega)])).symm) (fun _ _ => rfl) hR
  obtain ⟨rfl, _, hnL⟩ := hz.resolve_left (fun z => absurd z.2 (by omega))
  obtain ⟨hLr, hAc, hLv⟩ := hB.2.2.2.2 n hn1 (by omega)
  have h4 : gI S18 1324 0 n = nI (tl W n).length := by have z := hLr.2.1; rw [Nat.mul_zero, Nat.zero_add] at z; exact z
  have h5 : gI S18 1325 0 n = nI (FqR 0 W n) := by have z := hLr.1; rw [Nat.mul_zero, Nat.zero_add] at z; exact z
  have hb300 := hAc.1.2.2.2.2.1
  have hF44 := hAc.1.2.2.2.2.2.1
  show Ok _ _ _ [zi (nI 0)] _ _
  refine r_if_eqN (q := 24) (t := 28) (by omega) dX12_bare_21 (by decide) rfl (fun h21 => ?_) (fun h21 => absurd h21 (by omega))
  refine r_aload_n (q := 29) dX12_bare_28 rfl rfl rfl ?_
  refine r_iload_n (q := 30) dX12_bare_29 rfl rfl rfl ?_
  refine r_callV (Mc := mX12_bareOf) (q := 33) (As := [zi (nI n)]) (st := []) ck12 dX12_bare_30 rfl rfl mkX12_bareOf wt1856 wt1858 wp121 rfl (Nat.le_of_ble_eq_true rfl) (Nat.le_of_ble_eq_true rfl) (by decide) (by decide) (by decide) (Or.inl rfl) (hs1.e (by decide)) (ok_bareOf hW hn7 hb300 hF44 hs1 (Lb.of hR1) h4 h5 hLr.2.2.1) (fun r30 S30 hp30 => ?_)
  obtain ⟨rfl, f2⟩ := hp30
  have rc2 := (rc_bo (W := W) hs1 f2)
  show Ok _ _ _ [zi (nI (nB W n (tl W n).length))] _ _
  refine r_ireturn dX12_bare_33 rfl ?_
  exact ⟨⟨(((fr_thr (S := S)).mono (fun x y k h => by simp only [Bool.or_eq_true]; exact Or.inr h)).tr (f1.mono (fun x y k h => by simp [h]))).tr (f2.mono (fun x y k h => by simp [h])), rc2.2.1 hcw, rc2.1 (fun _ => ⟨L, pvs, bss, hB⟩), rc2.2.2 hiv⟩, rfl⟩

set_option maxRecDepth 100000 in
theorem rm_bare_n {S : zS} (hs : Sd S) {W : zWd} (hW : Wok W) {n9 : Nat → Int64} (hR : wqR W (fun k => gI S 1306 0 k) n9) (hO : Cw S) (hcr : CR S W) (hI : IvI S) {n : Nat} (hn1 : 1 ≤ n) (hn7 : n ≤ 7) (h3 : ¬ tc W n ≤ 300) : Ok mX12_bare 0 (ent 2 [zr 12 0, zi (nI n)]) [] S (fun r S1 => (Fr (fun x y k => (tBy x y k || tBo x y k) || x == 12 && y == 0 && k == 0) S S1 ∧ Cw S1 ∧ CR S1 W ∧ IvI S1) ∧ r = some (zi (-1))) := by
  show Ok mX12_bare 0 [some (zr 12 0), some (zi (nI n))] [] S _
  refine r_aload_n (q := 1) dX12_bare_0 rfl rfl rfl ?_
  refine r_iconst (q := 2) (nI 0) dX12_bare_1 rfl (by decide) ?_
  refine r_puti (q := 5) ck12 dX12_bare_2 rfl (k := 0) (by decide) wt1278 (Or.inl rfl) rfl (hs.e (by decide)) ?_
  refine r_iload_n (q := 6) dX12_bare_5 rfl rfl rfl ?_
  refine r_iconst (q := 7) (nI 1) dX12_bare_6 rfl (by decide) ?_
  refine r_bipush (q := 9) (nI 7) dX12_bare_7 rfl (by decide) ?_
  refine r_callS (Mc := mX12_isIn) (q := 12) (As := [zi (nI n), zi (nI 1), zi (nI 7)]) (st := []) dX12_bare_9 rfl rfl mkX12_isIn wt1614 wt1615 rfl (Nat.le_of_ble_eq_true rfl) (Nat.le_of_ble_eq_true rfl) (by decide) (by decide) (by decide) (Or.inl rfl) hs.some (ok_X12_isIn_in (by omega) (by omega) (by omega)) (fun r9 S9 hp9 => ?_)
  obtain ⟨rfl, hq9⟩ := hp9
  rw [hq9]
  show Ok _ _ _ [zi (nI 1)] _ _
  refine r_if_eqN (q := 15) (t := 24) (by omega) dX12_bare_12 (by decide) rfl (fun h12 => absurd h12 (by omega)) (fun h12 => ?_)
  refine r_aload_n (q := 16) dX12_bare_15 rfl rfl rfl ?_
  refine r_iconst (q := 17) (nI 0) dX12_bare_16 rfl (by decide) ?_
  refine r_iload_n (q := 18) dX12_bare_17 rfl rfl rfl ?_
  refine r_callV (Mc := mX12_isBeyond) (q := 21) (As := [zi (nI 0), zi (nI n)]) (st := []) ck12 dX12_bare_18 rfl rfl mkX12_isBeyond wt1751 wt1753 wp99 rfl (Nat.le_of_ble_eq_true rfl) (Nat.le_of_ble_eq_true rfl) (by decide) (by decide) (by decide) (Or.inl rfl) (hs.e (by decide)) (ok_beyond0_y (S := sI S 12 0 0 (nI 0)) hs hW hn1 hn7 (wqR_thr hW hR) (rc_thr.rc (W := W).2.1 hO) (rc_thr.rc.1 hcr) (rc_thr.rc (W := W).2.2 hI) h3) (fun r18 S18 hp18 => ?_)
  obtain ⟨f1, hon, hcw, hiv, hws, L, pvs, bss, hB, hz⟩ := hp18
  have hs1 : Sd S18 := Sd.fr (S := sI S 12 0 0 (nI 0)) hs f1
  have hR1 : wqR W (fun k => gI S18 1306 0 k) n9 := wqR.cong hW (fun k _ _ => ((f1.1 1306 0 k rfl).trans (by rw [gI_sI, if_neg (by omega)])).symm) (fun _ _ => rfl) hR
  obtain ⟨rfl, _⟩ := hz.resolve_right (fun z => h3 z.2.1)
  show Ok _ _ _ [zi (nI 1)] _ _
  refine r_if_eqN (q := 24) (t := 28) (by omega) dX12_bare_21 (by decide) rfl (fun h21 => absurd h21 (by omega)) (fun h21 => ?_)
  refine r_iconst (q := 25) ((-1 : Int32)) dX12_bare_24 rfl (by decide) ?_
  refine r_goto (q := 33) dX12_bare_25 (by decide) ?_
  refine r_ireturn dX12_bare_33 rfl ?_
  exact ⟨⟨((fr_thr (S := S)).mono (fun x y k h => by simp only [Bool.or_eq_true]; exact Or.inr h)).tr (f1.mono (fun x y k h => by simp [h])), hcw, fun _ => ⟨L, pvs, bss, hB⟩, hiv⟩, rfl⟩

set_option maxRecDepth 100000 in
theorem rm_bare_x {S : zS} (hs : Sd S) {x : Int32} (hx : ¬ (nI 1 ≤ x ∧ x ≤ nI 7)) : Ok mX12_bare 0 (ent 2 [zr 12 0, zi x]) [] S (fun r S1 => r = some (zi (-1)) ∧ S1 = sI S 12 0 0 (nI 0)) := by
  show Ok mX12_bare 0 [some (zr 12 0), some (zi x)] [] S _
  refine r_aload_n (q := 1) dX12_bare_0 rfl rfl rfl ?_
  refine r_iconst (q := 2) (nI 0) dX12_bare_1 rfl (by decide) ?_
  refine r_puti (q := 5) ck12 dX12_bare_2 rfl (k := 0) (by decide) wt1278 (Or.inl rfl) rfl (hs.e (by decide)) ?_
  refine r_iload_n (q := 6) dX12_bare_5 rfl rfl rfl ?_
  refine r_iconst (q := 7) (nI 1) dX12_bare_6 rfl (by decide) ?_
  refine r_bipush (q := 9) (nI 7) dX12_bare_7 rfl (by decide) ?_
  refine r_callS (Mc := mX12_isIn) (q := 12) (As := [zi x, zi (nI 1), zi (nI 7)]) (st := []) dX12_bare_9 rfl rfl mkX12_isIn wt1614 wt1615 rfl (Nat.le_of_ble_eq_true rfl) (Nat.le_of_ble_eq_true rfl) (by decide) (by decide) (by decide) (Or.inl rfl) hs.some (ok_X12_isIn_out hx) (fun r9 S9 hp9 => ?_)
  obtain ⟨rfl, hq9⟩ := hp9
  rw [hq9]
  show Ok _ _ _ [zi (nI 0)] _ _
  refine r_if_eqN (q := 15) (t := 24) (by omega) dX12_bare_12 (by decide) rfl (fun h12 => ?_) (fun h12 => absurd h12 (by omega))
  refine r_iconst (q := 25) ((-1 : Int32)) dX12_bare_24 rfl (by decide) ?_
  refine r_goto (q := 33) dX12_bare_25 (by decide) ?_
  refine r_ireturn dX12_bare_33 rfl ?_
  exact ⟨rfl, rfl⟩

set_option maxRecDepth 100000 in
theorem lp_cl21 {W : zWd} (hW : Wok W) {cc : Nat} (hc4 : cc < 4) {n : Nat} (hn7 : n ≤ 7) : ∀ (d m : Nat) (S : zS), m + d = n + 1 → 1 ≤ m → Sd S → CbB S cc W → Ok mX11_closed 21 [some (zr 11 0), some (zi (nI n)), some (zr 0 cc), some (zi (nI m))] [] S (fun r S1 => r = some (zi (cloA W d m)) ∧ Fg (tRb cc) S S1 ∧ (∃ n1 mk1 rl1, CB S1 cc W n1 mk1 rl1) ∧ Bc S1 cc W) := by
  intro d
  induction d with
  | zero =>
    intro m S hm h1 hs hcb
    obtain rfl : m = n + 1 := by omega
    refine r_iload_n (q := 22) dX11_closed_21 rfl rfl rfl ?_
    refine r_iload_n (q := 23) dX11_closed_22 rfl rfl rfl ?_
    refine r_icmp_gtN (q := 26) (t := 59) (by omega) (by omega) dX11_closed_23 (by decide) rfl (fun h23 => ?_) (fun h23 => absurd h23 (by omega))
    refine r_iconst (q := 60) ((-1 : Int32)) dX11_closed_59 rfl (by decide) ?_
    refine r_ireturn dX11_closed_60 rfl ?_
    exact ⟨rfl, Fg.rf hs, hcb.2.2⟩
  | succ d ih =>
    intro m S hm h1 hs hcb
    obtain ⟨hc, hT, ⟨n0, mk, rl, hB⟩, hbc⟩ := hcb
    have hm7 : m ≤ 7 := by omega
    by_cases h3 : tc W m ≤ 300
    · skip
      refine r_iload_n (q := 22) dX11_closed_21 rfl rfl rfl ?_
      refine r_iload_n (q := 23) dX11_closed_22 rfl rfl rfl ?_
      refine r_icmp_gtN (q := 26) (t := 59) (by omega) (by omega) dX11_closed_23 (by decide) rfl (fun h23 => absurd h23 (by omega)) (fun h23 => ?_)
      refine r_aload_n (q := 27) dX11_closed_26 rfl rfl rfl ?_
      refine r_iload_n (q := 28) dX11_closed_27 rfl rfl rfl ?_
      refine r_callV (Mc := mX0_reach) (q := 31) (As := [zi (nI m)]) (st := []) ck0 dX11_closed_28 rfl rfl mkX0_reach wt770 wt771 wt772 rfl (Nat.le_of_ble_eq_true rfl) (Nat.le_of_ble_eq_true rfl) (by decide) (by decide) (by decide) (Or.inr ⟨Nat.le_of_ble_eq_true rfl, rfl, rfl⟩) (hs.e (show cc < 4 by omega)) (ok_reach_y hs hW hc4 h1 hm7 hc hT hB h3) (fun r28 S28 hp28 => ?_)
      obtain ⟨rfl, f1, hc1, n1, mk1, rl1, hB1, hn⟩ := hp28
      have hbc1 : Bc S28 cc W := hbc.fg f1 (fun k => ⟨by unfold tRe; omega, by unfold tRe; omega⟩)
      have hT1 := hT.fg f1
      show Ok _ _ _ [zi (nI 1)] _ _
      refine r_if_neN (q := 34) (t := 36) (by omega) dX11_closed_31 (by decide) rfl (fun h31 => ?_) (fun h31 => absurd h31 (by omega))
      refine r_aload_n (q := 37) dX11_closed_36 rfl rfl rfl ?_
      refine r_iload_n (q := 38) dX11_closed_37 rfl rfl rfl ?_
      refine r_callV (Mc := mX0_countBare) (q := 41) (As := [zi (nI m)]) (st := []) ck0 dX11_closed_38 rfl rfl mkX0_countBare wt924 wt925 wt926 rfl (Nat.le_of_ble_eq_true rfl) (Nat.le_of_ble_eq_true rfl) (by decide) (by decide) (by decide) (Or.inl rfl) (f1.sd.e (show cc < 4 by omega)) (ok_countBare f1.sd hc4 hW hc1 hB1 hbc1 h1 hm7 hn) (fun r38 S38 hp38 => ?_)
      obtain ⟨rfl, f2, hbc2, x, hx, hux⟩ := hp38
      have hs2 := f1.sd.fr f2
      have g2 : Fg (tRb cc) S S38 := (f1.mono tRb_re).tr (fg_cb f1.sd f2)
      have hB2 := hB1.cb f1.sd f2
      have hlc := (hB1.2.2.2.2.2.2.2.2.2 m h1 hn).2
      have huw := hux.trans (uncW_C hW hlc)
      have hc2 : WC S38 cc W := hc1.fr f2 (fun a k ha => by simp [tCb, tIb]; omega)
      have hT2 : Tcs S38 cc W := fun k a b => (f2.2.1 _ _ _ (by simp [tCb, tIb])).trans (hT1 k a b)
      show Ok _ _ _ [zi (nI (nB W m (tl W m).length))] _ _
      refine r_pop (q := 42) dX11_closed_41 rfl rfl ?_
      cases x with
      | true =>
        rw [show b01 true = 1 from rfl] at hx
        rw [cloA_u h3 (huw.mp rfl)]
        refine r_aload_n (q := 43) dX11_closed_42 rfl rfl rfl ?_
        refine r_getr (q := 46) (some (110, cc)) ck0 dX11_closed_43 rfl (k := 10) (by decide) wt389 rfl (hs2.e (show cc < 4 by omega)) (hs2.r (show cc < 4 by omega) (by decide)) ?_
        refine r_iload_n (q := 47) dX11_closed_46 rfl rfl rfl ?_
        refine r_zaldN (q := 48) 8 (by decide) rfl dX11_closed_47 rfl (hs2.e (show cc < 4 by omega)) (hs2.n rfl (show cc < 4 by omega)) (by omega) (by decide) ?_
        refine r_topi (y := nI 1) hx ?_
        refine r_if_eqN (q := 51) (t := 53) (by omega) dX11_closed_48 (by decide) rfl (fun h48 => absurd h48 (by omega)) (fun h48 => ?_)
        refine r_iload_n (q := 52) dX11_closed_51 rfl rfl rfl ?_
        refine r_ireturn dX11_closed_52 rfl ?_
        exact ⟨rfl, g2, ⟨n1, mk1, rl1, hB2⟩, hbc2⟩
      | false =>
        rw [show b01 false = 0 from rfl] at hx
        rw [cloA_c h3 (fun z => absurd (huw.mpr z) (by decide))]
        refine r_aload_n (q := 43) dX11_closed_42 rfl rfl rfl ?_
        refine r_getr (q := 46) (some (110, cc)) ck0 dX11_closed_43 rfl (k := 10) (by decide) wt389 rfl (hs2.e (show cc < 4 by omega)) (hs2.r (show cc < 4 by omega) (by decide)) ?_
        refine r_iload_n (q := 47) dX11_closed_46 rfl rfl rfl ?_
        refine r_zaldN (q := 48) 8 (by decide) rfl dX11_closed_47 rfl (hs2.e (show cc < 4 by omega)) (hs2.n rfl (show cc < 4 by omega)) (by omega) (by decide) ?_
        refine r_topi (y := nI 0) hx ?_
        refine r_if_eqN (q := 51) (t := 53) (by omega) dX11_closed_48 (by decide) rfl (fun h48 => ?_) (fun h48 => absurd h48 (by omega))
        refine r_iincN (q := 56) (L' := [some (zr 11 0), some (zi (nI n)), some (zr 0 cc), some (zi (nI (m + 1)))]) 1 rfl dX11_closed_53 rfl rfl (by decide) rfl ?_
        refine r_goto (q := 21) dX11_closed_56 (by decide) ?_
        exact Ok.mono (ih (m + 1) S38 (by omega) (by omega) hs2 ⟨hc2, hT2, ⟨n1, mk1, rl1, hB2⟩, hbc2⟩) (fun r S3 z => ⟨z.1, g2.tr z.2.1, z.2.2⟩)
    · rw [cloA_n h3]
      refine r_iload_n (q := 22) dX11_closed_21 rfl rfl rfl ?_
      refine r_iload_n (q := 23) dX11_closed_22 rfl rfl rfl ?_
      refine r_icmp_gtN (q := 26) (t := 59) (by omega) (by omega) dX11_closed_23 (by decide) rfl (fun h23 => absurd h23 (by omega)) (fun h23 => ?_)
      refine r_aload_n (q := 27) dX11_closed_26 rfl rfl rfl ?_
      refine r_iload_n (q := 28) dX11_closed_27 rfl rfl rfl ?_
      refine r_callV (Mc := mX0_reach) (q := 31) (As := [zi (nI m)]) (st := []) ck0 dX11_closed_28 rfl rfl mkX0_reach wt770 wt771 wt772 rfl (Nat.le_of_ble_eq_true rfl) (Nat.le_of_ble_eq_true rfl) (by decide) (by decide) (by decide) (Or.inr ⟨Nat.le_of_ble_eq_true rfl, rfl, rfl⟩) (hs.e (show cc < 4 by omega)) (ok_reach_n hs hW hc4 h1 hm7 hc hT hB h3) (fun r28 S28 hp28 => ?_)
      obtain ⟨rfl, f1, hc1, n1, mk1, rl1, hB1⟩ := hp28
      have hbc1 : Bc S28 cc W := hbc.fg f1 (fun k => ⟨by unfold tRe; omega, by unfold tRe; omega⟩)
      have hT1 := hT.fg f1
      show Ok _ _ _ [zi (nI 0)] _ _
      refine r_if_neN (q := 34) (t := 36) (by omega) dX11_closed_31 (by decide) rfl (fun h31 => absurd h31 (by omega)) (fun h31 => ?_)
      refine r_iconst (q := 35) ((-1 : Int32)) dX11_closed_34 rfl (by decide) ?_
      refine r_ireturn dX11_closed_35 rfl ?_
      exact ⟨rfl, f1.mono tRb_re, ⟨n1, mk1, rl1, hB1⟩, hbc1⟩

set_option maxRecDepth 100000 in
theorem cm_closed_in {S : zS} (hs : Sd S) {W : zWd} (hW : Wok W) {cc : Nat} (hcc : gI S 11 0 3 = nI cc) (hc4 : cc < 4) (hcb : CbB S cc W) {n : Nat} (hn1 : 1 ≤ n) (hn7 : n ≤ 7) : Ok mX11_closed 0 (ent 4 [zr 11 0, zi (nI n)]) [] S (fun r S1 => r = some (zi (cloA W n 1)) ∧ Fg (tRb cc) S S1 ∧ (∃ n1 mk1 rl1, CB S1 cc W n1 mk1 rl1) ∧ Bc S1 cc W) := by
  show Ok mX11_closed 0 [some (zr 11 0), some (zi (nI n)), none, none] [] S _
  refine r_iload_n (q := 1) dX11_closed_0 rfl rfl rfl ?_
  refine r_iconst (q := 2) (nI 1) dX11_closed_1 rfl (by decide) ?_
  refine r_icmp_ltN (q := 5) (t := 11) (by omega) (by omega) dX11_closed_2 (by decide) rfl (fun h2 => absurd h2 (by omega)) (fun h2 => ?_)
  refine r_iload_n (q := 6) dX11_closed_5 rfl rfl rfl ?_
  refine r_bipush (q := 8) (nI 7) dX11_closed_6 rfl (by decide) ?_
  refine r_icmp_leN (q := 11) (t := 14) (by omega) (by omega) dX11_closed_8 (by decide) rfl (fun h8 => ?_) (fun h8 => absurd h8 (by omega))
  refine r_aload_n (q := 15) dX11_closed_14 rfl rfl rfl ?_
  refine r_callV (Mc := mX11_basisHere) (q := 18) (As := []) (st := []) ck11 dX11_closed_15 rfl rfl mkX11_basisHere wt766 wt768 wp27 rfl (Nat.le_of_ble_eq_true rfl) (Nat.le_of_ble_eq_true rfl) (by decide) (by decide) (by decide) (Or.inl rfl) (hs.e (by decide)) (ok_basisHere hs hcc hc4) (fun r15 S15 hp15 => ?_)
  obtain ⟨rfl, hq15⟩ := hp15
  rw [hq15]
  show Ok _ _ _ [zr 0 cc] _ _
  refine r_astore_n (q := 19) (L' := [some (zr 11 0), some (zi (nI n)), some (zr 0 cc), none]) dX11_closed_18 rfl rfl (by decide) rfl ?_
  refine r_iconst (q := 20) (nI 1) dX11_closed_19 rfl (by decide) ?_
  refine r_istore_n (q := 21) (L' := [some (zr 11 0), some (zi (nI n)), some (zr 0 cc), some (zi (nI 1))]) dX11_closed_20 rfl rfl (by decide) rfl ?_
  exact lp_cl21 hW hc4 hn7 n 1 S (by omega) (by omega) hs hcb

set_option maxRecDepth 100000 in
theorem cm_closed_x {S : zS} (hs : Sd S) {x : Int32} (hx : ¬ (nI 1 ≤ x ∧ x ≤ nI 7)) : Ok mX11_closed 0 (ent 4 [zr 11 0, zi x]) [] S (fun r S1 => r = some (zi (-2)) ∧ S1 = S) := by
  show Ok mX11_closed 0 [some (zr 11 0), some (zi x), none, none] [] S _
  refine r_iload_n (q := 1) dX11_closed_0 rfl rfl rfl ?_
  refine r_iconst (q := 2) (nI 1) dX11_closed_1 rfl (by decide) ?_
  refine r_icmp_lt (q := 5) (t := 11) dX11_closed_2 (by decide) rfl (fun h2 => ?_) (fun h2 => ?_)
  · skip
    refine r_bipush (q := 13) ((-2 : Int32)) dX11_closed_11 rfl (by decide) ?_
    refine r_ireturn dX11_closed_13 rfl ?_
    exact ⟨rfl, rfl⟩
  · skip
    refine r_iload_n (q := 6) dX11_closed_5 rfl rfl rfl ?_
    refine r_bipush (q := 8) (nI 7) dX11_closed_6 rfl (by decide) ?_
    refine r_icmp_le (q := 11) (t := 14) dX11_closed_8 (by decide) rfl (fun h8 => ?_) (fun h8 => ?_)
    · skip
      exact absurd ⟨Int32.not_lt.mp h2, h8⟩ hx
    · skip
      refine r_bipush (q := 13) ((-2 : Int32)) dX11_closed_11 rfl (by decide) ?_
      refine r_ireturn dX11_closed_13 rfl ?_
      exact ⟨rfl, rfl⟩

set_option maxRecDepth 100000 in
theorem lp_rc20 {W : zWd} (hW : Wok W) {n : Nat} (hn7 : n ≤ 7) {n9 : Nat → Int64} : ∀ (d k : Nat) (S : zS), k + d = n + 1 → 1 ≤ k → Sd S → wqR W (fun k => gI S 1306 0 k) n9 → Cw S → CR S W → IvI S → Ok mX12_closed 20 [some (zr 12 0), some (zi (nI n)), some (zi (nI k))] [] S (fun r S1 => r = some (zi (cloA W d k)) ∧ Fr (fun x y k => tBy x y k || tBo x y k) S S1 ∧ Cw S1 ∧ CR S1 W ∧ IvI S1) := by
  intro d
  induction d with
  | zero =>
    intro k S hk h1 hs hR hO hcr hI
    obtain rfl : k = n + 1 := by omega
    refine r_iload_n (q := 21) dX12_closed_20 rfl rfl rfl ?_
    refine r_iload_n (q := 22) dX12_closed_21 rfl rfl rfl ?_
    refine r_icmp_gtN (q := 25) (t := 58) (by omega) (by omega) dX12_closed_22 (by decide) rfl (fun h22 => ?_) (fun h22 => absurd h22 (by omega))
    refine r_iconst (q := 59) ((-1 : Int32)) dX12_closed_58 rfl (by decide) ?_
    refine r_ireturn dX12_closed_59 rfl ?_
    exact ⟨rfl, Fr.rf, hO, hcr, hI⟩
  | succ d ih =>
    intro k S hk h1 hs hR hO hcr hI
    have hk7 : k ≤ 7 := by omega
    by_cases h3 : tc W k ≤ 300
    · skip
      refine r_iload_n (q := 21) dX12_closed_20 rfl rfl rfl ?_
      refine r_iload_n (q := 22) dX12_closed_21 rfl rfl rfl ?_
      refine r_icmp_gtN (q := 25) (t := 58) (by omega) (by omega) dX12_closed_22 (by decide) rfl (fun h22 => absurd h22 (by omega)) (fun h22 => ?_)
      refine r_aload_n (q := 26) dX12_closed_25 rfl rfl rfl ?_
      refine r_iconst (q := 27) (nI 0) dX12_closed_26 rfl (by decide) ?_
      refine r_iload_n (q := 28) dX12_closed_27 rfl rfl rfl ?_
      refine r_callV (Mc := mX12_isBeyond) (q := 31) (As := [zi (nI 0), zi (nI k)]) (st := []) ck12 dX12_closed_28 rfl rfl mkX12_isBeyond wt1751 wt1753 wp99 rfl (Nat.le_of_ble_eq_true rfl) (Nat.le_of_ble_eq_true rfl) (by decide) (by decide) (by decide) (Or.inl rfl) (hs.e (by decide)) (ok_beyond0_n hs hW h1 hk7 hR hO hcr hI h3) (fun r28 S28 hp28 => ?_)
      obtain ⟨f1, hon, hcw, hiv, hws, L, pvs, bss, hB, hz⟩ := hp28
      have hs1 : Sd S28 := hs.fr f1
      have hR1 : wqR W (fun k => gI S28 1306 0 k) n9 := wqR.cong hW (fun k _ _ => (f1.1 1306 0 k rfl).symm) (fun _ _ => rfl) hR
      have g1 : Fr (fun x y k => tBy x y k || tBo x y k) S S28 := f1.mono (fun x y k h => by simp [h])
      obtain ⟨rfl, _, hnL⟩ := hz.resolve_left (fun z => absurd z.2 (by omega))
      obtain ⟨hLr, hAc, hLv⟩ := hB.2.2.2.2 k h1 (by omega)
      have h4 : gI S28 1324 0 k = nI (tl W k).length := by have z := hLr.2.1; rw [Nat.mul_zero, Nat.zero_add] at z; exact z
      have h5 : gI S28 1325 0 k = nI (FqR 0 W k) := by have z := hLr.1; rw [Nat.mul_zero, Nat.zero_add] at z; exact z
      have hb300 := hAc.1.2.2.2.2.1
      have hF44 := hAc.1.2.2.2.2.2.1
      show Ok _ _ _ [zi (nI 0)] _ _
      refine r_if_eqN (q := 34) (t := 36) (by omega) dX12_closed_31 (by decide) rfl (fun h31 => ?_) (fun h31 => absurd h31 (by omega))
      refine r_aload_n (q := 37) dX12_closed_36 rfl rfl rfl ?_
      refine r_iload_n (q := 38) dX12_closed_37 rfl rfl rfl ?_
      refine r_callV (Mc := mX12_bareOf) (q := 41) (As := [zi (nI k)]) (st := []) ck12 dX12_closed_38 rfl rfl mkX12_bareOf wt1856 wt1858 wp121 rfl (Nat.le_of_ble_eq_true rfl) (Nat.le_of_ble_eq_true rfl) (by decide) (by decide) (by decide) (Or.inl rfl) (hs1.e (by decide)) (ok_bareOf hW hk7 hb300 hF44 hs1 (Lb.of hR1) h4 h5 hLr.2.2.1) (fun r38 S38 hp38 => ?_)
      obtain ⟨rfl, f2⟩ := hp38
      have hs2 := hs1.fr f2
      have rc2 := rc_bo (W := W) hs1 f2
      have g2 : Fr (fun x y k => tBy x y k || tBo x y k) S S38 := g1.tr (f2.mono (fun x y k h => by simp [h]))
      have hR2 : wqR W (fun k => gI S38 1306 0 k) n9 := wqR.cong hW (fun k _ _ => (f2.1 1306 0 k rfl).symm) (fun _ _ => rfl) hR1
      have hle := cntp_le (pv := pvs k) (tl W k).length
      have hle2 := nB_le (W := W) (n := k) (tl W k).length
      have huw := uncW_R hW hk7 hLv
      show Ok _ _ _ [zi (nI (nB W k (tl W k).length))] _ _
      refine r_aload_n (q := 42) dX12_closed_41 rfl rfl rfl ?_
      refine r_iconst (q := 43) (nI 0) dX12_closed_42 rfl (by decide) ?_
      refine r_iload_n (q := 44) dX12_closed_43 rfl rfl rfl ?_
      refine r_callV (Mc := mX12_sizeOf) (q := 47) (As := [zi (nI 0), zi (nI k)]) (st := [zi (nI (nB W k (tl W k).length))]) ck12 dX12_closed_44 rfl rfl mkX12_sizeOf wt1844 wt1846 wp120 rfl (Nat.le_of_ble_eq_true rfl) (Nat.le_of_ble_eq_true rfl) (by decide) (by decide) (by decide) (Or.inl rfl) (hs2.e (by decide)) (ok_sizeOf hs2 (by omega) hk7 hle ((f2.1 _ _ _ rfl).trans hAc.2.2.1) ((f2.1 _ _ _ rfl).trans hLr.2.1)) (fun r44 S44 hp44 => ?_)
      obtain ⟨rfl, hq44⟩ := hp44
      rw [hq44]
      show Ok _ _ _ [zi (nI ((tl W k).length - cntp (pvs k) (tl W k).length)), zi (nI (nB W k (tl W k).length))] _ _
      by_cases hu : UncW W k
      · have hne := huw.mpr hu
        rw [cloA_u h3 hu]
        refine r_icmp_eqN (q := 50) (t := 52) (by omega) (by omega) dX12_closed_47 (by decide) rfl (fun h47 => absurd h47 (by omega)) (fun h47 => ?_)
        refine r_iload_n (q := 51) dX12_closed_50 rfl rfl rfl ?_
        refine r_ireturn dX12_closed_51 rfl ?_
        exact ⟨rfl, g2, rc2.2.1 hcw, rc2.1 (fun _ => ⟨L, pvs, bss, hB⟩), rc2.2.2 hiv⟩
      · have heq : nB W k (tl W k).length = (tl W k).length - cntp (pvs k) (tl W k).length := Classical.byContradiction (fun z => hu (huw.mp z))
        rw [cloA_c h3 hu]
        refine r_icmp_eqN (q := 50) (t := 52) (by omega) (by omega) dX12_closed_47 (by decide) rfl (fun h47 => ?_) (fun h47 => absurd h47 (by omega))
        refine r_iincN (q := 55) (L' := [some (zr 12 0), some (zi (nI n)), some (zi (nI (k + 1)))]) 1 rfl dX12_closed_52 rfl rfl (by decide) rfl ?_
        refine r_goto (q := 20) dX12_closed_55 (by decide) ?_
        exact Ok.mono (ih (k + 1) S38 (by omega) (by omega) hs2 hR2 (rc2.2.1 hcw) (rc2.1 (fun _ => ⟨L, pvs, bss, hB⟩)) (rc2.2.2 hiv)) (fun r S3 z => ⟨z.1, g2.tr z.2.1, z.2.2⟩)
    · rw [cloA_n h3]
      refine r_iload_n (q := 21) dX12_closed_20 rfl rfl rfl ?_
      refine r_iload_n (q := 22) dX12_closed_21 rfl rfl rfl ?_
      refine r_icmp_gtN (q := 25) (t := 58) (by omega) (by omega) dX12_closed_22 (by decide) rfl (fun h22 => absurd h22 (by omega)) (fun h22 => ?_)
      refine r_aload_n (q := 26) dX12_closed_25 rfl rfl rfl ?_
      refine r_iconst (q := 27) (nI 0) dX12_closed_26 rfl (by decide) ?_
      refine r_iload_n (q := 28) dX12_closed_27 rfl rfl rfl ?_
      refine r_callV (Mc := mX12_isBeyond) (q := 31) (As := [zi (nI 0), zi (nI k)]) (st := []) ck12 dX12_closed_28 rfl rfl mkX12_isBeyond wt1751 wt1753 wp99 rfl (Nat.le_of_ble_eq_true rfl) (Nat.le_of_ble_eq_true rfl) (by decide) (by decide) (by decide) (Or.inl rfl) (hs.e (by decide)) (ok_beyond0_y hs hW h1 hk7 hR hO hcr hI h3) (fun r28 S28 hp28 => ?_)
      obtain ⟨f1, hon, hcw, hiv, hws, L, pvs, bss, hB, hz⟩ := hp28
      have hs1 : Sd S28 := hs.fr f1
      have hR1 : wqR W (fun k => gI S28 1306 0 k) n9 := wqR.cong hW (fun k _ _ => (f1.1 1306 0 k rfl).symm) (fun _ _ => rfl) hR
      have g1 : Fr (fun x y k => tBy x y k || tBo x y k) S S28 := f1.mono (fun x y k h => by simp [h])
      obtain ⟨rfl, _⟩ := hz.resolve_right (fun z => h3 z.2.1)
      show Ok _ _ _ [zi (nI 1)] _ _
      refine r_if_eqN (q := 34) (t := 36) (by omega) dX12_closed_31 (by decide) rfl (fun h31 => absurd h31 (by omega)) (fun h31 => ?_)
      refine r_iconst (q := 35) ((-1 : Int32)) dX12_closed_34 rfl (by decide) ?_
      refine r_ireturn dX12_closed_35 rfl ?_
      exact ⟨rfl, g1, hcw, fun _ => ⟨L, pvs, bss, hB⟩, hiv⟩

set_option maxRecDepth 100000 in
theorem rm_closed_in {S : zS} (hs : Sd S) {W : zWd} (hW : Wok W) {n9 : Nat → Int64} (hR : wqR W (fun k => gI S 1306 0 k) n9) (hO : Cw S) (hcr : CR S W) (hI : IvI S) {n : Nat} (hn1 : 1 ≤ n) (hn7 : n ≤ 7) : Ok mX12_closed 0 (ent 3 [zr 12 0, zi (nI n)]) [] S (fun r S1 => r = some (zi (cloA W n 1)) ∧ Fr (fun x y k => (tBy x y k || tBo x y k) || x == 12 && y == 0 && k == 0) S S1 ∧ Cw S1 ∧ CR S1 W ∧ IvI S1) := by
  show Ok mX12_closed 0 [some (zr 12 0), some (zi (nI n)), none] [] S _
  refine r_aload_n (q := 1) dX12_closed_0 rfl rfl rfl ?_
  refine r_iconst (q := 2) (nI 0) dX12_closed_1 rfl (by decide) ?_
  refine r_puti (q := 5) ck12 dX12_closed_2 rfl (k := 0) (by decide) wt1278 (Or.inl rfl) rfl (hs.e (by decide)) ?_
  refine r_iload_n (q := 6) dX12_closed_5 rfl rfl rfl ?_
  refine r_iconst (q := 7) (nI 1) dX12_closed_6 rfl (by decide) ?_
  refine r_bipush (q := 9) (nI 7) dX12_closed_7 rfl (by decide) ?_
  refine r_callS (Mc := mX12_isIn) (q := 12) (As := [zi (nI n), zi (nI 1), zi (nI 7)]) (st := []) dX12_closed_9 rfl rfl mkX12_isIn wt1614 wt1615 rfl (Nat.le_of_ble_eq_true rfl) (Nat.le_of_ble_eq_true rfl) (by decide) (by decide) (by decide) (Or.inl rfl) hs.some (ok_X12_isIn_in (by omega) (by omega) (by omega)) (fun r9 S9 hp9 => ?_)
  obtain ⟨rfl, hq9⟩ := hp9
  rw [hq9]
  show Ok _ _ _ [zi (nI 1)] _ _
  refine r_if_neN (q := 15) (t := 18) (by omega) dX12_closed_12 (by decide) rfl (fun h12 => ?_) (fun h12 => absurd h12 (by omega))
  refine r_iconst (q := 19) (nI 1) dX12_closed_18 rfl (by decide) ?_
  refine r_istore_n (q := 20) (L' := [some (zr 12 0), some (zi (nI n)), some (zi (nI 1))]) dX12_closed_19 rfl rfl (by decide) rfl ?_
  refine Ok.mono (lp_rc20 hW hn7 (n9 := n9) n 1 (sI S 12 0 0 (nI 0)) (by omega) (by omega) hs (wqR_thr hW hR) (rc_thr.rc (W := W).2.1 hO) (rc_thr.rc.1 hcr) (rc_thr.rc (W := W).2.2 hI)) (fun r S1 z => ⟨z.1, ((fr_thr (S := S)).mono (fun x y k h => by simp only [Bool.or_eq_true]; exact Or.inr h)).tr (z.2.1.mono (fun x y k h => by simp only [Bool.or_eq_true] at h ⊢; exact Or.inl h)), z.2.2⟩)

set_option maxRecDepth 100000 in
theorem rm_closed_x {S : zS} (hs : Sd S) {x : Int32} (hx : ¬ (nI 1 ≤ x ∧ x ≤ nI 7)) : Ok mX12_closed 0 (ent 3 [zr 12 0, zi x]) [] S (fun r S1 => r = some (zi (-2)) ∧ S1 = sI S 12 0 0 (nI 0)) := by
  show Ok mX12_closed 0 [some (zr 12 0), some (zi x), none] [] S _
  refine r_aload_n (q := 1) dX12_closed_0 rfl rfl rfl ?_
  refine r_iconst (q := 2) (nI 0) dX12_closed_1 rfl (by decide) ?_
  refine r_puti (q := 5) ck12 dX12_closed_2 rfl (k := 0) (by decide) wt1278 (Or.inl rfl) rfl (hs.e (by decide)) ?_
  refine r_iload_n (q := 6) dX12_closed_5 rfl rfl rfl ?_
  refine r_iconst (q := 7) (nI 1) dX12_closed_6 rfl (by decide) ?_
  refine r_bipush (q := 9) (nI 7) dX12_closed_7 rfl (by decide) ?_
  refine r_callS (Mc := mX12_isIn) (q := 12) (As := [zi x, zi (nI 1), zi (nI 7)]) (st := []) dX12_closed_9 rfl rfl mkX12_isIn wt1614 wt1615 rfl (Nat.le_of_ble_eq_true rfl) (Nat.le_of_ble_eq_true rfl) (by decide) (by decide) (by decide) (Or.inl rfl) hs.some (ok_X12_isIn_out hx) (fun r9 S9 hp9 => ?_)
  obtain ⟨rfl, hq9⟩ := hp9
  rw [hq9]
  show Ok _ _ _ [zi (nI 0)] _ _
  refine r_if_neN (q := 15) (t := 18) (by omega) dX12_closed_12 (by decide) rfl (fun h12 => absurd h12 (by omega)) (fun h12 => ?_)
  refine r_bipush (q := 17) ((-2 : Int32)) dX12_closed_15 rfl (by decide) ?_
  refine r_ireturn dX12_closed_17 rfl ?_
  exact ⟨rfl, rfl⟩

def CacheC (S S2 : zS) (W : zWd) (cc : Nat) : Prop := Fg (tBb cc) S S2 ∧ BsC S2 cc W ∧ Bc S2 cc W
theorem tBb_n {cc a b k : Nat} (h : (tBy a b k || tBo a b k || a == 12 && b == 0 && k == 0) = true) : tBb cc a b k ∧ (12 ≤ a ∧ (a < 100 ∨ 1300 ≤ a)) := by
  simp only [Bool.or_eq_true, Bool.and_eq_true, beq_iff_eq] at h
  rcases h with (h | h) | h
  · exact ⟨Or.inl (Or.inr (Or.inl h)), by simp [tBy, tSe, tTq, tPt, tPa, tIv, tOw] at h; omega⟩
  · exact ⟨Or.inr (Or.inr h), by simp [tBo] at h; omega⟩
  · exact ⟨Or.inl (Or.inr (Or.inr ⟨h.1.1, h.1.2, h.2⟩)), by omega⟩
theorem cache_c {S S1 S2 : zS} {W : zWd} {cc : Nat} (f1 : Fg (tRb cc) S S1) (h : ∃ n mk rl, CB S1 cc W n mk rl) (hb : Bc S1 cc W) (y : Fr (fun x y k => (tBy x y k || tBo x y k) || x == 12 && y == 0 && k == 0) S1 S2 ∧ Cw S2 ∧ CR S2 W ∧ IvI S2) : CacheC S S2 W cc := by
  obtain ⟨f2, y2, y3, y4⟩ := y
  obtain ⟨n1, mk1, rl1, hB1⟩ := h
  have g := f2.fg f1.sd (U := fun a _ _ => 12 ≤ a ∧ (a < 100 ∨ 1300 ≤ a)) (fun a b k z => (tBb_n (cc := cc) z).2)
  refine ⟨(f1.mono fun a b k z => ?_).tr (f2.fg f1.sd fun a b k z => (tBb_n z).1), ⟨⟨n1, mk1, rl1, hB1.fg g ⟨by omega, fun x k a b => by omega⟩⟩, y3, y2, y4⟩, hb.fg g (fun k => ⟨by omega, by omega⟩)⟩
  rcases z with z | z
  · exact Or.inl (Or.inl z)
  · exact Or.inr (Or.inl z)
theorem cache_c0 {S : zS} (hs : Sd S) {W : zWd} {cc : Nat} (hb : BsC S cc W) (hbc : Bc S cc W) : CacheC S (sI S 12 0 0 (nI 0)) W cc := by
  refine cache_c (Fg.rf hs) hb.1 hbc ⟨fr_thr.mono (fun x y k h => by simp only [Bool.or_eq_true]; exact Or.inr h), (rc_thr.rc (W := W)).2.1 hb.2.2.1, rc_thr.rc.1 hb.2.1, (rc_thr.rc (W := W)).2.2 hb.2.2.2⟩
theorem pg_bare {S : zS} (hs : Sd S) {W : zWd} {cc : Nat} (hcc : gI S 11 0 3 = nI cc) (hc4 : cc < 4) (hw : WR wq S W cc 1306 0 1308 0) (hb : BsC S cc W) (hbc : Bc S cc W) (a : Int32) : Pg mX11_bare 3 [zr 11 0, zi a] mX12_bare 2 [zr 12 0, zi a] S (fun S2 => CacheC S S2 W cc) := by
  obtain ⟨hW, hC, hR⟩ := hw.c
  obtain ⟨hc, hT⟩ := wq_WC hC
  have hb' := hb
  obtain ⟨⟨n0, mk, rl, hB⟩, hcr, hO, hI⟩ := hb
  by_cases ha : nI 1 ≤ a ∧ a ≤ nI 7
  · obtain ⟨n, rfl, hn1, hn7⟩ := in17 ha
    by_cases h3 : tc W n ≤ 300
    · refine Ok.mono (cm_bare_y hs hW hcc hc4 hc hT hB hbc hn1 hn7 h3) fun r S1 z => ?_
      obtain ⟨f1, hB1, hb1, rfl⟩ := z
      have rc := (rc_rb f1).rc (W := W)
      refine ⟨_, rfl, f1.sd, Ok.mono (rm_bare_y f1.sd hW (hR.rb hW f1) (rc.2.1 hO) (rc.1 hcr) (rc.2.2 hI) hn1 hn7 h3) fun r2 S2 y => ⟨y.2, cache_c f1 hB1 hb1 y.1⟩⟩
    · refine Ok.mono (cm_bare_n hs hW hcc hc4 hc hT hB hbc hn1 hn7 h3) fun r S1 z => ?_
      obtain ⟨f1, hB1, hb1, rfl⟩ := z
      have rc := (rc_rb f1).rc (W := W)
      refine ⟨_, rfl, f1.sd, Ok.mono (rm_bare_n f1.sd hW (hR.rb hW f1) (rc.2.1 hO) (rc.1 hcr) (rc.2.2 hI) hn1 hn7 h3) fun r2 S2 y => ⟨y.2, cache_c f1 hB1 hb1 y.1⟩⟩
  · refine Ok.mono (cm_bare_x hs hcc hc4 ha) fun r S1 z => ?_
    obtain ⟨rfl, rfl⟩ := z
    refine ⟨_, rfl, hs, Ok.mono (rm_bare_x hs ha) fun r2 S2 y => ?_⟩
    obtain ⟨rfl, rfl⟩ := y
    exact ⟨rfl, cache_c0 hs hb' hbc⟩
theorem pg_closed {S : zS} (hs : Sd S) {W : zWd} {cc : Nat} (hcc : gI S 11 0 3 = nI cc) (hc4 : cc < 4) (hw : WR wq S W cc 1306 0 1308 0) (hb : BsC S cc W) (hbc : Bc S cc W) (a : Int32) : Pg mX11_closed 4 [zr 11 0, zi a] mX12_closed 3 [zr 12 0, zi a] S (fun S2 => CacheC S S2 W cc) := by
  obtain ⟨hW, hC, hR⟩ := hw.c
  obtain ⟨hc, hT⟩ := wq_WC hC
  by_cases ha : nI 1 ≤ a ∧ a ≤ nI 7
  · obtain ⟨n, rfl, hn1, hn7⟩ := in17 ha
    refine Ok.mono (cm_closed_in hs hW hcc hc4 ⟨hc, hT, hb.1, hbc⟩ hn1 hn7) fun r S1 z => ?_
    obtain ⟨rfl, f1, hB1, hb1⟩ := z
    have rc := (rc_rb f1).rc (W := W)
    refine ⟨_, rfl, f1.sd, Ok.mono (rm_closed_in f1.sd hW (hR.rb hW f1) (rc.2.1 hb.2.2.1) (rc.1 hb.2.1) (rc.2.2 hb.2.2.2) hn1 hn7) fun r2 S2 y => ⟨y.1, cache_c f1 hB1 hb1 y.2⟩⟩
  · refine Ok.mono (cm_closed_x hs ha) fun r S1 z => ?_
    obtain ⟨rfl, rfl⟩ := z
    refine ⟨_, rfl, hs, Ok.mono (rm_closed_x hs ha) fun r2 S2 y => ?_⟩
    obtain ⟨rfl, rfl⟩ := y
    exact ⟨rfl, cache_c0 hs hb hbc⟩

