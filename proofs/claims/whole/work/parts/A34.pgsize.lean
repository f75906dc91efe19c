/-! sizes: both sides -/
theorem ok_reach_y {S : zS} (hs : Sd S) {W : zWd} (hW : Wok W) {b N n : Nat} (hb4 : b < 4) (hN1 : 1 ≤ N) (hN7 : N ≤ 7) (hc : WC S b W) (hT : Tcs S b W) {mk : Nat → Nat → Nat} {rl : Nat → Nat → Nat → Nat} (hB : CB S b W n mk rl) (h3 : tc W N ≤ 300) : Ok mX0_reach 0 (ent 3 [zr 0 b, zi (nI N)]) [] S (fun r S1 => r = some (zi (nI 1)) ∧ Fg (tRe b) S S1 ∧ WC S1 b W ∧ ∃ n mk rl, CB S1 b W n mk rl ∧ N ≤ n) := Ok.mono (ok_reach_in hs hW hb4 hN1 hN7 hc hT hB) fun r S1 z => by
  obtain ⟨f, hc, n, mk, rl, hB, h | h⟩ := z
  · exact ⟨h.2.2, f, hc, n, mk, rl, hB, h.2.1⟩
  · exact absurd h3 (by omega)
theorem ok_reach_n {S : zS} (hs : Sd S) {W : zWd} (hW : Wok W) {b N n : Nat} (hb4 : b < 4) (hN1 : 1 ≤ N) (hN7 : N ≤ 7) (hc : WC S b W) (hT : Tcs S b W) {mk : Nat → Nat → Nat} {rl : Nat → Nat → Nat → Nat} (hB : CB S b W n mk rl) (h3 : ¬ tc W N ≤ 300) : Ok mX0_reach 0 (ent 3 [zr 0 b, zi (nI N)]) [] S (fun r S1 => r = some (zi (nI 0)) ∧ Fg (tRe b) S S1 ∧ WC S1 b W ∧ ∃ n mk rl, CB S1 b W n mk rl) := Ok.mono (ok_reach_in hs hW hb4 hN1 hN7 hc hT hB) fun r S1 z => by
  obtain ⟨f, hc, n, mk, rl, hB, h | h⟩ := z
  · exact absurd h.1 h3
  · exact ⟨h.2, f, hc, n, mk, rl, hB⟩
/-- the caches of both sides, of the world at hand -/
def BsC (S : zS) (cc : Nat) (W : zWd) : Prop := (∃ n mk rl, CB S cc W n mk rl) ∧ CR S W ∧ Cw S ∧ IvI S
def tBz (cc a b k : Nat) : Prop := tRe cc a b k ∨ tBy a b k = true ∨ a = 12 ∧ b = 0 ∧ k = 0
theorem tBz_re {cc : Nat} (a b k : Nat) (h : tRe cc a b k) : tBz cc a b k := Or.inl h
theorem wq_WC {S : zS} {W : zWd} {c : Nat} (h : wqC W (fun a k => gI S a c k) (fun a k => gJ S a c k)) : WC S c W ∧ Tcs S c W := by
  obtain ⟨h1, h2, h3, h4, h5, h6, h7, h8⟩ := h
  exact ⟨⟨h1, h2, h3, h4, h5, h6, h7⟩, h8⟩
theorem nz_cntp {mk : Nat → Nat} {pv : Nat → Bool} : ∀ (m : Nat), (∀ t, t < m → (pv t = true ↔ mk t ≠ 0)) → nz mk m + cntp pv m = m
  | 0, _ => rfl
  | m + 1, h => by
    have ih := nz_cntp (mk := mk) (pv := pv) m (fun t ht => h t (by omega))
    have hm := h m (by omega)
    show nz mk m + (if mk m = 0 then 1 else 0) + (cntp pv m + (if pv m = true then 1 else 0)) = m + 1
    by_cases e : mk m = 0
    · rw [if_pos e, if_neg (fun z => hm.mp z e)]; omega
    · rw [if_neg e, if_pos (hm.mpr e)]; omega
/-- what the reference's rows keep through calls of the class, and the other way round -/
theorem CB.fg {S S1 : zS} {b n : Nat} {W : zWd} {mk : Nat → Nat → Nat} {rl : Nat → Nat → Nat → Nat} (h : CB S b W n mk rl) {T : Nat → Nat → Nat → Prop} (f : Fg T S S1) (t : ¬ T 0 b 2 ∧ ∀ x k, 103 ≤ x → x ≤ 108 → ¬ T x b k) : CB S1 b W n mk rl := by
  obtain ⟨h1, h2, h3, h4, h5, h6, h7, h8, h9, h10⟩ := h
  have e7 : gN S1 107 b = gN S 107 b := f.N (by omega) (t.2 _ _ (by omega) (by omega))
  have eI : ∀ x k, 103 ≤ x → x ≤ 108 → gI S1 x b k = gI S x b k := fun x k a c => f.I (by omega) (t.2 _ _ a c)
  refine ⟨(f.I (by omega) t.1).trans h1, h2, h3, fun k k1 k2 => ?_, (eI _ _ (by omega) (by omega)).trans h5, (eI _ _ (by omega) (by omega)).trans h6, by rw [e7]; exact h7, by rw [e7]; exact h8, by rw [e7]; exact h9, fun k k1 k2 => ⟨(eI _ _ (by omega) (by omega)).trans (h10 k k1 k2).1, (h10 k k1 k2).2⟩⟩
  obtain ⟨a1, a2, a3⟩ := h4 k k1 k2
  exact ⟨⟨(eI _ _ (by omega) (by omega)).trans a1.1, (eI _ _ (by omega) (by omega)).trans a1.2.1, a1.2.2.1, a1.2.2.2.1, fun i hi => (eI _ _ (by omega) (by omega)).trans (a1.2.2.2.2 i hi)⟩, fun i hi => ⟨(eI _ _ (by omega) (by omega)).trans (a2 i hi).1, (a2 i hi).2⟩, (eI _ _ (by omega) (by omega)).trans a3.1, by rw [e7]; exact a3.2.1, by rw [e7]; exact a3.2.2.1, fun t ht hm j hj => ⟨(eI _ _ (by omega) (by omega)).trans (a3.2.2.2 t ht hm j hj).1, (a3.2.2.2 t ht hm j hj).2⟩⟩
theorem RB.fg {S S1 : zS} {W : zWd} {q L : Nat} {pvs : Nat → Nat → Bool} {bss : Nat → Nat → Nat → Nat} (h : RB S W q L pvs bss) (hI : ∀ x k, 1322 ≤ x → x ≤ 1332 → gI S1 x 0 k = gI S x 0 k) (hJ : ∀ k, gJ S1 1334 0 k = gJ S 1334 0 k) : RB S1 W q L pvs bss := by
  obtain ⟨h1, h2, h3, h4, h5⟩ := h
  refine ⟨(hI _ _ (by omega) (by omega)).trans h1, h2, h3, fun z i a b => (hJ _).trans (h4 z i a b), fun s a b => ?_⟩
  obtain ⟨⟨l1, l2, l3, r, l4, l5, l6⟩, ⟨⟨b1, b2, b3, b4, b5, b6, b7, b8, b9⟩, c2, c3, c4⟩, d⟩ := h5 s a b
  refine ⟨⟨(hI _ _ (by omega) (by omega)).trans l1, (hI _ _ (by omega) (by omega)).trans l2, fun j hj => ⟨(hI _ _ (by omega) (by omega)).trans (l3 j hj).1, (l3 j hj).2⟩, r, l4, fun i hi => (hI _ _ (by omega) (by omega)).trans (l5 i hi), l6⟩, ⟨⟨(hI _ _ (by omega) (by omega)).trans b1, (hI _ _ (by omega) (by omega)).trans b2, (hI _ _ (by omega) (by omega)).trans b3, (hI _ _ (by omega) (by omega)).trans b4, b5, b6, b7, fun t ht => (hI _ _ (by omega) (by omega)).trans (b8 t ht), fun t ht hp => ⟨fun j hj => ⟨(hI _ _ (by omega) (by omega)).trans ((b9 t ht hp).1 j hj).1, ((b9 t ht hp).1 j hj).2⟩, (b9 t ht hp).2⟩⟩, c2, (hI _ _ (by omega) (by omega)).trans c3, c4⟩, d⟩
/-- the reference's caches through calls that leave them alone -/
def RcI (S S1 : zS) : Prop := gI S1 12 0 33 = gI S 12 0 33 ∧ gI S1 12 0 43 = gI S 12 0 43 ∧ (∀ x k, 1322 ≤ x → x ≤ 1332 ∨ x = 1342 → gI S1 x 0 k = gI S x 0 k) ∧ (∀ k, gJ S1 1334 0 k = gJ S 1334 0 k) ∧ ∀ k, k < 1173 → gI S1 1306 0 k = gI S 1306 0 k
theorem RcI.rc {S S1 : zS} {W : zWd} (h : RcI S S1) : (CR S W → CR S1 W) ∧ (Cw S → Cw S1) ∧ (IvI S → IvI S1) := by
  obtain ⟨h1, h2, h3, h4, h5⟩ := h
  refine ⟨fun g z => ?_, fun g z k hk h => ?_, fun g P a b c => ?_⟩
  · obtain ⟨L, pvs, bss, hB⟩ := g (h1.symm.trans z)
    exact ⟨L, pvs, bss, hB.fg (fun x k a b => h3 x k a (Or.inl b)) h4⟩
  · rw [h3 1322 k (by omega) (by omega), h5 k (by omega)]; exact g (h1.symm.trans z) k hk h
  · intro a' a1 a2
    obtain ⟨d, d1, d2⟩ := g P a b (h2.symm.trans c) a' a1 a2
    exact ⟨d, (h3 1342 a' (by omega) (Or.inr rfl)).trans d1, d2⟩
theorem RcI.of {T : Nat → Nat → Nat → Prop} {S S1 : zS} (f : Fg T S S1) (t : ¬ T 12 0 33 ∧ ¬ T 12 0 43 ∧ (∀ x k, 1322 ≤ x → x ≤ 1334 ∨ x = 1342 → ¬ T x 0 k) ∧ ∀ k, k < 1173 → ¬ T 1306 0 k) : RcI S S1 := ⟨f.I (by omega) t.1, f.I (by omega) t.2.1, fun x k a b => f.I (by omega) (t.2.2.1 x k a (by omega)), fun k => f.J (by omega) (t.2.2.1 _ k (by omega) (by omega)), fun k hk => f.I (by omega) (t.2.2.2 k hk)⟩

set_option maxRecDepth 100000 in
theorem ok_basisHere {S : zS} (hs : Sd S) {cc : Nat} (hcc : gI S 11 0 3 = nI cc) (hc4 : cc < 4) : Ok mX11_basisHere 0 (ent 1 [zr 11 0]) [] S (fun r S1 => r = some (zr 0 cc) ∧ S1 = S) := by
  show Ok mX11_basisHere 0 [some (zr 11 0)] [] S _
  refine r_aload_n (q := 1) dX11_basisHere_0 rfl rfl rfl ?_
  refine r_getr (q := 4) (some (1202, 0)) ck11 dX11_basisHere_1 rfl (k := 2) (by decide) wt424 rfl (hs.e (by decide)) (hs.r (by decide) (by decide)) ?_
  refine r_aload_n (q := 5) dX11_basisHere_4 rfl rfl rfl ?_
  refine r_geti (q := 8) ck11 dX11_basisHere_5 rfl (k := 3) (by decide) wt425 (Or.inl rfl) (hs.e (by decide)) ?_
  refine r_topi (y := nI cc) hcc ?_
  refine r_aaldN (q := 9) (some (0, cc)) 4 (by decide) (by decide) (by decide) dX11_basisHere_8 rfl (hs.e (by decide)) (hs.n rfl (by decide)) (show cc < 4 by omega) (by decide) ((hs.r (by decide) (show cc < 4 by omega)).trans (if_pos (show cc < 4 by omega))) ?_
  refine r_areturn dX11_basisHere_9 rfl (Or.inl ⟨_, rfl⟩) ?_
  exact ⟨rfl, rfl⟩

set_option maxRecDepth 100000 in
theorem cm_size_y {S : zS} (hs : Sd S) {W : zWd} (hW : Wok W) {cc : Nat} (hcc : gI S 11 0 3 = nI cc) (hc4 : cc < 4) (hc : WC S cc W) (hT : Tcs S cc W) {n0 : Nat} {mk : Nat → Nat → Nat} {rl : Nat → Nat → Nat → Nat} (hB : CB S cc W n0 mk rl) {n : Nat} (hn1 : 1 ≤ n) (hn7 : n ≤ 7) (h3 : tc W n ≤ 300) : Ok mX11_size 0 (ent 3 [zr 11 0, zi (nI n)]) [] S (fun r S1 => Fg (tRe cc) S S1 ∧ WC S1 cc W ∧ ∃ n1 mk1 rl1, CB S1 cc W n1 mk1 rl1 ∧ n ≤ n1 ∧ r = some (zi (nI (nz (mk1 n) (tl W n).length)))) := by
  show Ok mX11_size 0 [some (zr 11 0), some (zi (nI n)), none] [] S _
  refine r_aload_n (q := 1) dX11_size_0 rfl rfl rfl ?_
  refine r_callV (Mc := mX11_basisHere) (q := 4) (As := []) (st := []) ck11 dX11_size_1 rfl rfl mkX11_basisHere wt766 wt768 wp27 rfl (Nat.le_of_ble_eq_true rfl) (Nat.le_of_ble_eq_true rfl) (by decide) (by decide) (by decide) (Or.inl rfl) (hs.e (by decide)) (ok_basisHere hs hcc hc4) (fun r1 S1 hp1 => ?_)
  obtain ⟨rfl, hq1⟩ := hp1
  rw [hq1]
  show Ok _ _ _ [zr 0 cc] _ _
  refine r_astore_n (q := 5) (L' := [some (zr 11 0), some (zi (nI n)), some (zr 0 cc)]) dX11_size_4 rfl rfl (by decide) rfl ?_
  refine r_aload_n (q := 6) dX11_size_5 rfl rfl rfl ?_
  refine r_iload_n (q := 7) dX11_size_6 rfl rfl rfl ?_
  refine r_callV (Mc := mX0_reach) (q := 10) (As := [zi (nI n)]) (st := []) ck0 dX11_size_7 rfl rfl mkX0_reach wt770 wt771 wt772 rfl (Nat.le_of_ble_eq_true rfl) (Nat.le_of_ble_eq_true rfl) (by decide) (by decide) (by decide) (Or.inr ⟨Nat.le_of_ble_eq_true rfl, rfl, rfl⟩) (hs.e (show cc < 4 by omega)) (ok_reach_y hs hW hc4 hn1 hn7 hc hT hB h3) (fun r7 S7 hp7 => ?_)
  obtain ⟨rfl, f1, hc1, n1, mk1, rl1, hB1, hn⟩ := hp7
  have hsz := (hB1.2.2.2.2.2.2.2.2.2 n hn1 hn).1
  show Ok _ _ _ [zi (nI 1)] _ _
  refine r_if_eqN (q := 13) (t := 22) (by omega) dX11_size_10 (by decide) rfl (fun h10 => absurd h10 (by omega)) (fun h10 => ?_)
  refine r_aload_n (q := 14) dX11_size_13 rfl rfl rfl ?_
  refine r_getr (q := 17) (some (108, cc)) ck0 dX11_size_14 rfl (k := 8) (by decide) wt386 rfl (f1.sd.e (show cc < 4 by omega)) (f1.sd.r (show cc < 4 by omega) (by decide)) ?_
  refine r_iload_n (q := 18) dX11_size_17 rfl rfl rfl ?_
  refine r_ialdN (q := 19) 8 (by decide) rfl dX11_size_18 rfl (f1.sd.e (show cc < 4 by omega)) (f1.sd.n rfl (show cc < 4 by omega)) (by omega) (by decide) ?_
  refine r_topi (y := nI (nz (mk1 n) (tl W n).length)) hsz ?_
  refine r_goto (q := 23) dX11_size_19 (by decide) ?_
  refine r_ireturn dX11_size_23 rfl ?_
  exact ⟨f1, hc1, n1, mk1, rl1, hB1, hn, rfl⟩

set_option maxRecDepth 100000 in
theorem cm_size_n {S : zS} (hs : Sd S) {W : zWd} (hW : Wok W) {cc : Nat} (hcc : gI S 11 0 3 = nI cc) (hc4 : cc < 4) (hc : WC S cc W) (hT : Tcs S cc W) {n0 : Nat} {mk : Nat → Nat → Nat} {rl : Nat → Nat → Nat → Nat} (hB : CB S cc W n0 mk rl) {n : Nat} (hn1 : 1 ≤ n) (hn7 : n ≤ 7) (h3 : ¬ tc W n ≤ 300) : Ok mX11_size 0 (ent 3 [zr 11 0, zi (nI n)]) [] S (fun r S1 => Fg (tRe cc) S S1 ∧ (∃ n1 mk1 rl1, CB S1 cc W n1 mk1 rl1) ∧ r = some (zi (-1))) := by
  show Ok mX11_size 0 [some (zr 11 0), some (zi (nI n)), none] [] S _
  refine r_aload_n (q := 1) dX11_size_0 rfl rfl rfl ?_
  refine r_callV (Mc := mX11_basisHere) (q := 4) (As := []) (st := []) ck11 dX11_size_1 rfl rfl mkX11_basisHere wt766 wt768 wp27 rfl (Nat.le_of_ble_eq_true rfl) (Nat.le_of_ble_eq_true rfl) (by decide) (by decide) (by decide) (Or.inl rfl) (hs.e (by decide)) (ok_basisHere hs hcc hc4) (fun r1 S1 hp1 => ?_)
  obtain ⟨rfl, hq1⟩ := hp1
  rw [hq1]
  show Ok _ _ _ [zr 0 cc] _ _
  refine r_astore_n (q := 5) (L' := [some (zr 11 0), some (zi (nI n)), some (zr 0 cc)]) dX11_size_4 rfl rfl (by decide) rfl ?_
  refine r_aload_n (q := 6) dX11_size_5 rfl rfl rfl ?_
  refine r_iload_n (q := 7) dX11_size_6 rfl rfl rfl ?_
  refine r_callV (Mc := mX0_reach) (q := 10) (As := [zi (nI n)]) (st := []) ck0 dX11_size_7 rfl rfl mkX0_reach wt770 wt771 wt772 rfl (Nat.le_of_ble_eq_true rfl) (Nat.le_of_ble_eq_true rfl) (by decide) (by decide) (by decide) (Or.inr ⟨Nat.le_of_ble_eq_true rfl, rfl, rfl⟩) (hs.e (show cc < 4 by omega)) (ok_reach_n hs hW hc4 hn1 hn7 hc hT hB h3) (fun r7 S7 hp7 => ?_)
  obtain ⟨rfl, f1, hc1, n1, mk1, rl1, hB1⟩ := hp7
  show Ok _ _ _ [zi (nI 0)] _ _
  refine r_if_eqN (q := 13) (t := 22) (by omega) dX11_size_10 (by decide) rfl (fun h10 => ?_) (fun h10 => absurd h10 (by omega))
  refine r_iconst (q := 23) ((-1 : Int32)) dX11_size_22 rfl (by decide) ?_
  refine r_ireturn dX11_size_23 rfl ?_
  exact ⟨f1, ⟨n1, mk1, rl1, hB1⟩, rfl⟩

set_option maxRecDepth 100000 in
theorem cm_size_x {S : zS} (hs : Sd S) {cc : Nat} (hcc : gI S 11 0 3 = nI cc) (hc4 : cc < 4) {x : Int32} (hx : ¬ (nI 1 ≤ x ∧ x ≤ nI 7)) : Ok mX11_size 0 (ent 3 [zr 11 0, zi x]) [] S (fun r S1 => r = some (zi (-1)) ∧ S1 = S) := by
  show Ok mX11_size 0 [some (zr 11 0), some (zi x), none] [] S _
  refine r_aload_n (q := 1) dX11_size_0 rfl rfl rfl ?_
  refine r_callV (Mc := mX11_basisHere) (q := 4) (As := []) (st := []) ck11 dX11_size_1 rfl rfl mkX11_basisHere wt766 wt768 wp27 rfl (Nat.le_of_ble_eq_true rfl) (Nat.le_of_ble_eq_true rfl) (by decide) (by decide) (by decide) (Or.inl rfl) (hs.e (by decide)) (ok_basisHere hs hcc hc4) (fun r1 S1 hp1 => ?_)
  obtain ⟨rfl, hq1⟩ := hp1
  rw [hq1]
  show Ok _ _ _ [zr 0 cc] _ _
  refine r_astore_n (q := 5) (L' := [some (zr 11 0), some (zi x), some (zr 0 cc)]) dX11_size_4 rfl rfl (by decide) rfl ?_
  refine r_aload_n (q := 6) dX11_size_5 rfl rfl rfl ?_
  refine r_iload_n (q := 7) dX11_size_6 rfl rfl rfl ?_
  refine r_callV (Mc := mX0_reach) (q := 10) (As := [zi x]) (st := []) ck0 dX11_size_7 rfl rfl mkX0_reach wt770 wt771 wt772 rfl (Nat.le_of_ble_eq_true rfl) (Nat.le_of_ble_eq_true rfl) (by decide) (by decide) (by decide) (Or.inr ⟨Nat.le_of_ble_eq_true rfl, rfl, rfl⟩) (hs.e (show cc < 4 by omega)) (ok_reach_out hs hc4 hx) (fun r7 S7 hp7 => ?_)
  obtain ⟨rfl, hq7⟩ := hp7
  rw [hq7]
  show Ok _ _ _ [zi (nI 0)] _ _
  refine r_if_eqN (q := 13) (t := 22) (by omega) dX11_size_10 (by decide) rfl (fun h10 => ?_) (fun h10 => absurd h10 (by omega))
  refine r_iconst (q := 23) ((-1 : Int32)) dX11_size_22 rfl (by decide) ?_
  refine r_ireturn dX11_size_23 rfl ?_
  exact ⟨rfl, rfl⟩

theorem fr_thr {S : zS} : Fr (fun x y k => x == 12 && y == 0 && k == 0) S (sI S 12 0 0 (nI 0)) := (Fr.rf).i rfl
theorem rc_thr {S : zS} : RcI S (sI S 12 0 0 (nI 0)) := ⟨by rw [gI_sI, if_neg (by omega)], by rw [gI_sI, if_neg (by omega)], fun x k a b => by rw [gI_sI, if_neg (by omega)], fun k => rfl, fun k hk => by rw [gI_sI, if_neg (by omega)]⟩
theorem wqR_thr {S : zS} {W : zWd} (hW : Wok W) {n9 : Nat → Int64} (h : wqR W (fun k => gI S 1306 0 k) n9) : wqR W (fun k => gI (sI S 12 0 0 (nI 0)) 1306 0 k) n9 := wqR.cong hW (fun k _ _ => by show gI S 1306 0 k = gI (sI S 12 0 0 (nI 0)) 1306 0 k; rw [gI_sI, if_neg (by omega)]) (fun _ _ => rfl) h

set_option maxRecDepth 100000 in
theorem rm_size_y {S : zS} (hs : Sd S) {W : zWd} (hW : Wok W) {n9 : Nat → Int64} (hR : wqR W (fun k => gI S 1306 0 k) n9) (hO : Cw S) (hcr : CR S W) (hI : IvI S) {n : Nat} (hn1 : 1 ≤ n) (hn7 : n ≤ 7) (h3 : tc W n ≤ 300) : Ok mX12_size 0 (ent 2 [zr 12 0, zi (nI n)]) [] S (fun r S1 => (Fr (fun x y k => tBy x y k || x == 12 && y == 0 && k == 0) S S1 ∧ Cw S1 ∧ CR S1 W ∧ IvI S1) ∧ ∃ pvs bss, LvR W pvs bss n ∧ r = some (zi (nI ((tl W n).length - cntp (pvs n) (tl W n).length)))) := by
  show Ok mX12_size 0 [some (zr 12 0), some (zi (nI n))] [] S _
  refine r_aload_n (q := 1) dX12_size_0 rfl rfl rfl ?_
  refine r_iconst (q := 2) (nI 0) dX12_size_1 rfl (by decide) ?_
  refine r_puti (q := 5) ck12 dX12_size_2 rfl (k := 0) (by decide) wt1278 (Or.inl rfl) rfl (hs.e (by decide)) ?_
  refine r_iload_n (q := 6) dX12_size_5 rfl rfl rfl ?_
  refine r_iconst (q := 7) (nI 1) dX12_size_6 rfl (by decide) ?_
  refine r_bipush (q := 9) (nI 7) dX12_size_7 rfl (by decide) ?_
  refine r_callS (Mc := mX12_isIn) (q := 12) (As := [zi (nI n), zi (nI 1), zi (nI 7)]) (st := []) dX12_size_9 rfl rfl mkX12_isIn wt1614 wt1615 rfl (Nat.le_of_ble_eq_true rfl) (Nat.le_of_ble_eq_true rfl) (by decide) (by decide) (by decide) (Or.inl rfl) hs.some (ok_X12_isIn_in (by omega) (by omega) (by omega)) (fun r9 S9 hp9 => ?_)
  obtain ⟨rfl, hq9⟩ := hp9
  rw [hq9]
  show Ok _ _ _ [zi (nI 1)] _ _
  refine r_if_eqN (q := 15) (t := 24) (by omega) dX12_size_12 (by decide) rfl (fun h12 => absurd h12 (by omega)) (fun h12 => ?_)
  refine r_aload_n (q := 16) dX12_size_15 rfl rfl rfl ?_
  refine r_iconst (q := 17) (nI 0) dX12_size_16 rfl (by decide) ?_
  refine r_iload_n (q := 18) dX12_size_17 rfl rfl rfl ?_
  refine r_callV (Mc := mX12_isBeyond) (q := 21) (As := [zi (nI 0), zi (nI n)]) (st := []) ck12 dX12_size_18 rfl rfl mkX12_isBeyond wt1751 wt1753 wp99 rfl (Nat.le_of_ble_eq_true rfl) (Nat.le_of_ble_eq_true rfl) (by decide) (by decide) (by decide) (Or.inl rfl) (hs.e (by decide)) (ok_beyond0_n (S := sI S 12 0 0 (nI 0)) hs hW hn1 hn7 (wqR_thr hW hR) (rc_thr.rc (W := W).2.1 hO) (rc_thr.rc.1 hcr) (rc_thr.rc (W := W).2.2 hI) h3) (fun r18 S18 hp18 => ?_)
  obtain ⟨f1, hon, hcw, hiv, hws, L, pvs, bss, hB, hz⟩ := hp18
  have hs1 : Sd S18 := Sd.fr (S := sI S 12 0 0 (nI 0)) hs f1
  obtain ⟨rfl, _, hnL⟩ := hz.resolve_left (fun z => absurd z.2 (by omega))
  obtain ⟨hLr, hAc, hLv⟩ := hB.2.2.2.2 n hn1 (by omega)
  have hcl := cntp_le (pv := pvs n) (tl W n).length
  show Ok _ _ _ [zi (nI 0)] _ _
  refine r_if_eqN (q := 24) (t := 28) (by omega) dX12_size_21 (by decide) rfl (fun h21 => ?_) (fun h21 => absurd h21 (by omega))
  refine r_aload_n (q := 29) dX12_size_28 rfl rfl rfl ?_
  refine r_iconst (q := 30) (nI 0) dX12_size_29 rfl (by decide) ?_
  refine r_iload_n (q := 31) dX12_size_30 rfl rfl rfl ?_
  refine r_callV (Mc := mX12_sizeOf) (q := 34) (As := [zi (nI 0), zi (nI n)]) (st := []) ck12 dX12_size_31 rfl rfl mkX12_sizeOf wt1844 wt1846 wp120 rfl (Nat.le_of_ble_eq_true rfl) (Nat.le_of_ble_eq_true rfl) (by decide) (by decide) (by decide) (Or.inl rfl) (hs1.e (by decide)) (ok_sizeOf hs1 (by omega) hn7 hcl hAc.2.2.1 hLr.2.1) (fun r31 S31 hp31 => ?_)
  obtain ⟨rfl, hq31⟩ := hp31
  rw [hq31]
  show Ok _ _ _ [zi (nI ((tl W n).length - cntp (pvs n) (tl W n).length))] _ _
  refine r_ireturn dX12_size_34 rfl ?_
  exact ⟨⟨(fr_thr.mono (fun x y k h => by simp only [Bool.or_eq_true]; exact Or.inr h)).tr (f1.mono (fun x y k h => by simp [h])), hcw, fun _ => ⟨L, pvs, bss, hB⟩, hiv⟩, pvs, bss, hLv, rfl⟩

set_option maxRecDepth 100000 in
theorem rm_size_n {S : zS} (hs : Sd S) {W : zWd} (hW : Wok W) {n9 : Nat → Int64} (hR : wqR W (fun k => gI S 1306 0 k) n9) (hO : Cw S) (hcr : CR S W) (hI : IvI S) {n : Nat} (hn1 : 1 ≤ n) (hn7 : n ≤ 7) (h3 : ¬ tc W n ≤ 300) : Ok mX12_size 0 (ent 2 [zr 12 0, zi (nI n)]) [] S (fun r S1 => (Fr (fun x y k => tBy x y k || x == 12 && y == 0 && k == 0) S S1 ∧ Cw S1 ∧ CR S1 W ∧ IvI S1) ∧ r = some (zi (-1))) := by
  show Ok mX12_size 0 [some (zr 12 0), some (zi (nI n))] [] S _
  refine r_aload_n (q := 1) dX12_size_0 rfl rfl rfl ?_
  refine r_iconst (q := 2) (nI 0) dX12_size_1 rfl (by decide) ?_
  refine r_puti (q := 5) ck12 dX12_size_2 rfl (k := 0) (by decide) wt1278 (Or.inl rfl) rfl (hs.e (by decide)) ?_
  refine r_iload_n (q := 6) dX12_size_5 rfl rfl rfl ?_
  refine r_iconst (q := 7) (nI 1) dX12_size_6 rfl (by decide) ?_
  refine r_bipush (q := 9) (nI 7) dX12_size_7 rfl (by decide) ?_
  refine r_callS (Mc := mX12_isIn) (q := 12) (As := [zi (nI n), zi (nI 1), zi (nI 7)]) (st := []) dX12_size_9 rfl rfl mkX12_isIn wt1614 wt1615 rfl (Nat.le_of_ble_eq_true rfl) (Nat.le_of_ble_eq_true rfl) (by decide) (by decide) (by decide) (Or.inl rfl) hs.some (ok_X12_isIn_in (by omega) (by omega) (by omega)) (fun r9 S9 hp9 => ?_)
  obtain ⟨rfl, hq9⟩ := hp9
  rw [hq9]
  show Ok _ _ _ [zi (nI 1)] _ _
  refine r_if_eqN (q := 15) (t := 24) (by omega) dX12_size_12 (by decide) rfl (fun h12 => absurd h12 (by omega)) (fun h12 => ?_)
  refine r_aload_n (q := 16) dX12_size_15 rfl rfl rfl ?_
  refine r_iconst (q := 17) (nI 0) dX12_size_16 rfl (by decide) ?_
  refine r_iload_n (q := 18) dX12_size_17 rfl rfl rfl ?_
  refine r_callV (Mc := mX12_isBeyond) (q := 21) (As := [zi (nI 0), zi (nI n)]) (st := []) ck12 dX12_size_18 rfl rfl mkX12_isBeyond wt1751 wt1753 wp99 rfl (Nat.le_of_ble_eq_true rfl) (Nat.le_of_ble_eq_true rfl) (by decide) (by decide) (by decide) (Or.inl rfl) (hs.e (by decide)) (ok_beyond0_y (S := sI S 12 0 0 (nI 0)) hs hW hn1 hn7 (wqR_thr hW hR) (rc_thr.rc (W := W).2.1 hO) (rc_thr.rc.1 hcr) (rc_thr.rc (W := W).2.2 hI) h3) (fun r18 S18 hp18 => ?_)
  obtain ⟨f1, hon, hcw, hiv, hws, L, pvs, bss, hB, hz⟩ := hp18
  have hs1 : Sd S18 := Sd.fr (S := sI S 12 0 0 (nI 0)) hs f1
  obtain ⟨rfl, _⟩ := hz.resolve_right (fun z => h3 z.2.1)
  show Ok _ _ _ [zi (nI 1)] _ _
  refine r_if_eqN (q := 24) (t := 28) (by omega) dX12_size_21 (by decide) rfl (fun h21 => absurd h21 (by omega)) (fun h21 => ?_)
  refine r_iconst (q := 25) ((-1 : Int32)) dX12_size_24 rfl (by decide) ?_
  refine r_goto (q := 34) dX12_size_25 (by decide) ?_
  refine r_ireturn dX12_size_34 rfl ?_
  exact ⟨⟨(fr_thr.mono (fun x y k h => by simp only [Bool.or_eq_true]; exact Or.inr h)).tr (f1.mono (fun x y k h => by simp [h])), hcw, fun _ => ⟨L, pvs, bss, hB⟩, hiv⟩, rfl⟩

set_option maxRecDepth 100000 in
theorem rm_size_x {S : zS} (hs : Sd S) {x : Int32} (hx : ¬ (nI 1 ≤ x ∧ x ≤ nI 7)) : Ok mX12_size 0 (ent 2 [zr 12 0, zi x]) [] S (fun r S1 => r = some (zi (-1)) ∧ S1 = sI S 12 0 0 (nI 0)) := by
  show Ok mX12_size 0 [some (zr 12 0), some (zi x)] [] S _
  refine r_aload_n (q := 1) dX12_size_0 rfl rfl rfl ?_
  refine r_iconst (q := 2) (nI 0) dX12_size_1 rfl (by decide) ?_
  refine r_puti (q := 5) ck12 dX12_size_2 rfl (k := 0) (by decide) wt1278 (Or.inl rfl) rfl (hs.e (by decide)) ?_
  refine r_iload_n (q := 6) dX12_size_5 rfl rfl rfl ?_
  refine r_iconst (q := 7) (nI 1) dX12_size_6 rfl (by decide) ?_
  refine r_bipush (q := 9) (nI 7) dX12_size_7 rfl (by decide) ?_
  refine r_callS (Mc := mX12_isIn) (q := 12) (As := [zi x, zi (nI 1), zi (nI 7)]) (st := []) dX12_size_9 rfl rfl mkX12_isIn wt1614 wt1615 rfl (Nat.le_of_ble_eq_true rfl) (Nat.le_of_ble_eq_true rfl) (by decide) (by decide) (by decide) (Or.inl rfl) hs.some (ok_X12_isIn_out hx) (fun r9 S9 hp9 => ?_)
  obtain ⟨rfl, hq9⟩ := hp9
  rw [hq9]
  show Ok _ _ _ [zi (nI 0)] _ _
  refine r_if_eqN (q := 15) (t := 24) (by omega) dX12_size_12 (by decide) rfl (fun h12 => ?_) (fun h12 => absurd h12 (by omega))
  refine r_iconst (q := 25) ((-1 : Int32)) dX12_size_24 rfl (by decide) ?_
  refine r_goto (q := 34) dX12_size_25 (by decide) ?_
  refine r_ireturn dX12_size_34 rfl ?_
  exact ⟨rfl, rfl⟩

theorem wqR.re {S S1 : zS} {W : zWd} (hW : Wok W) {cc : Nat} (f : Fg (tRe cc) S S1) {n9 : Nat → Int64} (h : wqR W (fun k => gI S 1306 0 k) n9) : wqR W (fun k => gI S1 1306 0 k) n9 := wqR.cong hW (fun k _ _ => (f.I (by omega) (by unfold tRe; omega)).symm) (fun _ _ => rfl) h
theorem rc_re {S S1 : zS} {cc : Nat} (f : Fg (tRe cc) S S1) : RcI S S1 := RcI.of f ⟨by unfold tRe; omega, by unfold tRe; omega, fun x k a b => by unfold tRe; omega, fun k _ => by unfold tRe; omega⟩
theorem fg_by {S S1 : zS} (hs : Sd S) {cc : Nat} (f : Fr (fun x y k => tBy x y k || x == 12 && y == 0 && k == 0) S S1) : Fg (tBz cc) S S1 := f.fg hs (fun a b k h => by
  simp only [Bool.or_eq_true, Bool.and_eq_true, beq_iff_eq] at h
  rcases h with h | h
  · exact Or.inr (Or.inl h)
  · exact Or.inr (Or.inr ⟨h.1.1, h.1.2, h.2⟩))
theorem CB.by {S S1 : zS} {b n : Nat} {W : zWd} {mk : Nat → Nat → Nat} {rl : Nat → Nat → Nat → Nat} (h : CB S b W n mk rl) (hs : Sd S) (f : Fr (fun x y k => tBy x y k || x == 12 && y == 0 && k == 0) S S1) : CB S1 b W n mk rl := h.fg (f.fg hs (U := fun x _ _ => 12 ≤ x ∧ (x < 100 ∨ 1300 ≤ x)) (fun a b k h => by
  simp [tBy, tSe, tTq, tPt, tPa, tIv, tOw] at h
  omega)) ⟨by omega, fun x k a b => by omega⟩
theorem pg_size {S : zS} (hs : Sd S) {W : zWd} {cc : Nat} (hcc : gI S 11 0 3 = nI cc) (hc4 : cc < 4) (hw : WR wq S W cc 1306 0 1308 0) (hb : BsC S cc W) (a : Int32) : Pg mX11_size 3 [zr 11 0, zi a] mX12_size 2 [zr 12 0, zi a] S (fun S2 => Fg (tBz cc) S S2 ∧ BsC S2 cc W) := by
  obtain ⟨hW, hC, hR⟩ := hw.c
  obtain ⟨hc, hT⟩ := wq_WC hC
  obtain ⟨⟨n0, mk, rl, hB⟩, hcr, hO, hI⟩ := hb
  by_cases ha : nI 1 ≤ a ∧ a ≤ nI 7
  · obtain ⟨n, rfl, hn1, hn7⟩ := in17 ha
    by_cases h3 : tc W n ≤ 300
    · refine Ok.mono (cm_size_y hs hW hcc hc4 hc hT hB hn1 hn7 h3) fun r S1 z => ?_
      obtain ⟨f1, hc1, n1, mk1, rl1, hB1, hn, rfl⟩ := z
      have rc := (rc_re f1).rc (W := W)
      refine ⟨_, rfl, f1.sd, Ok.mono (rm_size_y f1.sd hW (hR.re hW f1) (rc.2.1 hO) (rc.1 hcr) (rc.2.2 hI) hn1 hn7 h3) fun r2 S2 y => ?_⟩
      obtain ⟨⟨f2, y2, y3, y4⟩, pvs, bss, y5, rfl⟩ := y
      have hl := lv_link hW (hB1.2.2.2.2.2.2.2.2.2 n hn1 hn).2 y5
      have := nz_cntp (mk := mk1 n) (pv := pvs n) (tl W n).length (fun t ht => (hl t ht).1)
      exact ⟨by rw [show (tl W n).length - cntp (pvs n) (tl W n).length = nz (mk1 n) (tl W n).length by omega], (f1.mono tBz_re).tr (fg_by f1.sd f2), ⟨n1, mk1, rl1, hB1.by f1.sd f2⟩, y3, y2, y4⟩
    · refine Ok.mono (cm_size_n hs hW hcc hc4 hc hT hB hn1 hn7 h3) fun r S1 z => ?_
      obtain ⟨f1, ⟨n1, mk1, rl1, hB1⟩, rfl⟩ := z
      have rc := (rc_re f1).rc (W := W)
      refine ⟨_, rfl, f1.sd, Ok.mono (rm_size_n f1.sd hW (hR.re hW f1) (rc.2.1 hO) (rc.1 hcr) (rc.2.2 hI) hn1 hn7 h3) fun r2 S2 y => ?_⟩
      obtain ⟨⟨f2, y2, y3, y4⟩, rfl⟩ := y
      exact ⟨rfl, (f1.mono tBz_re).tr (fg_by f1.sd f2), ⟨n1, mk1, rl1, hB1.by f1.sd f2⟩, y3, y2, y4⟩
  · refine Ok.mono (cm_size_x hs hcc hc4 ha) fun r S1 z => ?_
    obtain ⟨rfl, rfl⟩ := z
    refine ⟨_, rfl, hs, Ok.mono (rm_size_x hs ha) fun r2 S2 y => ?_⟩
    obtain ⟨rfl, rfl⟩ := y
    have f2 : Fr (fun x y k => tBy x y k || x == 12 && y == 0 && k == 0) S1 (sI S1 12 0 0 (nI 0)) := fr_thr.mono (fun x y k h => by simp only [Bool.or_eq_true]; exact Or.inr h)
    exact ⟨rfl, fg_by hs f2, ⟨n0, mk, rl, hB.by hs f2⟩, rc_thr.rc.1 hcr, (rc_thr.rc (W := W)).2.1 hO, (rc_thr.rc (W := W)).2.2 hI⟩

