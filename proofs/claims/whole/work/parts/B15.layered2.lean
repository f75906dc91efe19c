/-! layered and koszul again: what they leave, said in full -/
def tLy2 (cc s a b k : Nat) : Prop := tLc cc s a b k ∨ tLr a b k = true
def LyP2 (S S2 : zS) (cc s : Nat) (W : zWd) : Prop := Fg (tLy2 cc s) S S2 ∧ BsC S2 cc W ∧ (∀ b, b < 4 → Slot S b → Slot S2 b) ∧ ∃ V n mk rl, CB S2 s V n mk rl
theorem ly_ref2 {S S1 S2 : zS} {cc s : Nat} {W V : zWd} (f1 : Fg (tLc cc s) S S1) (h1 : ∃ n mk rl, CB S1 cc W n mk rl) (h2 : ∃ n mk rl, CB S1 s V n mk rl) (hl : ∀ b, b < 4 → Slot S b → Slot S1 b) (y : Fr tLr S1 S2 ∧ Cw S2 ∧ CR S2 W ∧ IvI S2) : LyP2 S S2 cc s W := by
  obtain ⟨f2, y2, y3, y4⟩ := y
  have g := f2.fg f1.sd (U := fun a _ _ => 12 ≤ a ∧ (a < 100 ∨ 1300 ≤ a ∧ a < 10000)) (fun a b k z => tLr_n z)
  obtain ⟨n, mk, rl, hB⟩ := h1
  obtain ⟨n', mk', rl', hB'⟩ := h2
  exact ⟨(f1.mono fun _ _ _ z => Or.inl z).tr (f2.fg f1.sd (fun a b k z => Or.inr z)), ⟨⟨n, mk, rl, hB.fg g ⟨by omega, fun x k a b => by omega⟩⟩, y3, y2, y4⟩, fun b hb z => (hl b hb z).fg g ⟨by omega, fun x k a b => by omega⟩ (fun a k ha => by omega), V, n', mk', rl', hB'.fg g ⟨by omega, fun x k a b => by omega⟩⟩
theorem ly_thr2 {S : zS} (hs : Sd S) {cc : Nat} {W : zWd} (hc4 : cc < 4) (hb : BsC S cc W) : ∃ s, s < 4 ∧ LyP2 S (sI S 12 0 0 (nI 0)) cc s W := ⟨cc, hc4, ly_ref2 (Fg.rf hs) hb.1 hb.1 (fun _ _ z => z) ⟨fr_thr.mono (fun x y k h => by simp [tLr] at h ⊢; omega), (rc_thr.rc (W := W)).2.1 hb.2.2.1, rc_thr.rc.1 hb.2.1, (rc_thr.rc (W := W)).2.2 hb.2.2.2⟩⟩
theorem pg_layered2 {S : zS} (hs : Sd S) {W : zWd} {cc : Nat} (hcc : gI S 11 0 3 = nI cc) (hc4 : cc < 4) (hw : WR wq S W cc 1306 0 1308 0) (hb : BsC S cc W) (hK : ∀ m, m < 2 → KP sq wq S m) (hKs : ∀ m s, m < 2 → s < 4 → gI S 1204 0 m = nI s → Slot S s) (a x : Int32) : PgJ mX11_layered 5 [zr 11 0, zi a, zi x] mX12_layered 6 [zr 12 0, zi a, zi x] S (fun S2 => ∃ s, s < 4 ∧ LyP2 S S2 cc s W) := by
  obtain ⟨hW, hC, hR⟩ := hw.c
  obtain ⟨hc, hT⟩ := wq_WC hC
  have hthr := ly_thr2 hs hc4 hb
  by_cases ha : 0 ≤ a ∧ a < nI 2
  · obtain ⟨m, hm, rfl⟩ := zz_of ha (by omega)
    rcases hK m hm with ⟨k1, k2⟩ | ⟨s, Wk, hs4, k1, k2, k3, _, _⟩
    · refine Ok.mono (cm_ly_no hs hcc hc4 hm k1) fun r S1 z => ?_
      obtain ⟨rfl, rfl⟩ := z
      refine ⟨_, rfl, hs, ?_⟩
      by_cases hx : nI 1 ≤ x ∧ x ≤ nI 7
      · obtain ⟨n, rfl, hn1, hn7⟩ := in17 hx
        refine Ok.mono (rm_ly_no hs hm k2 hn1 hn7) fun r2 S2 y => ?_
        obtain ⟨rfl, rfl⟩ := y
        exact ⟨rfl, hthr⟩
      · refine Ok.mono (rm_ly_x hs hx) fun r2 S2 y => ?_
        obtain ⟨rfl, rfl⟩ := y
        exact ⟨rfl, hthr⟩
    · have hWk : Wok Wk := k3.1
      have hCk : wqC Wk (fun a k => gI S a s k) (fun a k => gJ S a s k) := k3.2.1
      have hRk : wqR Wk (fun k => gI S 1391 0 (3775 * m + k)) (fun i => gJ S 1392 0 (3 * m + i)) := k3.2.2
      by_cases hx : nI 1 ≤ x ∧ x ≤ nI 7
      · obtain ⟨n, rfl, hn1, hn7⟩ := in17 hx
        obtain ⟨hck, hTk⟩ := wq_WC hCk
        have hBk := (hKs m s hm hs4 k1 Wk hWk hCk).1
        have he : s = cc → Wk = W := fun e => by subst e; exact wqC_uniq hWk hW hCk hC
        have fin : ∀ {S1 : zS}, Fg (tLc cc s) S S1 ∧ (∃ n mk rl, CB S1 cc W n mk rl) ∧ (∃ n mk rl, CB S1 s Wk n mk rl) → (wqR W (fun k => gI S1 1306 0 k) (fun i => gJ S 1308 0 i) ∧ Cw S1 ∧ CR S1 W ∧ IvI S1 ∧ gI S1 1393 0 m = nI 1 ∧ wqR Wk (fun k => gI S1 1391 0 (3775 * m + k)) (fun i => gJ S 1392 0 (3 * m + i))) ∧ ∀ {S2 : zS}, (Fr tLr S1 S2 ∧ Cw S2 ∧ CR S2 W ∧ IvI S2) → ∃ s, s < 4 ∧ LyP2 S S2 cc s W := fun {S1} z => by
          obtain ⟨f1, z2, z3⟩ := z
          have rc := (RcI.of f1 ⟨by unfold tLc tRe; omega, by unfold tLc tRe; omega, fun x k a b => by unfold tLc tRe; omega, fun k _ => by unfold tLc tRe; omega⟩).rc (W := W)
          exact ⟨⟨wqR.cong hW (fun k _ _ => (f1.I (by omega) (by unfold tLc tRe; omega)).symm) (fun _ _ => rfl) hR, rc.2.1 hb.2.2.1, rc.1 hb.2.1, rc.2.2 hb.2.2.2, (f1.I (by omega) (by unfold tLc tRe; omega)).trans k2, wqR.cong hWk (fun k _ _ => (f1.I (by omega) (by unfold tLc tRe; omega)).symm) (fun _ _ => rfl) hRk⟩, fun {S2} y => ⟨s, hs4, ly_ref2 f1 z2 z3 (fun b _ h => h.ly hW hWk hC hCk f1 z2 z3) y⟩⟩
        by_cases h3 : tc W n ≤ 300
        · by_cases h3k : tc Wk n ≤ 300
          · refine Ok.mono (cm_ly_y hs hW hWk hcc hc4 hm k1 hs4 he hc hT hck hTk hb.1 hBk hn1 hn7 h3 h3k) fun r S1 z => ?_
            obtain ⟨rfl, z⟩ := z
            obtain ⟨⟨r1, r2, r3, r4, r5, r6⟩, K⟩ := fin z
            refine ⟨_, rfl, z.1.sd, Ok.mono (rm_ly_y z.1.sd hW hWk r1 r2 r3 r4 hm r5 r6 hn1 hn7 h3 h3k) fun r2 S2 y => ⟨y.1, K y.2⟩⟩
          · refine Ok.mono (cm_ly_k hs hW hWk hcc hc4 hm k1 hs4 he hc hT hck hTk hb.1 hBk hn1 hn7 h3 h3k) fun r S1 z => ?_
            obtain ⟨rfl, z⟩ := z
            obtain ⟨⟨r1, r2, r3, r4, r5, r6⟩, K⟩ := fin z
            refine ⟨_, rfl, z.1.sd, Ok.mono (rm_ly_k z.1.sd hW hWk r1 r2 r3 r4 hm r5 r6 hn1 hn7 h3 h3k) fun r2 S2 y => ⟨y.1, K y.2⟩⟩
        · refine Ok.mono (cm_ly_n hs hW hWk hcc hc4 hm k1 hs4 he hc hT hck hTk hb.1 hBk hn1 hn7 h3) fun r S1 z => ?_
          obtain ⟨rfl, z⟩ := z
          obtain ⟨⟨r1, r2, r3, r4, r5, r6⟩, K⟩ := fin z
          refine ⟨_, rfl, z.1.sd, Ok.mono (rm_ly_n z.1.sd hW hWk r1 r2 r3 r4 hm r5 r6 hn1 hn7 h3) fun r2 S2 y => ⟨y.1, K y.2⟩⟩
      · refine Ok.mono (cm_ly_x hs hcc hc4 hm k1 hs4 hx) fun r S1 z => ?_
        obtain ⟨rfl, rfl⟩ := z
        refine ⟨_, rfl, hs, Ok.mono (rm_ly_x hs hx) fun r2 S2 y => ?_⟩
        obtain ⟨rfl, rfl⟩ := y
        exact ⟨rfl, hthr⟩
  · refine Ok.mono (cm_ly_out hs hcc hc4 ha) fun r S1 z => ?_
    obtain ⟨rfl, rfl⟩ := z
    refine ⟨_, rfl, hs, ?_⟩
    by_cases hx : nI 1 ≤ x ∧ x ≤ nI 7
    · obtain ⟨n, rfl, hn1, hn7⟩ := in17 hx
      refine Ok.mono (rm_ly_out hs ha hn1 hn7) fun r2 S2 y => ?_
      obtain ⟨rfl, rfl⟩ := y
      exact ⟨rfl, hthr⟩
    · refine Ok.mono (rm_ly_x hs hx) fun r2 S2 y => ?_
      obtain ⟨rfl, rfl⟩ := y
      exact ⟨rfl, hthr⟩
def KzS2 (S S1 : zS) (cc s : Nat) (W : zWd) : Prop := (s < 4 ∧ s ≠ cc ∧ nI s ≠ gI S 1204 0 0 ∧ nI s ≠ gI S 1204 0 1 ∧ TL S1 11 ∧ (∃ mk R n mk' rl', IsD W mk R ∧ WC S1 s (dW W mk R) ∧ CB S1 s (dW W mk R) n mk' rl') ∨ s = 4 ∧ TL S1 11) ∧ Fg (tKc cc s) S S1 ∧ (∃ n mk rl, CB S1 cc W n mk rl) ∧ DcK S1 cc W
def KzP2 (S S2 : zS) (cc s : Nat) (W : zWd) : Prop := (s < 4 ∧ s ≠ cc ∧ nI s ≠ gI S 1204 0 0 ∧ nI s ≠ gI S 1204 0 1 ∧ TL S2 11 ∧ (∃ mk R n mk' rl', IsD W mk R ∧ WC S2 s (dW W mk R) ∧ CB S2 s (dW W mk R) n mk' rl') ∨ s = 4 ∧ TL S2 11) ∧ Fg (tKa cc s) S S2 ∧ BsC S2 cc W ∧ DcK S2 cc W
set_option maxRecDepth 100000 in
theorem cm_kz_y2 {S : zS} (hs : Sd S) {W : zWd} (hW : Wok W) {cc : Nat} (hcc : gI S 11 0 3 = nI cc) (hc4 : cc < 4) (hc : WC S cc W) (hQ : Qd W) (hT : Tcs S cc W) {n0 : Nat} {mk0 : Nat → Nat → Nat} {rl0 : Nat → Nat → Nat → Nat} (hB : CB S cc W n0 mk0 rl0) (hTL : TL S 11) (h6 : ∀ s, s < 4 → gI S 1006 s 0 = nI 0) (hini : ∀ s, s < 4 → gI S 103 s 1 = nI 0 ∧ gI S 106 s 1 = nI 0 ∧ 512 ≤ gN S 107 s ∧ gN S 107 s ≤ 160000) (hDc : DcK S cc W) {n : Nat} (hn1 : 1 ≤ n) (hn7 : n ≤ 7) {g : Nat → Int64} (hg : IvS g (szW W) 7) : Ok mX11_koszul 0 (ent 7 [zr 11 0, zi (nI n)]) [] S (fun r S1 => ∃ v, r = some (zi v) ∧ (∀ mk R, IsD W mk R → v = kzF W g (szW (dW W mk R)) n 1) ∧ ∃ s, KzS2 S S1 cc s W) := by
  show Ok mX11_koszul 0 [some (zr 11 0), some (zi (nI n)), none, none, none, none, none] [] S _
  refine r_aload_n (q := 1) dX11_koszul_0 rfl rfl rfl ?_
  refine r_callV (Mc := mX11_basisHere) (q := 4) (As := []) (st := []) ck11 dX11_koszul_1 rfl rfl mkX11_basisHere wt766 wt768 wp27 rfl (Nat.le_of_ble_eq_true rfl) (Nat.le_of_ble_eq_true rfl) (by decide) (by decide) (by decide) (Or.inl rfl) (hs.e (by decide)) (ok_basisHere hs hcc hc4) (fun r1 S1 hp1 => ?_)
  obtain ⟨rfl, hq1⟩ := hp1
  rw [hq1]
  show Ok _ _ _ [zr 0 cc] _ _
  refine r_astore_n (q := 5) (L' := [some (zr 11 0), some (zi (nI n)), some (zr 0 cc), none, none, none, none]) dX11_koszul_4 rfl rfl (by decide) rfl ?_
  refine r_iload_n (q := 6) dX11_koszul_5 rfl rfl rfl ?_
  refine r_iconst (q := 7) (nI 1) dX11_koszul_6 rfl (by decide) ?_
  refine r_icmp_ltN (q := 10) (t := 34) (by omega) (by omega) dX11_koszul_7 (by decide) rfl (fun h7 => absurd h7 (by omega)) (fun h7 => ?_)
  refine r_iload_n (q := 11) dX11_koszul_10 rfl rfl rfl ?_
  refine r_bipush (q := 13) (nI 7) dX11_koszul_11 rfl (by decide) ?_
  refine r_icmp_gtN (q := 16) (t := 34) (by omega) (by omega) dX11_koszul_13 (by decide) rfl (fun h13 => absurd h13 (by omega)) (fun h13 => ?_)
  refine r_aload_n (q := 17) dX11_koszul_16 rfl rfl rfl ?_
  refine r_getr (q := 20) (some (9, cc)) ck0 dX11_koszul_17 rfl (k := 0) (by decide) wt377 rfl (hs.e (show cc < 4 by omega)) (hs.r (show cc < 4 by omega) (by decide)) ?_
  refine r_callV (Mc := mX9_hasDual) (q := 23) (As := []) (st := []) ck9 dX11_koszul_20 rfl rfl mkX9_hasDual wt975 wt976 wt977 rfl (Nat.le_of_ble_eq_true rfl) (Nat.le_of_ble_eq_true rfl) (by decide) (by decide) (by decide) (Or.inl rfl) (hs.e (show cc < 4 by omega)) (ok_X9_hasDual hs hW hc4 hc) (fun r20 S20 hp20 => ?_)
  obtain ⟨hq20, v, v1, rfl, v2⟩ := hp20
  rw [hq20]
  obtain rfl : v = 1 := by exact v2.mpr hQ
  show Ok _ _ _ [zi (nI 1)] _ _
  refine r_if_eqN (q := 26) (t := 34) (by omega) dX11_koszul_23 (by decide) rfl (fun h23 => absurd h23 (by omega)) (fun h23 => ?_)
  refine r_aload_n (q := 27) dX11_koszul_26 rfl rfl rfl ?_
  refine r_iconst (q := 28) (nI 3) dX11_koszul_27 rfl (by decide) ?_
  refine r_callV (Mc := mX0_reach) (q := 31) (As := [zi (nI 3)]) (st := []) ck0 dX11_koszul_28 rfl rfl mkX0_reach wt770 wt771 wt772 rfl (Nat.le_of_ble_eq_true rfl) (Nat.le_of_ble_eq_true rfl) (by decide) (by decide) (by decide) (Or.inr ⟨Nat.le_of_ble_eq_true rfl, rfl, rfl⟩) (hs.e (show cc < 4 by omega)) (ok_reach_y hs hW hc4 (by omega) (by omega) hc hT hB (qd300 hW hQ)) (fun r28 S28 hp28 => ?_)
  obtain ⟨rfl, f1, hc1, n1, mk1, rl1, hB1, hn1'⟩ := hp28
  have hs1 := f1.sd
  have hT1 : Tcs S28 cc W := fun m a b => (f1.J (by omega) (by unfold tRe; omega)).trans (hT m a b)
  show Ok _ _ _ [zi (nI 1)] _ _
  refine r_if_neN (q := 34) (t := 37) (by omega) dX11_koszul_31 (by decide) rfl (fun h31 => ?_) (fun h31 => absurd h31 (by omega))
  refine r_iconst (q := 38) (nI 0) dX11_koszul_37 rfl (by decide) ?_
  refine r_istore_n (q := 39) (L' := [some (zr 11 0), some (zi (nI n)), some (zr 0 cc), some (zi (nI 0)), none, none, none]) dX11_koszul_38 rfl rfl (by decide) rfl ?_
  refine lp_kz39 hW (t0 := 0) hc4 hn7 n 0 S28 (by omega) (Nat.le_refl _) hs1 hc1 hT1 ⟨n1, mk1, rl1, hB1, Nat.zero_le _, hn1'⟩ (fun S2 t f2 hc2 hB2e _ htn htop => ?_)
  obtain ⟨n2, mk2, rl2, hB2, htn2, hn23⟩ := hB2e
  have hs2 := f2.sd
  have f12 : Fg (tRe cc) S S2 := f1.tr f2
  have ht1 : 1 ≤ t := by
    rcases htop with z | z
    · omega
    · apply Classical.byContradiction
      intro y
      obtain rfl : t = 0 := by omega
      exact z (by have : tc W 1 = 1 := tcT_1 hQ; show tc W 1 ≤ 300; omega)
  have ht7 : t ≤ 7 := by omega
  have h3t : ∀ k, k ≤ t → tc W k ≤ 300 := fun k hk => hB2.2.2.1 k (by omega)
  obtain ⟨K, hK7, hK, hKd⟩ := hDc
  have hK2 : gI S2 0 cc 12 = nI K := (f12.I (by omega) (by unfold tRe; omega)).trans hK
  have hKd2 : ∀ mk R, IsD W mk R → ∀ k, 1 ≤ k → k ≤ K → gI S2 111 cc k = nI (szW (dW W mk R) k) := fun mk R h k a b => (f12.I (by omega) (by unfold tRe; omega)).trans (hKd mk R h k a b)
  have hcc2 : gI S2 11 0 3 = nI cc := (f12.I (by omega) (by unfold tRe; omega)).trans hcc
  have hTL2 : TL S2 11 := hTL.cong (f12.N (by omega) (by unfold tRe; omega)) (f12.N (by omega) (by unfold tRe; omega)) (f12.I (by omega) (by unfold tRe; omega))
  have hini2 := kz_ini hini f12 hB2 (by omega)
  by_cases htK : t ≤ K
  · skip
    refine r_aload_n (q := 61) dX11_koszul_60 rfl rfl rfl ?_
    refine r_aload_n (q := 62) dX11_koszul_61 rfl rfl rfl ?_
    refine r_iload_n (q := 63) dX11_koszul_62 rfl rfl rfl ?_
    refine r_callV (Mc := mX11_findDualSizes) (q := 66) (As := [zr 0 cc, zi (nI t)]) (st := []) ck11 dX11_koszul_63 rfl rfl mkX11_findDualSizes wt1021 wt1023 wp54 rfl (Nat.le_of_ble_eq_true rfl) (Nat.le_of_ble_eq_true rfl) (by decide) (by decide) (by decide) (Or.inr ⟨Nat.le_of_ble_eq_true rfl, rfl, rfl⟩) (hs2.e (by decide)) (ok_findDual_k hs2 hW hcc2 hc4 hc2 hQ hB2 hn23 ht1 ht7 h3t hK7 hK2 htK) (fun r63 S63 hp63 => ?_)
    obtain ⟨rfl, hq63⟩ := hp63
    rw [hq63]
    have hs5 := hs2
    have hz5 := hB2.szs hW htn2
    show Ok _ _ _ [] _ _
    refine r_aload_n (q := 67) dX11_koszul_66 rfl rfl rfl ?_
    refine r_getr (q := 70) (some (5, 0)) ck11 dX11_koszul_67 rfl (k := 18) (by decide) wt440 rfl (hs5.e (by decide)) (hs5.r (by decide) (by decide)) ?_
    refine r_aload_n (q := 71) dX11_koszul_70 rfl rfl rfl ?_
    refine r_getr (q := 74) (some (108, cc)) ck0 dX11_koszul_71 rfl (k := 8) (by decide) wt386 rfl (hs5.e (show cc < 4 by omega)) (hs5.r (show cc < 4 by omega) (by decide)) ?_
    refine r_iload_n (q := 75) dX11_koszul_74 rfl rfl rfl ?_
    refine r_callV (Mc := mX5_raise) (q := 78) (As := [zr 108 cc, zi (nI t)]) (st := []) ck5 dX11_koszul_75 rfl rfl mkX5_raise wt1025 wt1026 wt1027 rfl (Nat.le_of_ble_eq_true rfl) (Nat.le_of_ble_eq_true rfl) (by decide) (by decide) (by decide) (Or.inl rfl) (hs5.e (by decide)) (ok_raise (S := S2) hs5 hc4 ht1 ht7 hz5) (fun r75 S75 hp75 => ?_)
    obtain ⟨rfl, f7, hpw⟩ := hp75
    have hs7 : Sd S75 := hs5.fr f7
    show Ok _ _ _ [] _ _
    refine r_aload_n (q := 79) dX11_koszul_78 rfl rfl rfl ?_
    refine r_getr (q := 82) (some (5, 0)) ck11 dX11_koszul_79 rfl (k := 18) (by decide) wt440 rfl (hs7.e (by decide)) (hs7.r (by decide) (by decide)) ?_
    refine r_iload_n (q := 83) dX11_koszul_82 rfl rfl rfl ?_
    refine r_callV (Mc := mX5_invert) (q := 86) (As := [zi (nI t)]) (st := []) ck5 dX11_koszul_83 rfl rfl mkX5_invert wt1029 wt1030 wt1031 rfl (Nat.le_of_ble_eq_true rfl) (Nat.le_of_ble_eq_true rfl) (by decide) (by decide) (by decide) (Or.inl rfl) (hs7.e (by decide)) (ok_invert (S := S75) hs7 ht1 ht7 hpw) (fun r83 S83 hp83 => ?_)
    obtain ⟨rfl, f8, hiv⟩ := hp83
    have hs6 : Sd S83 := hs7.fr f8
    show Ok _ _ _ [] _ _
    refine r_iconst (q := 87) (nI 1) dX11_koszul_86 rfl (by decide) ?_
    refine r_istore (q := 89) (L' := [some (zr 11 0), some (zi (nI n)), some (zr 0 cc), some (zi (nI t)), some (zi (nI 1)), none, none]) dX11_koszul_87 rfl (by decide) rfl ?_
    have g2 : Fg (fun a b _ => a = 10600 ∨ a = 601 ∧ b = 0) S2 S83 := (f7.fg hs5 (fun a b k h => Or.inl (by simpa [tRa] using h))).tr (f8.fg hs7 (fun a b k h => Or.inr (by simpa [tIn5] using h)))
    refine Ok.mono (lp_kz89 hW hs6 hc4 hn7 htn h3t htop (g := g) (fun k a b => hiv.uniq (hg.le ht7) k a b) t 1 none none (by omega) (Nat.le_refl _)) (fun r S9 q => ?_)
    obtain ⟨rfl, v, q2, q3⟩ := q
    rw [show n + 1 - 1 = n by omega] at q3
    exact ⟨v, q2, fun mk R h => q3 _ (fun k a b => (g2.I (by omega) (by omega)).trans (hKd2 mk R h k a (by omega))), 4, Or.inr ⟨rfl, hTL2.cong (g2.N (by omega) (by omega)) (g2.N (by omega) (by omega)) (g2.I (by omega) (by omega))⟩, (f12.mono fun _ _ _ z => Or.inl z).tr (g2.mono fun _ _ _ z => Or.inr (Or.inr z)), ⟨n2, mk2, rl2, hB2.fg g2 ⟨by omega, fun x k a b => by omega⟩⟩, K, hK7, (g2.I (by omega) (by omega)).trans hK2, fun mk R h k a b => (g2.I (by omega) (by omega)).trans (hKd2 mk R h k a b)⟩
  · skip
    refine r_aload_n (q := 61) dX11_koszul_60 rfl rfl rfl ?_
    refine r_aload_n (q := 62) dX11_koszul_61 rfl rfl rfl ?_
    refine r_iload_n (q := 63) dX11_koszul_62 rfl rfl rfl ?_
    refine r_callV (Mc := mX11_findDualSizes) (q := 66) (As := [zr 0 cc, zi (nI t)]) (st := []) ck11 dX11_koszul_63 rfl rfl mkX11_findDualSizes wt1021 wt1023 wp54 rfl (Nat.le_of_ble_eq_true rfl) (Nat.le_of_ble_eq_true rfl) (by decide) (by decide) (by decide) (Or.inr ⟨Nat.le_of_ble_eq_true rfl, rfl, rfl⟩) (hs2.e (by decide)) (ok_findDual_m hs2 hW hcc2 hc4 hc2 hQ hB2 hn23 ht1 ht7 h3t hK7 hK2 htK hTL2 (fun s h => (f12.I (by omega) (by unfold tRe; omega)).trans (h6 s h)) hini2) (fun r63 S63 hp63 => ?_)
    obtain ⟨rfl, s, mk, R, hs4, hsc, hk0, hk1, hD, f5, hw5, hTL5, ⟨n5, mk5, rl5, hB5⟩, hK5, hrow5⟩ := hp63
    have hs5 := f5.sd
    have hBc5 : CB S63 cc W n2 mk2 rl2 := hB2.fg f5 ⟨fun z => by have := (tFd_n hsc z).1 rfl; omega, fun x k a b z => by have := (tFd_n hsc z).1 rfl; omega⟩
    have hz5 := hBc5.szs hW htn2
    have e0 : gI S2 1204 0 0 = gI S 1204 0 0 := f12.I (by omega) (by unfold tRe; omega)
    have e1 : gI S2 1204 0 1 = gI S 1204 0 1 := f12.I (by omega) (by unfold tRe; omega)
    rw [e0] at hk0
    rw [e1] at hk1
    show Ok _ _ _ [] _ _
    refine r_aload_n (q := 67) dX11_koszul_66 rfl rfl rfl ?_
    refine r_getr (q := 70) (some (5, 0)) ck11 dX11_koszul_67 rfl (k := 18) (by decide) wt440 rfl (hs5.e (by decide)) (hs5.r (by decide) (by decide)) ?_
    refine r_aload_n (q := 71) dX11_koszul_70 rfl rfl rfl ?_
    refine r_getr (q := 74) (some (108, cc)) ck0 dX11_koszul_71 rfl (k := 8) (by decide) wt386 rfl (hs5.e (show cc < 4 by omega)) (hs5.r (show cc < 4 by omega) (by decide)) ?_
    refine r_iload_n (q := 75) dX11_koszul_74 rfl rfl rfl ?_
    refine r_callV (Mc := mX5_raise) (q := 78) (As := [zr 108 cc, zi (nI t)]) (st := []) ck5 dX11_koszul_75 rfl rfl mkX5_raise wt1025 wt1026 wt1027 rfl (Nat.le_of_ble_eq_true rfl) (Nat.le_of_ble_eq_true rfl) (by decide) (by decide) (by decide) (Or.inl rfl) (hs5.e (by decide)) (ok_raise (S := S63) hs5 hc4 ht1 ht7 hz5) (fun r75 S75 hp75 => ?_)
    obtain ⟨rfl, f7, hpw⟩ := hp75
    have hs7 : Sd S75 := hs5.fr f7
    show Ok _ _ _ [] _ _
    refine r_aload_n (q := 79) dX11_koszul_78 rfl rfl rfl ?_
    refine r_getr (q := 82) (some (5, 0)) ck11 dX11_koszul_79 rfl (k := 18) (by decide) wt440 rfl (hs7.e (by decide)) (hs7.r (by decide) (by decide)) ?_
    refine r_iload_n (q := 83) dX11_koszul_82 rfl rfl rfl ?_
    refine r_callV (Mc := mX5_invert) (q := 86) (As := [zi (nI t)]) (st := []) ck5 dX11_koszul_83 rfl rfl mkX5_invert wt1029 wt1030 wt1031 rfl (Nat.le_of_ble_eq_true rfl) (Nat.le_of_ble_eq_true rfl) (by decide) (by decide) (by decide) (Or.inl rfl) (hs7.e (by decide)) (ok_invert (S := S75) hs7 ht1 ht7 hpw) (fun r83 S83 hp83 => ?_)
    obtain ⟨rfl, f8, hiv⟩ := hp83
    have hs6 : Sd S83 := hs7.fr f8
    show Ok _ _ _ [] _ _
    refine r_iconst (q := 87) (nI 1) dX11_koszul_86 rfl (by decide) ?_
    refine r_istore (q := 89) (L' := [some (zr 11 0), some (zi (nI n)), some (zr 0 cc), some (zi (nI t)), some (zi (nI 1)), none, none]) dX11_koszul_87 rfl (by decide) rfl ?_
    have g2 : Fg (fun a b _ => a = 10600 ∨ a = 601 ∧ b = 0) S63 S83 := (f7.fg hs5 (fun a b k h => Or.inl (by simpa [tRa] using h))).tr (f8.fg hs7 (fun a b k h => Or.inr (by simpa [tIn5] using h)))
    refine Ok.mono (lp_kz89 hW hs6 hc4 hn7 htn h3t htop (g := g) (fun k a b => hiv.uniq (hg.le ht7) k a b) t 1 none none (by omega) (Nat.le_refl _)) (fun r S9 q => ?_)
    obtain ⟨rfl, v, q2, q3⟩ := q
    rw [show n + 1 - 1 = n by omega] at q3
    have hrow6 : ∀ mk' R', IsD W mk' R' → ∀ k, 1 ≤ k → k ≤ t → gI S9 111 cc k = nI (szW (dW W mk' R') k) := fun mk' R' h k a b => by rw [h.uniq hW hD]; exact (g2.I (by omega) (by omega)).trans (hrow5 k a b)
    exact ⟨v, q2, fun mk' R' h => q3 _ (hrow6 mk' R' h), s, Or.inl ⟨hs4, hsc, hk0, hk1, hTL5.cong (g2.N (by omega) (by omega)) (g2.N (by omega) (by omega)) (g2.I (by omega) (by omega)), mk, R, n5, mk5, rl5, hD, hw5.fg g2 (fun a k ha => by omega), hB5.fg g2 ⟨by omega, fun x k a b => by omega⟩⟩, ((f12.mono fun _ _ _ z => Or.inl z).tr (f5.mono fun _ _ _ z => Or.inr (Or.inl z))).tr (g2.mono fun _ _ _ z => Or.inr (Or.inr z)), ⟨n2, mk2, rl2, hBc5.fg g2 ⟨by omega, fun x k a b => by omega⟩⟩, t, ht7, (g2.I (by omega) (by omega)).trans hK5, hrow6⟩
theorem pg_koszul2 {S : zS} (hs : Sd S) {W : zWd} {cc : Nat} (hcc : gI S 11 0 3 = nI cc) (hc4 : cc < 4) (hw : WR wq S W cc 1306 0 1308 0) (hb : BsC S cc W) (hTL : TLs S) (h6 : ∀ s, s < 4 → gI S 1006 s 0 = nI 0) (hini : ∀ s, s < 4 → gI S 103 s 1 = nI 0 ∧ gI S 106 s 1 = nI 0 ∧ 512 ≤ gN S 107 s ∧ gN S 107 s ≤ 160000) (hDc : DcK S cc W) (a : Int32) : Pg mX11_koszul 7 [zr 11 0, zi a] mX12_koszul 3 [zr 12 0, zi a] S (fun S2 => S2 = sI S 12 0 0 (nI 0) ∨ ∃ s, KzP2 S S2 cc s W) := by
  obtain ⟨hW, hC, hR⟩ := hw.c
  obtain ⟨hc, hT⟩ := wq_WC hC
  obtain ⟨⟨n0, mk0, rl0, hB⟩, hcr, hO, hI⟩ := hb
  by_cases ha : nI 1 ≤ a ∧ a ≤ nI 7
  · obtain ⟨n, rfl, hn1, hn7⟩ := in17 ha
    by_cases hQ : Qd W
    · obtain ⟨g, hg⟩ := ivS_ex (szW W) 7
      refine Ok.mono (cm_kz_y2 hs hW hcc hc4 hc hQ hT hB (hTL 11 (by omega)) h6 hini hDc hn1 hn7 hg) fun r S1 z => ?_
      obtain ⟨v, rfl, hv, s, hk, f1, ⟨n1, mk1, rl1, hB1⟩, hD1⟩ := z
      have e16 : ∀ a k, 12 ≤ a → a < 100 ∨ 1300 ≤ a ∧ a < 10000 → gI S1 a 0 k = gI S a 0 k := fun a k a1 a2 => f1.I (by omega) (fun z => by have := tKc_n z; omega)
      have eJ : ∀ a k, 1300 ≤ a → a < 10000 → gJ S1 a 0 k = gJ S a 0 k := fun a k a1 a2 => f1.J (by omega) (fun z => by have := tKc_n z; omega)
      have rc : RcI S S1 := ⟨e16 _ _ (by omega) (by omega), e16 _ _ (by omega) (by omega), fun x k a b => e16 _ _ (by omega) (by omega), fun k => eJ _ _ (by omega) (by omega), fun k hk => e16 _ _ (by omega) (by omega)⟩
      have hR1 : wqR W (fun k => gI S1 1306 0 k) (fun i => gJ S 1308 0 i) := wqR.cong hW (fun k _ _ => (e16 _ _ (by omega) (by omega)).symm) (fun _ _ => rfl) hR
      refine ⟨_, rfl, f1.sd, Ok.mono (rm_kz_y f1.sd hW hR1 hQ ((rc.rc (W := W)).2.1 hO) (rc.rc.1 hcr) ((rc.rc (W := W)).2.2 hI) hn1 hn7 hg) fun r2 S2 y => ?_⟩
      obtain ⟨mk, R, hD, rfl, f2, yO, yC, yI⟩ := y
      have f2g : Fg (fun a b k => tKz a b k = true) S1 S2 := f2.fg f1.sd (fun _ _ _ z => z)
      have e2 : ∀ a b k, a < 12 ∨ 100 ≤ a ∧ a < 1300 → gI S2 a b k = gI S1 a b k := fun a b k a1 => f2g.I (by omega) (fun z => by have := tKz_n z; omega)
      refine ⟨by rw [hv mk R hD], Or.inr ⟨s, hk.imp (fun q => ?_) (fun q => ⟨q.1, q.2.cong (gN_22 f2.2.2) (gN_22 f2.2.2) (e2 _ _ _ (by omega))⟩), (f1.mono fun _ _ _ z => Or.inl z).tr (f2g.mono fun _ _ _ z => Or.inr z), ⟨⟨n1, mk1, rl1, hB1.fg f2g ⟨fun z => by have := tKz_n z; omega, fun x k a b z => by have := tKz_n z; omega⟩⟩, yC, yO, yI⟩, ?_⟩⟩
      · obtain ⟨q1, q2, q3, q4, q5, mk', R', n', mk2, rl2, q6, q7, q8⟩ := q
        exact ⟨q1, q2, q3, q4, q5.cong (gN_22 f2.2.2) (gN_22 f2.2.2) (e2 _ _ _ (by omega)), mk', R', n', mk2, rl2, q6, q7.fg f2g (fun a k ha z => by have := tKz_n z; omega), q8.fg f2g ⟨fun z => by have := tKz_n z; omega, fun x k a b z => by have := tKz_n z; omega⟩⟩
      · obtain ⟨K, k1, k2, k3⟩ := hD1
        exact ⟨K, k1, (e2 _ _ _ (by omega)).trans k2, fun mk R h k a b => (e2 _ _ _ (by omega)).trans (k3 mk R h k a b)⟩
    · refine Ok.mono (cm_kz_n hs hW hcc hc4 hc hQ hn1 hn7) fun r S1 z => ?_
      obtain ⟨rfl, rfl⟩ := z
      refine ⟨_, rfl, hs, Ok.mono (rm_kz_n hs hW hR hQ hn1 hn7) fun r2 S2 y => ?_⟩
      obtain ⟨rfl, rfl⟩ := y
      exact ⟨rfl, Or.inl rfl⟩
  · refine Ok.mono (cm_kz_x hs hcc hc4 ha) fun r S1 z => ?_
    obtain ⟨rfl, rfl⟩ := z
    refine ⟨_, rfl, hs, Ok.mono (rm_kz_x hs ha) fun r2 S2 y => ?_⟩
    obtain ⟨rfl, rfl⟩ := y
    exact ⟨rfl, Or.inl rfl⟩
