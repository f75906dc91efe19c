/-! PAIR trees once more: the caches survive -/
def tTc (a b k : Nat) : Bool := tOw a b k || tTq 0 a b k || a == 12 && b == 0 && k == 0
theorem RB.tt {S S1 : zS} {W : zWd} (hE : Eok (wA W) (we W)) {L : Nat} {pvs : Nat → Nat → Bool} {bss : Nat → Nat → Nat → Nat} (h : RB S W 0 L pvs bss) (f : Fr (tTq 0) S S1) (ht : Tt S1 (tc W) 0 11) : RB S1 W 0 L pvs bss := by
  obtain ⟨h1, h2, h3, h4, h5⟩ := h
  exact ⟨(f.1 _ _ _ rfl).trans h1, h2, h3, fun _ => ht, h5.fr hE f rfl (fun s a b => ⟨rfl, rfl, rfl, rfl⟩) (fun k k1 k2 => ⟨rfl, rfl, rfl⟩) (fun k k1 k2 => rfl)⟩

set_option maxRecDepth 100000 in
theorem rm_tc_in {S : zS} (hs : Sd S) {W : zWd} (hW : Wok W) {n9 : Nat → Int64} (hR : wqR W (fun k => gI S 1306 0 k) n9) (hO : Cw S) (hcr : CR S W) (hI : IvI S) {m : Nat} (h1 : 1 ≤ m) (h10 : m ≤ 10) : Ok mX12_trees 0 (ent 2 [zr 12 0, zi (nI m)]) [] S (fun r S1 => r = some (zl (lN (tc W m))) ∧ Fr tTc S S1 ∧ Cw S1 ∧ CR S1 W ∧ IvI S1) := by
  show Ok mX12_trees 0 [some (zr 12 0), some (zi (nI m))] [] S _
  refine r_aload_n (q := 1) dX12_trees_0 rfl rfl rfl ?_
  refine r_iconst (q := 2) (nI 0) dX12_trees_1 rfl (by decide) ?_
  refine r_puti (q := 5) ck12 dX12_trees_2 rfl (k := 0) (by decide) wt1278 (Or.inl rfl) rfl (hs.e (by decide)) ?_
  refine r_iload_n (q := 6) dX12_trees_5 rfl rfl rfl ?_
  refine r_iconst (q := 7) (nI 1) dX12_trees_6 rfl (by decide) ?_
  refine r_bipush (q := 9) (nI 10) dX12_trees_7 rfl (by decide) ?_
  refine r_callS (Mc := mX12_isIn) (q := 12) (As := [zi (nI m), zi (nI 1), zi (nI 10)]) (st := []) dX12_trees_9 rfl rfl mkX12_isIn wt1614 wt1615 rfl (Nat.le_of_ble_eq_true rfl) (Nat.le_of_ble_eq_true rfl) (by decide) (by decide) (by decide) (Or.inl rfl) hs.some (ok_X12_isIn_in (by omega) (by omega) (by omega)) (fun r9 S9 hp9 => ?_)
  obtain ⟨rfl, hq9⟩ := hp9
  rw [hq9]
  show Ok _ _ _ [zi (nI 1)] _ _
  refine r_if_neN (q := 15) (t := 19) (by omega) dX12_trees_12 (by decide) rfl (fun h12 => ?_) (fun h12 => absurd h12 (by omega))
  refine r_aload_n (q := 20) dX12_trees_19 rfl rfl rfl ?_
  refine r_callV (Mc := mX12_ownWorld) (q := 23) (As := []) (st := []) ck12 dX12_trees_20 rfl rfl mkX12_ownWorld wt1686 wt1688 wp90 rfl (Nat.le_of_ble_eq_true rfl) (Nat.le_of_ble_eq_true rfl) (by decide) (by decide) (by decide) (Or.inl rfl) (hs.e (by decide)) (ok_own (S := sI S 12 0 0 (nI 0)) hs hW hR ((rc_thr.rc (W := W)).2.1 hO) (rc_thr.rc.1 hcr) ((rc_thr.rc (W := W)).2.2 hI)) (fun r20 S20 hp20 => ?_)
  obtain ⟨rfl, f1, hOw, hWS, hI1, h33, hO1, L, pvs, bss, hRB⟩ := hp20
  have hs1 : Sd S20 := Sd.fr (S := sI S 12 0 0 (nI 0)) hs f1
  show Ok _ _ _ [] _ _
  refine r_aload_n (q := 24) dX12_trees_23 rfl rfl rfl ?_
  refine r_iconst (q := 25) (nI 0) dX12_trees_24 rfl (by decide) ?_
  refine r_callV (Mc := mX12_totals) (q := 28) (As := [zi (nI 0)]) (st := []) ck12 dX12_trees_25 rfl rfl mkX12_totals wt1690 wt1692 wp91 rfl (Nat.le_of_ble_eq_true rfl) (Nat.le_of_ble_eq_true rfl) (by decide) (by decide) (by decide) (Or.inl rfl) (hs1.e (by decide)) (ok_totals_q hs1 (q := 0) (by omega) hW.2.1 ⟨hWS.1.1, hWS.1.2⟩) (fun r25 S25 hp25 => ?_)
  obtain ⟨rfl, f2, hTt⟩ := hp25
  have hs2 : Sd S25 := hs1.fr f2
  have hB2 := hRB.tt hW.2.1 f2 hTt
  have htm : gJ S25 1334 0 m = lN (tc W m) := by
    have := hTt m h1 (by omega)
    rw [Nat.mul_zero, Nat.zero_add] at this
    exact this
  show Ok _ _ _ [] _ _
  refine r_aload_n (q := 29) dX12_trees_28 rfl rfl rfl ?_
  refine r_getr (q := 32) (some (1334, 0)) ck12 dX12_trees_29 rfl (k := 34) (by decide) wt1312 rfl (hs2.e (by decide)) (hs2.r (by decide) (by decide)) ?_
  refine r_iload_n (q := 33) dX12_trees_32 rfl rfl rfl ?_
  refine r_laldN (q := 34) 22 (by decide) rfl dX12_trees_33 rfl (hs2.e (by decide)) (hs2.n rfl (by decide)) (by omega) (by decide) ?_
  refine r_topl (y := lN (tc W m)) htm ?_
  refine r_lreturn dX12_trees_34 rfl ?_
  have f0 : Fr tTc S (sI S 12 0 0 (nI 0)) := Fr.rf.i (by simp [tTc])
  exact ⟨rfl, (f0.tr (f1.mono fun a b k z => by simp [tTc, z])).tr (f2.mono fun a b k z => by simp [tTc, z]), hO1.f3 f2 ⟨rfl, fun k _ => rfl, fun _ => rfl⟩, fun _ => ⟨L, pvs, bss, hB2⟩, hI1.fr f2 ⟨rfl, fun _ => rfl⟩⟩

theorem pg_trees2 {S : zS} (hs : Sd S) {W : zWd} {cc : Nat} (hcc : gI S 11 0 3 = nI cc) (hc4 : cc < 4) (hw : WR wq S W cc 1306 0 1308 0) (hb : BsC S cc W) (a : Int32) : PgJ mX11_trees 2 [zr 11 0, zi a] mX12_trees 2 [zr 12 0, zi a] S (fun S2 => Fr tTc S S2 ∧ BsC S2 cc W) := by
  obtain ⟨hW, hC, hR⟩ := hw.c
  obtain ⟨⟨n0, mk0, rl0, hB⟩, hcr, hO, hI⟩ := hb
  have keep : ∀ S2, Fr tTc S S2 → CB S2 cc W n0 mk0 rl0 := fun S2 f => hB.fg (f.fg hs (U := fun a _ _ => 12 ≤ a ∧ (a < 100 ∨ 1300 ≤ a)) (fun a b k z => by simp [tTc, tOw, tTq] at z; omega)) ⟨by omega, fun x k a b => by omega⟩
  by_cases ha : nI 1 ≤ a ∧ a ≤ nI 10
  · obtain ⟨m, h1, h10, rfl⟩ := zz_1 ha (by omega)
    refine Ok.mono (ok_X11_trees_in hs hcc hc4 hw h1 h10) fun r S1 z => ⟨_, z.1, by rw [z.2]; exact hs, ?_⟩
    rw [z.2]
    exact Ok.mono (rm_tc_in hs hW hR hO hcr hI h1 h10) fun r S2 y => ⟨y.1, y.2.1, ⟨n0, mk0, rl0, keep _ y.2.1⟩, y.2.2.2.1, y.2.2.1, y.2.2.2.2⟩
  · refine Ok.mono (ok_X11_trees_out ha) fun r S1 z => ⟨_, z.1, by rw [z.2]; exact hs, ?_⟩
    rw [z.2]
    refine Ok.mono (ok_X12_trees_out hs ha) fun r S2 y => ?_
    obtain ⟨rfl, rfl⟩ := y
    have f0 : Fr tTc S (sI S 12 0 0 (nI 0)) := Fr.rf.i (by simp [tTc])
    exact ⟨rfl, f0, ⟨n0, mk0, rl0, keep _ f0⟩, rc_thr.rc.1 hcr, (rc_thr.rc (W := W)).2.1 hO, (rc_thr.rc (W := W)).2.2 hI⟩

