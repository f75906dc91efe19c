/-! PAIR koszul -/
def tKa (cc s a b k : Nat) : Prop := tKc cc s a b k ∨ tKz a b k = true
theorem tKz_n {a b k : Nat} (h : tKz a b k = true) : b = 0 ∧ (a = 12 ∨ a = 1307 ∨ 1316 ≤ a ∧ a ≤ 1369) := by
  simp [tKz, tMd2, tOw, tSe, tTq, tPt, tPa, tIv, t07, tEq, t22, tKl, tSr0, tBy, tBk] at h
  omega
theorem tKc_n {cc s a b k : Nat} (h : tKc cc s a b k) : a < 12 ∨ 100 ≤ a ∧ a < 1010 ∨ 10000 ≤ a := by
  rcases h with h | h | h | h
  · unfold tRe at h; omega
  · rcases h with h | h | h | h
    · unfold tMk at h; omega
    · have := tFo_n h; omega
    · unfold tFk tRe at h; omega
    · omega
  · omega
  · omega
/-- what koszul leaves -/
def KzP (S S2 : zS) (cc s : Nat) (W : zWd) : Prop := (s < 4 ∧ s ≠ cc ∧ nI s ≠ gI S 1204 0 0 ∧ nI s ≠ gI S 1204 0 1 ∧ TL S2 11 ∧ (∃ mk R n mk' rl', IsD W mk R ∧ WC S2 s (dW W mk R) ∧ CB S2 s (dW W mk R) n mk' rl') ∨ s = 4) ∧ Fg (tKa cc s) S S2 ∧ BsC S2 cc W ∧ DcK S2 cc W
theorem pg_koszul {S : zS} (hs : Sd S) {W : zWd} {cc : Nat} (hcc : gI S 11 0 3 = nI cc) (hc4 : cc < 4) (hw : WR wq S W cc 1306 0 1308 0) (hb : BsC S cc W) (hTL : TLs S) (h6 : ∀ s, s < 4 → gI S 1006 s 0 = nI 0) (hini : ∀ s, s < 4 → gI S 103 s 1 = nI 0 ∧ gI S 106 s 1 = nI 0 ∧ 512 ≤ gN S 107 s ∧ gN S 107 s ≤ 160000) (hDc : DcK S cc W) (a : Int32) : Pg mX11_koszul 7 [zr 11 0, zi a] mX12_koszul 3 [zr 12 0, zi a] S (fun S2 => S2 = sI S 12 0 0 (nI 0) ∨ ∃ s, KzP S S2 cc s W) := by
  obtain ⟨hW, hC, hR⟩ := hw.c
  obtain ⟨hc, hT⟩ := wq_WC hC
  obtain ⟨⟨n0, mk0, rl0, hB⟩, hcr, hO, hI⟩ := hb
  by_cases ha : nI 1 ≤ a ∧ a ≤ nI 7
  · obtain ⟨n, rfl, hn1, hn7⟩ := in17 ha
    by_cases hQ : Qd W
    · obtain ⟨g, hg⟩ := ivS_ex (szW W) 7
      refine Ok.mono (cm_kz_y hs hW hcc hc4 hc hQ hT hB (hTL 11 (by omega)) h6 hini hDc hn1 hn7 hg) fun r S1 z => ?_
      obtain ⟨v, rfl, hv, s, hk, f1, ⟨n1, mk1, rl1, hB1⟩, hD1⟩ := z
      have e16 : ∀ a k, 12 ≤ a → a < 100 ∨ 1300 ≤ a ∧ a < 10000 → gI S1 a 0 k = gI S a 0 k := fun a k a1 a2 => f1.I (by omega) (fun z => by have := tKc_n z; omega)
      have eJ : ∀ a k, 1300 ≤ a → a < 10000 → gJ S1 a 0 k = gJ S a 0 k := fun a k a1 a2 => f1.J (by omega) (fun z => by have := tKc_n z; omega)
      have rc : RcI S S1 := ⟨e16 _ _ (by omega) (by omega), e16 _ _ (by omega) (by omega), fun x k a b => e16 _ _ (by omega) (by omega), fun k => eJ _ _ (by omega) (by omega), fun k hk => e16 _ _ (by omega) (by omega)⟩
      have hR1 : wqR W (fun k => gI S1 1306 0 k) (fun i => gJ S 1308 0 i) := wqR.cong hW (fun k _ _ => (e16 _ _ (by omega) (by omega)).symm) (fun _ _ => rfl) hR
      refine ⟨_, rfl, f1.sd, Ok.mono (rm_kz_y f1.sd hW hR1 hQ ((rc.rc (W := W)).2.1 hO) (rc.rc.1 hcr) ((rc.rc (W := W)).2.2 hI) hn1 hn7 hg) fun r2 S2 y => ?_⟩
      obtain ⟨mk, R, hD, rfl, f2, yO, yC, yI⟩ := y
      have f2g : Fg (fun a b k => tKz a b k = true) S1 S2 := f2.fg f1.sd (fun _ _ _ z => z)
      have e2 : ∀ a b k, a < 12 ∨ 100 ≤ a ∧ a < 1300 → gI S2 a b k = gI S1 a b k := fun a b k a1 => f2g.I (by omega) (fun z => by have := tKz_n z; omega)
      refine ⟨by rw [hv mk R hD], Or.inr ⟨s, hk.imp (fun q => ?_) id, (f1.mono fun _ _ _ z => Or.inl z).tr (f2g.mono fun _ _ _ z => Or.inr z), ⟨⟨n1, mk1, rl1, hB1.fg f2g ⟨fun z => by have := tKz_n z; omega, fun x k a b z => by have := tKz_n z; omega⟩⟩, yC, yO, yI⟩, ?_⟩⟩
      · obtain ⟨q1, q2, q3, q4, q5, mk', R', n', mk2, rl2, q6, q7, q8⟩ := q
        exact ⟨q1, q2, q3, q4, q5.cong (gN_22 f2.2.2) (gN_22 f2.2.2) (e2 _ _ _ (by omega)), mk', R', n', mk2, rl2, q6, q7.fg f2g (fun a k ha z => by have := tKz_n z; omega), q8.fg f2g ⟨fun z => by have := tKz_n z; omega, fun x k a b z => by have := tKz_n z; omega⟩⟩
      · obtain ⟨K, k1, k2, k3⟩ := hD1
        exact ⟨K, k1, (e2 _ _ _ (by omega)).trans k2, fun mk R h k a b => (e2 _ _ _ (by omega)).trans (k3 mk R h k a b)⟩
    · refine Ok.mono (cm_kz_n hs hW hcc hc4 hc hQ hn1 hn7) fun r S1 z => ?_
      obtain ⟨rfl, rfl⟩ := z
      refine ⟨_, rfl, hs, Ok.mono (rm_kz_n hs hW hR hQ hn1 hn7) fun r2 S2 y => ?_⟩
      obtain ⟨rfl, rfl⟩ := y
      exact ⟨rfl, Or.inl rfl⟩
  · refine Ok.mono (cm_kz_x hs hcc hc4 ha) fun r S1 z => ?_
    obtain ⟨rfl, rfl⟩ := z
    refine ⟨_, rfl, hs, Ok.mono (rm_kz_x hs ha) fun r2 S2 y => ?_⟩
    obtain ⟨rfl, rfl⟩ := y
    exact ⟨rfl, Or.inl rfl⟩
