/-! PAIR holds -/
def tHo (a b k : Nat) : Prop := tNo a b k ∨ tRho a b k = true
/-- the three rows of the doer are of one length -/
def Bl3 (S : zS) : Prop := ∃ L, L ≤ 6561 ∧ gN S 200 0 = L ∧ gN S 201 0 = L ∧ gN S 202 0 = L
theorem tRho_c {a b k : Nat} (h : tRho a b k = true) : b = 0 ∧ (a = 12 ∨ a = 1316 ∨ a = 1385 ∨ a = 1386 ∨ a = 1387 ∨ a = 1389) := by
  simp [tRho, tRdn, tRdt, tTk] at h
  omega
theorem pg_holds {S : zS} (hs : Sd S) {W : zWd} {cc : Nat} (hcc : gI S 11 0 3 = nI cc) (hc4 : cc < 4) (hw : WR wq S W cc 1306 0 1308 0) (hTB : TB S 0 1306 0) (hTv : TbV S (wP W)) (hL3 : Bl3 S) (a : Int32) : Pg mX11_holds 3 [zr 11 0, zi a] mX12_holds 7 [zr 12 0, zi a] S (fun S2 => Fg tHo S S2 ∧ Bl3 S2) := by
  obtain ⟨hW, hC, hR⟩ := hw.c
  obtain ⟨w, w1, w3, w4, w5, w6⟩ := hTB
  have w5 : gI S 1306 0 3 = nI w := w5
  have hP := hW.1
  have hE := hW.2.1
  have hL18 := hW.2.2.2.1
  have hc9 : gI S 9 cc 4 = nI (wL W) := hC.2.2.1
  have hr2 : gI S 1306 0 2 = nI (wL W) := hR.2.2.1
  by_cases ha : 0 ≤ a ∧ a < nI (wL W)
  · obtain ⟨l, hl, rfl⟩ := zz_of ha (by omega)
    obtain ⟨hn1, hn7, hq⟩ := hW.2.2.2.2.2 l hl
    have hf := hW.lf2 hl
    obtain ⟨L0, hL0, n0, n1, n2⟩ := hL3
    have hEa : ∀ a, a < wA W → a < 3 := fun a ha => by have := hE.1; omega
    have tv : ∀ k, k < 729 → gI S 801 0 k = nI ((gI S 801 0 k).toInt.toNat) ∧ (gI S 801 0 k).toInt.toNat < wP W := fun k hk => by
      obtain ⟨v, v1, v2⟩ := hTv k hk
      rw [v1, nI_toInt (by omega)]
      exact ⟨rfl, v2⟩
    have hTC : ∀ a, a < wA W → TbC S a (wP W) (fun i => (gI S 801 0 (a * 243 + i)).toInt.toNat) := fun a ha i hi => tv (a * 243 + i) (by have := hEa a ha; omega)
    have hI : NoI S cc w (wP W) (wA W) (lw W l).1 l (lf W l) L0 (we W) (fun a i => (gI S 801 0 (a * 243 + i)).toInt.toNat) (lw W l).2 := ⟨hs, hC.1, hC.2.1, fun a ha => (hC.2.2.2.1 a ha).1, w4, hTC, n0, n1, n2, hC.2.2.2.2.1 l hl, hC.2.2.2.2.2.1 l (by omega), (hC.2.2.2.2.2.1 (l + 1) (by omega)).trans (by rw [lf_succ hl]), fun k hk => hC.2.2.2.2.2.2.1 l k hl hk⟩
    refine Ok.mono (cm_ho_y hE hI hL0 hq hc4 w1 w3 hP.1 hP.2.1 hn1 hn7 hf hcc hc9 hL18 hl) fun r S1 z => ?_
    obtain ⟨f1, b1, v, v1, rfl, v3⟩ := z
    have e1 : ∀ k, gI S1 1306 0 k = gI S 1306 0 k := fun k => f1.I (by omega) (by unfold tNo tFb tBk1 tRm; omega)
    have hI2 : RhI S1 w (wP W) (wA W) (lw W l).1 l (lf W l) (we W) (fun a i => (gI S 801 0 (a * 243 + i)).toInt.toNat) (lw W l).2 := ⟨f1.sd, (e1 _).trans hR.1, fun a ha => (e1 _).trans (hR.2.2.2.1 a ha).1, (e1 _).trans w5, fun a ha i hi => ⟨by rw [e1, ← (hTC a ha i hi).1, w6 (a * 243 + i) (by have := hEa a ha; omega), show 0 + 444 + (a * 243 + i) = 444 + 243 * a + i by omega], (hTC a ha i hi).2⟩, (e1 _).trans (hR.2.2.2.2.1 l hl), (e1 _).trans (hR.2.2.2.2.2.1 l (by omega)), (e1 _).trans ((hR.2.2.2.2.2.1 (l + 1) (by omega)).trans (by rw [lf_succ hl])), fun k hk => ⟨(e1 _).trans (hR.2.2.2.2.2.2 l k hl hk).1, (e1 _).trans (hR.2.2.2.2.2.2 l k hl hk).2⟩⟩
    refine ⟨_, rfl, f1.sd, Ok.mono (rm_ho_y hE hq (by omega) w1 w3 hP.1 hP.2.1 hn7 hf hI2 ((e1 _).trans hr2) hL18 hl) fun r2 S2 z2 => ?_⟩
    obtain ⟨f2, v', v1', rfl, v3'⟩ := z2
    have ev : v' = v := by
      have := v3.trans v3'.symm
      omega
    refine ⟨by rw [ev], (f1.mono fun _ _ _ z => Or.inl z).tr (f2.fg f1.sd fun _ _ _ z => Or.inr z), ?_⟩
    obtain ⟨L, l1, m0, m1, m2⟩ := b1
    exact ⟨L, l1, (gN_22 f2.2.2).trans m0, (gN_22 f2.2.2).trans m1, (gN_22 f2.2.2).trans m2⟩
  · refine Ok.mono (cm_ho_n hs hc4 hcc hc9 hL18 ha) fun r S1 z => ?_
    obtain ⟨rfl, rfl⟩ := z
    refine ⟨_, rfl, hs, Ok.mono (rm_ho_n hs hr2 hL18 ha) fun r2 S2 z2 => ?_⟩
    obtain ⟨L, l1, m0, m1, m2⟩ := hL3
    exact ⟨z2.1, z2.2.fg hs fun _ _ _ z => Or.inr z, L, l1, (gN_22 z2.2.2.2).trans m0, (gN_22 z2.2.2.2).trans m1, (gN_22 z2.2.2.2).trans m2⟩
