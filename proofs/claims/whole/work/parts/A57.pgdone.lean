/-! PAIR done -/
/-- the class's table at hand: numbers below P -/
def TbV (S : zS) (P : Nat) : Prop := ∀ k, k < 729 → ∃ v, gI S 801 0 k = nI v ∧ v < P
def tDn (a b k : Nat) : Prop := tDt a b k = true ∨ a = 11 ∧ b = 0 ∧ k = 1 ∨ tRdn a b k = true
theorem tDt_n {a b k : Nat} (h : (tDt a b k || a == 11 && b == 0 && k == 1) = true) : tDn a b k ∧ (203 ≤ a ∧ a ≤ 205 ∨ a = 11) := by
  simp only [Bool.or_eq_true, Bool.and_eq_true, beq_iff_eq] at h
  rcases h with h | h
  · exact ⟨Or.inl h, by simp [tDt] at h; omega⟩
  · exact ⟨Or.inr (Or.inl ⟨h.1.1, h.1.2, h.2⟩), by omega⟩
theorem pg_done {S : zS} (hs : Sd S) {W : zWd} {cc : Nat} (hcc : gI S 11 0 3 = nI cc) (hc4 : cc < 4) (hw : WR wq S W cc 1306 0 1308 0) {bs : List Nat} (hb : TapeR S bs) (hTB : TB S 0 1306 0) (hTv : TbV S (wP W)) (hA : SR sq S W 0 1306 1173) (hTL : TLs S) (a : Int32) : Pg mX11_done 4 [zr 11 0, zi a] mX12_done 3 [zr 12 0, zi a] S (fun S2 => Fg tDn S S2 ∧ TapeR S2 []) := by
  obtain ⟨hW, hC, hR⟩ := hw.c
  obtain ⟨hb9, hl1, hl2, hB1, hB2⟩ := hb
  obtain ⟨w, w1, w3, w4, w5, w6⟩ := hTB
  obtain ⟨lv, c, hS, s1, s2, s3, s4, s5⟩ := hA.get
  have hlv := hS.2.1
  have s2 : gI S 1306 0 1173 = nI lv := s2
  have w5 : gI S 1306 0 3 = nI w := w5
  have hP := hW.1
  have hE := hW.2.1
  have hty : Ty S 0 c := by
    obtain ⟨m, e, t1, t2, t3, t4, t5, t6⟩ := hTL 0 (by omega)
    have : e = c.length := by
      have q1 := congrArg Int32.toInt (s3.symm.trans t5)
      rw [nI_toInt (by have := hS.len; omega), nI_toInt (by omega)] at q1
      omega
    exact ⟨s3, fun k hk => ⟨(s5 k hk).1, (s5 k hk).2.1⟩, m, t1, t2, t3, t4, by omega⟩
  have f11 : ∀ {S1 : zS}, Fr (fun x y k => tDt x y k || x == 11 && y == 0 && k == 1) S S1 → Fg tDn S S1 ∧ (∀ k, gI S1 1306 0 k = gI S 1306 0 k) ∧ gI S1 12 0 2 = nI bs.length ∧ Bs S1 1301 bs := fun {S1} f => by
    have g := f.fg hs (U := fun a _ _ => 203 ≤ a ∧ a ≤ 205 ∨ a = 11) (fun a b k z => (tDt_n z).2)
    exact ⟨f.fg hs (fun a b k z => (tDt_n z).1), fun k => g.I (by omega) (by omega), (g.I (by omega) (by omega)).trans hl2, fun k hk => (g.I (by omega) (by omega)).trans (hB2.1 k hk), hB2.2⟩
  have fR : ∀ {S1 S2 : zS}, Fg tDn S S1 → gI S1 11 0 1 = nI 0 → Fr tRdn S1 S2 ∧ gI S2 12 0 2 = nI 0 → Fg tDn S S2 ∧ TapeR S2 [] := fun f h g => ⟨f.tr (g.1.fg f.sd (fun a b k z => Or.inr (Or.inr z))), Nat.zero_le _, (g.1.1 11 0 1 rfl).trans h, g.2, ⟨fun k hk => absurd hk (Nat.not_lt_zero _), fun c hc => nomatch hc⟩, ⟨fun k hk => absurd hk (Nat.not_lt_zero _), fun c hc => nomatch hc⟩⟩
  have h011 : gI (sI S 11 0 1 (nI 0)) 11 0 1 = nI 0 := by rw [gI_sI, if_pos ⟨rfl, rfl, rfl⟩]
  have f0 : Fr (fun x y k => tDt x y k || x == 11 && y == 0 && k == 1) S (sI S 11 0 1 (nI 0)) := (Fr.rf).i rfl
  obtain ⟨g0, e0, l0, b0⟩ := f11 f0
  by_cases hx : bs.length = lv
  · by_cases ha : 0 ≤ a ∧ a < nI w
    · obtain ⟨y, hy, rfl⟩ := zz_of ha (by omega)
      by_cases hal : ∀ i, i < bs.length → bs.getD i 0 < w
      · have hEa : ∀ a, a < wA W → a < 3 := fun a ha => by have := hE.1; omega
        have tv : ∀ k, k < 729 → gI S 801 0 k = nI ((gI S 801 0 k).toInt.toNat) ∧ (gI S 801 0 k).toInt.toNat < wP W := fun k hk => by
          obtain ⟨v, v1, v2⟩ := hTv k hk
          rw [v1, nI_toInt (by omega)]
          exact ⟨rfl, v2⟩
        have hTC : ∀ a, a < wA W → TbC S a (wP W) (fun i => (gI S 801 0 (a * 243 + i)).toInt.toNat) := fun a ha i hi => tv (a * 243 + i) (by have := hEa a ha; omega)
        refine Ok.mono (cm_dn_y hs hb9 hl1 hx hlv s1 w1 w3 w4 hy hB1 hcc hc4 hP.1 hP.2.1 hE (tb := fun a i => (gI S 801 0 (a * 243 + i)).toInt.toNat) hS.2.2.1 hC.1 hC.2.1 (fun a ha => (hC.2.2.2.1 a ha).1) hTC hty hal) fun r S1 z => ?_
        obtain ⟨rfl, f1, h11⟩ := z
        obtain ⟨g1, e1, l1, b1⟩ := f11 f1
        refine ⟨_, rfl, g1.sd, Ok.mono (rm_dn_y g1.sd hb9 l1 hlv ((e1 _).trans s2) w1 w3 ((e1 _).trans w5) hx hy b1 hP.1 hP.2.1 hE (tb := fun a i => (gI S 801 0 (a * 243 + i)).toInt.toNat) hS.2.2.1 (by obtain ⟨_, _, m, _, _, _, _, _⟩ := hty; omega) ((e1 _).trans hR.1) (fun a ha => (e1 _).trans (hR.2.2.2.1 a ha).1) (fun a ha i hi => ⟨?_, (hTC a ha i hi).2⟩) ((e1 _).trans s4) (fun k hk => ⟨(e1 _).trans (s5 k hk).2.2.1, (e1 _).trans (s5 k hk).2.2.2⟩) hal) fun r2 S2 z2 => ⟨z2.1, fR g1 h11 z2.2⟩⟩
        rw [e1, ← (hTC a ha i hi).1, w6 (a * 243 + i) (by have := hEa a ha; omega), show 0 + 444 + (a * 243 + i) = 444 + 243 * a + i by omega]
      · refine Ok.mono (cm_dn_n hs hb9 hl1 hx hlv s1 w1 w3 w4 hy hB1 hal) fun r S1 z => ?_
        obtain ⟨rfl, rfl⟩ := z
        exact ⟨_, rfl, g0.sd, Ok.mono (rm_dn_n g0.sd hb9 l0 hlv ((e0 _).trans s2) w1 w3 ((e0 _).trans w5) hx hy b0 hal) fun r2 S2 z2 => ⟨z2.1, fR g0 h011 z2.2⟩⟩
    · refine Ok.mono (cm_dn_a hs hb9 hl1 hlv s1 w1 w3 w4 hx ha) fun r S1 z => ?_
      obtain ⟨rfl, rfl⟩ := z
      exact ⟨_, rfl, g0.sd, Ok.mono (rm_dn_a g0.sd hb9 l0 hlv ((e0 _).trans s2) w1 w3 ((e0 _).trans w5) hx ha) fun r2 S2 z2 => ⟨z2.1, fR g0 h011 z2.2⟩⟩
  · refine Ok.mono (cm_dn_l hs hb9 hl1 hlv s1 w1 w3 w4 hx) fun r S1 z => ?_
    obtain ⟨rfl, rfl⟩ := z
    exact ⟨_, rfl, g0.sd, Ok.mono (rm_dn_l g0.sd hb9 l0 hlv ((e0 _).trans s2) w1 w3 ((e0 _).trans w5) hx) fun r2 S2 z2 => ⟨z2.1, fR g0 h011 z2.2⟩⟩

