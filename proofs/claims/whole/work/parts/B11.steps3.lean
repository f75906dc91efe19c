/-! pairs that leave Inv: those that keep a sum -/
def kb_t (a b k : Nat) : Prop := sm_t a b k ∧ nic0 a b k ∧ ¬ (200 ≤ a ∧ a ≤ 202) ∧ a ≠ 5000
theorem Inv.kpt {A0 B0 k : Nat} {S S1 : zS} (h : Inv A0 B0 k S) {cc : Nat} {W : zWd} (c4 : cc < 4) (c3 : gI S 11 0 3 = nI cc) (cW : WR wq S W cc 1306 0 1308 0) {T : Nat → Nat → Nat → Prop} (f : Fg T S S1) (hT : ∀ a b k, T a b k → kb_t a b k) (h5 : gE S1 5000 0 = true) (hb : ∃ bs, TapeR S1 bs) (hS : SR sq S1 W 0 1306 1173) (hP : ∃ hh q, Pst sq S1 W hh q) (hTL : TLs S1) (hF : gI S1 4 0 14 = gI S1 12 0 13) (hBr : gI S1 3 0 1 = gI S1 12 0 82) (hBs : BsC S1 cc W) : Inv A0 B0 (k + 1) S1 := by
  obtain ⟨⟨h1, h2, h3, h4, h4'⟩, cc', W', bs, hh, q, d4, d3, dW, cT, cB, cV, cK, cS, cP, cL, cKP, cF, cBr, cBs, cI, cSl, cBl⟩ := id h
  have nx : ∀ a b k, ¬ kb_t a b k → ¬ T a b k := fun a b k q z => q (hT _ _ _ z)
  obtain ⟨bs1, p1⟩ := hb
  obtain ⟨hh1, q1, p2⟩ := hP
  refine h.same c4 c3 cW (fg_bm f) (fun a b k z => (hT _ _ _ z).1) h5 ((f.N (by decide) (nx _ _ _ (by simp [kb_t]))).trans h3) ⟨bs1, hh1, q1, p1, hS, p2, hTL, hF, hBr, hBs, ?_, ?_, ?_⟩
  · exact cI.fg f (fun b => ⟨nx _ _ _ (by simp [kb_t, sm_t, nic0]), nx _ _ _ (by simp [kb_t, sm_t, nic0]), nx _ _ _ (by simp [kb_t, sm_t, nic0]), nx _ _ _ (by simp [kb_t, sm_t, nic0])⟩)
  · exact cSl.nice (fun a b k z => (hT _ _ _ z).2.1) (nx _ _ _ (by simp [kb_t, sm_t, nic0])) f
  · exact cBl.sm f ⟨nx _ _ _ (by simp [kb_t, sm_t, nic0]), nx _ _ _ (by simp [kb_t, sm_t, nic0]), nx _ _ _ (by simp [kb_t, sm_t, nic0])⟩
theorem tSm_kb (a b k : Nat) (z : tSm a b k) : kb_t a b k := by
  unfold tSm tMd tKp tRef tKs at z
  unfold kb_t sm_t nic0
  omega
theorem inv_kept {A0 B0 k : Nat} {S S1 : zS} (h : Inv A0 B0 k S) {cc hh q : Nat} {W : zWd} (c4 : cc < 4) (c3 : gI S 11 0 3 = nI cc) (cW : WR wq S W cc 1306 0 1308 0) (z : S1 = sI S 12 0 0 (nI 0) ∨ Kept S S1 W hh q) (h5 : gE S1 5000 0 = true) : Inv A0 B0 (k + 1) S1 := by
  rcases z with z | ⟨z1, z2, z3, z4, z5, z6⟩
  · rw [z]; exact inv_thr h
  · obtain ⟨-, cc', W', bs, hh', q', d4, d3, dW, cT, cB, cV, cK, cS, cP, cL, cKP, cF, cBr, cBs, cI, cSl, cBl⟩ := id h
    obtain ⟨rfl, rfl⟩ := wr_uniq c4 d4 c3 d3 cW dW
    have n : ∀ a b k, a = 11 ∧ k = 1 ∨ a = 12 ∧ (k = 2 ∨ k = 13 ∨ k = 82) ∨ a = 1200 ∨ a = 1301 ∨ a = 4 ∨ a = 3 → ¬ tSm a b k := fun a b k ha z => by unfold tSm tMd tKp tRef tKs at z; omega
    exact h.kpt c4 c3 cW z1 tSm_kb h5 ⟨bs, cT.sm z1 ⟨n _ _ _ (by omega), n _ _ _ (by omega), fun k => n _ _ _ (by omega), fun k => n _ _ _ (by omega)⟩⟩ z4 ⟨_, _, z5⟩ z6 (by rw [z1.I (by decide) (n _ _ _ (by omega)), z1.I (by decide) (n _ _ _ (by omega))]; exact cF) (by rw [z1.I (by decide) (n _ _ _ (by omega)), z1.I (by decide) (n _ _ _ (by omega))]; exact cBr) (cBs.ow nice_tSm z1 z2 z3)
theorem st_take {NN A0 B0 : Nat} : pr_take NN (Inv A0 B0) := fun k S a _ h => by
  obtain ⟨-, cc, W, bs, hh, q, c4, c3, cW, cT, cB, cV, cK, cS, cP, cL, cKP, cF, cBr, cBs, -⟩ := id h
  exact pg_keep (pg_take h.1.1 c3 c4 cW cP cS cL cBs.2.2.1 a) h.1.2.1 (fun S2 z h5 => inv_kept h c4 c3 cW z h5)
theorem st_times {NN A0 B0 : Nat} : pr_times NN (Inv A0 B0) := fun k S a _ h => by
  obtain ⟨-, cc, W, bs, hh, q, c4, c3, cW, cT, cB, cV, cK, cS, cP, cL, cKP, cF, cBr, cBs, -⟩ := id h
  exact pg_keep (pg_times h.1.1 c3 c4 cW cP cS cL cBs.2.2.1 a) h.1.2.1 (fun S2 z h5 => inv_kept h c4 c3 cW z h5)
theorem st_add {NN A0 B0 : Nat} : pr_add NN (Inv A0 B0) := fun k S a y _ h => by
  obtain ⟨-, cc, W, bs, hh, q, c4, c3, cW, cT, cB, cV, cK, cS, cP, cL, cKP, cF, cBr, cBs, -⟩ := id h
  exact pg_keep (pg_add h.1.1 c3 c4 cW cP cS cL cBs.2.2.1 a y) h.1.2.1 (fun S2 z h5 => inv_kept h c4 c3 cW z h5)
theorem tRd_n {a b k : Nat} (z : tRd a b k) : kb_t a b k ∧ (a = 12 → k ≠ 82) ∧ a ≠ 3 := by
  unfold kb_t sm_t nic0
  rcases z with z | z | z | z | z
  · unfold tMd at z; omega
  · rcases z with z | z | z
    · unfold tTm tTy at z
      rcases z with z | z | z
      · omega
      · omega
      · have := tTr_n z; omega
    · have := tBg_n z; omega
    · omega
  · unfold tKp at z; omega
  · rcases z with z | z | z
    · unfold tRef at z; omega
    · unfold tRs at z
      rw [Bool.or_eq_true, Bool.or_eq_true] at z
      rcases z with (z | z) | z
      · simp [tRq, tNb, tNx] at z; omega
      · simp [tAT, tPa] at z; omega
      · simp at z; omega
    · omega
  · unfold tKs at z; omega
theorem tRp_n {a b k : Nat} (z : tRp a b k) : kb_t a b k ∧ (a = 12 → k ≠ 82) ∧ a ≠ 3 := by
  rcases z with z | z | z
  · exact tRd_n z
  · simp [tSh] at z
    unfold kb_t sm_t nic0
    omega
  · simp [tPl] at z
    unfold kb_t sm_t nic0
    omega
theorem st_sum {NN A0 B0 : Nat} : pr_sum NN (Inv A0 B0) := fun k S _ h => by
  obtain ⟨-, cc, W, bs, hh, q, c4, c3, cW, cT, cB, cV, cK, cS, cP, cL, cKP, cF, cBr, cBs, -⟩ := id h
  refine pg_keep (pg_sum h.1.1 c3 c4 cW cP cS cL cBs.2.2.1 cT) h.1.2.1 (fun S2 z h5 => ?_)
  obtain ⟨⟨z1, z2, z3, z4, z5, z6⟩, z7, hh1, q1, z8⟩ := z
  exact h.kpt c4 c3 cW z1 (fun a b k y => (tRd_n y).1) h5 ⟨_, z2⟩ z7 ⟨_, _, z8⟩ z6 z3 (by rw [z1.I (by decide) (fun y => (tRd_n y).2.2 rfl), z1.I (by decide) (fun y => (tRd_n y).2.1 rfl rfl)]; exact cBr) (cBs.ow nice_tRd z1 z4 z5)
theorem st_plug {NN A0 B0 : Nat} : pr_plug NN (Inv A0 B0) := fun k S a _ h => by
  obtain ⟨-, cc, W, bs, hh, q, c4, c3, cW, cT, cB, cV, cK, cS, cP, cL, cKP, cF, cBr, cBs, -⟩ := id h
  refine pg_keep (pg_plug h.1.1 c3 c4 cW cP cS cL cBs.2.2.1 cT a) h.1.2.1 (fun S2 z h5 => ?_)
  obtain ⟨⟨z1, z2, z3, z4, z5, z6⟩, z7, hh1, q1, z8⟩ := z
  exact h.kpt c4 c3 cW z1 (fun a b k y => (tRp_n y).1) h5 ⟨_, z2⟩ z7 ⟨_, _, z8⟩ z6 z3 (by rw [z1.I (by decide) (fun y => (tRp_n y).2.2 rfl), z1.I (by decide) (fun y => (tRp_n y).2.1 rfl rfl)]; exact cBr) (cBs.ow nice_tRp z1 z4 z5)
