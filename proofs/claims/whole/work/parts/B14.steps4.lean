/-! pairs that leave Inv: done, holds, and those that build levels of the slot at hand -/
theorem tDn_p {a b k : Nat} (h : tDn a b k) : b = 0 ∧ (203 ≤ a ∧ a ≤ 205 ∨ a = 11 ∧ k = 1 ∨ a = 12 ∧ (k = 0 ∨ k = 2 ∨ k = 3 ∨ k = 4 ∨ k = 5 ∨ k = 20) ∨ a = 1316 ∨ 1385 ≤ a ∧ a ≤ 1389) := by
  rcases h with h | h | h
  · simp [tDt] at h; omega
  · omega
  · simp [tRdn, tTk, tRdt] at h; omega
theorem st_done {NN A0 B0 : Nat} : pr_done NN (Inv A0 B0) := fun k S a _ h => by
  obtain ⟨-, cc, W, bs, hh, q, c4, c3, cW, cT, cB, cV, cK, cS, cP, cL, cKP, cF, cBr, cBs, cI, cSl, cBl⟩ := id h
  refine pg_keep (pg_done h.1.1 c3 c4 cW cT cB cV cS cL a) h.1.2.1 (fun S2 z h5 => ?_)
  obtain ⟨f0, z2⟩ := z
  have f := f0.mono (fun a b k y => tDn_p y)
  refine h.plain f (fun a b k y => ?_) (fun j a b => (cL j b).fg4 f ⟨by omega, by omega, by omega⟩) h5 (by omega) ⟨_, z2⟩ ?_ ?_ (cBl.sm f ⟨by omega, by omega, by omega⟩)
  · unfold pl_t sm_t nic0; omega
  · rw [f.I (by decide) (by omega), f.I (by decide) (by omega)]; exact cF
  · rw [f.I (by decide) (by omega), f.I (by decide) (by omega)]; exact cBr
theorem tHq_p {a b k : Nat} (h : tHq a b k) : b = 0 ∧ (200 ≤ a ∧ a ≤ 203 ∨ a = 12 ∧ (k = 0 ∨ k = 20) ∨ a = 1316 ∨ 1385 ≤ a ∧ a ≤ 1389) := by
  rcases h with (h | h) | h
  · unfold tFb tBk1 at h; omega
  · unfold tRm at h; omega
  · simp [tRhq, tRdt] at h; omega
theorem st_holds {NN A0 B0 : Nat} : pr_holds NN (Inv A0 B0) := fun k S a _ h => by
  obtain ⟨-, cc, W, bs, hh, q, c4, c3, cW, cT, cB, cV, cK, cS, cP, cL, cKP, cF, cBr, cBs, cI, cSl, cBl⟩ := id h
  refine pg_keep (pg_holds2 h.1.1 c3 c4 cW cB cV cBl a) h.1.2.1 (fun S2 z h5 => ?_)
  obtain ⟨f0, z2⟩ := z
  have f := f0.mono (fun a b k y => tHq_p y)
  refine h.plain f (fun a b k y => ?_) (fun j a b => (cL j b).fg4 f ⟨by omega, by omega, by omega⟩) h5 (by omega) ⟨_, cT.sm f ⟨by omega, by omega, fun k => by omega, fun k => by omega⟩⟩ ?_ ?_ z2
  · unfold pl_t sm_t nic0; omega
  · rw [f.I (by decide) (by omega), f.I (by decide) (by omega)]; exact cF
  · rw [f.I (by decide) (by omega), f.I (by decide) (by omega)]; exact cBr
/-- a frame that builds levels of one slot -/
def ca_t (cc a b k : Nat) : Prop := sm_t a b k ∧ (a = 0 → b = cc ∧ k = 2) ∧ (103 ≤ a ∧ a ≤ 110 → b = cc) ∧ a ≠ 111 ∧ ¬ (200 ≤ a ∧ a ≤ 202) ∧ a ≠ 1200 ∧ a ≠ 1301 ∧ (a = 11 → k ≠ 1) ∧ (a = 12 → k ≠ 2 ∧ k ≠ 13 ∧ k ≠ 82) ∧ a ≠ 4 ∧ a ≠ 3
theorem Inv.cach {A0 B0 k : Nat} {S S1 : zS} (h : Inv A0 B0 k S) {cc : Nat} {W : zWd} (c4 : cc < 4) (c3 : gI S 11 0 3 = nI cc) (cW : WR wq S W cc 1306 0 1308 0) {T : Nat → Nat → Nat → Prop} (f : Fg T (bmp S) S1) (hT : ∀ a b k, T a b k → ca_t cc a b k) (h5 : gE S1 5000 0 = true) (hn5 : gN S1 5000 0 = 1) (hS : SR sq S1 W 0 1306 1173) (hP : ∃ hh q, Pst sq S1 W hh q) (hTL : TLs S1) (hBs : BsC S1 cc W) (hBc : Bc S1 cc W) : Inv A0 B0 (k + 1) S1 := by
  obtain ⟨-, cc', W', bs, hh, q, d4, d3, dW, cT, cB, cV, cK, cS, cP, cL, cKP, cF, cBr, cBs, cI, cSl, cBl⟩ := id h
  obtain ⟨rfl, rfl⟩ := wr_uniq c4 d4 c3 d3 cW dW
  obtain ⟨hW, hC, hR⟩ := cW.c
  have nx : ∀ a b k, ¬ ca_t cc' a b k → ¬ T a b k := fun a b k q z => q (hT _ _ _ z)
  obtain ⟨hh1, q1, p2⟩ := hP
  refine h.same c4 c3 cW f (fun a b k z => (hT _ _ _ z).1) h5 hn5 ⟨bs, hh1, q1, ?_, hS, p2, hTL, ?_, ?_, hBs, ?_, ?_, ?_⟩
  · exact TapeR.sm (S := bmp S) cT f ⟨nx _ _ _ (by simp [ca_t, sm_t]), nx _ _ _ (by simp [ca_t, sm_t]), fun k => nx _ _ _ (by simp [ca_t, sm_t]), fun k => nx _ _ _ (by simp [ca_t, sm_t])⟩
  · rw [f.I (by decide) (nx _ _ _ (by simp [ca_t, sm_t])), f.I (by decide) (nx _ _ _ (by simp [ca_t, sm_t]))]; exact cF
  · rw [f.I (by decide) (nx _ _ _ (by simp [ca_t, sm_t])), f.I (by decide) (nx _ _ _ (by simp [ca_t, sm_t]))]; exact cBr
  · exact Ini.re (S := bmp S) (s := cc') cI f (fun b => nx _ _ _ (by simp [ca_t, sm_t])) (fun b x k e x1 x2 => nx _ _ _ (fun z => e (z.2.2.1 ⟨x1, by omega⟩))) (fun _ => by obtain ⟨n, mk, rl, hB⟩ := hBs.1; exact ⟨_, n, mk, rl, hB⟩)
  · refine Sls.of (S := bmp S) cSl f ⟨nx _ _ _ (by simp [ca_t, sm_t]), fun k => nx _ _ _ (by simp [ca_t, sm_t])⟩ (fun b hb s1 => Slot.re (S := bmp S) hW hC f (fun b a k ha => nx _ _ _ (fun z => by have h1 := z.1.1; have h2 := z.1.2.1; omega)) (fun b hb => ⟨nx _ _ _ (fun z => hb (z.2.1 rfl).1), fun x k x1 x2 => nx _ _ _ (fun z => hb (z.2.2.1 ⟨x1, x2⟩))⟩) hBs.1 hBc s1) (fun b hb d => d.fg f (nx _ _ _ (fun z => by have := (z.2.1 rfl).2; omega)) (fun k => nx _ _ _ (fun z => z.2.2.2.1 rfl)) (fun a k ha => nx _ _ _ (fun z => by have h1 := z.1.1; have h2 := z.1.2.1; omega)))
  · exact Bl3.sm (S := bmp S) cBl f ⟨nx _ _ _ (by simp [ca_t, sm_t]), nx _ _ _ (by simp [ca_t, sm_t]), nx _ _ _ (by simp [ca_t, sm_t])⟩
/-- and leaves the sums alone -/
def cb_t (cc a b k : Nat) : Prop := ca_t cc a b k ∧ a ≠ 8 ∧ a ≠ 902 ∧ a ≠ 903 ∧ a ≠ 1306 ∧ a ≠ 1357 ∧ (a = 11 → k ≠ 10 ∧ k ≠ 11) ∧ (a = 12 → k ≠ 58)
theorem Inv.cacb {A0 B0 k : Nat} {S S1 : zS} (h : Inv A0 B0 k S) {cc : Nat} {W : zWd} (c4 : cc < 4) (c3 : gI S 11 0 3 = nI cc) (cW : WR wq S W cc 1306 0 1308 0) {T : Nat → Nat → Nat → Prop} (f : Fg T (bmp S) S1) (hT : ∀ a b k, T a b k → cb_t cc a b k) (h5 : gE S1 5000 0 = true) (hn5 : gN S1 5000 0 = 1) (hBs : BsC S1 cc W) (hBc : Bc S1 cc W) : Inv A0 B0 (k + 1) S1 := by
  obtain ⟨-, cc', W', bs, hh, q, d4, d3, dW, cT, cB, cV, cK, cS, cP, cL, cKP, cF, cBr, cBs, cI, cSl, cBl⟩ := id h
  obtain ⟨rfl, rfl⟩ := wr_uniq c4 d4 c3 d3 cW dW
  have nx : ∀ a b k, ¬ cb_t cc' a b k → ¬ T a b k := fun a b k q z => q (hT _ _ _ z)
  refine h.cach c4 c3 cW f (fun a b k z => (hT _ _ _ z).1) h5 hn5 ?_ ⟨hh, q, ?_⟩ ?_ hBs hBc
  · exact SR.fg (S := bmp S) lo_sq cS f (by decide) (fun k hk => nx _ _ _ (by simp [cb_t])) (fun k => ⟨nx _ _ _ (by simp [cb_t]), nx _ _ _ (by simp [cb_t])⟩) (fun k a b => nx _ _ _ (by simp [cb_t]))
  · exact Pst.fg (S := bmp S) lo_sq cP f ⟨nx _ _ _ (by simp [cb_t]), nx _ _ _ (by simp [cb_t]), nx _ _ _ (by simp [cb_t])⟩ (fun j k a b => ⟨fun _ => nx _ _ _ (by simp [cb_t]), nx _ _ _ (by simp [cb_t]), nx _ _ _ (by simp [cb_t])⟩) (fun k => nx _ _ _ (by simp [cb_t]))
  · exact fun j hj => TL.fg4 (S := bmp S) (cL j hj) f ⟨nx _ _ _ (by simp [cb_t]), nx _ _ _ (by simp [cb_t]), nx _ _ _ (by simp [cb_t])⟩
theorem tBy_n {a b k : Nat} (h : tBy a b k = true) : b = 0 ∧ (a = 12 ∧ (k = 20 ∨ k = 21 ∨ k = 33 ∨ k = 38 ∨ k = 39 ∨ k = 40 ∨ k = 43) ∨ 1316 ≤ a ∧ a ≤ 1342) := by
  unfold tBy tSe at h
  simp only [Bool.or_eq_true] at h
  rcases h with ((((h | h) | h) | h) | h) | h
  · simp only [Bool.and_eq_true, Bool.or_eq_true, beq_iff_eq, decide_eq_true_eq] at h
    refine ⟨h.1, Or.inr ?_⟩
    omega
  · simp [tTq] at h; omega
  · simp [tPt] at h; omega
  · simp [tPa] at h; omega
  · simp [tIv] at h; omega
  · simp [tOw] at h; omega
theorem tRe_n {cc a b k : Nat} (h : tRe cc a b k) : cb_t cc a b k := by
  unfold tRe at h
  unfold cb_t ca_t sm_t
  omega
/-- scratch rows of both -/
def sc_t (a b k : Nat) : Prop := b = 0 ∧ (a = 12 ∧ (k = 0 ∨ k = 20 ∨ k = 21 ∨ k = 33 ∨ k = 38 ∨ k = 39 ∨ k = 40 ∨ k = 43 ∨ k = 47 ∨ k = 48 ∨ k = 90) ∨ 1316 ≤ a ∧ a ≤ 1346 ∨ 1359 ≤ a ∧ a ≤ 1369 ∨ 1100 ≤ a ∧ a ≤ 1102 ∨ a = 10 ∨ a = 601) ∨ a = 10600
theorem sc_cb {cc a b k : Nat} (h : sc_t a b k) : cb_t cc a b k := by
  unfold sc_t at h
  unfold cb_t ca_t sm_t
  omega
theorem tBz_n {cc a b k : Nat} (h : tBz cc a b k) : tRe cc a b k ∨ sc_t a b k := by
  rcases h with h | h | h
  · exact Or.inl h
  · have := tBy_n h
    exact Or.inr (by unfold sc_t; omega)
  · exact Or.inr (by unfold sc_t; omega)
theorem re_sc {cc a b k : Nat} (h : tRe cc a b k ∨ sc_t a b k) : cb_t cc a b k := h.elim tRe_n sc_cb
theorem tNa_n {cc a b k : Nat} (h : tNa cc a b k) : tRe cc a b k ∨ sc_t a b k := by
  rcases h with h | h | h
  · exact tBz_n h
  · simp [tWx, tWc, tWb] at h
    exact Or.inr (by unfold sc_t; omega)
  · simp [tWq] at h
    exact Or.inr (by unfold sc_t; omega)
theorem tUn_n {cc a b k : Nat} (h : tUn cc a b k) : tRe cc a b k ∨ sc_t a b k ∨ a = 5000 ∧ b = 0 := by
  rcases h with (h | h | h) | h | h
  · exact Or.inl h
  · exact Or.inr (Or.inl (by unfold sc_t; omega))
  · exact Or.inr (Or.inl (by unfold sc_t; omega))
  · unfold tUr tSr0 at h
    simp only [Bool.or_eq_true] at h
    rcases h with ((h | h) | h) | h
    · have := tBy_n h
      exact Or.inr (Or.inl (by unfold sc_t; omega))
    · simp at h; exact Or.inr (Or.inl (by unfold sc_t; omega))
    · simp [tBk] at h; exact Or.inr (Or.inl (by unfold sc_t; omega))
    · simp at h; exact Or.inr (Or.inl (by unfold sc_t; omega))
  · exact Or.inr (Or.inr h)
theorem tRe_no {cc a b k : Nat} (h : tRe cc a b k) : ¬ (109 ≤ a ∧ a ≤ 110) ∧ a ≠ 5000 := by unfold tRe at h; omega
theorem sc_no {a b k : Nat} (h : sc_t a b k) : ¬ (109 ≤ a ∧ a ≤ 110) ∧ a ≠ 5000 := by unfold sc_t at h; omega
theorem inv_cb {A0 B0 k : Nat} {S S1 : zS} (h : Inv A0 B0 k S) {cc : Nat} {W : zWd} (c4 : cc < 4) (c3 : gI S 11 0 3 = nI cc) (cW : WR wq S W cc 1306 0 1308 0) {T : Nat → Nat → Nat → Prop} (f : Fg T S S1) (hT : ∀ a b k, T a b k → tRe cc a b k ∨ sc_t a b k) (h5 : gE S1 5000 0 = true) (hBs : BsC S1 cc W) (hb : Bc S cc W) : Inv A0 B0 (k + 1) S1 := by
  have nx : ∀ a b k, 109 ≤ a ∧ a ≤ 110 ∨ a = 5000 → ¬ T a b k := fun a b k ha z => by
    rcases hT _ _ _ z with y | y
    · have := tRe_no y; omega
    · have := sc_no y; omega
  exact h.cacb c4 c3 cW (fg_bm f) (fun a b k z => re_sc (hT _ _ _ z)) h5 ((f.N (by decide) (nx _ _ _ (by omega))).trans h.1.2.2.1) hBs (hb.fg f (fun k => ⟨nx _ _ _ (by omega), nx _ _ _ (by omega)⟩))
theorem st_size {NN A0 B0 : Nat} : pr_size NN (Inv A0 B0) := fun k S a _ h => by
  obtain ⟨-, cc, W, bs, hh, q, c4, c3, cW, cT, cB, cV, cK, cS, cP, cL, cKP, cF, cBr, cBs, cI, cSl, cBl⟩ := id h
  obtain ⟨hW, hC, hR⟩ := cW.c
  exact pg_keep (pg_size h.1.1 c3 c4 cW cBs a) h.1.2.1 (fun S2 z h5 => inv_cb h c4 c3 cW z.1 (fun _ _ _ y => tBz_n y) h5 z.2 ((cSl cc c4 (Or.inl c3)).1 W hW hC).2)
theorem st_normalAt {NN A0 B0 : Nat} : pr_normalAt NN (Inv A0 B0) := fun k S a b c _ h => by
  obtain ⟨-, cc, W, bs, hh, q, c4, c3, cW, cT, cB, cV, cK, cS, cP, cL, cKP, cF, cBr, cBs, cI, cSl, cBl⟩ := id h
  obtain ⟨hW, hC, hR⟩ := cW.c
  exact pg_keep (pg_normalAt h.1.1 c3 c4 cW cBs a b c) h.1.2.1 (fun S2 z h5 => inv_cb h c4 c3 cW z.1 (fun _ _ _ y => tNa_n y) h5 z.2 ((cSl cc c4 (Or.inl c3)).1 W hW hC).2)
theorem inv_cc {A0 B0 k : Nat} {S S1 : zS} (h : Inv A0 B0 k S) {cc : Nat} {W : zWd} (c4 : cc < 4) (c3 : gI S 11 0 3 = nI cc) (cW : WR wq S W cc 1306 0 1308 0) (h5 : gE S1 5000 0 = true) (z : CacheC S S1 W cc) : Inv A0 B0 (k + 1) S1 := by
  obtain ⟨f, hB, hb⟩ := z
  have hf : ∀ a b k, tBb cc a b k → cb_t cc a b k ∧ a ≠ 5000 := fun a b k y => by
    rcases y with y | y | y
    · exact ⟨re_sc (tBz_n y), by rcases tBz_n y with y | y; exact (tRe_no y).2; exact (sc_no y).2⟩
    · unfold cb_t ca_t sm_t; omega
    · simp [tBo] at y
      unfold cb_t ca_t sm_t; omega
  exact h.cacb c4 c3 cW (fg_bm f) (fun a b k y => (hf a b k y).1) h5 ((f.N (by decide) (fun y => (hf _ _ _ y).2 rfl)).trans h.1.2.2.1) hB hb
theorem st_bare {NN A0 B0 : Nat} : pr_bare NN (Inv A0 B0) := fun k S a _ h => by
  obtain ⟨-, cc, W, bs, hh, q, c4, c3, cW, cT, cB, cV, cK, cS, cP, cL, cKP, cF, cBr, cBs, cI, cSl, cBl⟩ := id h
  obtain ⟨hW, hC, hR⟩ := cW.c
  exact pg_keep (pg_bare h.1.1 c3 c4 cW cBs ((cSl cc c4 (Or.inl c3)).1 W hW hC).2 a) h.1.2.1 (fun S2 z h5 => inv_cc h c4 c3 cW h5 z)
theorem st_closed {NN A0 B0 : Nat} : pr_closed NN (Inv A0 B0) := fun k S a _ h => by
  obtain ⟨-, cc, W, bs, hh, q, c4, c3, cW, cT, cB, cV, cK, cS, cP, cL, cKP, cF, cBr, cBs, cI, cSl, cBl⟩ := id h
  obtain ⟨hW, hC, hR⟩ := cW.c
  exact pg_keep (pg_closed h.1.1 c3 c4 cW cBs ((cSl cc c4 (Or.inl c3)).1 W hW hC).2 a) h.1.2.1 (fun S2 z h5 => inv_cc h c4 c3 cW h5 z)
theorem tKb_n {cc a b k : Nat} (h : tKb cc a b k) : ca_t cc a b k ∧ ¬ (109 ≤ a ∧ a ≤ 110) ∧ a ≠ 5000 := by
  rcases h with h | h | h | h | h | h | h
  · exact ⟨(tRe_n h).1, tRe_no h⟩
  · unfold tMd at h; unfold ca_t sm_t; omega
  · unfold tKp at h; unfold ca_t sm_t; omega
  · unfold tKs at h; unfold ca_t sm_t; omega
  · have := tBy_n h
    unfold ca_t sm_t; omega
  · simp [tAT, tPa] at h
    unfold ca_t sm_t; omega
  · unfold ca_t sm_t; omega
theorem inv_kb {A0 B0 k : Nat} {S S1 : zS} (h : Inv A0 B0 k S) {cc hh q : Nat} {W : zWd} (c4 : cc < 4) (c3 : gI S 11 0 3 = nI cc) (cW : WR wq S W cc 1306 0 1308 0) (h5 : gE S1 5000 0 = true) (hb : Bc S cc W) (z : CacheB S S1 W cc ∨ KeptB S S1 W cc hh q) : Inv A0 B0 (k + 1) S1 := by
  rcases z with ⟨z1, z2⟩ | ⟨f, z2, z3, z4, z5⟩
  · exact inv_cb h c4 c3 cW z1 (fun _ _ _ y => tBz_n y) h5 z2 hb
  · have nx : ∀ a b k, 109 ≤ a ∧ a ≤ 110 ∨ a = 5000 → ¬ tKb cc a b k := fun a b k ha z => by
      have := (tKb_n z).2
      omega
    exact h.cach c4 c3 cW (fg_bm f) (fun a b k y => (tKb_n y).1) h5 ((f.N (by decide) (nx _ _ _ (by omega))).trans h.1.2.2.1) z3 ⟨_, _, z4⟩ z5 z2 (hb.fg f (fun k => ⟨nx _ _ _ (by omega), nx _ _ _ (by omega)⟩))
theorem st_reduce {NN A0 B0 : Nat} : pr_reduce NN (Inv A0 B0) := fun k S _ h => by
  obtain ⟨-, cc, W, bs, hh, q, c4, c3, cW, cT, cB, cV, cK, cS, cP, cL, cKP, cF, cBr, cBs, cI, cSl, cBl⟩ := id h
  obtain ⟨hW, hC, hR⟩ := cW.c
  exact pg_keep (pg_reduce h.1.1 c3 c4 cW cBs cP cS cL) h.1.2.1 (fun S2 z h5 => inv_kb h c4 c3 cW h5 ((cSl cc c4 (Or.inl c3)).1 W hW hC).2 z)
theorem st_drawn {NN A0 B0 : Nat} : pr_drawn NN (Inv A0 B0) := fun k S a y _ h => by
  obtain ⟨-, cc, W, bs, hh, q, c4, c3, cW, cT, cB, cV, cK, cS, cP, cL, cKP, cF, cBr, cBs, cI, cSl, cBl⟩ := id h
  obtain ⟨hW, hC, hR⟩ := cW.c
  exact pg_keep (pg_drawn h.1.1 c3 c4 cW cBs cP cS cL a y) h.1.2.1 (fun S2 z h5 => inv_kb h c4 c3 cW h5 ((cSl cc c4 (Or.inl c3)).1 W hW hC).2 z)
theorem st_undone {NN A0 B0 : Nat} : pr_undone NN (Inv A0 B0) := fun n f k S a L Po _ h hL K => by
  obtain ⟨-, cc, W, bs, hh, q, c4, c3, cW, cT, cB, cV, cK, cS, cP, cL, cKP, cF, cBr, cBs, cI, cSl, cBl⟩ := id h
  obtain ⟨hW, hC, hR⟩ := cW.c
  refine pg_undone h.1.1 h.1.2.1 h.1.2.2.1 c3 c4 cW cBs a hL (fun v S1 hv hs1 hE1 z => K v S1 hv hs1 (Ok.mono (Ok.keepE z) fun r2 S2 y => ?_))
  obtain ⟨⟨b, y1, y2, y3⟩, hE2⟩ := y
  refine ⟨b, y1, y2, Ok.mono (Ok.keepE y3) fun r3 S3 x => ?_⟩
  obtain ⟨⟨x1, x2, ⟨x3, x5⟩, x4⟩, hE3⟩ := x
  refine ⟨x1, x2, ?_⟩
  have nx : ∀ a b k, 109 ≤ a ∧ a ≤ 110 → ¬ tUn cc a b k := fun a b k ha z => by
    rcases tUn_n z with y | y | y
    · have := tRe_no y; omega
    · have := sc_no y; omega
    · omega
  refine h.cacb c4 c3 cW x3 (fun a b k y => ?_) (hE3 _ _ (hE2 _ _ hE1)) x4 x5 (Bc.fg (S := bmp S) ((cSl cc c4 (Or.inl c3)).1 W hW hC).2 x3 (fun k => ⟨nx _ _ _ (by omega), nx _ _ _ (by omega)⟩))
  rcases tUn_n y with y | y | y
  · exact tRe_n y
  · exact sc_cb y
  · unfold cb_t ca_t sm_t; omega
