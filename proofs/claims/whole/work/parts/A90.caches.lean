/-! the caches' part of what holds between calls -/
/-- what no plain call touches -/
def nice (a _b k : Nat) : Prop := (a = 12 → k ≠ 43) ∧ (a = 1322 → k < 1173) ∧ (a = 1323 → k = 0) ∧ ¬ (1324 ≤ a ∧ a ≤ 1334) ∧ a ≠ 1342 ∧ a ≠ 0 ∧ a ≠ 9 ∧ ¬ (103 ≤ a ∧ a ≤ 111) ∧ ¬ (1002 ≤ a ∧ a ≤ 1009) ∧ a ≠ 1204
def nic0 (a _b _k : Nat) : Prop := a ≠ 0 ∧ a ≠ 9 ∧ ¬ (103 ≤ a ∧ a ≤ 111) ∧ ¬ (1002 ≤ a ∧ a ≤ 1009) ∧ a ≠ 1204
def Nic0 (T : Nat → Nat → Nat → Prop) : Prop := ∀ a b k, T a b k → nic0 a b k
def Nice (T : Nat → Nat → Nat → Prop) : Prop := ∀ a b k, T a b k → nice a b k
/-- the dual's sizes, for the world that a slot's rows hold -/
def DcS (S : zS) (b : Nat) : Prop := ∀ V, Wok V → wqC V (fun a k => gI S a b k) (fun a k => gJ S a b k) → DcK S b V
theorem DcK.fg {S S1 : zS} {b : Nat} {V : zWd} (h : DcK S b V) {T : Nat → Nat → Nat → Prop} (f : Fg T S S1) (t0 : ¬ T 0 b 12) (t1 : ∀ k, ¬ T 111 b k) : DcK S1 b V := by
  obtain ⟨K, k1, k2, k3⟩ := h
  exact ⟨K, k1, (f.I (by omega) t0).trans k2, fun mk R q k a c => (f.I (by omega) (t1 k)).trans (k3 mk R q k a c)⟩
theorem DcS.fg {S S1 : zS} {b : Nat} (h : DcS S b) {T : Nat → Nat → Nat → Prop} (f : Fg T S S1) (t0 : ¬ T 0 b 12) (t1 : ∀ k, ¬ T 111 b k) (t : ∀ a k, a = 9 ∨ 1002 ≤ a ∧ a ≤ 1009 → ¬ T a b k) : DcS S1 b := fun V hV hq => (h V hV (hq.back f t)).fg f t0 t1
theorem DcS.mk {S : zS} {b : Nat} {W : zWd} (hW : Wok W) (hq : wqC W (fun a k => gI S a b k) (fun a k => gJ S a b k)) (h : DcK S b W) : DcS S b := fun V hV h2 => by
  rw [wqC_uniq hV hW h2 hq]
  exact h
theorem DcS.get {S : zS} {b : Nat} {W : zWd} (h : DcS S b) (hW : Wok W) (hq : wqC W (fun a k => gI S a b k) (fun a k => gJ S a b k)) : DcK S b W := h W hW hq
/-- rows of all four slots that every building of levels starts from -/
def Ini (S : zS) : Prop := ∀ b, b < 4 → gI S 1006 b 0 = nI 0 ∧ gI S 103 b 1 = nI 0 ∧ gI S 106 b 1 = nI 0 ∧ 512 ≤ gN S 107 b ∧ gN S 107 b ≤ 160000
theorem Ini.fg {S S1 : zS} (h : Ini S) {T : Nat → Nat → Nat → Prop} (f : Fg T S S1) (t : ∀ b, ¬ T 1006 b 0 ∧ ¬ T 103 b 1 ∧ ¬ T 106 b 1 ∧ ¬ T 107 b 0) : Ini S1 := fun b hb => by
  obtain ⟨h1, h2, h3, h4, h5⟩ := h b hb
  obtain ⟨t1, t2, t3, t4⟩ := t b
  exact ⟨(f.I (by omega) t1).trans h1, (f.I (by omega) t2).trans h2, (f.I (by omega) t3).trans h3, by rw [f.N (by omega) t4]; exact h4, by rw [f.N (by omega) t4]; exact h5⟩
/-- slots in use: the one at hand and those kept -/
def Sls (S : zS) : Prop := ∀ b, b < 4 → (gI S 11 0 3 = nI b ∨ gI S 1204 0 0 = nI b ∨ gI S 1204 0 1 = nI b) → Slot S b ∧ DcS S b
theorem Sls.nice {S S1 : zS} (h : Sls S) {T : Nat → Nat → Nat → Prop} (hT : Nic0 T) (t3 : ¬ T 11 0 3) (f : Fg T S S1) : Sls S1 := fun b hb hq => by
  have e3 : gI S1 11 0 3 = gI S 11 0 3 := f.I (by omega) t3
  have e4 : ∀ k, gI S1 1204 0 k = gI S 1204 0 k := fun k => f.I (by omega) (fun z => by have := hT _ _ _ z; unfold nic0 at this; omega)
  rw [e3, e4, e4] at hq
  obtain ⟨h1, h2⟩ := h b hb hq
  have n : ∀ a k, a = 0 ∨ a = 9 ∨ 103 ≤ a ∧ a ≤ 111 ∨ 1002 ≤ a ∧ a ≤ 1009 → ¬ T a b k := fun a k ha z => by
    have := hT _ _ _ z
    unfold nic0 at this
    omega
  exact ⟨h1.fg f ⟨n _ _ (by omega), fun x k a c => n _ _ (by omega)⟩ (fun a k ha => n _ _ (by omega)), h2.fg f (n _ _ (by omega)) (fun k => n _ _ (by omega)) (fun a k ha => n _ _ (by omega))⟩
theorem IvI.fgq {S S1 : zS} (h : IvI S) {T : Nat → Nat → Nat → Prop} (f : Fg T S S1) (t0 : ¬ T 12 0 43) (t1 : ∀ k, ¬ T 1342 0 k) : IvI S1 := fun P a b c => by
  have := h P a b ((f.I (by omega) t0).symm.trans c)
  intro x x1 x2
  obtain ⟨y, y1, y2⟩ := this x x1 x2
  exact ⟨y, (f.I (by omega) (t1 x)).trans y1, y2⟩
/-- the caches survive a call that only made the own world anew -/
theorem BsC.ow {S S1 : zS} {cc : Nat} {W : zWd} (h : BsC S cc W) {T : Nat → Nat → Nat → Prop} (hT : Nice T) (f : Fg T S S1) (o : OwS S S1) (hO : Cw S1) : BsC S1 cc W := by
  obtain ⟨⟨n, mk, rl, hB⟩, hcr, -, hI⟩ := h
  have nx : ∀ a b k, ¬ nice a b k → ¬ T a b k := fun a b k q z => q (hT _ _ _ z)
  refine ⟨⟨n, mk, rl, hB.fg f ⟨nx _ _ _ (by unfold nice; omega), fun x k a b => nx _ _ _ (by unfold nice; omega)⟩⟩, fun z => ?_, hO, hI.fgq f (nx _ _ _ (by unfold nice; omega)) (fun k => nx _ _ _ (by unfold nice; omega))⟩
  rcases o with ⟨o1, o2, o3, o4⟩ | ⟨o1, o2, o3, o4⟩
  · obtain ⟨L, p, b, q⟩ := hcr o1
    refine ⟨L, p, b, q.fg (fun x k a c => ?_) (fun k => f.J (by omega) (nx _ _ _ (by unfold nice; omega)))⟩
    by_cases e : x = 1322
    · rw [e]
      by_cases e2 : k < 1173
      · exact o3 k e2
      · exact f.I (by omega) (nx _ _ _ (by unfold nice; omega))
    · by_cases e1 : x = 1323
      · rw [e1]
        by_cases e2 : k = 0
        · rw [e2]; exact o4
        · exact f.I (by omega) (nx _ _ _ (by unfold nice; omega))
      · exact f.I (by omega) (nx _ _ _ (by unfold nice; omega))
  · exact ⟨0, _, _, RB.zero o3⟩
/-- and one that left the own world alone -/
theorem BsC.pl {S S1 : zS} {cc : Nat} {W : zWd} (h : BsC S cc W) {T : Nat → Nat → Nat → Prop} (hT : Nice T) (f : Fg T S S1) (t : ¬ T 12 0 33 ∧ (∀ k, ¬ T 1322 0 k) ∧ (∀ k, ¬ T 1323 0 k) ∧ ∀ k, k < 1173 → ¬ T 1306 0 k) : BsC S1 cc W := by
  obtain ⟨⟨n, mk, rl, hB⟩, hcr, hO, hI⟩ := h
  have nx : ∀ a b k, ¬ nice a b k → ¬ T a b k := fun a b k q z => q (hT _ _ _ z)
  have rc : RcI S S1 := ⟨f.I (by omega) t.1, f.I (by omega) (nx _ _ _ (by unfold nice; omega)), fun x k a b => ?_, fun k => f.J (by omega) (nx _ _ _ (by unfold nice; omega)), fun k hk => f.I (by omega) (t.2.2.2 k hk)⟩
  · exact ⟨⟨n, mk, rl, hB.fg f ⟨nx _ _ _ (by unfold nice; omega), fun x k a b => nx _ _ _ (by unfold nice; omega)⟩⟩, rc.rc.1 hcr, (rc.rc (W := W)).2.1 hO, (rc.rc (W := W)).2.2 hI⟩
  · by_cases e : x = 1322
    · rw [e]; exact f.I (by omega) (t.2.1 k)
    · by_cases e1 : x = 1323
      · rw [e1]; exact f.I (by omega) (t.2.2.1 k)
      · exact f.I (by omega) (nx _ _ _ (by unfold nice; omega))
/-! which calls are plain -/
theorem nice_tRef : Nice tRef := fun a b k z => by unfold tRef at z; unfold nice; omega
theorem nice_tSm : Nice tSm := fun a b k z => by unfold tSm tMd tKp tRef tKs at z; unfold nice; omega
theorem nice_tOwn : Nice tOwn := fun a b k z => by
  rcases z with z | z | z
  · exact nice_tRef a b k z
  · simp [tRs, tRq, tNb, tNx, tAT, tPa] at z
    unfold nice; omega
  · unfold nice; omega
theorem nice_tRd : Nice tRd := fun a b k z => by
  rcases z with z | z | z | z | z
  · unfold tMd at z; unfold nice; omega
  · rcases z with z | z | z
    · unfold tTm tTy at z
      rcases z with z | z | z
      · unfold nice; omega
      · unfold nice; omega
      · simp [tTr, tCa, tSk] at z
        unfold nice; omega
    · simp [tBg] at z
      unfold nice; omega
    · unfold nice; omega
  · unfold tKp at z; unfold nice; omega
  · exact nice_tOwn a b k z
  · unfold tKs at z; unfold nice; omega
theorem nice_tRp : Nice tRp := fun a b k z => by
  rcases z with z | z | z
  · exact nice_tRd a b k z
  · simp [tSh] at z
    unfold nice; omega
  · simp [tPl] at z
    unfold nice; omega
