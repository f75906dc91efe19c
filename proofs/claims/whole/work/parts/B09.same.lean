/-! what holds between calls, where the world stays -/
def sm_t (a b k : Nat) : Prop := a ≠ 9 ∧ ¬ (1002 ≤ a ∧ a ≤ 1009) ∧ a ≠ 1204 ∧ (a = 11 → k ≠ 3) ∧ a ≠ 7 ∧ a ≠ 801 ∧ (a = 8 ∨ a = 902 ∨ a = 903 → b ≠ 1 ∧ b ≠ 2) ∧ (a = 1306 → 1173 ≤ k) ∧ (a = 1308 → 3 ≤ k) ∧ a ≠ 1391 ∧ a ≠ 1392 ∧ a ≠ 1393
theorem KP.sm {S S1 : zS} {m : Nat} (hm : m < 2) (h : KP sq wq S m) {T : Nat → Nat → Nat → Prop} (f : Fg T S S1) (hT : ∀ a b k, T a b k → sm_t a b k) : KP sq wq S1 m := by
  have nx : ∀ a b k, ¬ sm_t a b k → ¬ T a b k := fun a b k q z => q (hT _ _ _ z)
  have e4 : gI S1 1204 0 m = gI S 1204 0 m := f.I (by decide) (nx _ _ _ (by simp [sm_t]))
  have e3 : gI S1 1393 0 m = gI S 1393 0 m := f.I (by decide) (nx _ _ _ (by simp [sm_t]))
  rcases h with ⟨h1, h2⟩ | ⟨s, V, hs, h1, h2, h3, h4, h5⟩
  · exact Or.inl ⟨e4.trans h1, e3.trans h2⟩
  · have hm12 : m + 1 = 1 ∨ m + 1 = 2 := by omega
    refine Or.inr ⟨s, V, hs, e4.trans h1, e3.trans h2, h3.cong wlo_wq (fun a k ha => by rcases ha with rfl | rfl | rfl | rfl | rfl | rfl <;> exact f.I (by decide) (nx _ _ _ (by simp [sm_t]))) (fun a k ha => by rcases ha with rfl | rfl <;> exact f.J (by decide) (nx _ _ _ (by simp [sm_t]))) (fun k hk => f.I (by decide) (nx _ _ _ (by simp [sm_t]))) (fun i hi => f.J (by decide) (nx _ _ _ (by simp [sm_t]))), h4.cong (f.I (by decide) (nx _ _ _ (by simp [sm_t]))) (f.I (by decide) (nx _ _ _ (by simp [sm_t]))) (fun k hk => f.I (by decide) (nx _ _ _ (by simp [sm_t]))) (fun k hk => f.I (by decide) (nx _ _ _ (by simp [sm_t]))), SR.fg lo_sq h5 f (by decide) (fun k hk => nx _ _ _ (by rcases hm12 with e | e <;> simp [sm_t, e])) (fun k => ⟨nx _ _ _ (by rcases hm12 with e | e <;> simp [sm_t, e]), nx _ _ _ (by rcases hm12 with e | e <;> simp [sm_t, e])⟩) (fun k a b => nx _ _ _ (by simp [sm_t]))⟩
def Pck (S1 : zS) (cc : Nat) (W : zWd) : Prop := ∃ bs h q, TapeR S1 bs ∧ SR sq S1 W 0 1306 1173 ∧ Pst sq S1 W h q ∧ TLs S1 ∧ gI S1 4 0 14 = gI S1 12 0 13 ∧ gI S1 3 0 1 = gI S1 12 0 82 ∧ BsC S1 cc W ∧ Ini S1 ∧ Sls S1 ∧ Bl3 S1
theorem Inv.same {A0 B0 k : Nat} {S S1 : zS} (h : Inv A0 B0 k S) {cc : Nat} {W : zWd} (c4 : cc < 4) (c3 : gI S 11 0 3 = nI cc) (cW : WR wq S W cc 1306 0 1308 0) {T : Nat → Nat → Nat → Prop} (f : Fg T (bmp S) S1) (hT : ∀ a b k, T a b k → sm_t a b k) (h5 : gE S1 5000 0 = true) (hn5 : gN S1 5000 0 = 1) (hp : Pck S1 cc W) : Inv A0 B0 (k + 1) S1 := by
  obtain ⟨⟨h1, h2, h3, h4, h4'⟩, cc', W', bs, hh, q, d4, d3, dW, cT, cB, cV, cK, cS, cP, cL, cKP, cF, cBr, cBs, cI, cSl, cBl⟩ := h
  obtain ⟨rfl, rfl⟩ := wr_uniq c4 d4 c3 d3 cW dW
  have nx : ∀ a b k, ¬ sm_t a b k → ¬ T a b k := fun a b k q z => q (hT _ _ _ z)
  have eI : ∀ a b k, ¬ sm_t a b k → a ≠ 99999 → gI S1 a b k = gI S a b k := fun a b k n m => f.I m (nx _ _ _ n)
  have eJ : ∀ a b k, ¬ sm_t a b k → a ≠ 99999 → gJ S1 a b k = gJ S a b k := fun a b k n m => f.J m (nx _ _ _ n)
  have r1 : gC S1 + pC S1 ≤ gC S + 1 + pC S := f.2.2.2.2.1
  have r2 : gQ S1 + pQ S1 ≤ gQ S + 6 + pQ S := f.2.2.2.2.2
  obtain ⟨bs1, hh1, q1, p1, p2, p3, p4, p5, p6, p7, p8, p9, p10⟩ := hp
  refine ⟨⟨f.sd, h5, hn5, by omega, by omega⟩, cc', W', bs1, hh1, q1, d4, (eI _ _ _ (by simp [sm_t]) (by decide)).trans d3, ?_, p1, ?_, ?_, ?_, p2, p3, p4, ?_, p5, p6, p7, p8, p9, p10⟩
  · exact cW.cong wlo_wq (fun a k ha => by rcases ha with rfl | rfl | rfl | rfl | rfl | rfl <;> exact eI _ _ _ (by simp [sm_t]) (by decide)) (fun a k ha => by rcases ha with rfl | rfl <;> exact eJ _ _ _ (by simp [sm_t]) (by decide)) (fun k hk => eI _ _ _ (by simp [sm_t] <;> omega) (by decide)) (fun i hi => eJ _ _ _ (by simp [sm_t] <;> omega) (by decide))
  · exact cB.cong (eI _ _ _ (by simp [sm_t]) (by decide)) (eI _ _ _ (by simp [sm_t]) (by decide)) (fun k hk => eI _ _ _ (by simp [sm_t]) (by decide)) (fun k hk => eI _ _ _ (by simp [sm_t] <;> omega) (by decide))
  · intro k hk
    obtain ⟨v, v1, v2⟩ := cV k hk
    exact ⟨v, (eI _ _ _ (by simp [sm_t]) (by decide)).trans v1, v2⟩
  · intro m hm s hs hq V hV hc k hk
    have e4 : gI S1 1204 0 m = gI S 1204 0 m := eI _ _ _ (by simp [sm_t]) (by decide)
    obtain ⟨v, v1, v2⟩ := cK m hm s hs (e4.symm.trans hq) V hV (hc.back (S := bmp S) f (fun a k ha => nx _ _ _ (fun q => by have h1 := q.1; have h2 := q.2.1; omega))) k hk
    exact ⟨v, (eI _ _ _ (by simp [sm_t]) (by decide)).trans v1, v2⟩
  · exact fun m hm => KP.sm (S := bmp S) hm (cKP m hm) f hT
/-! parts of it that stay -/
theorem TapeR.sm {S S1 : zS} {bs : List Nat} (h : TapeR S bs) {T : Nat → Nat → Nat → Prop} (f : Fg T S S1) (t : ¬ T 11 0 1 ∧ ¬ T 12 0 2 ∧ (∀ k, ¬ T 1200 0 k) ∧ ∀ k, ¬ T 1301 0 k) : TapeR S1 bs := by
  obtain ⟨t1, t2, t3, t4, t5⟩ := h
  exact ⟨t1, (f.I (by decide) t.1).trans t2, (f.I (by decide) t.2.1).trans t3, ⟨fun k hk => (f.I (by decide) (t.2.2.1 k)).trans (t4.1 k hk), t4.2⟩, ⟨fun k hk => (f.I (by decide) (t.2.2.2 k)).trans (t5.1 k hk), t5.2⟩⟩
theorem Bl3.sm {S S1 : zS} (h : Bl3 S) {T : Nat → Nat → Nat → Prop} (f : Fg T S S1) (t : ¬ T 200 0 0 ∧ ¬ T 201 0 0 ∧ ¬ T 202 0 0) : Bl3 S1 := by
  obtain ⟨L, b1, b2, b3, b4⟩ := h
  exact ⟨L, b1, (f.N (by decide) t.1).trans b2, (f.N (by decide) t.2.1).trans b3, (f.N (by decide) t.2.2).trans b4⟩
theorem CB.ini {S : zS} {b n : Nat} {W : zWd} {mk : Nat → Nat → Nat} {rl : Nat → Nat → Nat → Nat} (h : CB S b W n mk rl) : gI S 103 b 1 = nI 0 ∧ gI S 106 b 1 = nI 0 ∧ 512 ≤ gN S 107 b ∧ gN S 107 b ≤ 160000 := by
  obtain ⟨h1, h2, h3, h4, h5, h6, h7, h8, h9, h10⟩ := h
  have r0 : tfr W 1 = 0 := by show 0 + tc W 0 = 0; rfl
  have r1 : rfr W 1 = 0 := by show 0 + tri 0 = 0; decide
  rcases Nat.eq_zero_or_pos n with z | z
  · subst z
    exact ⟨by rw [h5, r0], by rw [h6, r1], h8, h9⟩
  · have hl := h4 1 (Nat.le_refl _) z
    exact ⟨by rw [hl.1.1, r0], by rw [hl.2.2.1, r1], h8, h9⟩
/-- one slot was built on -/
theorem Ini.re {S S1 : zS} (h : Ini S) {s : Nat} {T : Nat → Nat → Nat → Prop} (f : Fg T S S1) (t0 : ∀ b, ¬ T 1006 b 0) (t : ∀ b x k, b ≠ s → 103 ≤ x → x ≤ 108 → ¬ T x b k) (hc : s < 4 → ∃ V n mk rl, CB S1 s V n mk rl) : Ini S1 := fun b hb => by
  obtain ⟨h1, h2, h3, h4, h5⟩ := h b hb
  by_cases e : b = s
  · subst e
    obtain ⟨V, n, mk, rl, c⟩ := hc hb
    exact ⟨(f.I (by decide) (t0 _)).trans h1, c.ini⟩
  · exact ⟨(f.I (by decide) (t0 _)).trans h1, (f.I (by decide) (t b _ _ e (by decide) (by decide))).trans h2, (f.I (by decide) (t b _ _ e (by decide) (by decide))).trans h3, by rw [f.N (by decide) (t b _ _ e (by decide) (by decide))]; exact h4, by rw [f.N (by decide) (t b _ _ e (by decide) (by decide))]; exact h5⟩
/-- slots in use stay so -/
theorem Sls.of {S S1 : zS} (h : Sls S) {T : Nat → Nat → Nat → Prop} (f : Fg T S S1) (t : ¬ T 11 0 3 ∧ (∀ k, ¬ T 1204 0 k)) (g : ∀ b, b < 4 → Slot S b → Slot S1 b) (g2 : ∀ b, b < 4 → DcS S b → DcS S1 b) : Sls S1 := fun b hb hq => by
  rw [f.I (by decide) t.1, f.I (by decide) (t.2 0), f.I (by decide) (t.2 1)] at hq
  exact ⟨g b hb (h b hb hq).1, g2 b hb (h b hb hq).2⟩
/-- a slot on which levels were built -/
theorem Slot.re {S S1 : zS} {s : Nat} {W : zWd} (hW : Wok W) (hC : wqC W (fun a k => gI S a s k) (fun a k => gJ S a s k)) {T : Nat → Nat → Nat → Prop} (f : Fg T S S1) (t : ∀ b a k, a = 9 ∨ 1002 ≤ a ∧ a ≤ 1009 → ¬ T a b k) (t1 : ∀ b, b ≠ s → ¬ T 0 b 2 ∧ ∀ x k, 103 ≤ x → x ≤ 110 → ¬ T x b k) (hB : ∃ n mk rl, CB S1 s W n mk rl) (hbc : Bc S1 s W) {b : Nat} (h : Slot S b) : Slot S1 b := by
  by_cases e : b = s
  · subst e
    intro V hV hq
    have := wqC_uniq hV hW (hq.back f (t b)) hC
    subst this
    exact ⟨hB, hbc⟩
  · exact h.fg f (t1 b e) (t b)
