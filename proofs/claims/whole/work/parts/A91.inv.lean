/-! what holds between two calls -/
/-- kept tables: numbers below the prime of the world they were kept with -/
def KTv (S : zS) : Prop := ∀ m, m < 2 → ∀ s, s < 4 → gI S 1204 0 m = nI s → ∀ V, Wok V → wqC V (fun a k => gI S a s k) (fun a k => gJ S a s k) → ∀ k, k < 729 → ∃ v, gI S 801 (m + 1) k = nI v ∧ v < wP V
def Inv (A0 B0 k : Nat) (S : zS) : Prop := (Sd S ∧ gE S 5000 0 = true ∧ gN S 5000 0 = 1 ∧ gC S + pC S ≤ A0 + k ∧ gQ S + pQ S ≤ B0 + 6 * k) ∧ ∃ cc W bs h q, cc < 4 ∧ gI S 11 0 3 = nI cc ∧ WR wq S W cc 1306 0 1308 0 ∧ TapeR S bs ∧ TB S 0 1306 0 ∧ TbV S (wP W) ∧ KTv S ∧ SR sq S W 0 1306 1173 ∧ Pst sq S W h q ∧ TLs S ∧ (∀ m, m < 2 → KP sq wq S m) ∧ gI S 4 0 14 = gI S 12 0 13 ∧ gI S 3 0 1 = gI S 12 0 82 ∧ BsC S cc W ∧ Ini S ∧ Sls S ∧ Bl3 S
theorem Inv.stay {A0 B0 k : Nat} {S : zS} (h : Inv A0 B0 k S) : Inv A0 B0 (k + 1) S := by
  obtain ⟨⟨h1, h2, h3, h4, h5⟩, h6⟩ := h
  exact ⟨⟨h1, h2, h3, by omega, by omega⟩, h6⟩
theorem pg_keep {M1 M2 : mD} {n1 n2 : Nat} {A1 A2 : List zV} {S : zS} {Q P : zS → Prop} (h : Pg M1 n1 A1 M2 n2 A2 S Q) (h5 : gE S 5000 0 = true) (hq : ∀ S2, Q S2 → gE S2 5000 0 = true → P S2) : Pg M1 n1 A1 M2 n2 A2 S P := by
  refine Ok.mono (Ok.keepE h) fun r S1 z => ?_
  obtain ⟨⟨v, h1, h2, h3⟩, hE⟩ := z
  refine ⟨v, h1, h2, Ok.mono (Ok.keepE h3) fun r2 S2 y => ?_⟩
  obtain ⟨⟨g1, g2⟩, hE2⟩ := y
  exact ⟨g1, hq S2 g2 (hE2 _ _ (hE _ _ h5))⟩
theorem pgj_keep {M1 M2 : mD} {n1 n2 : Nat} {A1 A2 : List zV} {S : zS} {Q P : zS → Prop} (h : PgJ M1 n1 A1 M2 n2 A2 S Q) (h5 : gE S 5000 0 = true) (hq : ∀ S2, Q S2 → gE S2 5000 0 = true → P S2) : PgJ M1 n1 A1 M2 n2 A2 S P := by
  refine Ok.mono (Ok.keepE h) fun r S1 z => ?_
  obtain ⟨⟨v, h1, h2, h3⟩, hE⟩ := z
  refine ⟨v, h1, h2, Ok.mono (Ok.keepE h3) fun r2 S2 y => ?_⟩
  obtain ⟨⟨g1, g2⟩, hE2⟩ := y
  exact ⟨g1, hq S2 g2 (hE2 _ _ (hE _ _ h5))⟩
/-- rows of worlds, tables, sums and what is kept, as they were -/
def qu_t (a b k : Nat) : Prop := nic0 a b k ∧ a ≠ 11 ∧ (a = 12 → k ≠ 2 ∧ k ≠ 13 ∧ k ≠ 58 ∧ k ≠ 82) ∧ a ≠ 1200 ∧ a ≠ 1301 ∧ a ≠ 7 ∧ a ≠ 801 ∧ (a = 8 ∨ a = 902 ∨ a = 903 → 12 < b) ∧ a ≠ 1306 ∧ a ≠ 1308 ∧ a ≠ 1357 ∧ a ≠ 1391 ∧ a ≠ 1392 ∧ a ≠ 1393 ∧ (a = 4 → k ≠ 14) ∧ a ≠ 3 ∧ ¬ (200 ≤ a ∧ a ≤ 202)
theorem KP.qt {S S1 : zS} {m : Nat} (hm : m < 2) (h : KP sq wq S m) {T : Nat → Nat → Nat → Prop} (f : Fg T S S1) (hT : ∀ a b k, T a b k → qu_t a b k) : KP sq wq S1 m := by
  have nx : ∀ a b k, ¬ qu_t a b k → ¬ T a b k := fun a b k q z => q (hT _ _ _ z)
  have e4 : gI S1 1204 0 m = gI S 1204 0 m := f.I (by decide) (nx _ _ _ (by simp [qu_t, nic0] <;> omega))
  have e3 : gI S1 1393 0 m = gI S 1393 0 m := f.I (by decide) (nx _ _ _ (by simp [qu_t, nic0] <;> omega))
  rcases h with ⟨h1, h2⟩ | ⟨s, V, hs, h1, h2, h3, h4, h5⟩
  · exact Or.inl ⟨e4.trans h1, e3.trans h2⟩
  · refine Or.inr ⟨s, V, hs, e4.trans h1, e3.trans h2, h3.cong wlo_wq (fun a k ha => by rcases ha with rfl | rfl | rfl | rfl | rfl | rfl <;> exact f.I (by decide) (nx _ _ _ (by simp [qu_t, nic0]))) (fun a k ha => by rcases ha with rfl | rfl <;> exact f.J (by decide) (nx _ _ _ (by simp [qu_t, nic0]))) (fun k hk => f.I (by decide) (nx _ _ _ (by simp [qu_t, nic0] <;> omega))) (fun i hi => f.J (by decide) (nx _ _ _ (by simp [qu_t, nic0] <;> omega))), h4.cong (f.I (by decide) (nx _ _ _ (by simp [qu_t, nic0] <;> omega))) (f.I (by decide) (nx _ _ _ (by simp [qu_t, nic0] <;> omega))) (fun k hk => f.I (by decide) (nx _ _ _ (by simp [qu_t, nic0] <;> omega))) (fun k hk => f.I (by decide) (nx _ _ _ (by simp [qu_t, nic0] <;> omega))), h5.fg lo_sq f (by omega) (fun k hk => nx _ _ _ (by simp [qu_t, nic0] <;> omega)) (fun k => ⟨nx _ _ _ (by simp [qu_t, nic0] <;> omega), nx _ _ _ (by simp [qu_t, nic0] <;> omega)⟩) (fun k a b => nx _ _ _ (by simp [qu_t, nic0] <;> omega))⟩
/-- a call that leaves all that as it was, but for scratch -/
theorem Inv.quiet {A0 B0 k : Nat} {S S1 : zS} (h : Inv A0 B0 k S) {T : Nat → Nat → Nat → Prop} (f : Fg T (bmp S) S1) (hT : ∀ a b k, T a b k → qu_t a b k) (hTL : ∀ j, 12 < j → j < 19 → TL S1 j) (h5 : gE S1 5000 0 = true) (hn5 : gN S1 5000 0 = 1) (hB : ∀ cc W, cc < 4 → gI S 11 0 3 = nI cc → WR wq S W cc 1306 0 1308 0 → BsC S cc W → BsC S1 cc W) : Inv A0 B0 (k + 1) S1 := by
  obtain ⟨⟨h1, h2, h3, h4, h4'⟩, cc, W, bs, hh, q, c4, c3, cW, cT, cB, cV, cK, cS, cP, cL, cKP, cF, cBr, cBs, cI, cSl, cBl⟩ := h
  have nx : ∀ a b k, ¬ qu_t a b k → ¬ T a b k := fun a b k q z => q (hT _ _ _ z)
  have hN : Nic0 T := fun a b k z => (hT a b k z).1
  have eI : ∀ a b k, ¬ qu_t a b k → a ≠ 99999 → gI S1 a b k = gI S a b k := fun a b k n m => f.I m (nx _ _ _ n)
  have eJ : ∀ a b k, ¬ qu_t a b k → a ≠ 99999 → gJ S1 a b k = gJ S a b k := fun a b k n m => f.J m (nx _ _ _ n)
  have eN : ∀ a b, ¬ qu_t a b 0 → a ≠ 99999 → gN S1 a b = gN S a b := fun a b n m => f.N m (nx _ _ _ n)
  have r1 : gC S1 + pC S1 ≤ gC S + 1 + pC S := f.2.2.2.2.1
  have r2 : gQ S1 + pQ S1 ≤ gQ S + 6 + pQ S := f.2.2.2.2.2
  refine ⟨⟨f.sd, h5, hn5, by omega, by omega⟩, cc, W, bs, hh, q, c4, (eI _ _ _ (by simp [qu_t, nic0] <;> omega) (by decide)).trans c3, ?_, ?_, ?_, ?_, ?_, ?_, ?_, ?_, ?_, ?_, ?_, hB cc W c4 c3 cW cBs, ?_, ?_, ?_⟩
  · exact cW.cong wlo_wq (fun a k ha => by rcases ha with rfl | rfl | rfl | rfl | rfl | rfl <;> exact eI _ _ _ (by simp [qu_t, nic0]) (by decide)) (fun a k ha => by rcases ha with rfl | rfl <;> exact eJ _ _ _ (by simp [qu_t, nic0]) (by decide)) (fun k hk => eI _ _ _ (by simp [qu_t, nic0] <;> omega) (by decide)) (fun i hi => eJ _ _ _ (by simp [qu_t, nic0] <;> omega) (by decide))
  · obtain ⟨t1, t2, t3, t4, t5⟩ := cT
    exact ⟨t1, (eI _ _ _ (by simp [qu_t, nic0] <;> omega) (by decide)).trans t2, (eI _ _ _ (by simp [qu_t, nic0] <;> omega) (by decide)).trans t3, ⟨fun k hk => (eI _ _ _ (by simp [qu_t, nic0] <;> omega) (by decide)).trans (t4.1 k hk), t4.2⟩, ⟨fun k hk => (eI _ _ _ (by simp [qu_t, nic0] <;> omega) (by decide)).trans (t5.1 k hk), t5.2⟩⟩
  · exact cB.cong (eI _ _ _ (by simp [qu_t, nic0] <;> omega) (by decide)) (eI _ _ _ (by simp [qu_t, nic0] <;> omega) (by decide)) (fun k hk => eI _ _ _ (by simp [qu_t, nic0] <;> omega) (by decide)) (fun k hk => eI _ _ _ (by simp [qu_t, nic0] <;> omega) (by decide))
  · intro k hk
    obtain ⟨v, v1, v2⟩ := cV k hk
    exact ⟨v, (eI _ _ _ (by simp [qu_t, nic0] <;> omega) (by decide)).trans v1, v2⟩
  · intro m hm s hs hq V hV hc k hk
    have e4 : gI S1 1204 0 m = gI S 1204 0 m := eI _ _ _ (by simp [qu_t, nic0] <;> omega) (by decide)
    obtain ⟨v, v1, v2⟩ := cK m hm s hs (e4.symm.trans hq) V hV (hc.back (S := bmp S) f (fun a k ha => nx _ _ _ (fun q => by have h := q.1; unfold nic0 at h; omega))) k hk
    exact ⟨v, (eI _ _ _ (by simp [qu_t, nic0] <;> omega) (by decide)).trans v1, v2⟩
  · exact SR.fg (S := bmp S) lo_sq cS f (by omega) (fun k hk => nx _ _ _ (by simp [qu_t, nic0] <;> omega)) (fun k => ⟨nx _ _ _ (by simp [qu_t, nic0] <;> omega), nx _ _ _ (by simp [qu_t, nic0] <;> omega)⟩) (fun k a b => nx _ _ _ (by simp [qu_t, nic0] <;> omega))
  · exact Pst.fg (S := bmp S) lo_sq cP f ⟨nx _ _ _ (by simp [qu_t, nic0] <;> omega), nx _ _ _ (by simp [qu_t, nic0] <;> omega), nx _ _ _ (by simp [qu_t, nic0] <;> omega)⟩ (fun j k a b => ⟨fun _ => nx _ _ _ (by simp [qu_t, nic0] <;> omega), nx _ _ _ (by simp [qu_t, nic0] <;> omega), nx _ _ _ (by simp [qu_t, nic0] <;> omega)⟩) (fun k => nx _ _ _ (by simp [qu_t, nic0] <;> omega))
  · intro j hj
    by_cases e : 12 < j
    · exact hTL j e hj
    · exact (cL j hj).cong (eN _ _ (by simp [qu_t, nic0] <;> omega) (by decide)) (eN _ _ (by simp [qu_t, nic0] <;> omega) (by decide)) (eI _ _ _ (by simp [qu_t, nic0] <;> omega) (by decide))
  · exact fun m hm => KP.qt (S := bmp S) hm (cKP m hm) f hT
  · rw [eI 4 0 14 (by simp [qu_t, nic0] <;> omega) (by decide), eI 12 0 13 (by simp [qu_t, nic0] <;> omega) (by decide)]
    exact cF
  · rw [eI 3 0 1 (by simp [qu_t, nic0] <;> omega) (by decide), eI 12 0 82 (by simp [qu_t, nic0] <;> omega) (by decide)]
    exact cBr
  · exact Ini.fg (S := bmp S) cI f (fun b => ⟨nx _ _ _ (by simp [qu_t, nic0] <;> omega), nx _ _ _ (by simp [qu_t, nic0] <;> omega), nx _ _ _ (by simp [qu_t, nic0] <;> omega), nx _ _ _ (by simp [qu_t, nic0] <;> omega)⟩)
  · exact Sls.nice (S := bmp S) cSl hN (nx _ _ _ (by simp [qu_t, nic0] <;> omega)) f
  · obtain ⟨L, b1, b2, b3, b4⟩ := cBl
    exact ⟨L, b1, (eN _ _ (by simp [qu_t, nic0] <;> omega) (by decide)).trans b2, (eN _ _ (by simp [qu_t, nic0] <;> omega) (by decide)).trans b3, (eN _ _ (by simp [qu_t, nic0] <;> omega) (by decide)).trans b4⟩
