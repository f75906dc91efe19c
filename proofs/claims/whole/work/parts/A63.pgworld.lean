/-! world: both sides -/
def tWf (s a b k : Nat) : Prop := tWo s a b k ∨ tWld a b k = true
def tWw (s a b k : Nat) : Prop := tWs s a b k ∨ tWlt a b k = true
/-- a world that was not told, and one that was -/
def WoP (S S2 : zS) (s : Nat) : Prop :=
  (Fg (tWf s) S S2 ∧ TapeR S2 [] ∧ TL S2 12 ∧ gI S2 4 0 14 = gI S2 12 0 13) ∨
  ∃ W, Fg (tWw s) S S2 ∧ TapeR S2 [] ∧ TL S2 12 ∧ gI S2 4 0 14 = gI S2 12 0 13 ∧ gI S2 11 0 3 = nI s ∧ WR wq S2 W s 1306 0 1308 0 ∧ (gI S2 0 s 2 = nI 0 ∧ gI S2 0 s 12 = nI 0 ∧ ∀ k, k < 8 → gI S2 109 s k = -1) ∧ (gI S2 7 0 0 = nI 1 ∧ gI S2 1306 0 3 = nI 1 ∧ ∀ k, k < 729 → gI S2 801 0 k = nI 0 ∧ gI S2 1306 0 (444 + k) = nI 0) ∧ (gI S2 8 0 0 = nI 1 ∧ gI S2 8 0 1 = nI 0 ∧ gI S2 1306 0 1173 = nI 1 ∧ gI S2 1306 0 1174 = nI 0) ∧ gI S2 11 0 10 = nI 0 ∧ gI S2 12 0 58 = nI 0 ∧ gI S2 12 0 33 = -1
theorem tWld_12 {a b k : Nat} (h : tWld a b k = true) : b = 0 ∧ (a = 12 ∧ k ≠ 33 ∧ k ≠ 58 ∧ k ≠ 43 ∧ k ≠ 82 ∨ a = 1307 ∨ a = 1308 ∨ a = 1322 ∧ 1173 ≤ k ∨ a = 1323 ∧ k = 1 ∨ 1316 ≤ a ∧ a ≤ 1319 ∨ a = 1344 ∨ a = 1345 ∨ a = 1346 ∨ a = 1349) := by
  simp [tWld, tLn, tRs, tRq, tNb, tNx, tAT, tPa] at h
  omega
theorem tWlt_12 {a b k : Nat} (h : tWlt a b k = true) : b = 0 ∧ (a = 12 ∧ k ≠ 43 ∧ k ≠ 82 ∨ a = 1306 ∧ k < 1175 ∨ a = 1307 ∨ a = 1308 ∨ a = 1322 ∧ 1173 ≤ k ∨ a = 1323 ∧ k = 1 ∨ 1316 ≤ a ∧ a ≤ 1319 ∨ a = 1344 ∨ a = 1345 ∨ a = 1346 ∨ a = 1349) := by
  unfold tWlt at h
  simp only [Bool.or_eq_true] at h
  rcases h with ((h | h) | h) | h
  · have := tWld_12 h
    omega
  · simp at h; omega
  · simp at h; omega
  · simp at h; omega
theorem tWlt_f {a b k : Nat} (h : ¬ (b = 0 ∧ (a = 12 ∧ k ≠ 43 ∧ k ≠ 82 ∨ a = 1306 ∧ k < 1175 ∨ a = 1307 ∨ a = 1308 ∨ a = 1322 ∧ 1173 ≤ k ∨ a = 1323 ∧ k = 1 ∨ 1316 ≤ a ∧ a ≤ 1319 ∨ a = 1344 ∨ a = 1345 ∨ a = 1346 ∨ a = 1349))) : tWlt a b k = false := by
  cases q : tWlt a b k with
  | false => rfl
  | true => exact absurd (tWlt_12 q) h
theorem tWld_f {a b k : Nat} (h : ¬ (b = 0 ∧ (a = 12 ∧ k ≠ 33 ∧ k ≠ 58 ∧ k ≠ 43 ∧ k ≠ 82 ∨ a = 1307 ∨ a = 1308 ∨ a = 1322 ∧ 1173 ≤ k ∨ a = 1323 ∧ k = 1 ∨ 1316 ≤ a ∧ a ≤ 1319 ∨ a = 1344 ∨ a = 1345 ∨ a = 1346 ∨ a = 1349))) : tWld a b k = false := by
  cases q : tWld a b k with
  | false => rfl
  | true => exact absurd (tWld_12 q) h
theorem tWo_n {s a b k : Nat} (h : tWo s a b k) : a = 4 ∧ b = 0 ∨ 500 ≤ a ∧ a ≤ 510 ∨ a = 11 ∧ b = 0 ∧ k = 1 ∨ a = 8 ∧ b = 12 ∨ (a = 902 ∨ a = 903) ∧ b = 12 ∨ b = s ∧ (a = 9 ∨ a = 1002 ∨ a = 1003 ∨ a = 1005 ∨ a = 1006 ∧ 1 ≤ k ∨ a = 1007 ∨ a = 1008) := by
  unfold tWo tLi tLw tTm tTy at h
  simp [tTr, tCa, tSk, tPm, tAc, tBg] at h
  omega
theorem tape_nil {S : zS} (h1 : gI S 11 0 1 = nI 0) (h2 : gI S 12 0 2 = nI 0) : TapeR S [] := ⟨by decide, h1, h2, ⟨fun k hk => absurd hk (Nat.not_lt_zero k), fun c hc => absurd hc List.not_mem_nil⟩, ⟨fun k hk => absurd hk (Nat.not_lt_zero k), fun c hc => absurd hc List.not_mem_nil⟩⟩
theorem pg_world {S : zS} (hs : Sd S) {cc : Nat} (hcc : gI S 11 0 3 = nI cc) (hc4 : cc < 4) {bs : List Nat} (hTp : TapeR S bs) (hTL : TL S 12) (h6 : ∀ s, s < 4 → gI S 1006 s 0 = nI 0) : Pg mX11_world 4 [zr 11 0] mX12_world 2 [zr 12 0] S (fun S2 => ∃ s, s < 4 ∧ s ≠ cc ∧ nI s ≠ gI S 1204 0 0 ∧ nI s ≠ gI S 1204 0 1 ∧ WoP S S2 s) := by
  obtain ⟨hbl, k1, k2, hb1, hb2⟩ := hTp
  have hk := lex_tks (lim := 900) hb1.2 hbl
  have l9 : (lexA bs 900 0).length ≤ 901 := lex_len (by omega)
  have keyR : ∀ {S1 : zS} {T : Nat → Nat → Nat → Prop}, Fg T S S1 → (∀ k, ¬ T 12 0 2 ∧ ¬ T 1301 0 k) → gI S1 12 0 2 = nI bs.length ∧ Bs S1 1301 bs := fun f t => ⟨(f.I (by omega) (t 0).1).trans k2, ⟨fun k hk => (f.I (by omega) (t k).2).trans (hb2.1 k hk), hb2.2⟩⟩
  have tF : ∀ {s a b k : Nat}, a = 12 ∨ a = 1301 → ¬ tWo s a b k := fun ha z => by
    have := tWo_n z
    omega
  cases q : linesP (lexA bs 900 0).length 0 false w0 (lexA bs 900 0) with
  | inl x =>
    refine Ok.mono (cm_world_x hs hcc hc4 hbl k1 hb1 hTL h6 q) fun r S1 z => ?_
    obtain ⟨s, hs4, hsc, g0, g1, z⟩ := z
    rw [q] at z
    obtain ⟨rfl, f1, x1, e1, t1⟩ := z
    obtain ⟨j1, j2⟩ := keyR f1 (fun k => ⟨tF (Or.inl rfl), tF (Or.inr rfl)⟩)
    refine ⟨_, rfl, f1.sd, Ok.mono (rm_world f1.sd hbl j1 j2) fun r2 S2 y => ?_⟩
    rw [q] at y
    obtain ⟨rfl, f2, x2, e2⟩ := y
    refine ⟨rfl, s, hs4, hsc, g0, g1, Or.inl ⟨(f1.mono fun _ _ _ z => Or.inl z).tr (f2.fg f1.sd fun a b k z => Or.inr z), tape_nil ((f2.1 _ _ _ (tWld_f (by omega))).trans e1) e2, t1.cong (gN_22 f2.2.2) (gN_22 f2.2.2) (f2.1 _ _ _ (tWld_f (by omega))), ?_⟩⟩
    rw [f2.1 4 0 14 (tWld_f (by omega)), x1.1, x2.1]
  | inr y =>
    obtain ⟨n, W⟩ := y
    obtain ⟨hW, hn⟩ := linesP_ok _ _ _ _ _ _ _ ⟨wok0, hk, lex_lk _ _, by show 5 * 0 + _ ≤ 941; omega⟩ q
    refine Ok.mono (cm_world_t hs hcc hc4 hbl k1 hb1 hTL h6 q (by omega) hW.2.1) fun r S1 z => ?_
    obtain ⟨s, hs4, hsc, g0, g1, z⟩ := z
    rw [q] at z
    obtain ⟨rfl, f1, e14, c1, t1, b1, e3, u1, v1, p1, l1, tl1⟩ := z
    have tS : ∀ {s a b k : Nat}, a = 12 ∨ a = 1301 → ¬ tWs s a b k := fun {s a b k} ha z => by
      rcases z with z | z | z | z | z | z
      · exact tF ha z
      · simp [tFo, tCt] at z; omega
      · omega
      · omega
      · omega
      · omega
    obtain ⟨j1, j2⟩ := keyR f1 (fun k => ⟨tS (Or.inl rfl), tS (Or.inr rfl)⟩)
    refine ⟨_, rfl, f1.sd, Ok.mono (rm_world f1.sd hbl j1 j2) fun r2 S2 y => ?_⟩
    rw [q] at y
    obtain ⟨rfl, f2, x13, x2, xR, x3, x33, xl, xm, x58⟩ := y
    have eI : ∀ a b k, a < 12 ∨ 13 ≤ a ∧ a < 1300 → gI S2 a b k = gI S1 a b k := fun a b k ha => f2.1 a b k (tWlt_f (by omega))
    have eJ : ∀ a b k, a < 12 ∨ 13 ≤ a ∧ a < 1300 → gJ S2 a b k = gJ S1 a b k := fun a b k ha => f2.2.1 a b k (tWlt_f (by omega))
    have c2 : wqC W (fun a k => gI S2 a s k) (fun a k => gJ S2 a s k) := ⟨(eI _ _ _ (by omega)).trans c1.1, (eI _ _ _ (by omega)).trans c1.2.1, (eI _ _ _ (by omega)).trans c1.2.2.1, fun a ha => ⟨(eI _ _ _ (by omega)).trans (c1.2.2.2.1 a ha).1, (eJ _ _ _ (by omega)).trans (c1.2.2.2.1 a ha).2⟩, fun L hL => (eI _ _ _ (by omega)).trans (c1.2.2.2.2.1 L hL), fun L hL => (eI _ _ _ (by omega)).trans (c1.2.2.2.2.2.1 L hL), fun L k hL hk => ⟨(eI _ _ _ (by omega)).trans (c1.2.2.2.2.2.2 L k hL hk).1, (eI _ _ _ (by omega)).trans (c1.2.2.2.2.2.2 L k hL hk).2⟩, fun m a b => (eJ _ _ _ (by omega)).trans (t1 m a b)⟩
    refine ⟨rfl, s, hs4, hsc, g0, g1, Or.inr ⟨W, (f1.mono fun _ _ _ z => Or.inl z).tr (f2.fg f1.sd fun a b k z => Or.inr z), tape_nil ((eI _ _ _ (by omega)).trans l1) x2, tl1.cong (gN_22 f2.2.2) (gN_22 f2.2.2) (eI _ _ _ (by omega)), ?_, (eI _ _ _ (by omega)).trans e3, ⟨hW, c2, ?_⟩, ⟨(eI _ _ _ (by omega)).trans b1.1, (eI _ _ _ (by omega)).trans b1.2.1, fun k hk => (eI _ _ _ (by omega)).trans (b1.2.2 k hk)⟩, ⟨(eI _ _ _ (by omega)).trans u1.1, x3.1, fun k hk => ⟨(eI _ _ _ (by omega)).trans (u1.2 k hk), x3.2 _ (by omega) (by omega)⟩⟩, ⟨(eI _ _ _ (by omega)).trans v1.1, (eI _ _ _ (by omega)).trans v1.2, xl, xm⟩, (eI _ _ _ (by omega)).trans p1, x58, x33⟩⟩
    · rw [eI 4 0 14 (by omega), e14, x13]
    · exact wqR.cong hW (fun k _ _ => by show gI S2 1306 0 k = gI S2 1306 0 (0 + k); rw [Nat.zero_add]) (fun i _ => by show gJ S2 1308 0 i = gJ S2 1308 0 (0 + i); rw [Nat.zero_add]) xR
