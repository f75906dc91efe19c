/-! PAIR map -/
theorem tMc_n {s a b k : Nat} (h : tMc s a b k) : a = 11 ∧ b = 0 ∧ k = 1 ∨ a = 4 ∧ b = 0 ∨ 500 ≤ a ∧ a ≤ 510 ∨ (a = 8 ∨ a = 902 ∨ a = 903) ∧ 13 ≤ b ∧ b ≤ 18 ∨ b = s ∧ (a = 0 ∧ k = 2 ∨ 103 ≤ a ∧ a ≤ 108 ∨ 700 ≤ a ∧ a ≤ 703) ∨ a = 405 ∨ 700 ≤ a ∧ a ≤ 702 ∧ b = 4 ∨ a = 3 ∧ k = 1 := by
  rcases h with (h | h) | h | h | h | h
  · have := tBg_n h; omega
  · omega
  · have := tMp_n h; omega
  · unfold tRe at h; omega
  · unfold tBrk at h; omega
  · omega
def tMrf (a b k : Nat) : Bool := tM2 a b k || tOw a b k || tAf a b k
def tMrp (a b k : Nat) : Prop := b = 0 ∧ (a = 12 ∧ k ≠ 58 ∨ a = 1308 ∧ 3 ≤ k ∨ 1316 ≤ a ∧ a ≤ 1349 ∨ 1370 ≤ a ∧ a ≤ 1384)
theorem tMrf_n {a b k : Nat} (h : tMrf a b k = true) : tMrp a b k := by
  unfold tMrf at h
  rw [Bool.or_eq_true, Bool.or_eq_true] at h
  unfold tMrp
  rcases h with (h | h) | h
  · simp [tM2] at h; omega
  · simp [tOw] at h; omega
  · unfold tAf at h
    rw [Bool.or_eq_true, Bool.or_eq_true, Bool.or_eq_true] at h
    rcases h with ((h | h) | h) | h
    · unfold tBe at h
      rw [Bool.or_eq_true, Bool.or_eq_true, Bool.or_eq_true, Bool.or_eq_true] at h
      rcases h with (((h | h) | h) | h) | h
      · simp [tLd] at h; omega
      · unfold tMr tRs at h
        rw [Bool.or_eq_true, Bool.or_eq_true, Bool.or_eq_true] at h
        rcases h with ((h | h) | h) | h
        · simp [tRq, tNb, tNx] at h; omega
        · simp [tAT, tPa] at h; omega
        · simp at h; omega
        · simp at h; omega
      · simp [tTq] at h; omega
      · simp [tIg] at h; omega
      · simp [tNz] at h; omega
    · unfold tSe at h
      rw [Bool.or_eq_true, Bool.or_eq_true, Bool.or_eq_true, Bool.or_eq_true] at h
      rcases h with (((h | h) | h) | h) | h
      · simp at h; omega
      · simp [tTq] at h; omega
      · simp [tPt] at h; omega
      · simp [tPa] at h; omega
      · simp [tIv] at h; omega
    · simp [tKe, tAm, tGf] at h; omega
    · simp at h; omega
def tMx (s a b k : Nat) : Prop := tMc s a b k ∨ tMrp a b k
def MpP (S S2 : zS) (cc s : Nat) (W : zWd) : Prop := Fg (tMx s) S S2 ∧ TapeR S2 [] ∧ gI S2 4 0 14 = gI S2 12 0 13 ∧ gI S2 3 0 1 = gI S2 12 0 82 ∧ BsC S2 cc W ∧ TLs S2 ∧ (∀ b, b < 4 → Slot S b → Slot S2 b) ∧ (s < 4 ∧ (∃ V n mk rl, CB S2 s V n mk rl) ∨ s = 4)
theorem tM0_n {a b k : Nat} (h : tM0 a b k) : b = 0 ∧ (a = 500 ∨ a = 501 ∨ a = 502 ∨ a = 4 ∨ a = 11 ∧ k = 1) := by
  rcases h with h | h
  · have := tBg_n h; omega
  · omega
theorem tM0_c {s : Nat} (a b k : Nat) (h : tM0 a b k) : tMc s a b k := Or.inl h
theorem tM0p_c {s : Nat} (a b k : Nat) (h : tM0 a b k ∨ tMp a b k) : tMc s a b k := h.elim Or.inl (fun z => Or.inr (Or.inl z))
/-- what the reference needs of the class's half -/
theorem mp_mid {S S1 : zS} {cc s : Nat} {W : zWd} (hR : wqR W (fun k => gI S 1306 0 k) (fun i => gJ S 1308 0 i)) (hb : BsC S cc W) {bs : List Nat} (hTp : TapeR S bs) (f : Fg (tMc s) S S1) : wqR W (fun k => gI S1 1306 0 k) (fun i => gJ S1 1308 0 i) ∧ CR S1 W ∧ Cw S1 ∧ IvI S1 ∧ gI S1 12 0 2 = nI bs.length ∧ Bs S1 1301 bs ∧ (∀ a k, 1300 ≤ a → a < 1400 → gI S1 a 0 k = gI S a 0 k) ∧ (∀ a k, 1300 ≤ a → a < 1400 → gJ S1 a 0 k = gJ S a 0 k) ∧ ∀ k, gI S1 12 0 k = gI S 12 0 k := by
  have hn : ∀ a b k, a = 12 ∨ 1300 ≤ a ∧ a < 1400 → ¬ tMc s a b k := fun a b k ha z => by have := tMc_n z; omega
  have e1 : ∀ a k, 1300 ≤ a → a < 1400 → gI S1 a 0 k = gI S a 0 k := fun a k h1 h2 => f.I (by omega) (hn _ _ _ (by omega))
  have e2 : ∀ a k, 1300 ≤ a → a < 1400 → gJ S1 a 0 k = gJ S a 0 k := fun a k h1 h2 => f.J (by omega) (hn _ _ _ (by omega))
  have e3 : ∀ k, gI S1 12 0 k = gI S 12 0 k := fun k => f.I (by omega) (hn _ _ _ (by omega))
  have rc := (RcI.of f ⟨hn _ _ _ (by omega), hn _ _ _ (by omega), fun x k a _ => hn _ _ _ (by omega), fun k _ => hn _ _ _ (by omega)⟩).rc (W := W)
  have x1 : (fun k => gI S1 1306 0 k) = fun k => gI S 1306 0 k := funext fun k => e1 _ _ (by omega) (by omega)
  have x2 : (fun i => gJ S1 1308 0 i) = fun i => gJ S 1308 0 i := funext fun k => e2 _ _ (by omega) (by omega)
  exact ⟨by rw [x1, x2]; exact hR, rc.1 hb.2.1, rc.2.1 hb.2.2.1, rc.2.2 hb.2.2.2, (e3 _).trans hTp.2.2.1, ⟨fun k hk => (e1 _ _ (by omega) (by omega)).trans (hTp.2.2.2.2.1 k hk), hTp.2.2.2.2.2⟩, e1, e2, e3⟩
/-- both halves put together -/
theorem mp_fin {S S1 S2 : zS} {cc s : Nat} {W : zWd} {bs : List Nat} (hTp : TapeR S bs) (hTL : TLs S) (f : Fg (tMc s) S S1) (g : Fr tMrf S1 S2) (h11 : gI S1 11 0 1 = nI 0) (h2 : gI S2 12 0 2 = nI 0) (hF : gI S1 4 0 14 = gI S2 12 0 13) (hBr : gI S1 3 0 1 = gI S2 12 0 82) (hB : ∃ n mk rl, CB S1 cc W n mk rl) (hcr : CR S2 W) (hO : Cw S2) (hI : IvI S2) (hT : ∀ a, a < 6 → TL S1 (a + 13)) (hs2 : s < 4 ∧ (∃ V n mk rl, CB S1 s V n mk rl ∧ Wok V ∧ wqC V (fun a k => gI S a s k) (fun a k => gJ S a s k)) ∨ s = 4) : MpP S S2 cc s W := by
  have hn : ∀ a b k, a < 12 ∨ 99 < a ∧ a < 1300 → ¬ tMrp a b k := fun a b k ha z => by unfold tMrp at z; omega
  have gF : Fg tMrp S1 S2 := g.fg f.sd fun a b k z => tMrf_n z
  have eI : ∀ a b k, a < 12 ∨ 99 < a ∧ a < 1300 → gI S2 a b k = gI S1 a b k := fun a b k ha => gF.I (by omega) (hn _ _ _ ha)
  have hA : Fg (tMx s) S S2 := (f.mono fun _ _ _ z => Or.inl z).tr (gF.mono fun _ _ _ z => Or.inr z)
  refine ⟨hA, ⟨by simp, (eI _ _ _ (by omega)).trans h11, h2, ⟨fun k hk => absurd hk (by simp), fun c hc => absurd hc List.not_mem_nil⟩, ⟨fun k hk => absurd hk (by simp), fun c hc => absurd hc List.not_mem_nil⟩⟩, (eI _ _ _ (by omega)).trans hF, (eI _ _ _ (by omega)).trans hBr, ⟨?_, hcr, hO, hI⟩, ?_, ?_, ?_⟩
  · obtain ⟨n, mk, rl, h⟩ := hB
    exact ⟨n, mk, rl, h.fg gF ⟨hn _ _ _ (by omega), fun x k a b => hn _ _ _ (by omega)⟩⟩
  · intro j hj
    by_cases h : j < 13
    · exact (hTL j hj).fg4 hA ⟨fun z => z.elim (fun z => by have := tMc_n z; omega) (hn _ _ _ (by omega)), fun z => z.elim (fun z => by have := tMc_n z; omega) (hn _ _ _ (by omega)), fun z => z.elim (fun z => by have := tMc_n z; omega) (hn _ _ _ (by omega))⟩
    · have := hT (j - 13) (by omega)
      rw [show j - 13 + 13 = j by omega] at this
      exact this.fg4 gF ⟨hn _ _ _ (by omega), hn _ _ _ (by omega), hn _ _ _ (by omega)⟩
  · intro b hb h
    have hw : ∀ a k, a = 9 ∨ 1002 ≤ a ∧ a ≤ 1009 → ¬ tMx s a b k := fun a k ha z => z.elim (fun z => by have := tMc_n z; omega) (hn _ _ _ (by omega))
    by_cases e : b = s
    · intro V hV hq
      have hq0 := hq.back hA hw
      obtain ⟨-, hbc⟩ := h V hV hq0
      refine ⟨?_, hbc.fg hA (fun k => ⟨fun z => z.elim (fun z => by have := tMc_n z; omega) (hn _ _ _ (by omega)), fun z => z.elim (fun z => by have := tMc_n z; omega) (hn _ _ _ (by omega))⟩)⟩
      rcases hs2 with ⟨s1, V', n, mk, rl, c1, c2, c3⟩ | s1
      · subst e
        have := wqC_uniq hV c2 hq0 c3
        subst this
        exact ⟨n, mk, rl, c1.fg gF ⟨hn _ _ _ (by omega), fun x k a b => hn _ _ _ (by omega)⟩⟩
      · omega
    · exact h.fg hA ⟨fun z => z.elim (fun z => by have := tMc_n z; omega) (hn _ _ _ (by omega)), fun x k a b z => z.elim (fun z => by have := tMc_n z; omega) (hn _ _ _ (by omega))⟩ hw
  · rcases hs2 with ⟨s1, V, n, mk, rl, c1, -⟩ | s1
    · exact Or.inl ⟨s1, V, n, mk, rl, c1.fg gF ⟨hn _ _ _ (by omega), fun x k a b => hn _ _ _ (by omega)⟩⟩
    · exact Or.inr s1
theorem pg_map {S : zS} (hs : Sd S) {W : zWd} {cc : Nat} (hcc : gI S 11 0 3 = nI cc) (hc4 : cc < 4) (hw : WR wq S W cc 1306 0 1308 0) (hb : BsC S cc W) {bs : List Nat} (hTp : TapeR S bs) (hTL : TLs S) (hK : ∀ m, m < 2 → KP sq wq S m) (hKs : ∀ m s, m < 2 → s < 4 → gI S 1204 0 m = nI s → Slot S s) (hBr : gI S 3 0 1 = gI S 12 0 82) (a : Int32) : Pg mX11_map 5 [zr 11 0, zi a] mX12_map 5 [zr 12 0, zi a] S (fun S2 => ∃ s, MpP S S2 cc s W) := by
  obtain ⟨hW, hC, hR⟩ := hw.c
  obtain ⟨hcW, hTW⟩ := wq_WC hC
  obtain ⟨t1, t2, t3, t4, t5⟩ := id hTp
  have tM2_rm : ∀ a b k, tM2 a b k = true → tMrf a b k = true := fun a b k z => by simp [tMrf, z]
  have hTL4 : ∀ {S1 : zS}, Fg tM0 S S1 → ∀ a, a < 6 → TL S1 (a + 13) := fun f a ha => (hTL (a + 13) (by omega)).fg4 f ⟨fun z => by have := tM0_n z; omega, fun z => by have := tM0_n z; omega, fun z => by have := tM0_n z; omega⟩
  -- nothing is kept there, or unlike primes
  have hno : ∀ {S1 S2 : zS} {r2 : Option zV}, Fg tM0 S S1 ∧ gI S1 4 0 14 = nI 0 ∧ gI S1 11 0 1 = nI 0 → r2 = some (zi (-1000 : Int32)) ∧ S2 = mpS S1 bs.length → r2 = some (zi (-1000 : Int32)) ∧ ∃ s, MpP S S2 cc s W := fun {S1 S2 r2} z y => by
    obtain ⟨f, z1, z2⟩ := z
    obtain ⟨y1, y2⟩ := y
    subst y2
    have fm : Fg (tMc 4) S S1 := f.mono tM0_c
    obtain ⟨m1, m2, m3, m4, m5, m6, m7, m8, m9⟩ := mp_mid hR hb hTp fm
    have hn : ∀ x k, 0 ≤ x → x ≤ 110 → x ≠ 11 ∧ x ≠ 4 → ¬ tM0 x cc k := fun x k _ _ h z => by rcases z with z | z; have := tBg_n z; omega; omega
    refine ⟨y1, 4, mp_fin hTp hTL fm (mpS_fr.mono tM2_rm) z2 mpS_v.1 (z1.trans mpS_v.2.2.2.2.symm) ?_ ?_ (mpS_rc.rc.1 m2) ((mpS_rc.rc (W := W)).2.1 m3) ((mpS_rc.rc (W := W)).2.2 m4) (hTL4 f) (Or.inr rfl)⟩
    · rw [f.I (by omega) (fun z => by have := tM0_n z; omega), mpS_fr.1 12 0 82 rfl, m9]; exact hBr
    · obtain ⟨n, mk, rl, h⟩ := hb.1
      exact ⟨n, mk, rl, h.fg f ⟨hn _ _ (by omega) (by omega) (by omega), fun x k a b => hn _ _ (by omega) (by omega) (by omega)⟩⟩
  by_cases ha : 0 ≤ a ∧ a < nI 2
  · obtain ⟨m, hm, rfl⟩ := zz_of ha (by omega)
    rcases hK m hm with ⟨k1, k2⟩ | ⟨s, Wk, hs4, k1, k2, k3, -, -⟩
    · refine Ok.mono (cm_map_no hs hcc hc4 t1 t2 t4 hm k1) fun r S1 z => ⟨_, z.1, z.2.1.sd, ?_⟩
      obtain ⟨m1, m2, m3, m4, m5, m6, m7, m8, m9⟩ := mp_mid (s := 4) hR hb hTp (z.2.1.mono tM0_c)
      exact Ok.mono (rm_map_no z.2.1.sd t1 m5 m6 hm ((m7 _ _ (by omega) (by omega)).trans k2)) fun r2 S2 y => hno z.2 y
    · have hK2 : Wok Wk := k3.1
      have hCk : wqC Wk (fun a k => gI S a s k) (fun a k => gJ S a s k) := k3.2.1
      have hRk : wqR Wk (fun k => gI S 1391 0 (3775 * m + k)) (fun i => gJ S 1392 0 (3 * m + i)) := k3.2.2
      obtain ⟨hck, hTk⟩ := wq_WC hCk
      obtain ⟨n0, mk0, rl0, hBk⟩ := (hKs m s hm hs4 k1 Wk hK2 hCk).1
      have he : s = cc → Wk = W := fun e => by subst e; exact wqC_uniq hK2 hW hCk hC
      have hRk1 : ∀ {S1 : zS}, (∀ a k, 1300 ≤ a → a < 1400 → gI S1 a 0 k = gI S a 0 k) → (∀ a k, 1300 ≤ a → a < 1400 → gJ S1 a 0 k = gJ S a 0 k) → wqR Wk (fun k => gI S1 1391 0 (3775 * m + k)) (fun i => gJ S1 1392 0 (3 * m + i)) := fun e1 e2 => by
        have x1 : ∀ {S1 : zS}, (∀ a k, 1300 ≤ a → a < 1400 → gI S1 a 0 k = gI S a 0 k) → (fun k => gI S1 1391 0 (3775 * m + k)) = fun k => gI S 1391 0 (3775 * m + k) := fun e => funext fun k => e _ _ (by omega) (by omega)
        have x2 : ∀ {S1 : zS}, (∀ a k, 1300 ≤ a → a < 1400 → gJ S1 a 0 k = gJ S a 0 k) → (fun i => gJ S1 1392 0 (3 * m + i)) = fun i => gJ S 1392 0 (3 * m + i) := fun e => funext fun k => e _ _ (by omega) (by omega)
        rw [x1 e1, x2 e2]; exact hRk
      by_cases hPP : wP Wk = wP W
      · -- the class's world basis after the class's half
        have hBcc : ∀ {S1 : zS}, Fg (tMc s) S S1 → (∃ n mk rl, CB S1 s Wk n mk rl) → ∃ n mk rl, CB S1 cc W n mk rl := fun f h => by
          by_cases e : s = cc
          · rw [← he e, ← e]; exact h
          · obtain ⟨n, mk, rl, h⟩ := hb.1
            exact ⟨n, mk, rl, h.fg f ⟨fun z => by have := tMc_n z; omega, fun x k a b z => by have := tMc_n z; omega⟩⟩
        cases hq : mapQ W Wk bs with
        | inl x =>
          refine Ok.mono (cm_map_f hs hcc hc4 t1 t2 t4 hW hK2 hm k1 hs4 hcW hck hPP hTL hq) fun r S1 z => ⟨_, z.1, z.2.1.sd, ?_⟩
          obtain ⟨z1, z2, z3, z4, z5⟩ := z
          have fm : Fg (tMc s) S S1 := z2.mono tM0p_c
          obtain ⟨m1, m2, m3, m4, m5, m6, m7, m8, m9⟩ := mp_mid hR hb hTp fm
          have hn0 : ∀ x b k, x ≠ 8 ∧ x ≠ 902 ∧ x ≠ 903 ∧ x ≠ 4 ∧ x ≠ 11 ∧ (x < 500 ∨ 510 < x) → ¬ (tM0 x b k ∨ tMp x b k) := fun x b k h z => by
            rcases z with (z | z) | z
            · have := tBg_n z; omega
            · omega
            · have := tMp_n z; omega
          have hBs1 : CB S1 s Wk n0 mk0 rl0 := hBk.fg z2 ⟨hn0 _ _ _ (by omega), fun x k a b => hn0 _ _ _ (by omega)⟩
          refine Ok.mono (rm_map_f z2.sd t1 m5 m6 hW hK2 m1 hm ((m7 _ _ (by omega) (by omega)).trans k2) (hRk1 m7 m8) hPP m3 m2 m4 hq) fun r2 S2 y => ?_
          obtain ⟨y1, y2, y3, y4, y5, y6, y7, y8⟩ := y
          refine ⟨y1, s, mp_fin hTp hTL fm y2 z4 y6 (z3.1.trans y7.1.symm) ?_ (hBcc fm ⟨_, _, _, hBs1⟩) y4 y3 y5 (fun a ha => ?_) (Or.inl ⟨hs4, Wk, _, _, _, hBs1, hK2, hCk⟩)⟩
          · rw [z2.I (by omega) (hn0 _ _ _ (by omega)), hBr, ← m9 82]
            exact y8.symm
          · by_cases h3 : a < 3
            · exact z5 a h3
            · exact (hTL (a + 13) (by omega)).fg4 z2 ⟨fun z => by rcases z with (z | z) | z; have := tBg_n z; omega; omega; have := tMp_n z; omega, fun z => by rcases z with (z | z) | z; have := tBg_n z; omega; omega; have := tMp_n z; omega, fun z => by rcases z with (z | z) | z; have := tBg_n z; omega; omega; have := tMp_n z; omega⟩
        | inr im =>
          refine Ok.mono (cm_map_r hs hcc hc4 t1 t2 t4 hW hK2 hm k1 hs4 hcW hck hPP hTL hTk hBk hq) fun r S1 z => ?_
          obtain ⟨z1, z2, z3, z4, z5, z6⟩ := z
          obtain ⟨m1, m2, m3, m4, m5, m6, m7, m8, m9⟩ := mp_mid hR hb hTp z1
          have hrf := rm_map_r z1.sd t1 m5 m6 hW hK2 m1 hm ((m7 _ _ (by omega) (by omega)).trans k2) (hRk1 m7 m8) hPP m3 m2 m4 hq
          obtain ⟨n1, mk1, rl1, hBs1⟩ := z4
          have hs2 : s < 4 ∧ (∃ V n mk rl, CB S1 s V n mk rl ∧ Wok V ∧ wqC V (fun a k => gI S a s k) (fun a k => gJ S a s k)) ∨ s = 4 := Or.inl ⟨hs4, Wk, _, _, _, hBs1, hK2, hCk⟩
          rcases z6 with ⟨g1, g2, g3⟩ | ⟨g1, g2, g3⟩
          · refine ⟨_, g2, z1.sd, Ok.mono hrf fun r2 S2 y => ?_⟩
            obtain ⟨⟨y2, y3, y4, y5, y6⟩, y7, y8⟩ := y
            rcases y8 with ⟨-, y9, y10⟩ | ⟨y9, -⟩
            · exact ⟨y9, s, mp_fin hTp hTL z1 y2 z3 y6 (z2.trans y7.symm) (by rw [g3, hBr, y10, m9]) (hBcc z1 ⟨_, _, _, hBs1⟩) y4 y3 y5 z5 hs2⟩
            · exact absurd g1 y9
          · refine ⟨_, g2, z1.sd, Ok.mono hrf fun r2 S2 y => ?_⟩
            obtain ⟨⟨y2, y3, y4, y5, y6⟩, y7, y8⟩ := y
            rcases y8 with ⟨y9, -⟩ | ⟨-, y9, y10⟩
            · exact absurd y9 g1
            · exact ⟨y9, s, mp_fin hTp hTL z1 y2 z3 y6 (z2.trans y7.symm) (g3.uniq y10) (hBcc z1 ⟨_, _, _, hBs1⟩) y4 y3 y5 z5 hs2⟩
      · refine Ok.mono (cm_map_p hs hcc hc4 t1 t2 t4 hW hK2 hm k1 hs4 hcW hck hPP) fun r S1 z => ⟨_, z.1, z.2.1.sd, ?_⟩
        obtain ⟨m1, m2, m3, m4, m5, m6, m7, m8, m9⟩ := mp_mid (s := 4) hR hb hTp (z.2.1.mono tM0_c)
        exact Ok.mono (rm_map_p z.2.1.sd t1 m5 m6 hW hK2 m1 hm ((m7 _ _ (by omega) (by omega)).trans k2) (hRk1 m7 m8) hPP) fun r2 S2 y => hno z.2 y
  · refine Ok.mono (cm_map_out hs hcc hc4 t1 t2 t4 ha) fun r S1 z => ⟨_, z.1, z.2.1.sd, ?_⟩
    obtain ⟨m1, m2, m3, m4, m5, m6, m7, m8, m9⟩ := mp_mid (s := 4) hR hb hTp (z.2.1.mono tM0_c)
    exact Ok.mono (rm_map_out z.2.1.sd t1 m5 m6 ha) fun r2 S2 y => hno z.2 y
