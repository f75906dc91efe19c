/-! SUMS. SQ: the pure relation of the rows of a tally (keys, nums) and of a block (codes, numbers), over the world's acts E; it looks at no place from e on -/
abbrev zQ2 (α : Type) : Type := α → Nat → Nat → (Nat → Int32 × Int32 × Int32 × Int32) → Prop
def Lo {α : Type} (SQ : zQ2 α) : Prop := ∀ E lv e f g, (∀ k, k < e → f k = g k) → SQ E lv e f → SQ E lv e g
def rw4 (S : zS) (j A off k : Nat) : Int32 × Int32 × Int32 × Int32 := (gI S 902 j k, gI S 903 j k, gI S A 0 (off + 2 + k), gI S A 0 (off + 1302 + k))
def SR {α : Type} (SQ : zQ2 α) (S : zS) (E : α) (j A off : Nat) : Prop := ∃ lv e, gI S 8 j 0 = nI lv ∧ gI S A 0 off = nI lv ∧ gI S 8 j 1 = nI e ∧ gI S A 0 (off + 1) = nI e ∧ e ≤ 1200 ∧ SQ E lv e (rw4 S j A off)
theorem SR.cong {α : Type} {SQ : zQ2 α} (hQ : Lo SQ) {S S1 : zS} {E : α} {j A off j1 A1 off1 : Nat} (h : SR SQ S E j A off) (h0 : gI S1 8 j1 0 = gI S 8 j 0) (h1 : gI S1 8 j1 1 = gI S 8 j 1) (g0 : gI S1 A1 0 off1 = gI S A 0 off) (g1 : gI S1 A1 0 (off1 + 1) = gI S A 0 (off + 1)) (hk : ∀ e k, gI S 8 j 1 = nI e → e ≤ 1200 → k < e → rw4 S1 j1 A1 off1 k = rw4 S j A off k) : SR SQ S1 E j1 A1 off1 := by
  obtain ⟨lv, e, q1, q2, q3, q4, q5, q6⟩ := h
  exact ⟨lv, e, h0.trans q1, g0.trans q2, h1.trans q3, g1.trans q4, q5, hQ E lv e _ _ (fun k h => (hk e k q3 q5 h).symm) q6⟩
/-- a tally's rows: alike in length, long enough -/
def TL (S : zS) (j : Nat) : Prop := ∃ n e, gN S 902 j = n ∧ gN S 903 j = n ∧ 32 ≤ n ∧ n ≤ 1200 ∧ gI S 8 j 1 = nI e ∧ e ≤ n
def TLs (S : zS) : Prop := ∀ j, j < 19 → TL S j
theorem TL.cong {S S1 : zS} {j : Nat} (h : TL S j) (h2 : gN S1 902 j = gN S 902 j) (h3 : gN S1 903 j = gN S 903 j) (h1 : gI S1 8 j 1 = gI S 8 j 1) : TL S1 j := by
  obtain ⟨n, e, q1, q2, q3, q4, q5, q6⟩ := h
  exact ⟨n, e, h2.trans q1, h3.trans q2, q3, q4, h1.trans q5, q6⟩
theorem TLs.tcp {S : zS} (h : TLs S) {j i e n : Nat} (hj : j < 19) (h2 : gN S 902 j = n) (h3 : gN S 903 j = n) (he : e ≤ 1200) : TLs (tcp S j i e n) := by
  intro x hx
  by_cases e1 : x = j
  · subst e1
    obtain ⟨n', e', q1, q2, q3, q4, q5, q6⟩ := h x hx
    have hn : n' = n := q1.symm.trans h2
    subst hn
    have r1 := rlen_ge (n := n') he
    have r2 := rlen_n (e := e) q4
    exact ⟨rlen e n', e, gN_room8_j (Or.inl rfl) h2, gN_room8_j (Or.inr rfl) h3, by omega, r2.2, tcp_1, r1⟩
  · exact (h x hx).cong (gN_room8_x (by decide) (by omega)) (gN_room8_x (by decide) (by omega)) (tcp_x (by decide) (by omega) (by omega))
/-- the past of both: h sums, the newest first, the next place of the ring q -/
def Pst {α : Type} (SQ : zQ2 α) (S : zS) (E : α) (h q : Nat) : Prop := gI S 11 0 10 = nI h ∧ gI S 12 0 58 = nI h ∧ h ≤ 8 ∧ gI S 11 0 11 = nI q ∧ q < 8 ∧ ∀ i, i < h → SR SQ S E ((q + 7 - i) % 8 + 3) 1357 (2602 * (h - 1 - i))
/-- what undo touches -/
def tUndo (x y k : Nat) : Bool := x == 11 && y == 0 && (k == 10 || k == 11) || x == 12 && y == 0 && (k == 0 || k == 58) || x == 8 && y == 0 && k ≤ 1 || (x == 902 || x == 903) && y == 0 || x == 1306 && y == 0 && 1173 ≤ k || x == 99999
theorem tUndo_f {x y k : Nat} (h : tUndo x y k = false) : ¬ (x = 11 ∧ y = 0 ∧ (k = 10 ∨ k = 11)) ∧ ¬ (x = 12 ∧ y = 0 ∧ (k = 0 ∨ k = 58)) ∧ ¬ (x = 8 ∧ y = 0 ∧ k ≤ 1) ∧ ¬ ((x = 902 ∨ x = 903) ∧ y = 0) ∧ ¬ (x = 1306 ∧ y = 0 ∧ 1173 ≤ k) ∧ x ≠ 99999 := by
  simp [tUndo] at h
  omega
def unS1 (S : zS) (h p e n : Nat) : zS := tcp (sI (sI S 11 0 10 (nI (h - 1))) 11 0 11 (nI p)) 0 (p + 3) e n
def unS (S : zS) (h p e n : Nat) : zS := cpR (sI (sI (unS1 S h p e n) 12 0 0 (nI 0)) 12 0 58 (nI (h - 1))) 1357 0 1306 0 (2602 * (h - 1)) 1173 0 2602
section
variable {S : zS} {h p e n x y k : Nat}
theorem un_x (h1 : ¬ (x = 11 ∧ y = 0 ∧ (k = 10 ∨ k = 11))) (h2 : ¬ (x = 12 ∧ y = 0 ∧ (k = 0 ∨ k = 58))) (h3 : ¬ (x = 8 ∧ y = 0 ∧ k ≤ 1)) (h4 : ¬ ((x = 902 ∨ x = 903) ∧ y = 0)) (h5 : ¬ (x = 1306 ∧ y = 0 ∧ 1173 ≤ k)) (h6 : x ≠ 99999) : gI (unS S h p e n) x y k = gI S x y k := by
  unfold unS unS1
  rw [gI_cpR, if_neg (by omega), gI_sI, if_neg (by omega), gI_sI, if_neg (by omega), tcp_x h6 (by omega) (by omega), gI_sI, if_neg (by omega), gI_sI, if_neg (by omega)]
theorem un_s (hk : k < 2602) : gI (unS S h p e n) 1306 0 (1173 + k) = gI S 1357 0 (2602 * (h - 1) + k) := by
  unfold unS unS1
  rw [gI_cpR, if_pos (by omega), gI_sI, if_neg (by omega), gI_sI, if_neg (by omega), tcp_x (by decide) (by omega) (by omega), gI_sI, if_neg (by omega), gI_sI, if_neg (by omega), Nat.add_sub_cancel_left]
theorem un_t (hx : x ≠ 12 ∧ x ≠ 1306) : gI (unS S h p e n) x y k = gI (unS1 S h p e n) x y k := by
  unfold unS
  rw [gI_cpR, if_neg (by omega), gI_sI, if_neg (by omega), gI_sI, if_neg (by omega)]
end
theorem pg_undo {α : Type} {SQ : zQ2 α} (hQ : Lo SQ) {S : zS} (hs : Sd S) {E : α} {h q : Nat} (hP : Pst SQ S E h q) (hT : TLs S) : Pg mX11_undo 1 [zr 11 0] mX12_undo 2 [zr 12 0] S (fun S2 => S2 = sI S 12 0 0 (nI 0) ∧ h = 0 ∨ ∃ p e n, S2 = unS S h p e n ∧ SR SQ S2 E 0 1306 1173 ∧ Pst SQ S2 E (h - 1) p ∧ TLs S2) := by
  obtain ⟨p1, p2, p3, p4, p5, p6⟩ := hP
  by_cases h0 : h = 0
  · subst h0
    exact Pg.mono (pg_get hs (ok_X11_undo_0 hs p1) (ok_X12_undo_0 hs p2) rfl) fun S2 z => Or.inl ⟨z, rfl⟩
  · obtain ⟨n, e9, a1, a2, a3, a4, a5, a6⟩ := hT 0 (by omega)
    obtain ⟨p, hp⟩ : ∃ p, (q + 8 - 1) % 8 = p := ⟨_, rfl⟩
    have hp8 : p < 8 := by omega
    obtain ⟨o, e, b1, b2, b3, b4, b5, b6⟩ := hT (p + 3) (by omega)
    have k1 := ok_X11_undo hs p1 p4 (by omega) p3 p5 hp hp8 a1 a2 (by omega) a4 (show e ≤ 1200 by omega) b5 b1 b2 b6 b4
    have s1 : Sd (unS1 S h p e n) := sd_tcp (S := sI (sI S 11 0 10 (nI (h - 1))) 11 0 11 (nI p)) hs
    have hh1 : gI (unS1 S h p e n) 12 0 58 = nI h := by
      unfold unS1
      rw [tcp_x (by decide) (by omega) (by omega), gI_sI, if_neg (by omega), gI_sI, if_neg (by omega)]
      exact p2
    have k2 := ok_X12_undo s1 hh1 (by omega) p3
    have hsr := p6 0 (by omega)
    rw [show (q + 7 - 0) % 8 = p by omega, show h - 1 - 0 = h - 1 by omega] at hsr
    have ee : nI e = gI (unS S h p e n) 1306 0 1174 := by
      obtain ⟨lv, e', q1, q2, q3, q4, q5, q6⟩ := hsr
      exact (b5.symm.trans q3).trans (q4.symm.trans (un_s (k := 1) (by omega)).symm)
    refine Pg.mono (pg_put (S1 := unS1 S h p e n) (S2 := unS S h p e n) s1 k1 k2 ee) fun S2 z => Or.inr ⟨p, e, n, z, ?_⟩
    subst z
    refine ⟨?_, ⟨?_, ?_, by omega, ?_, hp8, fun i hi => ?_⟩, ?_⟩
    · refine hsr.cong hQ ?_ ?_ ?_ ?_ fun e' k he hl hk => ?_
      · rw [un_t (by omega)]; unfold unS1; rw [tcp_0, gI_sI, if_neg (by omega), gI_sI, if_neg (by omega)]
      · rw [un_t (by omega)]; unfold unS1; rw [tcp_1]; exact b5.symm
      · exact un_s (k := 0) (by omega)
      · exact un_s (k := 1) (by omega)
      · have hee : e' = e := by
          have := he.symm.trans b5
          have t1 := congrArg Int32.toInt this
          rw [nI_toInt (by omega), nI_toInt (by omega)] at t1
          omega
        subst hee
        unfold rw4
        rw [un_t (by omega), un_t (by omega)]
        have w1 := un_s (S := S) (h := h) (p := p) (e := e') (n := n) (k := 2 + k) (by omega)
        have w2 := un_s (S := S) (h := h) (p := p) (e := e') (n := n) (k := 1302 + k) (by omega)
        rw [← Nat.add_assoc, ← Nat.add_assoc] at w1 w2
        rw [w1, w2]
        unfold unS1
        rw [tcp_keys (by omega) hk, tcp_nums (by omega) hk, gI_sI, if_neg (by omega), gI_sI, if_neg (by omega), gI_sI, if_neg (by omega), gI_sI, if_neg (by omega)]
    · rw [un_t (by omega)]; unfold unS1; rw [tcp_x (by decide) (by omega) (by omega), gI_sI, if_neg (by omega), gI_sI, if_pos ⟨rfl, rfl, rfl⟩]
    · unfold unS; rw [gI_cpR, if_neg (by omega), gI_sI, if_pos ⟨rfl, rfl, rfl⟩]
    · rw [un_t (by omega)]; unfold unS1; rw [tcp_x (by decide) (by omega) (by omega), gI_sI, if_pos ⟨rfl, rfl, rfl⟩]
    · have z := p6 (i + 1) (by omega)
      rw [show (q + 7 - (i + 1)) % 8 = (p + 7 - i) % 8 by omega, show h - 1 - (i + 1) = h - 1 - 1 - i by omega] at z
      refine z.cong hQ ?_ ?_ ?_ ?_ fun e' k _ _ _ => ?_
      · exact un_x (by omega) (by omega) (by omega) (by omega) (by omega) (by decide)
      · exact un_x (by omega) (by omega) (by omega) (by omega) (by omega) (by decide)
      · exact un_x (by omega) (by omega) (by omega) (by omega) (by omega) (by decide)
      · exact un_x (by omega) (by omega) (by omega) (by omega) (by omega) (by decide)
      · unfold rw4
        rw [un_x (by omega) (by omega) (by omega) (by omega) (by omega) (by decide), un_x (by omega) (by omega) (by omega) (by omega) (by omega) (by decide), un_x (by omega) (by omega) (by omega) (by omega) (by omega) (by decide), un_x (by omega) (by omega) (by omega) (by omega) (by omega) (by decide)]
    · have t0 : TLs (sI (sI S 11 0 10 (nI (h - 1))) 11 0 11 (nI p)) := fun j hj => (hT j hj).cong rfl rfl (by rw [gI_sI, if_neg (by omega), gI_sI, if_neg (by omega)])
      have t1 : TLs (unS1 S h p e n) := t0.tcp (i := p + 3) (by omega) a1 a2 (show e ≤ 1200 by omega)
      exact fun j hj => (t1 j hj).cong rfl rfl (un_t (by omega))
