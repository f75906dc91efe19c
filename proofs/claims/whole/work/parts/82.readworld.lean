def tLi (s a b k : Nat) : Prop := tLw s a b k ∨ tPm s a b k = true ∨ tAc s a b k = true
/-- one line of the class: what all three readers leave -/
def LiR (S S1 : zS) (s : Nat) (r : Option zV) : zEr ⊕ ((Bool × zWd) × List zTk) → Prop
  | Sum.inl x => r = some (zi (nI 0)) ∧ Fg (tLi s) S S1 ∧ Fl S1 x ∧ TL S1 12
  | Sum.inr ((told, W), ts) => r = some (zi (nI 1)) ∧ Fg (tLi s) S S1 ∧ gI S1 4 0 14 = gI S 4 0 14 ∧ Rc S1 ts ∧ WC S1 s W ∧ TL S1 12 ∧ gI S1 4 0 8 = nI (b01 told)
theorem PmR.li {S S1 : zS} (hs : Sd S) {s : Nat} {r : Option zV} (hT : TL S 12) : ∀ {x : zEr ⊕ ((Bool × zWd) × List zTk)}, PmR S S1 s r x → LiR S S1 s r x
  | Sum.inl x, h => ⟨h.1, h.2.1.fg hs fun a b k z => Or.inr (Or.inl z), h.2.2, hT.cong (gN_22 h.2.1.2.2) (gN_22 h.2.1.2.2) (h.2.1.1 _ _ _ rfl)⟩
  | Sum.inr ((told, W), ts), h => ⟨h.1, h.2.1.fg hs fun a b k z => Or.inr (Or.inl z), h.2.2.1, h.2.2.2.1, h.2.2.2.2.1, hT.cong (gN_22 h.2.1.2.2) (gN_22 h.2.1.2.2) (h.2.1.1 _ _ _ rfl), h.2.2.2.2.2⟩
theorem AcR.li {S S1 : zS} (hs : Sd S) {s : Nat} {r : Option zV} (hT : TL S 12) {told0 : Bool} (h8 : gI S 4 0 8 = nI (b01 told0)) : ∀ {x : zEr ⊕ ((Bool × zWd) × List zTk)}, AcR S S1 s told0 r x → LiR S S1 s r x
  | Sum.inl x, h => ⟨h.1, h.2.1.fg hs fun a b k z => Or.inr (Or.inr z), h.2.2, hT.cong (gN_22 h.2.1.2.2) (gN_22 h.2.1.2.2) (h.2.1.1 _ _ _ (by unfold tAc; simp [tSk]))⟩
  | Sum.inr ((told, W), ts), h => ⟨h.1, h.2.1.fg hs fun a b k z => Or.inr (Or.inr z), h.2.2.1, h.2.2.2.1, h.2.2.2.2.1, hT.cong (gN_22 h.2.1.2.2) (gN_22 h.2.1.2.2) (h.2.1.1 _ _ _ (by unfold tAc; simp [tSk])), by rw [h.2.2.2.2.2]; exact (h.2.1.1 _ _ _ (by unfold tAc; simp [tSk])).trans h8⟩
theorem LwR.li {S S1 : zS} {s : Nat} {r : Option zV} {told0 : Bool} (h8 : gI S 4 0 8 = nI (b01 told0)) : ∀ {x : zEr ⊕ ((Bool × zWd) × List zTk)}, LwR S S1 s told0 r x → LiR S S1 s r x
  | Sum.inl x, h => ⟨h.1, h.2.1.mono fun a b k z => Or.inl z, h.2.2⟩
  | Sum.inr ((told, W), ts), h => ⟨h.1, h.2.1.mono fun a b k z => Or.inl z, h.2.2.1, h.2.2.2.1, h.2.2.2.2.1, h.2.2.2.2.2.1, by
      rw [h.2.2.2.2.2.2]
      exact (h.2.1.I (by omega) (by unfold tLw tTm tTy; simp [tTr, tCa, tSk])).trans h8⟩

set_option maxRecDepth 100000 in
theorem ok_X9_clear {S : zS} (hs : Sd S) {s : Nat} (hs4 : s < 4) : Ok mX9_clear 0 (ent 1 [zr 9 s]) [] S (fun r S1 => r = none ∧ S1 = sI (sI (sI S 9 s 0 (nI 97)) 9 s 1 (nI 0)) 9 s 4 (nI 0)) := by
  show Ok mX9_clear 0 [some (zr 9 s)] [] S _
  refine r_aload_n (q := 1) dX9_clear_0 rfl rfl rfl ?_
  refine r_bipush (q := 3) (nI 97) dX9_clear_1 rfl (by decide) ?_
  refine r_puti (q := 6) ck9 dX9_clear_3 rfl (k := 0) (by decide) wt289 (Or.inl rfl) rfl (hs.e (show s < 4 by omega)) ?_
  refine r_aload_n (q := 7) dX9_clear_6 rfl rfl rfl ?_
  refine r_iconst (q := 8) (nI 0) dX9_clear_7 rfl (by decide) ?_
  refine r_puti (q := 11) ck9 dX9_clear_8 rfl (k := 1) (by decide) wt296 (Or.inl rfl) rfl (hs.e (show s < 4 by omega)) ?_
  refine r_aload_n (q := 12) dX9_clear_11 rfl rfl rfl ?_
  refine r_iconst (q := 13) (nI 0) dX9_clear_12 rfl (by decide) ?_
  refine r_puti (q := 16) ck9 dX9_clear_13 rfl (k := 4) (by decide) wt312 (Or.inl rfl) rfl (hs.e (show s < 4 by omega)) ?_
  refine r_return dX9_clear_16 rfl ?_
  exact ⟨rfl, rfl⟩

theorem wc_clear {S : zS} {s : Nat} (h : gI S 1006 s 0 = nI 0) : WC (sI (sI (sI S 9 s 0 (nI 97)) 9 s 1 (nI 0)) 9 s 4 (nI 0)) s w0 :=
  ⟨by rw [gI_sI, if_neg (by omega), gI_sI, if_neg (by omega), gI_sI, if_pos ⟨rfl, rfl, rfl⟩]; rfl, by rw [gI_sI, if_neg (by omega), gI_sI, if_pos ⟨rfl, rfl, rfl⟩]; rfl, by rw [gI_sI, if_pos ⟨rfl, rfl, rfl⟩]; rfl, fun a ha => absurd ha (by simp [w0, wA]), fun L hL => absurd hL (by simp [w0, wL]), fun L hL => by
    have : L = 0 := by have : L ≤ 0 := hL; omega
    subst this
    rw [gI_sI, if_neg (by omega), gI_sI, if_neg (by omega), gI_sI, if_neg (by omega)]; exact h, fun L k hL => absurd hL (by simp [w0, wL])⟩

