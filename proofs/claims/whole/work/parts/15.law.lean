/-! THE LAW'S SCRIPT, AND THE CLAIM OUT OF ONE Ok OF THE LAW -/
theorem r_slen {M : mD} {pc q : Nat} {L : List (Option zV)} {st : List zV} {S : zS} {Po : Option zV → zS → Prop} (hM : mo M = RL ∧ (my M).name = "law") (hd : decode (mb M) pc = .ok (.arraylength, 1)) (hq : pc + 1 = q) (kk : Ok M q L (zi (nI (mx M).1) :: st) S Po) : Ok M pc L (zr 77777 0 :: st) S Po := by
  subst hq
  refine r_gen rfl rfl (fun _ _ => rfl) (fun X G cx adr H locs cells slots Q ls hR hS hl kk => ?_) kk
  obtain ⟨hx, hb, -, ho, -, -, -, -, hK, -, -, -, hs, -⟩ := cx
  obtain ⟨h1, h2, h3⟩ := hs hM
  have e : tr adr (zr 77777 0) = .ref (G.2.1 100) := congrArg Value.ref hR.2.2.2.2
  show W _ _ _ _ _ _ _ _ _ _ H locs cells slots Q (F0 _ pc ls (tr adr (zr 77777 0) :: st.map (tr adr)))
  rw [e]
  exact va_slen hx hb h1 h2 (Nat.not_le.mpr h3) hS hd (kk H locs ls hR hS hl)
theorem r_sldN {M : mD} {pc q j : Nat} {L : List (Option zV)} {st : List zV} {S : zS} {Po : Option zV → zS → Prop} (hM : mo M = RL ∧ (my M).name = "law") (hd : decode (mb M) pc = .ok (.iaload, 1)) (hq : pc + 1 = q) (hj : j < (mx M).1) (hn : (mx M).1 < 2147483648) (kk : Ok M q L (zi ((mx M).2 j) :: st) S Po) : Ok M pc L (zi (nI j) :: zr 77777 0 :: st) S Po := by
  subst hq
  refine r_gen rfl rfl (fun _ _ => rfl) (fun X G cx adr H locs cells slots Q ls hR hS hl kk => ?_) kk
  obtain ⟨hx, hb, -, ho, -, -, -, -, hK, -, -, -, hs, -⟩ := cx
  obtain ⟨h1, h2, h3⟩ := hs hM
  have e : tr adr (zr 77777 0) = .ref (G.2.1 100) := congrArg Value.ref hR.2.2.2.2
  show W _ _ _ _ _ _ _ _ _ _ H locs cells slots Q (F0 _ pc ls (.int (nI j) :: tr adr (zr 77777 0) :: st.map (tr adr)))
  rw [e]
  refine va_sld hx hb h1 h2 (Nat.not_le.mpr h3) hS (vpN hj hn) hd ?_
  rw [clN hj hn]
  exact kk H locs ls hR hS hl
def mL_law (n : Nat) (f : Nat → Int32) : mD := (RL, cL_law, 8, some .boolean, yL_law, 9, 240, 2, n, f)
