theorem pig4 {cc : Nat} {k0 k1 : Int32} (h : ∀ i, i < 4 → i = cc ∨ nI i = k0 ∨ nI i = k1) : False := by
  have h' : ∀ i, i < 4 → i = cc ∨ (i : Int) = k0.toInt ∨ (i : Int) = k1.toInt := fun i hi => (h i hi).imp id (fun z => z.imp (fun z => by rw [← z, nI_toInt (by omega)]) (fun z => by rw [← z, nI_toInt (by omega)]))
  have a := h' 0 (by omega)
  have b := h' 1 (by omega)
  have c := h' 2 (by omega)
  have d := h' 3 (by omega)
  omega

set_option maxRecDepth 100000 in
theorem lp_freeSlot {S : zS} (hs : Sd S) {cc : Nat} (hcc : gI S 11 0 3 = nI cc) (hc4 : cc < 4) : ∀ (d j : Nat), j + d = 4 → (∀ i, i < j → i = cc ∨ nI i = gI S 1204 0 0 ∨ nI i = gI S 1204 0 1) → Ok mX11_freeSlot 2 [some (zr 11 0), some (zi (nI j))] [] S (fun r S1 => (∃ s, s < 4 ∧ r = some (zi (nI s)) ∧ s ≠ cc ∧ nI s ≠ gI S 1204 0 0 ∧ nI s ≠ gI S 1204 0 1) ∧ S1 = S) := by
  intro d
  induction d with
  | zero =>
    intro j hj h
    obtain rfl : j = 4 := by omega
    exact (pig4 h).elim
  | succ d ih =>
    intro j hj h
    refine r_iload_n (q := 3) dX11_freeSlot_2 rfl rfl rfl ?_
    refine r_aload_n (q := 4) dX11_freeSlot_3 rfl rfl rfl ?_
    refine r_getr (q := 7) (some (1202, 0)) ck11 dX11_freeSlot_4 rfl (k := 2) (by decide) wt424 rfl (hs.e (by decide)) (hs.r (by decide) (by decide)) ?_
    refine r_alen (q := 8) (by decide) (by decide) dX11_freeSlot_7 rfl (hs.e (by decide)) ?_
    refine r_topi (y := nI 4) (congrArg nI (hs.n rfl (by decide))) ?_
    refine r_icmp_geN (q := 11) (t := 47) (by omega) (by omega) dX11_freeSlot_8 (by decide) rfl (fun h8 => absurd h8 (by omega)) (fun h8 => ?_)
    refine r_iload_n (q := 12) dX11_freeSlot_11 rfl rfl rfl ?_
    refine r_aload_n (q := 13) dX11_freeSlot_12 rfl rfl rfl ?_
    refine r_geti (q := 16) ck11 dX11_freeSlot_13 rfl (k := 3) (by decide) wt425 (Or.inl rfl) (hs.e (by decide)) ?_
    refine r_topi (y := nI cc) hcc ?_
    refine r_icmp_eqN (q := 19) (t := 41) (by omega) (by omega) dX11_freeSlot_16 (by decide) rfl (fun h16 => ?_) (fun h16 => ?_)
    · skip
      refine r_iincN (q := 44) (L' := [some (zr 11 0), some (zi (nI (j + 1)))]) 1 rfl dX11_freeSlot_41 rfl rfl (by decide) rfl ?_
      refine r_goto (q := 2) dX11_freeSlot_44 (by decide) ?_
      exact ih (j + 1) (by omega) (fun i hi => by rcases Nat.lt_or_eq_of_le (Nat.le_of_lt_succ hi) with z | z; exact h i z; rw [z]; exact Or.inl h16)
    · skip
      refine r_iload_n (q := 20) dX11_freeSlot_19 rfl rfl rfl ?_
      refine r_aload_n (q := 21) dX11_freeSlot_20 rfl rfl rfl ?_
      refine r_getr (q := 24) (some (1204, 0)) ck11 dX11_freeSlot_21 rfl (k := 4) (by decide) wt426 rfl (hs.e (by decide)) (hs.r (by decide) (by decide)) ?_
      refine r_iconst (q := 25) (nI 0) dX11_freeSlot_24 rfl (by decide) ?_
      refine r_ialdN (q := 26) 2 (by decide) rfl dX11_freeSlot_25 rfl (hs.e (by decide)) (hs.n rfl (by decide)) (by omega) (by decide) ?_
      refine r_icmp_eq (q := 29) (t := 41) dX11_freeSlot_26 (by decide) rfl (fun h26 => ?_) (fun h26 => ?_)
      · skip
        refine r_iincN (q := 44) (L' := [some (zr 11 0), some (zi (nI (j + 1)))]) 1 rfl dX11_freeSlot_41 rfl rfl (by decide) rfl ?_
        refine r_goto (q := 2) dX11_freeSlot_44 (by decide) ?_
        exact ih (j + 1) (by omega) (fun i hi => by rcases Nat.lt_or_eq_of_le (Nat.le_of_lt_succ hi) with z | z; exact h i z; rw [z]; exact Or.inr (Or.inl h26))
      · skip
        refine r_iload_n (q := 30) dX11_freeSlot_29 rfl rfl rfl ?_
        refine r_aload_n (q := 31) dX11_freeSlot_30 rfl rfl rfl ?_
        refine r_getr (q := 34) (some (1204, 0)) ck11 dX11_freeSlot_31 rfl (k := 4) (by decide) wt426 rfl (hs.e (by decide)) (hs.r (by decide) (by decide)) ?_
        refine r_iconst (q := 35) (nI 1) dX11_freeSlot_34 rfl (by decide) ?_
        refine r_ialdN (q := 36) 2 (by decide) rfl dX11_freeSlot_35 rfl (hs.e (by decide)) (hs.n rfl (by decide)) (by omega) (by decide) ?_
        refine r_icmp_eq (q := 39) (t := 41) dX11_freeSlot_36 (by decide) rfl (fun h36 => ?_) (fun h36 => ?_)
        · skip
          refine r_iincN (q := 44) (L' := [some (zr 11 0), some (zi (nI (j + 1)))]) 1 rfl dX11_freeSlot_41 rfl rfl (by decide) rfl ?_
          refine r_goto (q := 2) dX11_freeSlot_44 (by decide) ?_
          exact ih (j + 1) (by omega) (fun i hi => by rcases Nat.lt_or_eq_of_le (Nat.le_of_lt_succ hi) with z | z; exact h i z; rw [z]; exact Or.inr (Or.inr h36))
        · skip
          refine r_iload_n (q := 40) dX11_freeSlot_39 rfl rfl rfl ?_
          refine r_ireturn dX11_freeSlot_40 rfl ?_
          exact ⟨⟨j, by omega, rfl, h16, h26, h36⟩, rfl⟩

set_option maxRecDepth 100000 in
theorem ok_freeSlot {S : zS} (hs : Sd S) {cc : Nat} (hcc : gI S 11 0 3 = nI cc) (hc4 : cc < 4) : Ok mX11_freeSlot 0 (ent 2 [zr 11 0]) [] S (fun r S1 => (∃ s, s < 4 ∧ r = some (zi (nI s)) ∧ s ≠ cc ∧ nI s ≠ gI S 1204 0 0 ∧ nI s ≠ gI S 1204 0 1) ∧ S1 = S) := by
  show Ok mX11_freeSlot 0 [some (zr 11 0), none] [] S _
  refine r_iconst (q := 1) (nI 0) dX11_freeSlot_0 rfl (by decide) ?_
  refine r_istore_n (q := 2) (L' := [some (zr 11 0), some (zi (nI 0))]) dX11_freeSlot_1 rfl rfl (by decide) rfl ?_
  exact lp_freeSlot hs hcc hc4 4 0 (by omega) (fun i hi => absurd hi (by omega))

