/-! frames of calls in which rows may grow, with what they may still take of the room -/
def sm (f : Nat → Nat) : Nat → Nat
  | 0 => 0
  | n + 1 => sm f n + f n
theorem sm_cong {f g : Nat → Nat} : ∀ {n : Nat}, (∀ i, i < n → f i = g i) → sm f n = sm g n
  | 0, _ => rfl
  | n + 1, h => by rw [sm, sm, sm_cong (fun i hi => h i (by omega)), h n (by omega)]
theorem sm_upd {f g : Nat → Nat} {j : Nat} : ∀ {n : Nat}, j < n → (∀ i, i < n → i ≠ j → f i = g i) → sm f n + g j = sm g n + f j
  | 0, h, _ => absurd h (by omega)
  | n + 1, h, hc => by
    rw [sm, sm]
    by_cases hj : j = n
    · subst hj
      rw [sm_cong (fun i hi => hc i (by omega) (by omega))]; omega
    · have := sm_upd (f := f) (g := g) (j := j) (n := n) (by omega) (fun i hi hn => hc i (by omega) hn)
      have := hc n (by omega) (by omega)
      omega
def bks : List Nat := [1, 8, 16, 27, 32, 64, 81, 128, 243, 256, 729, 2187, 6561]
def c8 (n : Nat) : Nat := 2 * (1200 - n)
def q8 (n : Nat) : Nat := 4 * (1200 - n) + if n < 1200 then 2400 else 0
def c0 (n : Nat) : Nat := (35772 - n) / 512
def q0 (n : Nat) : Nat := 35261 * min 1 (35261 - n) + 2 * (35261 - n)
def c1 (n : Nat) : Nat := 3 * (bks.filter (fun c => decide (n < c))).length
def q1 (n : Nat) : Nat := 3 * (bks.filter (fun c => decide (n < c))).sum
def pC (S : zS) : Nat := sm (fun j => c8 (gN S 902 j)) 19 + sm (fun b => c0 (gN S 107 b)) 4 + c1 (gN S 202 0)
def pQ (S : zS) : Nat := sm (fun j => q8 (gN S 902 j)) 19 + sm (fun b => q0 (gN S 107 b)) 4 + q1 (gN S 202 0)
def Fg (T : Nat → Nat → Nat → Prop) (S S1 : zS) : Prop := Sd S1 ∧ (∀ a b k, a ≠ 99999 → ¬ T a b k → gI S1 a b k = gI S a b k) ∧ (∀ a b k, a ≠ 99999 → ¬ T a b k → gJ S1 a b k = gJ S a b k) ∧ (∀ a b, a ≠ 99999 → ¬ T a b 0 → gN S1 a b = gN S a b) ∧ gC S1 + pC S1 ≤ gC S + pC S ∧ gQ S1 + pQ S1 ≤ gQ S + pQ S
theorem Fg.sd {T : Nat → Nat → Nat → Prop} {S S1 : zS} (h : Fg T S S1) : Sd S1 := h.1
theorem Fg.I {T : Nat → Nat → Nat → Prop} {S S1 : zS} (h : Fg T S S1) {a b k : Nat} (ha : a ≠ 99999) (ht : ¬ T a b k) : gI S1 a b k = gI S a b k := h.2.1 a b k ha ht
theorem Fg.J {T : Nat → Nat → Nat → Prop} {S S1 : zS} (h : Fg T S S1) {a b k : Nat} (ha : a ≠ 99999) (ht : ¬ T a b k) : gJ S1 a b k = gJ S a b k := h.2.2.1 a b k ha ht
theorem Fg.N {T : Nat → Nat → Nat → Prop} {S S1 : zS} (h : Fg T S S1) {a b : Nat} (ha : a ≠ 99999) (ht : ¬ T a b 0) : gN S1 a b = gN S a b := h.2.2.2.1 a b ha ht
theorem Fg.rf {T : Nat → Nat → Nat → Prop} {S : zS} (hs : Sd S) : Fg T S S := ⟨hs, fun _ _ _ _ _ => rfl, fun _ _ _ _ _ => rfl, fun _ _ _ _ => rfl, Nat.le_refl _, Nat.le_refl _⟩
theorem Fg.tr {T : Nat → Nat → Nat → Prop} {S S1 S2 : zS} (h : Fg T S S1) (g : Fg T S1 S2) : Fg T S S2 := ⟨g.1, fun a b k x y => (g.I x y).trans (h.I x y), fun a b k x y => (g.J x y).trans (h.J x y), fun a b x y => (g.N x y).trans (h.N x y), Nat.le_trans g.2.2.2.2.1 h.2.2.2.2.1, Nat.le_trans g.2.2.2.2.2 h.2.2.2.2.2⟩
theorem Fg.mono {T U : Nat → Nat → Nat → Prop} {S S1 : zS} (h : Fg T S S1) (hu : ∀ a b k, T a b k → U a b k) : Fg U S S1 := ⟨h.1, fun a b k x y => h.I x (fun z => y (hu a b k z)), fun a b k x y => h.J x (fun z => y (hu a b k z)), fun a b x y => h.N x (fun z => y (hu a b 0 z)), h.2.2.2.2⟩
theorem pC_22 {S S1 : zS} (h : S1.2.2 = S.2.2) : pC S1 = pC S ∧ pQ S1 = pQ S ∧ gC S1 = gC S ∧ gQ S1 = gQ S := by
  unfold pC pQ gN gC gQ
  rw [h]
  exact ⟨rfl, rfl, rfl, rfl⟩
theorem Fr.fg {T : Nat → Nat → Nat → Bool} {U : Nat → Nat → Nat → Prop} {S S1 : zS} (h : Fr T S S1) (hs : Sd S) (hu : ∀ a b k, T a b k = true → U a b k) : Fg U S S1 := by
  obtain ⟨e1, e2, e3, e4⟩ := pC_22 h.2.2
  have tf : ∀ a b k, ¬ U a b k → T a b k = false := fun a b k z => by
    cases q : T a b k with
    | false => rfl
    | true => exact absurd (hu a b k q) z
  refine ⟨hs.fr h, fun a b k _ z => h.1 a b k (tf a b k z), fun a b k _ z => h.2.1 a b k (tf a b k z), fun a b _ _ => ?_, by rw [e1, e3]; exact Nat.le_refl _, by rw [e2, e4]; exact Nat.le_refl _⟩
  unfold gN
  rw [h.2.2]
/-- what a store that is given by its values alone leaves as it was -/
theorem Fg.of22 {U : Nat → Nat → Nat → Prop} {S S1 : zS} (hs : Sd S) (h : S1.2.2 = S.2.2) (hI : ∀ a b k, a ≠ 99999 → ¬ U a b k → gI S1 a b k = gI S a b k) (hJ : ∀ a b k, a ≠ 99999 → ¬ U a b k → gJ S1 a b k = gJ S a b k) : Fg U S S1 := by
  obtain ⟨e1, e2, e3, e4⟩ := pC_22 h
  refine ⟨?_, hI, hJ, fun a b _ _ => ?_, by rw [e1, e3]; exact Nat.le_refl _, by rw [e2, e4]; exact Nat.le_refl _⟩
  · unfold Sd Wg Wz gE gR gN gC at *
    rw [h]
    exact hs
  · unfold gN
    rw [h]
def tTy (j a b k : Nat) : Prop := a = 8 ∧ b = j ∧ k = 1 ∨ (a = 902 ∨ a = 903) ∧ b = j
theorem Fg.room8 {S : zS} (hs : Sd S) {j e n : Nat} (hj : j < 19) (h2 : gN S 902 j = n) (h3 : gN S 903 j = n) (hn : 1 ≤ n) (hn9 : n ≤ 1200) (he : e ≤ 1200) : Fg (tTy j) S (_root_.Jvm.Pilot.CLeafWorldsLaw_law_r8483_d58aac.room8 S j e n) := by
  refine ⟨sd_room8 hs, fun a b k ha ht => gI_room8 ha (fun z => ht (Or.inr ⟨z.1, z.2.1⟩)), fun a b k ha ht => gJ_room8 ha, fun a b ha ht => gN_room8_x ha (fun z => ht (Or.inr z)), ?_, ?_⟩
  · by_cases hen : e ≤ n
    · unfold _root_.Jvm.Pilot.CLeafWorldsLaw_law_r8483_d58aac.room8; rw [if_pos hen]; exact Nat.le_refl _
    · have hu := sm_upd (f := fun i => c8 (gN (_root_.Jvm.Pilot.CLeafWorldsLaw_law_r8483_d58aac.room8 S j e n) 902 i)) (g := fun i => c8 (gN S 902 i)) hj (fun i _ hi => by show c8 _ = c8 _; rw [gN_room8_x (by omega) (by omega)])
      have e1 : gN (_root_.Jvm.Pilot.CLeafWorldsLaw_law_r8483_d58aac.room8 S j e n) 902 j = rlen e n := gN_room8_j (Or.inl rfl) h2
      have e2 : sm (fun b => c0 (gN (_root_.Jvm.Pilot.CLeafWorldsLaw_law_r8483_d58aac.room8 S j e n) 107 b)) 4 = sm (fun b => c0 (gN S 107 b)) 4 := sm_cong fun i _ => by rw [gN_room8_x (by omega) (by omega)]
      have e3 : gN (_root_.Jvm.Pilot.CLeafWorldsLaw_law_r8483_d58aac.room8 S j e n) 202 0 = gN S 202 0 := gN_room8_x (by omega) (by omega)
      rw [e1, h2] at hu
      unfold pC
      rw [e2, e3, gC_room8, if_neg hen]
      have hr : rlen e n = min 1200 (max e (2 * n)) := if_neg hen
      unfold c8 at hu ⊢
      rw [hr] at hu
      omega
  · by_cases hen : e ≤ n
    · unfold _root_.Jvm.Pilot.CLeafWorldsLaw_law_r8483_d58aac.room8; rw [if_pos hen]; exact Nat.le_refl _
    · have hu := sm_upd (f := fun i => q8 (gN (_root_.Jvm.Pilot.CLeafWorldsLaw_law_r8483_d58aac.room8 S j e n) 902 i)) (g := fun i => q8 (gN S 902 i)) hj (fun i _ hi => by show q8 _ = q8 _; rw [gN_room8_x (by omega) (by omega)])
      have e1 : gN (_root_.Jvm.Pilot.CLeafWorldsLaw_law_r8483_d58aac.room8 S j e n) 902 j = rlen e n := gN_room8_j (Or.inl rfl) h2
      have e2 : sm (fun b => q0 (gN (_root_.Jvm.Pilot.CLeafWorldsLaw_law_r8483_d58aac.room8 S j e n) 107 b)) 4 = sm (fun b => q0 (gN S 107 b)) 4 := sm_cong fun i _ => by rw [gN_room8_x (by omega) (by omega)]
      have e3 : gN (_root_.Jvm.Pilot.CLeafWorldsLaw_law_r8483_d58aac.room8 S j e n) 202 0 = gN S 202 0 := gN_room8_x (by omega) (by omega)
      rw [e1, h2] at hu
      unfold pQ
      rw [e2, e3, gQ_room8, if_neg hen]
      have hr : rlen e n = min 1200 (max e (2 * n)) := if_neg hen
      have h4 : q8 (rlen e n) + (rlen e n + rlen e n) ≤ q8 n := by
        unfold q8
        rw [hr]
        by_cases h5 : min 1200 (max e (2 * n)) < 1200
        · rw [if_pos h5, if_pos (by omega)]; omega
        · rw [if_neg h5, if_pos (by omega)]; omega
      omega
