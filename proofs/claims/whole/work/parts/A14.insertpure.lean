/-! a row entered by the reference: rows stay clear of each other -/
/-- the new rows: the top's, and those above it cleared -/
def nbs (P : Nat) (bs : Nat → Nat → Nat) (t0 : Nat) (r : Nat → Nat) (t j : Nat) : Nat := if t = t0 then r j else if t0 < t then (if j ≤ t0 then (bs t j + (P - bs t t0) * r j) % P else bs t j) else bs t j
def npv (pv : Nat → Bool) (t0 t : Nat) : Bool := if t = t0 then true else pv t
/-- rows with a top 1 each, none in another -/
def RwOk (m P : Nat) (pv : Nat → Bool) (bs : Nat → Nat → Nat) : Prop := ∀ t, t < m → pv t = true → (∀ j, j < m → bs t j < P) ∧ bs t t = 1 ∧ (∀ j, t < j → j < m → bs t j = 0) ∧ ∀ s, s < m → s ≠ t → pv s = true → bs t s = 0
theorem nbs_ok {m P : Nat} (h2 : 2 ≤ P) {pv : Nat → Bool} {bs : Nat → Nat → Nat} (h : RwOk m P pv bs) {t0 : Nat} (ht0 : t0 < m) (hp0 : pv t0 = false) {r : Nat → Nat} (hr : ∀ j, j < m → r j < P) (hr1 : r t0 = 1) (hrz : ∀ j, t0 < j → j < m → r j = 0) (hrp : ∀ s, s < m → pv s = true → r s = 0) : RwOk m P (npv pv t0) (nbs P bs t0 r) := by
  intro t ht hp
  unfold npv at hp
  by_cases e : t = t0
  · subst e
    have en : ∀ j, nbs P bs t r t j = r j := fun j => if_pos rfl
    refine ⟨fun j hj => by rw [en]; exact hr j hj, by rw [en]; exact hr1, fun j a b => by rw [en]; exact hrz j a b, fun s hs hst hps => ?_⟩
    rw [en]
    unfold npv at hps
    rw [if_neg hst] at hps
    exact hrp s hs hps
  · rw [if_neg e] at hp
    obtain ⟨a1, a2, a3, a4⟩ := h t ht hp
    by_cases q : t0 < t
    · have en : ∀ j, nbs P bs t0 r t j = if j ≤ t0 then (bs t j + (P - bs t t0) * r j) % P else bs t j := fun j => (if_neg e).trans (if_pos q)
      refine ⟨fun j hj => ?_, ?_, fun j a b => ?_, fun s hs hst hps => ?_⟩
      · rw [en]
        split
        · exact Nat.mod_lt _ (by omega)
        · exact a1 j hj
      · rw [en, if_neg (by omega)]; exact a2
      · rw [en, if_neg (by omega)]; exact a3 j a b
      · rw [en]
        unfold npv at hps
        by_cases e2 : s = t0
        · have := a1 t0 ht0
          rw [e2, if_pos (Nat.le_refl _), hr1, Nat.mul_one, show bs t t0 + (P - bs t t0) = P by omega, Nat.mod_self]
        · rw [if_neg e2] at hps
          by_cases q2 : s ≤ t0
          · rw [if_pos q2, a4 s hs hst hps, hrp s hs hps, Nat.mul_zero, Nat.add_zero, Nat.zero_mod]
          · rw [if_neg q2]; exact a4 s hs hst hps
    · have en : ∀ j, nbs P bs t0 r t j = bs t j := fun j => (if_neg e).trans (if_neg q)
      refine ⟨fun j hj => by rw [en]; exact a1 j hj, by rw [en]; exact a2, fun j a b => by rw [en]; exact a3 j a b, fun s hs hst hps => ?_⟩
      rw [en]
      unfold npv at hps
      by_cases e2 : s = t0
      · rw [e2]; exact a3 t0 (by omega) ht0
      · rw [if_neg e2] at hps
        exact a4 s hs hst hps
/-- a row above, cleared, is the old one less the new row -/
theorem nbs_row {T : List (List Nat)} (hT : T.Nodup) {P : Nat} {pv : Nat → Bool} {bs : Nat → Nat → Nat} (h : RwOk T.length P pv bs) {t0 : Nat} (ht0 : t0 < T.length) {r : Nat → Nat} (hrz : ∀ j, t0 < j → j < T.length → r j = 0) {t : Nat} (ht : t < T.length) (hne : t ≠ t0) (hp : pv t = true) : Li P (V T (RR (nbs P bs t0 r) t)) (V T (RR bs t) ++ scl (-(bs t t0 : Int)) (V T (fun j => (r j : Int)))) := by
  obtain ⟨a1, a2, a3, a4⟩ := h t ht hp
  refine (li_V hT (fun p hp => ?_) fun k hk => ?_).sy
  · rcases List.mem_append.mp hp with z | z
    · exact V_mem p z
    · rw [V_sc] at z; exact V_mem p z
  · rw [co_app, co_sc, co_V hT hk, co_V hT hk]
    unfold RR nbs
    rw [if_neg hne]
    by_cases q : t0 < t
    · rw [if_pos q]
      by_cases q2 : k ≤ t0
      · rw [if_pos q2]
        have b0 := a1 t0 ht0
        have h3 := mod_dvd (bs t k + (P - bs t t0) * r k) P
        rw [Int.natCast_add, Int.natCast_mul, Int.natCast_sub (by omega), Int.sub_mul] at h3
        have h4 : (P : Int) ∣ (P : Int) * (r k : Int) := Int.dvd_mul_right _ _
        have h5 := dvd_sy (a := ((bs t k + (P - bs t t0) * r k) % P : Nat)) (b := (bs t k : Int) + -(bs t t0 : Int) * (r k : Int)) (by
          have := Int.dvd_add h3 h4
          have e9 : -(bs t t0 : Int) * (r k : Int) = -((bs t t0 : Int) * (r k : Int)) := Int.neg_mul _ _
          rw [e9]
          rw [show ((bs t k + (P - bs t t0) * r k) % P : Nat) - ((bs t k : Int) + ((P : Int) * (r k : Int) - (bs t t0 : Int) * (r k : Int))) + (P : Int) * (r k : Int) = ((bs t k + (P - bs t t0) * r k) % P : Nat) - ((bs t k : Int) + -((bs t t0 : Int) * (r k : Int))) by omega] at this
          exact this)
        exact h5
      · rw [if_neg q2, hrz k (by omega) hk]
        simp
    · rw [if_neg q, a3 t0 (by omega) ht0]
      simp
/-- a row entered: all that was had is had, and the row -/
theorem ins_top {T : List (List Nat)} (hT : T.Nodup) {P : Nat} (h2 : 2 ≤ P) {pv : Nat → Bool} {bs : Nat → Nat → Nat} (h : RwOk T.length P pv bs) {v v' : Nat → Nat} (hR : RedR T P pv bs v v') (hv' : ∀ j, j < T.length → v' j < P) {t0 i : Nat} (ht0 : t0 < T.length) (h0 : v' t0 ≠ 0) (hgt : ∀ j, t0 < j → j < T.length → v' j = 0) (hinv : i * v' t0 % P = 1) (G : zL → Prop) (hG : Sp P G (Vn T v)) (hrows : ∀ t, t < T.length → pv t = true → Sp P G (V T (RR bs t))) :
    RwOk T.length P (npv pv t0) (nbs P bs t0 (fun j => v' j * i % P)) ∧ Sp P (Rw T (npv pv t0) (RR (nbs P bs t0 (fun j => v' j * i % P)))) (Vn T v) ∧ (∀ u, Rw T pv (RR bs) u → Sp P (Rw T (npv pv t0) (RR (nbs P bs t0 (fun j => v' j * i % P)))) u) ∧ ∀ t, t < T.length → npv pv t0 t = true → Sp P G (V T (RR (nbs P bs t0 (fun j => v' j * i % P)) t)) := by
  have hp0 : pv t0 = false := by
    cases q : pv t0 with
    | false => rfl
    | true => exact absurd (hR.1 t0 ht0 q) h0
  have hrz : ∀ j, t0 < j → j < T.length → v' j * i % P = 0 := fun j a b => by rw [hgt j a b, Nat.zero_mul, Nat.zero_mod]
  have hc := (hR.2 T.length (fun t a b => absurd a (by omega))).2
  have hiv : (P : Int) ∣ (i : Int) * (v' t0 : Int) - 1 := by
    have := mod_dvd (i * v' t0) P
    rw [hinv, Int.natCast_mul] at this
    exact dvd_sy this
  have hrow : Li P (V T (RR (nbs P bs t0 (fun j => v' j * i % P)) t0)) (scl (i : Int) (Vn T v')) := by
    unfold Vn
    rw [V_sc]
    refine li_VV hT fun j hj => ?_
    show (P : Int) ∣ ((nbs P bs t0 (fun j => v' j * i % P) t0 j : Nat) : Int) - (i : Int) * (v' j : Int)
    have e1 : nbs P bs t0 (fun j => v' j * i % P) t0 j = v' j * i % P := if_pos rfl
    rw [e1, Int.mul_comm (i : Int), ← Int.natCast_mul]
    exact mod_dvd _ _
  have hrowR : Li P (V T (fun j => ((v' j * i % P : Nat) : Int))) (V T (RR (nbs P bs t0 (fun j => v' j * i % P)) t0)) := Li.of fun t => by
    rw [V_cong (T := T) (v := fun j => ((v' j * i % P : Nat) : Int)) (w := RR (nbs P bs t0 (fun j => v' j * i % P)) t0) (fun j _ => by
      show _ = ((nbs P bs t0 (fun j => v' j * i % P) t0 j : Nat) : Int)
      have e1 : nbs P bs t0 (fun j => v' j * i % P) t0 j = v' j * i % P := if_pos rfl
      rw [e1])]
  have gtop : Sp P (Rw T (npv pv t0) (RR (nbs P bs t0 (fun j => v' j * i % P)))) (V T (RR (nbs P bs t0 (fun j => v' j * i % P)) t0)) := Sp.gen ⟨t0, ht0, if_pos rfl, rfl⟩
  have hold : ∀ u, Rw T pv (RR bs) u → Sp P (Rw T (npv pv t0) (RR (nbs P bs t0 (fun j => v' j * i % P)))) u := fun u hu => by
    obtain ⟨t, ht, hpt, rfl⟩ := hu
    have hne : t ≠ t0 := fun z => by rw [z, hp0] at hpt; cases hpt
    have l1 := nbs_row hT h ht0 hrz ht hne hpt
    have g1 : Sp P (Rw T (npv pv t0) (RR (nbs P bs t0 (fun j => v' j * i % P)))) (V T (RR (nbs P bs t0 (fun j => v' j * i % P)) t)) := Sp.gen ⟨t, ht, by unfold npv; rw [if_neg hne]; exact hpt, rfl⟩
    refine (g1.app ((gtop.li hrowR.sy).sc (bs t t0 : Int))).li fun s => ?_
    have := l1 s
    rw [co_app, co_sc] at this ⊢
    have e9 : -(bs t t0 : Int) * co (V T (fun j => ((v' j * i % P : Nat) : Int))) s = -((bs t t0 : Int) * co (V T (fun j => ((v' j * i % P : Nat) : Int))) s) := Int.neg_mul _ _
    rw [e9] at this
    rw [show co (V T (RR (nbs P bs t0 fun j => v' j * i % P) t)) s + (bs t t0 : Int) * co (V T (fun j => ((v' j * i % P : Nat) : Int))) s - co (V T (RR bs t)) s = co (V T (RR (nbs P bs t0 fun j => v' j * i % P) t)) s - (co (V T (RR bs t)) s + -((bs t t0 : Int) * co (V T (fun j => ((v' j * i % P : Nat) : Int))) s)) by omega]
    exact this
  have hKr : ∀ u, RwKr T pv bs T.length u → Rw T pv (RR bs) u := fun u hu => by
    obtain ⟨s, _, s1, s2, rfl⟩ := hu
    exact ⟨s, s1, s2, rfl⟩
  have hv'G : Sp P G (Vn T v') := (Cg.sy (hc.le fun u hu => by
    obtain ⟨s, _, s1, s2, rfl⟩ := hu
    exact hrows s s1 s2)).sp hG
  have htopG : Sp P G (V T (RR (nbs P bs t0 (fun j => v' j * i % P)) t0)) := (hv'G.sc (i : Int)).li hrow.sy
  refine ⟨nbs_ok h2 h ht0 hp0 (fun j _ => Nat.mod_lt _ (by omega)) (by show v' t0 * i % P = 1; rw [Nat.mul_comm]; exact hinv) hrz (fun s hs hps => by show v' s * i % P = 0; rw [hR.1 s hs hps, Nat.zero_mul, Nat.zero_mod]), ?_, hold, fun t ht hpt => ?_⟩
  · refine Cg.sp (hc.le fun u hu => hold u (hKr u hu)) ((gtop.sc (v' t0 : Int)).li ((hrow.sc _).tr fun s => ?_))
    rw [co_sc, co_sc, ← Int.mul_assoc, Int.mul_comm (v' t0 : Int)]
    have := dvd_mulR (k := co (Vn T v') s) hiv
    rw [Int.one_mul] at this; exact this
  · by_cases e : t = t0
    · rw [e]; exact htopG
    · unfold npv at hpt
      rw [if_neg e] at hpt
      exact ((hrows t ht hpt).app ((htopG.li hrowR.sy).sc _)).li (nbs_row hT h ht0 hrz ht e hpt).sy

