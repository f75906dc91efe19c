/-! a greater tree in the same place makes a greater tree -/
theorem ky_run {A : Nat} {e : Nat → Nat} (hE : Eok A e) {n : Nat} {t u : List Nat} (h : Tr A e n t) (g : Tr A e n u) (hn : n ≤ 7) {rs us : List (List Nat)} (hr : Ru rs) (hu : Ru us) (e1 : t = tk rs) (e2 : u = tk us) : decide (ky t < ky u) = ltL (rs.map cd) (us.map cd) := by
  have l1 : rs.length = n := by rw [← lvs_tk rs hr, ← e1]; exact h.2
  have l2 : us.length = n := by rw [← lvs_tk us hu, ← e2]; exact g.2
  rw [ky_pth hE h g hn, e1, e2]
  exact pth_lt e rs us hr hu (by rw [l1, l2]) [] 1 (Nat.le_refl 1) (fun p hp => absurd hp List.not_mem_nil)
theorem ltL_app : ∀ {p q r : List Nat}, p.length = q.length → ltL p q = true → ltL (p ++ r) (q ++ r) = true
  | [], _, _, _, h => by simp [ltL] at h
  | _ :: _, [], _, h, _ => by simp at h
  | a :: p, b :: q, r, h, g => by
    rw [List.cons_append, List.cons_append]
    simp only [ltL, Bool.or_eq_true, Bool.and_eq_true, decide_eq_true_eq] at g ⊢
    rcases g with g | g
    · exact Or.inl g
    · exact Or.inr ⟨g.1, ltL_app (by simpa using h) g.2⟩
theorem cd_cons_lt {k : Nat} {r u : List Nat} (hk : 1 ≤ k) (hr : ∀ x, x ∈ r → x ≤ 3) (hu : ∀ x, x ∈ u → x ≤ 3) : cd (k :: r) < cd (k :: u) ↔ cd r < cd u := by
  unfold cd
  rw [cdF_cons, cdF_cons]
  exact (cdF_lt (by omega) hr hu).trans (cdF_lt (Nat.le_refl 1) hr hu).symm
theorem Ru.cons {r : List Nat} {rs : List (List Nat)} (h : ∀ k, k ∈ r → 1 ≤ k ∧ k ≤ 3) (hs : Ru rs) : Ru (r :: rs) := fun q hq => by
  rcases List.mem_cons.mp hq with rfl | hq
  · exact h
  · exact hs q hq
theorem Ru.app {rs us : List (List Nat)} (h : Ru rs) (g : Ru us) : Ru (rs ++ us) := fun q hq => by
  rcases List.mem_append.mp hq with hq | hq
  · exact h q hq
  · exact g q hq
theorem tk_app {rs us : List (List Nat)} : tk (rs ++ us) = tk rs ++ tk us := by unfold tk; exact List.flatMap_append
/-- one token ahead of both -/
theorem run_step {k : Nat} (hk : k ≤ 3) {cs us : List (List Nat)} (hc : Ru cs) (hu : Ru us) (hl : cs.length = us.length) (h : ltL (cs.map cd) (us.map cd) = true) : ∃ cs' us', Ru cs' ∧ Ru us' ∧ cs'.length = us'.length ∧ k :: tk cs = tk cs' ∧ k :: tk us = tk us' ∧ ltL (cs'.map cd) (us'.map cd) = true := by
  by_cases h0 : k = 0
  · refine ⟨[] :: cs, [] :: us, Ru.cons (fun x hx => absurd hx List.not_mem_nil) hc, Ru.cons (fun x hx => absurd hx List.not_mem_nil) hu, by simp [hl], by rw [tk_cons, h0]; rfl, by rw [tk_cons, h0]; rfl, ?_⟩
    simp only [List.map_cons, ltL]
    simp [h]
  · cases cs with
    | nil => simp [ltL] at h
    | cons r cs =>
      cases us with
      | nil => simp at hl
      | cons u us =>
        refine ⟨(k :: r) :: cs, (k :: u) :: us, Ru.cons (fun x hx => ?_) hc.tl, Ru.cons (fun x hx => ?_) hu.tl, by simpa using hl, by rw [tk_cons, tk_cons]; rfl, by rw [tk_cons, tk_cons]; rfl, ?_⟩
        · rcases List.mem_cons.mp hx with rfl | hx
          · omega
          · exact hc.hd x hx
        · rcases List.mem_cons.mp hx with rfl | hx
          · omega
          · exact hu.hd x hx
        · simp only [List.map_cons, ltL, Bool.or_eq_true, Bool.and_eq_true, decide_eq_true_eq] at h ⊢
          rcases h with h | h
          · exact Or.inl ((cd_cons_lt (by omega) (fun x hx => (hc.hd x hx).2) (fun x hx => (hu.hd x hx).2)).mpr h)
          · refine Or.inr ⟨?_, h.2⟩
            have := cdF_inj (Nat.le_refl 1) (fun x hx => (hc.hd x hx).2) (fun x hx => (hu.hd x hx).2) h.1
            rw [this]
theorem run_pre : ∀ {x : List Nat}, (∀ k, k ∈ x → k ≤ 3) → ∀ {cs us : List (List Nat)}, Ru cs → Ru us → cs.length = us.length → ltL (cs.map cd) (us.map cd) = true → ∃ cs' us', Ru cs' ∧ Ru us' ∧ cs'.length = us'.length ∧ x ++ tk cs = tk cs' ∧ x ++ tk us = tk us' ∧ ltL (cs'.map cd) (us'.map cd) = true
  | [], _, cs, us, a, b, c, d => ⟨cs, us, a, b, c, rfl, rfl, d⟩
  | k :: x, hx, cs, us, a, b, c, d => by
    obtain ⟨cs1, us1, a1, b1, c1, e1, f1, d1⟩ := run_pre (x := x) (fun k hk => hx k (List.mem_cons_of_mem _ hk)) a b c d
    obtain ⟨cs2, us2, a2, b2, c2, e2, f2, d2⟩ := run_step (hx k List.mem_cons_self) a1 b1 c1 d1
    exact ⟨cs2, us2, a2, b2, c2, by rw [List.cons_append, e1, e2], by rw [List.cons_append, f1, f2], d2⟩
theorem ky_ctx {A : Nat} {e : Nat → Nat} (hE : Eok A e) {m n : Nat} (hm : m ≤ 7) (hn : n ≤ 7) {c u x y : List Nat} (hc : Tr A e m c) (hu : Tr A e m u) (hc2 : Tr A e n (x ++ c ++ y)) (hu2 : Tr A e n (x ++ u ++ y)) (h : ky c < ky u) : ky (x ++ c ++ y) < ky (x ++ u ++ y) := by
  obtain ⟨c1, c2, c3, _⟩ := hc.rn hE hm
  obtain ⟨u1, u2, u3, _⟩ := hu.rn hE hm
  have hlt := ky_run hE hc hu hm c2 u2 c1 u1
  rw [decide_eq_true h] at hlt
  have hx : ∀ k, k ∈ x → k ≤ 3 := fun k hk => hc2.tok hE k (List.mem_append_left _ (List.mem_append_left _ hk))
  have hy : ∃ ys, y = tk ys ∧ Ru ys := by
    refine rns_of y.length y rfl (fun k hk => hc2.tok hE k (List.mem_append_right _ hk)) ?_
    cases y with
    | nil => exact Or.inl rfl
    | cons k y =>
      right
      rcases hc2.1.last hE.one with q | q
      · simp at q
      · cases q2 : (k :: y).getLast? with
        | none => simp at q2
        | some v => rw [List.getLast?_append, q2] at q; exact q
  obtain ⟨ys, y1, y2⟩ := hy
  obtain ⟨cs, us, a1, b1, l1, e1, f1, d1⟩ := run_pre hx (cs := rns c ++ ys) (us := rns u ++ ys) (c2.app y2) (u2.app y2) (by rw [List.length_append, List.length_append, c3, u3]) (by
    rw [List.map_append, List.map_append]
    exact ltL_app (by rw [List.length_map, List.length_map, c3, u3]) hlt.symm)
  have g1 : x ++ c ++ y = tk cs := by rw [← e1, tk_app, ← c1, ← y1, List.append_assoc]
  have g2 : x ++ u ++ y = tk us := by rw [← f1, tk_app, ← u1, ← y1, List.append_assoc]
  have := ky_run hE hc2 hu2 hn a1 b1 g1 g2
  rw [d1] at this
  exact of_decide_eq_true this
