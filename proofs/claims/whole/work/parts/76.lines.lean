/-! the lines of a world, as they are read -/
theorem treeP_use {nm e : Nat → Nat} {A : Nat} : ∀ (f : Nat) (st acc : List Nat) (lv : Nat) (ts : List zTk) (t : List Nat) (ts' : List zTk), Lk ts → treeP nm e A f st acc lv ts = Sum.inr (t, ts') → t.length + acs t + ts'.length ≤ acc.length + acs acc + ts.length
  | 0, _, _, _, _, _, _, _, h => by cases h
  | f + 1, st, acc, lv, ts, t, ts', hlk, h => by
    rw [treeP] at h
    split at h
    · rename_i hx
      have hkd := (isWb_t.mp hx).1
      have l1 := hlk.len (by omega)
      split at h
      · cases h
      · cases q : clsP st (adv ts) with
        | inl x => rw [q] at h; cases h
        | inr x =>
          obtain ⟨st', ts2⟩ := x
          have c3 := clsP_lk hlk.ad q
          have c4 := clsP_len q
          rw [q] at h
          cases st' with
          | nil =>
            have h : Sum.inr (acc ++ [0], ts2) = (Sum.inr (t, ts') : zEr ⊕ (List Nat × List zTk)) := h
            cases h
            rw [List.length_append, acs_app]
            show acc.length + 1 + (acs acc + 0) + ts'.length ≤ _
            omega
          | cons l st' =>
            have h : treeP nm e A f (l :: st') (acc ++ [0]) (lv + 1) ts2 = Sum.inr (t, ts') := h
            have := treeP_use f _ _ _ _ _ _ c3 h
            rw [List.length_append, acs_app] at this
            have this : t.length + acs t + ts'.length ≤ acc.length + 1 + (acs acc + 0) + ts2.length := this
            omega
    · split at h
      · rename_i hnm
        have hkd := (isNmb_t.mp hnm).1
        have l1 := hlk.len (by omega)
        cases q : fAct nm (hdT ts).2.2 A with
        | none => rw [q] at h; cases h
        | some a =>
          rw [q] at h
          have h : (if (hdT (adv ts)).1 = 40 then treeP nm e A f (e a :: st) (acc ++ [a + 1]) lv (adv (adv ts)) else Sum.inl (1, (hdT (adv ts)).2.1)) = Sum.inr (t, ts') := h
          split at h
          · rename_i h40
            have l2 := hlk.ad.len (by omega)
            have := treeP_use f _ _ lv _ _ _ hlk.ad.ad h
            rw [List.length_append, acs_app] at this
            have this : t.length + acs t + ts'.length ≤ acc.length + 1 + (acs acc + ((if a + 1 = 0 then 0 else 1) + 0)) + (adv (adv ts)).length := this
            rw [if_neg (by omega)] at this
            omega
          · cases h
      · cases h
theorem fs_one {A : Nat} {e : Nat → Nat} : ∀ {t : List Nat} {m : Nat}, Fs A e t m → acs t = 0 → lvs t = m
  | [], m, h, _ => by simp only [Fs] at h; simp [lvs, h]
  | x :: r, m, h, z => by
    by_cases h0 : x = 0
    · have h2 := h.2
      rw [if_pos h0] at h2
      simp only [acs, if_pos h0] at z
      have := fs_one h2 (by omega)
      have := h.1
      simp only [lvs, if_pos h0]; omega
    · simp only [acs, if_neg h0] at z; omega
/-- what terms of two leaves or more use up, and what they are -/
theorem termsP_use {nm e : Nat → Nat} {A P wn0 : Nat} (hE : Eok A e) (hP : 0 < P) : ∀ (f : Nat) (mi : Bool) (n0 : Nat) (acc : List zT) (ts : List zTk) (x : Nat × List zT) (ts' : List zTk), Tks ts → Lk ts → termsP nm e A P wn0 2 f mi n0 acc ts = Sum.inr (x, ts') → (n0 = 0 → acc = []) → (∀ p, p ∈ acc → Tr A e n0 p.1 ∧ p.2 < P) → 5 * x.2.length + ts'.length ≤ 5 * acc.length + ts.length + 1 ∧ ∀ p, p ∈ x.2 → Tr A e x.1 p.1 ∧ p.2 < P
  | 0, _, _, _, _, _, _, _, _, h, _, _ => by cases h
  | f + 1, mi, n0, acc, ts, x, ts', hk, hlk, h, h0, hacc => by
    rw [termsP] at h
    have hk1 := tks_if hk ((hdT ts).1 = 3)
    have hlk1 := lk_if hlk ((hdT ts).1 = 3)
    have hle1 := len_if ts ((hdT ts).1 = 3)
    cases q : treeP nm e A 480 [] [] 0 (if (hdT ts).1 = 3 then adv ts else ts) with
    | inl y => rw [q] at h; cases h
    | inr y =>
      obtain ⟨t, ts2⟩ := y
      obtain ⟨ht, hl1, hl7, hl13, hk2, hlk2, hlt2⟩ := treeP_tr hE hk1 hlk1 q
      have hu := treeP_use 480 [] [] 0 _ t ts2 hlk1 q
      have hla := len_la t
      rw [q] at h
      simp only at h
      by_cases hb : lvs t ≠ (if n0 = 0 then (if wn0 = 0 then lvs t else wn0) else n0) ∨ lvs t < 2
      · rw [if_pos hb] at h; cases h
      · rw [if_neg hb] at h
        have hac : 1 ≤ acs t := by
          rcases Nat.eq_zero_or_pos (acs t) with z | z
          · have hc := fs_one ht.1 z
            omega
          · exact z
        have hu : t.length + acs t + ts2.length ≤ 0 + 0 + (if (hdT ts).1 = 3 then adv ts else ts).length := hu
        have hacc' : ∀ p, p ∈ acc ++ [(t, tval P mi (if (hdT ts).1 = 3 then (hdT ts).2.2 else 1))] → Tr A e (lvs t) p.1 ∧ p.2 < P := fun p hp => by
          rcases List.mem_append.mp hp with z | z
          · by_cases hn : n0 = 0
            · rw [h0 hn] at z; exact absurd z List.not_mem_nil
            · have hb2 : lvs t = n0 := by rw [if_neg hn] at hb; omega
              rw [hb2]; exact hacc p z
          · rw [List.mem_singleton.mp z]; exact ⟨ht, tval_lt hP⟩
        by_cases hc : (hdT ts2).1 = 43 ∨ (hdT ts2).1 = 45
        · rw [if_pos hc] at h
          have l2 := hlk2.len (by omega)
          have := termsP_use hE hP f _ _ _ _ _ _ hk2.adv hlk2.ad h (fun z => absurd z (by omega)) hacc'
          rw [List.length_append, List.length_singleton] at this
          exact ⟨by omega, this.2⟩
        · rw [if_neg hc] at h
          cases h
          refine ⟨?_, hacc'⟩
          show 5 * (acc ++ _).length + _ ≤ _
          rw [List.length_append, List.length_singleton]
          omega
theorem sumQ_use {nm e : Nat → Nat} {A P wn0 : Nat} (hE : Eok A e) (hP : 0 < P) {ts ts' : List zTk} {n : Nat} {acc : List zT} (hk : Tks ts) (hlk : Lk ts) (h : sumQ nm e A P wn0 2 ts = Sum.inr ((n, acc), ts')) : Tks ts' ∧ Lk ts' ∧ ts'.length < ts.length ∧ 2 ≤ n ∧ n ≤ 7 ∧ 5 * acc.length + ts'.length ≤ ts.length + 1 ∧ ∀ p, p ∈ acc → Tr A e n p.1 ∧ p.2 < P := by
  have l1 := len_if ts ((hdT ts).1 = 45)
  obtain ⟨c1, c2, c3, c4, c5, c6, c7, c8⟩ := termsP_tks hE _ _ _ _ _ _ _ (tks_if hk ((hdT ts).1 = 45)) (lk_if hlk ((hdT ts).1 = 45)) h
  have u := termsP_use hE hP _ _ _ _ _ _ _ (tks_if hk ((hdT ts).1 = 45)) (lk_if hlk ((hdT ts).1 = 45)) h (fun _ => rfl) (fun p hp => absurd hp List.not_mem_nil)
  have u1 : 5 * acc.length + ts'.length ≤ 5 * 0 + (if (hdT ts).1 = 45 then adv ts else ts).length + 1 := u.1
  exact ⟨c1, c2, by omega, c7, c5, by omega, u.2⟩
/-! a line: whether the prime was told, the world so far -/
def prB (v : Nat) : Bool := decide (2 ≤ v) && (List.range v).all (fun d => decide (d < 2) || decide (v % d ≠ 0))
theorem prB_t {v : Nat} : prB v = true ↔ 2 ≤ v ∧ ∀ d, 2 ≤ d → d < v → v % d ≠ 0 := by
  unfold prB
  rw [Bool.and_eq_true, decide_eq_true_iff, List.all_eq_true]
  refine and_congr_right fun _ => ⟨fun h d h2 h3 => ?_, fun h d hd => ?_⟩
  · have := h d (List.mem_range.mpr h3)
    rw [Bool.or_eq_true, decide_eq_true_iff, decide_eq_true_iff] at this
    exact this.resolve_left (by omega)
  · rw [Bool.or_eq_true, decide_eq_true_iff, decide_eq_true_iff]
    by_cases h2 : d < 2
    · exact Or.inl h2
    · exact Or.inr (h d (by omega) (List.mem_range.mp hd))
def primeP (told : Bool) (W : zWd) (ts : List zTk) : zEr ⊕ ((Bool × zWd) × List zTk) :=
  if told = true ∨ 0 < wL W then Sum.inl (3, (hdT ts).2.1)
  else if (hdT (adv ts)).1 ≠ 3 then Sum.inl (1, (hdT (adv ts)).2.1)
  else if prB (hdT (adv ts)).2.2 = false then Sum.inl (2, (hdT (adv ts)).2.1)
  else Sum.inr ((true, ((hdT (adv ts)).2.2, W.2)), adv (adv ts))
def actP (told : Bool) (W : zWd) (ts : List zTk) : zEr ⊕ ((Bool × zWd) × List zTk) :=
  if 0 < wL W then Sum.inl (3, (hdT ts).2.1)
  else if 3 ≤ wA W then Sum.inl (4, (hdT ts).2.1)
  else if isNmb (adv ts) = false then Sum.inl (1, (hdT (adv ts)).2.1)
  else if fAct (wn W) (hdT (adv ts)).2.2 (wA W) ≠ none then Sum.inl (3, (hdT (adv ts)).2.1)
  else if (hdT (adv (adv ts))).1 ≠ 3 then Sum.inl (1, (hdT (adv (adv ts))).2.1)
  else if (hdT (adv (adv ts))).2.2 < 2 ∨ 4 < (hdT (adv (adv ts))).2.2 then Sum.inl (2, (hdT (adv (adv ts))).2.1)
  else Sum.inr ((told, (W.1, W.2.1 ++ [(hdT (adv (adv ts))).2.2], W.2.2.1 ++ [(hdT (adv ts)).2.2], W.2.2.2)), adv (adv (adv ts)))
def lawP (told : Bool) (W : zWd) (ts : List zTk) : zEr ⊕ ((Bool × zWd) × List zTk) :=
  if 18 ≤ wL W then Sum.inl (4, (hdT ts).2.1)
  else match sumQ (wn W) (we W) (wA W) (wP W) 0 2 (adv ts) with
    | Sum.inl x => Sum.inl x
    | Sum.inr ((n, acc), ts') => Sum.inr ((told, (W.1, W.2.1, W.2.2.1, W.2.2.2 ++ [(n, cl (adds (wP W) 1 [] acc))])), ts')
def lineP (told : Bool) (W : zWd) (ts : List zTk) : zEr ⊕ ((Bool × zWd) × List zTk) :=
  if isWb ts 7171940 = true then primeP told W ts
  else if isWb ts 6382452 = true then actP told W ts
  else if isWb ts 7102839 = true then lawP told W ts
  else Sum.inl (1, (hdT ts).2.1)
/-- lines, each with its semicolon, to the end: how many -/
def linesP : Nat → Nat → Bool → zWd → List zTk → zEr ⊕ (Nat × zWd)
  | 0, k, _, W, ts => Sum.inr (k, W)
  | f + 1, k, told, W, ts =>
    if (hdT ts).1 = 0 then Sum.inr (k, W) else
    match lineP told W ts with
    | Sum.inl x => Sum.inl x
    | Sum.inr ((told', W'), ts') => if (hdT ts').1 = 59 then linesP f (k + 1) told' W' (adv ts') else Sum.inl (1, (hdT ts').2.1)
def w0 : zWd := (97, [], [], [])
theorem wok0 : Wok w0 := ⟨⟨by decide, by decide, fun d h2 h3 => (prB_t (v := 97)).mp (by decide +kernel) |>.2 d h2 h3⟩, ⟨by decide, fun a ha => absurd ha (by simp [w0, wA])⟩, ⟨rfl, fun a ha => absurd ha (by simp [w0, wA]), fun a b _ hb => absurd hb (by simp [w0, wA])⟩, by decide, by decide, fun L hL => absurd hL (by simp [w0, wL])⟩
/-- the world so far, with what is left to read -/
def Wpk (W : zWd) (ts : List zTk) : Prop := Wok W ∧ Tks ts ∧ Lk ts ∧ 5 * lf W (wL W) + ts.length ≤ 941
