/-! what a tree that was read is -/
def totp : List Nat → Nat
  | [] => 0
  | l :: st => (l - 1) + totp st
def tot : List Nat → Nat
  | [] => 1
  | l :: st => l + totp st
theorem clsP_tot : ∀ {st st' : List Nat} {ts ts' : List zTk}, (∀ l, l ∈ st → 1 ≤ l) → clsP st ts = Sum.inr (st', ts') → (∀ l, l ∈ st' → 1 ≤ l) ∧ (st' = [] ∧ tot st = 1 ∨ st' ≠ [] ∧ tot st' + 1 = tot st)
  | [], st', ts, ts', h, e => by cases e; exact ⟨fun l hl => absurd hl List.not_mem_nil, Or.inl ⟨rfl, rfl⟩⟩
  | l :: st, st', ts, ts', h, e => by
    have hl := h l List.mem_cons_self
    have hst := fun x hx => h x (List.mem_cons_of_mem _ hx)
    rw [clsP] at e
    split at e
    · split at e
      · cases e
        refine ⟨fun x hx => ?_, Or.inr ⟨by simp, ?_⟩⟩
        · rcases List.mem_cons.mp hx with rfl | hx
          · omega
          · exact hst x hx
        · show l - 1 + totp st + 1 = l + totp st; omega
      · cases e
    · split at e
      · have ih := clsP_tot hst e
        refine ⟨ih.1, ?_⟩
        have e1 : tot (l :: st) = tot st ∨ st = [] ∧ tot (l :: st) = 1 := by
          cases st with
          | nil => right; exact ⟨rfl, by show l + 0 = 1; omega⟩
          | cons x r => left; have := hst x List.mem_cons_self; show l + (x - 1 + totp r) = x + totp r; omega
        rcases e1 with e1 | ⟨e1, e2⟩
        · rw [e1]; exact ih.2
        · subst e1
          rcases ih.2 with z | z
          · exact Or.inl ⟨z.1, e2⟩
          · have e3 : clsP [] (adv ts) = Sum.inr ([], adv ts) := rfl
            rw [e3] at e; cases e; exact absurd rfl z.1
      · cases e
theorem treeP_ok {nm e : Nat → Nat} {A : Nat} (hE : Eok A e) : ∀ (f : Nat) (st acc : List Nat) (lv : Nat) (ts : List zTk) (t : List Nat) (ts' : List zTk), (∀ l, l ∈ st → 1 ≤ l) → (∀ r, Fs A e r (tot st) → Fs A e (acc ++ r) 1) → lv = lvs acc → lv ≤ 7 → Tks ts → Lk ts → treeP nm e A f st acc lv ts = Sum.inr (t, ts') → Fs A e t 1 ∧ lvs t ≤ 7 ∧ Tks ts' ∧ Lk ts' ∧ ts'.length < ts.length
  | 0, _, _, _, _, _, _, _, _, _, _, _, _, h => by cases h
  | f + 1, st, acc, lv, ts, t, ts', hst, hQ, hlv, h7, hk, hlk, h => by
    rw [treeP] at h
    have hstep : ∀ k m, tot st = m + 1 → k = 0 → ∀ r, Fs A e r m → Fs A e ((acc ++ [0]) ++ r) 1 := fun k m hm _ r hr => by
      rw [List.append_assoc]
      refine hQ _ ⟨by omega, ?_⟩
      rw [if_pos rfl, hm]; exact hr
    have htp : 1 ≤ tot st := by
      cases st with
      | nil => exact Nat.le_refl _
      | cons l r => have := hst l List.mem_cons_self; show 1 ≤ l + totp r; omega
    have hlz : lvs (acc ++ [0]) = lv + 1 := by rw [lvs_app, ← hlv]; rfl
    split at h
    · rename_i hx
      have hkd := (isWb_t.mp hx).1
      have l1 := hlk.len (by omega)
      split at h
      · cases h
      · rename_i h7'
        cases q : clsP st (adv ts) with
        | inl x => rw [q] at h; cases h
        | inr x =>
          obtain ⟨st', ts2⟩ := x
          have c1 := clsP_tot hst q
          have c2 := clsP_tks hk.adv q
          have c3 := clsP_lk hlk.ad q
          have c4 := clsP_len q
          rw [q] at h
          cases st' with
          | nil =>
            have h : Sum.inr (acc ++ [0], ts2) = (Sum.inr (t, ts') : zEr ⊕ (List Nat × List zTk)) := h
            cases h
            have ht : tot st = 0 + 1 := by
              rcases c1.2 with z | z
              · exact z.2
              · exact absurd rfl z.1
            have := hstep 0 0 ht rfl [] rfl
            rw [List.append_nil] at this
            exact ⟨this, by rw [hlz]; omega, c2.1, c3, by omega⟩
          | cons l st' =>
            have h : treeP nm e A f (l :: st') (acc ++ [0]) (lv + 1) ts2 = Sum.inr (t, ts') := h
            have ht : tot (l :: st') + 1 = tot st := by
              rcases c1.2 with z | z
              · exact absurd z.1 (by simp)
              · exact z.2
            have := treeP_ok hE f _ _ _ _ _ _ c1.1 (hstep 0 _ ht.symm rfl) hlz.symm (by omega) c2.1 c3 h
            exact ⟨this.1, this.2.1, this.2.2.1, this.2.2.2.1, by omega⟩
    · split at h
      · rename_i hnm
        have hkd := (isNmb_t.mp hnm).1
        have l1 := hlk.len (by omega)
        cases q : fAct nm (hdT ts).2.2 A with
        | none => rw [q] at h; cases h
        | some a =>
          have ha := (fAct_some q).1
          have hea := hE.2 a ha
          rw [q] at h
          have h : (if (hdT (adv ts)).1 = 40 then treeP nm e A f (e a :: st) (acc ++ [a + 1]) lv (adv (adv ts)) else Sum.inl (1, (hdT (adv ts)).2.1)) = Sum.inr (t, ts') := h
          split at h
          · have hQ' : ∀ r, Fs A e r (tot (e a :: st)) → Fs A e ((acc ++ [a + 1]) ++ r) 1 := fun r hr => by
              rw [List.append_assoc]
              refine hQ _ ⟨by omega, ?_⟩
              rw [if_neg (by omega)]
              refine ⟨by omega, ?_⟩
              rw [Nat.add_sub_cancel]
              have : tot st - 1 + e a = tot (e a :: st) := by
                cases st with
                | nil => show 1 - 1 + e a = e a + 0; omega
                | cons l r => have := hst l List.mem_cons_self; show l + totp r - 1 + e a = e a + (l - 1 + totp r); omega
              show Fs A e r (tot st - 1 + e a)
              rw [this]; exact hr
            have := treeP_ok hE f _ _ lv _ _ _ (fun l hl => by rcases List.mem_cons.mp hl with rfl | hl; omega; exact hst l hl) hQ' (by rw [lvs_app, ← hlv]; simp [lvs]) h7 hk.adv.adv hlk.ad.ad h
            have l2 := adv_len (adv ts)
            exact ⟨this.1, this.2.1, this.2.2.1, this.2.2.2.1, by omega⟩
          · cases h
      · cases h
theorem treeP_tr {nm e : Nat → Nat} {A : Nat} (hE : Eok A e) {ts ts' : List zTk} {t : List Nat} (hk : Tks ts) (hlk : Lk ts) (h : treeP nm e A 480 [] [] 0 ts = Sum.inr (t, ts')) : Tr A e (lvs t) t ∧ 1 ≤ lvs t ∧ lvs t ≤ 7 ∧ t.length ≤ 13 ∧ Tks ts' ∧ Lk ts' ∧ ts'.length < ts.length := by
  have := treeP_ok hE 480 [] [] 0 ts t ts' (fun l hl => absurd hl List.not_mem_nil) (fun r hr => hr) rfl (by omega) hk hlk h
  have ht : Tr A e (lvs t) t := ⟨this.1, rfl⟩
  have hl := ht.len hE
  exact ⟨ht, hl.2, this.2.1, by omega, this.2.2.1, this.2.2.2.1, this.2.2.2.2⟩
/-! sums, as they are read -/
def tval (P : Nat) (mi : Bool) (v : Nat) : Nat := if mi = true then (P - v % P) % P else v % P
def termsP (nm e : Nat → Nat) (A P wanted least : Nat) : Nat → Bool → Nat → List zT → List zTk → zEr ⊕ ((Nat × List zT) × List zTk)
  | 0, _, _, _, ts => Sum.inl (1, (hdT ts).2.1)
  | f + 1, mi, n0, acc, ts =>
    match treeP nm e A 480 [] [] 0 (if (hdT ts).1 = 3 then adv ts else ts) with
    | Sum.inl x => Sum.inl x
    | Sum.inr (t, ts2) =>
      if lvs t ≠ (if n0 = 0 then (if wanted = 0 then lvs t else wanted) else n0) ∨ lvs t < least then Sum.inl (3, (hdT (if (hdT ts).1 = 3 then adv ts else ts)).2.1)
      else if (hdT ts2).1 = 43 ∨ (hdT ts2).1 = 45 then termsP nm e A P wanted least f ((hdT ts2).1 == 45) (lvs t) (acc ++ [(t, tval P mi (if (hdT ts).1 = 3 then (hdT ts).2.2 else 1))]) (adv ts2)
      else Sum.inr ((lvs t, acc ++ [(t, tval P mi (if (hdT ts).1 = 3 then (hdT ts).2.2 else 1))]), ts2)
def sumP (nm e : Nat → Nat) (A P wanted least f : Nat) (ts : List zTk) : zEr ⊕ ((Nat × List zT) × List zTk) := termsP nm e A P wanted least f ((hdT ts).1 == 45) 0 [] (if (hdT ts).1 = 45 then adv ts else ts)
theorem tval_lt {P : Nat} {mi : Bool} {v : Nat} (h : 0 < P) : tval P mi v < P := by
  unfold tval
  split <;> exact Nat.mod_lt _ h
theorem tks_if {ts : List zTk} (hk : Tks ts) (c : Prop) [Decidable c] : Tks (if c then adv ts else ts) := by split; exact hk.adv; exact hk
theorem lk_if {ts : List zTk} (hk : Lk ts) (c : Prop) [Decidable c] : Lk (if c then adv ts else ts) := by split; exact hk.ad; exact hk
theorem len_if (ts : List zTk) (c : Prop) [Decidable c] : (if c then adv ts else ts).length ≤ ts.length := by split; exact adv_len ts; exact Nat.le_refl _
theorem rsN_pos {P v : Nat} (h : 2 ≤ P) (hv : v < 100) : rsN (nI v) P = tval P false v := by
  rw [rsN_nI (by omega) (by omega)]; rfl
theorem rsN_neg {P v : Nat} (h : 2 ≤ P) (hv : v < 100) : rsN (-nI v) P = tval P true v := by
  have e1 : (-nI v).toInt = -(v : Int) := by
    rw [Int32.toInt_neg, nI_toInt (by omega)]
    exact Int.bmod_eq_of_le (by omega) (by omega)
  apply Int.ofNat.inj
  show ((rsN (-nI v) P : Nat) : Int) = ((tval P true v : Nat) : Int)
  rw [rsN_int (by omega), e1]
  unfold tval
  rw [if_pos rfl]
  have hm := Nat.mod_lt v (show 0 < P by omega)
  have hd := Nat.div_add_mod v P
  rcases Nat.eq_zero_or_pos (v % P) with z | z
  · rw [z, Nat.sub_zero, Nat.mod_self]
    have : -(v : Int) = (P : Int) * (-((v / P : Nat) : Int)) := by
      rw [Int.mul_neg, ← Int.natCast_mul]
      congr 1
      rw [z] at hd; exact_mod_cast hd.symm
    rw [this, Int.mul_emod_right]; rfl
  · rw [Nat.mod_eq_of_lt (show P - v % P < P by omega)]
    have : -(v : Int) = ((P - v % P : Nat) : Int) + (P : Int) * (-((v / P + 1 : Nat) : Int)) := by
      rw [Int.mul_neg, ← Int.natCast_mul, Nat.mul_add, Nat.mul_one, Int.natCast_add, Int.natCast_sub (by omega)]
      have : (v : Int) = ((P * (v / P) : Nat) : Int) + ((v % P : Nat) : Int) := by exact_mod_cast hd.symm
      omega
    rw [this, Int.add_mul_emod_self_left]
    exact Int.emod_eq_of_lt (by omega) (by omega)
