/-! a map's text, as it is read -/
theorem clsP_use : ∀ {st st' : List Nat} {ts ts' : List zTk}, Lk ts → clsP st ts = Sum.inr (st', ts') → st'.length ≤ st.length ∧ ts'.length + (st.length - st'.length) + (if st' = [] then 0 else 1) ≤ ts.length
  | [], st', ts, ts', _, e => by cases e; simp
  | l :: st, st', ts, ts', hl, e => by
    rw [clsP] at e
    split at e
    · split at e
      · rename_i h
        have := hl.len (by omega)
        cases e
        simp; omega
      · cases e
    · split at e
      · rename_i h
        have l1 := hl.len (by omega)
        have := clsP_use hl.ad e
        rw [List.length_cons]
        omega
      · cases e
theorem treeP_use7 {nm e : Nat → Nat} {A : Nat} : ∀ (f : Nat) (st acc : List Nat) (lv : Nat) (ts : List zTk) (t : List Nat) (ts' : List zTk), Lk ts → treeP nm e A f st acc lv ts = Sum.inr (t, ts') → 3 * acs t + 2 * lvs t + ts'.length + st.length ≤ 3 * acs acc + 2 * lvs acc + ts.length + 1
  | 0, _, _, _, _, _, _, _, h => by cases h
  | f + 1, st, acc, lv, ts, t, ts', hlk, h => by
    rw [treeP] at h
    split at h
    · rename_i hx
      have hkd := (isWb_t.mp hx).1
      have l1 := hlk.len (by omega)
      split at h
      · cases h
      · cases q : clsP st (adv ts) with
        | inl x => rw [q] at h; cases h
        | inr x =>
          obtain ⟨st', ts2⟩ := x
          have c3 := clsP_lk hlk.ad q
          have c4 := clsP_use hlk.ad q
          rw [q] at h
          cases st' with
          | nil =>
            have h : Sum.inr (acc ++ [0], ts2) = (Sum.inr (t, ts') : zEr ⊕ (List Nat × List zTk)) := h
            cases h
            rw [acs_app, lvs_app]
            rw [if_pos rfl, List.length_nil] at c4
            show 3 * (acs acc + 0) + 2 * (lvs acc + 1) + ts'.length + st.length ≤ _
            omega
          | cons l st' =>
            have h : treeP nm e A f (l :: st') (acc ++ [0]) (lv + 1) ts2 = Sum.inr (t, ts') := h
            have := treeP_use7 f _ _ _ _ _ _ c3 h
            rw [acs_app, lvs_app] at this
            have this : 3 * acs t + 2 * lvs t + ts'.length + (l :: st').length ≤ 3 * (acs acc + 0) + 2 * (lvs acc + 1) + ts2.length + 1 := this
            rw [if_neg (by simp)] at c4
            omega
    · split at h
      · rename_i hnm
        have hkd := (isNmb_t.mp hnm).1
        have l1 := hlk.len (by omega)
        cases q : fAct nm (hdT ts).2.2 A with
        | none => rw [q] at h; cases h
        | some a =>
          rw [q] at h
          have h : (if (hdT (adv ts)).1 = 40 then treeP nm e A f (e a :: st) (acc ++ [a + 1]) lv (adv (adv ts)) else Sum.inl (1, (hdT (adv ts)).2.1)) = Sum.inr (t, ts') := h
          split at h
          · rename_i h40
            have l2 := hlk.ad.len (by omega)
            have := treeP_use7 f _ _ lv _ _ _ hlk.ad.ad h
            rw [acs_app, lvs_app] at this
            have this : 3 * acs t + 2 * lvs t + ts'.length + (st.length + 1) ≤ 3 * (acs acc + ((if a + 1 = 0 then 0 else 1) + 0)) + 2 * (lvs acc + ((if a + 1 = 0 then 1 else 0) + 0)) + (adv (adv ts)).length + 1 := this
            rw [if_neg (by omega), if_neg (by omega)] at this
            omega
          · cases h
      · cases h
theorem termsP_use7 {nm e : Nat → Nat} {A P wn0 ls : Nat} (hE : Eok A e) (hP : 0 < P) (hw : 2 ≤ wn0) : ∀ (f : Nat) (mi : Bool) (n0 : Nat) (acc : List zT) (ts : List zTk) (x : Nat × List zT) (ts' : List zTk), Tks ts → Lk ts → termsP nm e A P wn0 ls f mi n0 acc ts = Sum.inr (x, ts') → (n0 = 0 → acc = []) → (n0 ≠ 0 → 2 ≤ n0) → (∀ p, p ∈ acc → Tr A e n0 p.1 ∧ p.2 < P) → 7 * x.2.length + ts'.length ≤ 7 * acc.length + ts.length + 1 ∧ ∀ p, p ∈ x.2 → Tr A e x.1 p.1 ∧ p.2 < P
  | 0, _, _, _, _, _, _, _, _, h, _, _, _ => by cases h
  | f + 1, mi, n0, acc, ts, x, ts', hk, hlk, h, h0, h2n, hacc => by
    rw [termsP] at h
    have hk1 := tks_if hk ((hdT ts).1 = 3)
    have hlk1 := lk_if hlk ((hdT ts).1 = 3)
    have hle1 := len_if ts ((hdT ts).1 = 3)
    cases q : treeP nm e A 480 [] [] 0 (if (hdT ts).1 = 3 then adv ts else ts) with
    | inl y => rw [q] at h; cases h
    | inr y =>
      obtain ⟨t, ts2⟩ := y
      obtain ⟨ht, hl1, hl7, hl13, hk2, hlk2, hlt2⟩ := treeP_tr hE hk1 hlk1 q
      have hu := treeP_use7 480 [] [] 0 _ t ts2 hlk1 q
      rw [q] at h
      simp only at h
      by_cases hb : lvs t ≠ (if n0 = 0 then (if wn0 = 0 then lvs t else wn0) else n0) ∨ lvs t < ls
      · rw [if_pos hb] at h; cases h
      · rw [if_neg hb] at h
        have h2 : 2 ≤ lvs t := by
          by_cases hn : n0 = 0
          · rw [if_pos hn, if_neg (by omega)] at hb; omega
          · have := h2n hn
            rw [if_neg hn] at hb; omega
        have hac : 1 ≤ acs t := by
          rcases Nat.eq_zero_or_pos (acs t) with z | z
          · have hc := fs_one ht.1 z
            omega
          · exact z
        have hu : 3 * acs t + 2 * lvs t + ts2.length + 0 ≤ 3 * 0 + 2 * 0 + (if (hdT ts).1 = 3 then adv ts else ts).length + 1 := hu
        have hacc' : ∀ p, p ∈ acc ++ [(t, tval P mi (if (hdT ts).1 = 3 then (hdT ts).2.2 else 1))] → Tr A e (lvs t) p.1 ∧ p.2 < P := fun p hp => by
          rcases List.mem_append.mp hp with z | z
          · by_cases hn : n0 = 0
            · rw [h0 hn] at z; exact absurd z List.not_mem_nil
            · have hb2 : lvs t = n0 := by rw [if_neg hn] at hb; omega
              rw [hb2]; exact hacc p z
          · rw [List.mem_singleton.mp z]; exact ⟨ht, tval_lt hP⟩
        by_cases hc : (hdT ts2).1 = 43 ∨ (hdT ts2).1 = 45
        · rw [if_pos hc] at h
          have l2 := hlk2.len (by omega)
          have := termsP_use7 hE hP hw f _ _ _ _ _ _ hk2.adv hlk2.ad h (fun z => absurd z (by omega)) (fun _ => h2) hacc'
          rw [List.length_append, List.length_singleton] at this
          exact ⟨by omega, this.2⟩
        · rw [if_neg hc] at h
          cases h
          refine ⟨?_, hacc'⟩
          show 7 * (acc ++ _).length + _ ≤ _
          rw [List.length_append, List.length_singleton]
          omega
theorem sumQ_use7 {nm e : Nat → Nat} {A P wn0 : Nat} (hE : Eok A e) (hP : 0 < P) (hw : 2 ≤ wn0) {ts ts' : List zTk} {n : Nat} {acc : List zT} (hk : Tks ts) (hlk : Lk ts) (h : sumQ nm e A P wn0 1 ts = Sum.inr ((n, acc), ts')) : Tks ts' ∧ Lk ts' ∧ ts'.length < ts.length ∧ n = wn0 ∧ 7 * acc.length + ts'.length ≤ ts.length + 1 ∧ ∀ p, p ∈ acc → Tr A e wn0 p.1 ∧ p.2 < P := by
  have l1 := len_if ts ((hdT ts).1 = 45)
  obtain ⟨c1, c2, c3, c4, c5, c6, c7, c8⟩ := termsP_tks hE _ _ _ _ _ _ _ (tks_if hk ((hdT ts).1 = 45)) (lk_if hlk ((hdT ts).1 = 45)) h
  have u := termsP_use7 hE hP hw _ _ _ _ _ _ _ (tks_if hk ((hdT ts).1 = 45)) (lk_if hlk ((hdT ts).1 = 45)) h (fun _ => rfl) (fun z => absurd rfl z) (fun p hp => absurd hp List.not_mem_nil)
  have u1 : 7 * acc.length + ts'.length ≤ 7 * 0 + (if (hdT ts).1 = 45 then adv ts else ts).length + 1 := u.1
  have e1 : n = wn0 := c8 rfl (by omega)
  have u2 : ∀ p, p ∈ acc → Tr A e n p.1 ∧ p.2 < P := u.2
  exact ⟨c1, c2, by omega, e1, by omega, by rw [← e1]; exact u2⟩
/-- the images told so far -/
abbrev zIm : Type := Nat → Option (List zT)
def upI (im : zIm) (a : Nat) (c : List zT) : zIm := fun b => if b = a then some c else im b
def allI (A : Nat) (im : zIm) : Bool := (List.range A).all fun a => (im a).isSome
def lineM (nmW eW : Nat → Nat) (AW : Nat) (nmK eK : Nat → Nat) (AK P : Nat) (im : zIm) (ts : List zTk) : zEr ⊕ (zIm × List zTk) :=
  if isNmb ts = false then Sum.inl (1, (hdT ts).2.1)
  else match fAct nmW (hdT ts).2.2 AW with
    | none => Sum.inl (3, (hdT ts).2.1)
    | some a => if (im a).isSome = true then Sum.inl (3, (hdT ts).2.1)
      else if (hdT (adv ts)).1 ≠ 61 then Sum.inl (1, (hdT (adv ts)).2.1)
      else match sumQ nmK eK AK P (eW a) 1 (adv (adv ts)) with
        | Sum.inl x => Sum.inl x
        | Sum.inr ((_, acc), ts') => if (hdT ts').1 ≠ 59 then Sum.inl (1, (hdT ts').2.1) else Sum.inr (upI im a (cl (adds P 1 [] acc)), adv ts')
def mapP (nmW eW : Nat → Nat) (AW : Nat) (nmK eK : Nat → Nat) (AK P : Nat) : Nat → zIm → List zTk → zEr ⊕ zIm
  | 0, _, ts => Sum.inl (1, (hdT ts).2.1)
  | f + 1, im, ts => if (hdT ts).1 = 0 then (if allI AW im = true then Sum.inr im else Sum.inl (3, (hdT ts).2.1))
    else match lineM nmW eW AW nmK eK AK P im ts with
      | Sum.inl x => Sum.inl x
      | Sum.inr (im', ts') => mapP nmW eW AW nmK eK AK P f im' ts'
theorem allI_t {A : Nat} {im : zIm} : allI A im = true ↔ ∀ a, a < A → (im a).isSome = true := by
  unfold allI
  rw [List.all_eq_true]
  exact ⟨fun h a ha => h a (List.mem_range.mpr ha), fun h a ha => h a (List.mem_range.mp ha)⟩
/-- what images are, at any time -/
def ImS (AW : Nat) (eW : Nat → Nat) (AK : Nat) (eK : Nat → Nat) (P : Nat) (im : zIm) : Prop := ∀ a c, im a = some c → a < AW ∧ Ce AK eK P (eW a) c ∧ c.length ≤ 57
theorem len_addsL {P b : Nat} : ∀ (l r : List zT), (adds P b r l).length ≤ r.length + l.length
  | [], r => Nat.le_refl _
  | p :: l, r => by
    rw [adds_cons]
    have h1 := len_addsL (P := P) (b := b) l (addT P p.1 (p.2 * b % P) r)
    have h2 := len_addT (P := P) (t := p.1) (v := p.2 * b % P) r
    rw [List.length_cons]; omega
theorem re_nil {A : Nat} {e : Nat → Nat} {P n : Nat} : Re A e P n [] := ⟨List.Pairwise.nil, fun p hp => absurd hp List.not_mem_nil⟩
theorem lineM_ok {nmW eW : Nat → Nat} {AW : Nat} {nmK eK : Nat → Nat} {AK P : Nat} (hEW : Eok AW eW) (hE : Eok AK eK) (hP : 0 < P) {im im' : zIm} {ts ts' : List zTk} (hk : Tks ts) (hlk : Lk ts) (h4 : ts.length ≤ 401) (hI : ImS AW eW AK eK P im) (h : lineM nmW eW AW nmK eK AK P im ts = Sum.inr (im', ts')) : Tks ts' ∧ Lk ts' ∧ ts'.length < ts.length ∧ ImS AW eW AK eK P im' := by
  unfold lineM at h
  split at h
  · cases h
  · rename_i hn
    have hnm : isNmb ts = true := by simpa using hn
    have hkd := (isNmb_t.mp hnm).1
    have l1 := hlk.len (by omega)
    cases q : fAct nmW (hdT ts).2.2 AW with
    | none => rw [q] at h; cases h
    | some a =>
      rw [q] at h
      simp only at h
      have ha := (fAct_some q).1
      split at h
      · cases h
      · split at h
        · cases h
        · rename_i h61
          have h61 : (hdT (adv ts)).1 = 61 := Classical.byContradiction h61
          have l2 := hlk.ad.len (by omega)
          cases q2 : sumQ nmK eK AK P (eW a) 1 (adv (adv ts)) with
          | inl x => rw [q2] at h; cases h
          | inr x =>
            obtain ⟨⟨n, acc⟩, ts2⟩ := x
            rw [q2] at h
            simp only at h
            have he := hEW.2 a ha
            obtain ⟨u1, u2, u3, u4, u5, u6⟩ := sumQ_use7 hE hP he.1 hk.adv.adv hlk.ad.ad q2
            split at h
            · cases h
            · cases h
              have l3 := adv_len ts2
              refine ⟨u1.adv, u2.ad, by omega, fun b c hb => ?_⟩
              unfold upI at hb
              by_cases e : b = a
              · rw [if_pos e] at hb
                cases hb
                rw [e]
                refine ⟨ha, (Re.adds hE hP (by omega) re_nil (fun p hp => (u6 p hp).1)).cl, ?_⟩
                have w1 := List.length_filter_le (fun p : zT => p.2 != 0) (adds P 1 [] acc)
                have w2 := len_addsL (P := P) (b := 1) acc []
                have w3 : (cl (adds P 1 [] acc)).length ≤ (adds P 1 [] acc).length := w1
                rw [List.length_nil] at w2
                omega
              · rw [if_neg e] at hb
                exact hI b c hb
