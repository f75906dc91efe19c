/-! TREES as rows of tokens: 0 a leaf, a + 1 the act a, each act ahead of its entries -/
def Fs (A : Nat) (e : Nat → Nat) : List Nat → Nat → Prop
  | [], m => m = 0
  | k :: r, m => 0 < m ∧ if k = 0 then Fs A e r (m - 1) else k ≤ A ∧ Fs A e r (m - 1 + e (k - 1))
def lvs : List Nat → Nat
  | [] => 0
  | k :: r => (if k = 0 then 1 else 0) + lvs r
def acs : List Nat → Nat
  | [] => 0
  | k :: r => (if k = 0 then 0 else 1) + acs r
theorem lvs_app (t u : List Nat) : lvs (t ++ u) = lvs t + lvs u := by
  induction t with
  | nil => simp [lvs]
  | cons k r ih => simp only [List.cons_append, lvs, ih]; omega
theorem acs_app (t u : List Nat) : acs (t ++ u) = acs t + acs u := by
  induction t with
  | nil => simp [acs]
  | cons k r ih => simp only [List.cons_append, acs, ih]; omega
theorem len_la (t : List Nat) : t.length = lvs t + acs t := by
  induction t with
  | nil => rfl
  | cons k r ih => simp only [List.length_cons, lvs, acs, ih]; split <;> omega
theorem Fs.tok {A : Nat} {e : Nat → Nat} : ∀ {t : List Nat} {m : Nat}, Fs A e t m → ∀ k, k ∈ t → k ≤ A
  | [], _, _, k, hk => absurd hk (List.not_mem_nil)
  | x :: r, m, h, k, hk => by
    rcases List.mem_cons.mp hk with rfl | h2
    · by_cases h0 : k = 0
      · omega
      · have := h.2; rw [if_neg h0] at this; exact this.1
    · by_cases h0 : x = 0
      · have := h.2; rw [if_pos h0] at this; exact Fs.tok this k h2
      · have := h.2; rw [if_neg h0] at this; exact Fs.tok this.2 k h2
theorem Fs.cnt {A : Nat} {e : Nat → Nat} (he : ∀ a, a < A → 2 ≤ e a) : ∀ {t : List Nat} {m : Nat}, Fs A e t m → acs t + m ≤ lvs t
  | [], m, h => by simp only [Fs] at h; simp [acs, lvs, h]
  | x :: r, m, h => by
    by_cases h0 : x = 0
    · have h2 := h.2; rw [if_pos h0] at h2; have := Fs.cnt he h2; have := h.1; simp only [acs, lvs, if_pos h0]; omega
    · have h2 := h.2; rw [if_neg h0] at h2; have := Fs.cnt he h2.2; have := h.1; have := he (x - 1) (by omega); simp only [acs, lvs, if_neg h0]; omega
/-- a code: base four, with 1 ahead -/
def cdF (c : Nat) (t : List Nat) : Nat := t.foldl (fun c k => 4 * c + k) c
def cd (t : List Nat) : Nat := cdF 1 t
def dv (t : List Nat) : Nat := cdF 0 t
theorem cdF_nil {c : Nat} : cdF c [] = c := rfl
theorem cdF_cons {c k : Nat} {r : List Nat} : cdF c (k :: r) = cdF (4 * c + k) r := rfl
theorem cdF_app {c : Nat} {t u : List Nat} : cdF c (t ++ u) = cdF (cdF c t) u := List.foldl_append
theorem cdF_eq : ∀ (t : List Nat) (c : Nat), cdF c t = c * 4 ^ t.length + dv t
  | [], c => by simp [cdF, dv]
  | k :: r, c => by
    have h1 := cdF_eq r (4 * c + k)
    have h2 := cdF_eq r (4 * 0 + k)
    show cdF (4 * c + k) r = c * 4 ^ (r.length + 1) + cdF (4 * 0 + k) r
    rw [h1, h2, Nat.pow_succ, Nat.add_mul, Nat.add_mul]
    have : 4 * c * 4 ^ r.length = c * (4 ^ r.length * 4) := by rw [Nat.mul_comm 4 c, Nat.mul_assoc, Nat.mul_comm 4]
    omega
theorem dv_lt : ∀ (t : List Nat), (∀ k, k ∈ t → k ≤ 3) → dv t < 4 ^ t.length
  | [], _ => by simp [dv, cdF]
  | k :: r, h => by
    have h1 := cdF_eq r (4 * 0 + k)
    have h2 := dv_lt r (fun x hx => h x (List.mem_cons_of_mem _ hx))
    have h3 := h k List.mem_cons_self
    show cdF (4 * 0 + k) r < 4 ^ (r.length + 1)
    rw [h1, Nat.pow_succ]
    have : (4 * 0 + k) * 4 ^ r.length ≤ 3 * 4 ^ r.length := Nat.mul_le_mul_right _ (by omega)
    omega
theorem dv_cons (k : Nat) (r : List Nat) : dv (k :: r) = k * 4 ^ r.length + dv r := by
  have := cdF_eq r (4 * 0 + k)
  show cdF (4 * 0 + k) r = _
  rw [this]; simp
theorem dv_inj : ∀ (t u : List Nat), t.length = u.length → (∀ k, k ∈ t → k ≤ 3) → (∀ k, k ∈ u → k ≤ 3) → dv t = dv u → t = u
  | [], [], _, _, _, _ => rfl
  | [], _ :: _, h, _, _, _ => by simp at h
  | _ :: _, [], h, _, _, _ => by simp at h
  | k :: r, l :: s, h, h1, h2, h3 => by
    rw [dv_cons, dv_cons] at h3
    have hl : r.length = s.length := by simpa using h
    have a1 := dv_lt r (fun x hx => h1 x (List.mem_cons_of_mem _ hx))
    have a2 := dv_lt s (fun x hx => h2 x (List.mem_cons_of_mem _ hx))
    rw [hl] at h3 a1
    have hk : k = l := by
      rcases Nat.lt_trichotomy k l with h | h | h
      · have : (k + 1) * 4 ^ s.length ≤ l * 4 ^ s.length := Nat.mul_le_mul_right _ h
        rw [Nat.add_mul] at this; omega
      · exact h
      · have : (l + 1) * 4 ^ s.length ≤ k * 4 ^ s.length := Nat.mul_le_mul_right _ h
        rw [Nat.add_mul] at this; omega
    subst hk
    rw [dv_inj r s hl (fun x hx => h1 x (List.mem_cons_of_mem _ hx)) (fun x hx => h2 x (List.mem_cons_of_mem _ hx)) (by omega)]
theorem pow4_lt {a b : Nat} (h : a < b) : 4 * 4 ^ a ≤ 4 ^ b := by
  have : 4 ^ (a + 1) ≤ 4 ^ b := Nat.pow_le_pow_right (by omega) h
  rw [Nat.pow_succ] at this; omega
/-- codes by length, then by digits -/
theorem cdF_lt {h : Nat} (h1 : 1 ≤ h) {t u : List Nat} (ht : ∀ k, k ∈ t → k ≤ 3) (hu : ∀ k, k ∈ u → k ≤ 3) : cdF h t < cdF h u ↔ t.length < u.length ∨ t.length = u.length ∧ dv t < dv u := by
  rw [cdF_eq, cdF_eq]
  have a1 := dv_lt t ht
  have a2 := dv_lt u hu
  rcases Nat.lt_trichotomy t.length u.length with g | g | g
  · have := pow4_lt g
    have h2 : h * (4 * 4 ^ t.length) ≤ h * 4 ^ u.length := Nat.mul_le_mul_left _ this
    have h3 : h * (4 * 4 ^ t.length) = 4 * (h * 4 ^ t.length) := by rw [← Nat.mul_assoc, Nat.mul_comm h 4, Nat.mul_assoc]
    have h4 : 4 ^ t.length ≤ h * 4 ^ t.length := Nat.le_mul_of_pos_left _ h1
    omega
  · rw [g]; omega
  · have := pow4_lt g
    have h2 : h * (4 * 4 ^ u.length) ≤ h * 4 ^ t.length := Nat.mul_le_mul_left _ this
    have h3 : h * (4 * 4 ^ u.length) = 4 * (h * 4 ^ u.length) := by rw [← Nat.mul_assoc, Nat.mul_comm h 4, Nat.mul_assoc]
    have h4 : 4 ^ u.length ≤ h * 4 ^ u.length := Nat.le_mul_of_pos_left _ h1
    omega
theorem cdF_inj {h : Nat} (h1 : 1 ≤ h) {t u : List Nat} (ht : ∀ k, k ∈ t → k ≤ 3) (hu : ∀ k, k ∈ u → k ≤ 3) (e : cdF h t = cdF h u) : t = u := by
  have a := (cdF_lt h1 ht hu)
  have b := (cdF_lt h1 hu ht)
  rcases Nat.lt_trichotomy t.length u.length with g | g | g
  · have := a.mpr (Or.inl g); omega
  · refine dv_inj t u g ht hu ?_
    rcases Nat.lt_trichotomy (dv t) (dv u) with q | q | q
    · have := a.mpr (Or.inr ⟨g, q⟩); omega
    · exact q
    · have := b.mpr (Or.inr ⟨g.symm, q⟩); omega
  · have := b.mpr (Or.inl g); omega
/-- two rows of numbers, the first difference counts -/
def ltL : List Nat → List Nat → Bool
  | a :: p, b :: q => decide (a < b) || (decide (a = b) && ltL p q)
  | _, _ => false
/-- paths of the leaves, as the reference finds them -/
def pop : List (Nat × Nat) → Nat → List (Nat × Nat) × Nat
  | [], h => ([], h)
  | (g, l) :: st, h => if 1 < l then ((g, l - 1) :: st, h) else pop st g
def pth (e : Nat → Nat) : List (Nat × Nat) → Nat → List Nat → List Nat
  | _, _, [] => []
  | st, h, k :: r => if k = 0 then h :: pth e (pop st h).1 (pop st h).2 r else pth e ((h, e (k - 1)) :: st) (4 * h + k) r
/-- runs: the acts that are new ahead of each leaf -/
def tk (rs : List (List Nat)) : List Nat := rs.flatMap (fun r => r ++ [0])
theorem tk_cons (r : List Nat) (rs : List (List Nat)) : tk (r :: rs) = r ++ 0 :: tk rs := by simp [tk]
def Ru (rs : List (List Nat)) : Prop := ∀ r, r ∈ rs → ∀ k, k ∈ r → 1 ≤ k ∧ k ≤ 3
theorem Ru.tl {r : List Nat} {rs : List (List Nat)} (h : Ru (r :: rs)) : Ru rs := fun q hq => h q (List.mem_cons_of_mem _ hq)
theorem Ru.hd {r : List Nat} {rs : List (List Nat)} (h : Ru (r :: rs)) : ∀ k, k ∈ r → 1 ≤ k ∧ k ≤ 3 := h r List.mem_cons_self
theorem lvs_run : ∀ (r : List Nat), (∀ k, k ∈ r → 1 ≤ k) → lvs r = 0
  | [], _ => rfl
  | k :: r, h => by
    have := h k List.mem_cons_self
    simp only [lvs, if_neg (show ¬ k = 0 by omega), lvs_run r (fun x hx => h x (List.mem_cons_of_mem _ hx))]
theorem lvs_tk : ∀ (rs : List (List Nat)), Ru rs → lvs (tk rs) = rs.length
  | [], _ => rfl
  | r :: rs, h => by
    rw [tk_cons, lvs_app, lvs_run r (fun k hk => (h.hd k hk).1)]
    simp only [lvs, lvs_tk rs h.tl, List.length_cons, if_pos]; omega
theorem rns_of : ∀ (n : Nat) (t : List Nat), t.length = n → (∀ k, k ∈ t → k ≤ 3) → (t = [] ∨ t.getLast? = some 0) → ∃ rs, t = tk rs ∧ Ru rs
  | 0, t, hn, _, _ => ⟨[], by rw [List.length_eq_zero_iff.mp hn]; rfl, fun r hr => absurd hr List.not_mem_nil⟩
  | n + 1, [], hn, _, _ => by simp at hn
  | n + 1, k :: r, hn, h3, hl => by
    have hr : r = [] ∨ r.getLast? = some 0 := by
      cases r with
      | nil => exact Or.inl rfl
      | cons x s =>
        right
        rcases hl with h | h
        · cases h
        · rw [List.getLast?_cons_cons] at h
          exact h
    obtain ⟨rs, e1, e2⟩ := rns_of n r (by simpa using hn) (fun x hx => h3 x (List.mem_cons_of_mem _ hx)) hr
    by_cases h0 : k = 0
    · refine ⟨[] :: rs, by rw [tk_cons, h0, e1]; rfl, fun q hq => ?_⟩
      rcases List.mem_cons.mp hq with rfl | hq
      · exact fun x hx => absurd hx List.not_mem_nil
      · exact e2 q hq
    · cases rs with
      | nil =>
        have : r = [] := e1
        rcases hl with h | h
        · cases h
        · rw [this] at h; simp at h; exact absurd h h0
      | cons q rs =>
        refine ⟨(k :: q) :: rs, by rw [tk_cons, e1, tk_cons]; rfl, fun p hp => ?_⟩
        rcases List.mem_cons.mp hp with rfl | hp
        · intro x hx
          rcases List.mem_cons.mp hx with rfl | hx
          · exact ⟨by omega, h3 _ List.mem_cons_self⟩
          · exact e2.hd x hx
        · exact e2.tl p hp
theorem Fs.last {A : Nat} {e : Nat → Nat} (he : ∀ a, a < A → 1 ≤ e a) : ∀ {t : List Nat} {m : Nat}, Fs A e t m → t = [] ∨ t.getLast? = some 0
  | [], _, _ => Or.inl rfl
  | [k], m, h => by
    right
    by_cases h0 : k = 0
    · rw [h0]; rfl
    · have h2 := h.2; rw [if_neg h0] at h2; have := h2.2; simp only [Fs] at this; have := he (k - 1) (by omega); omega
  | k :: x :: s, m, h => by
    right
    rw [List.getLast?_cons_cons]
    have h2 := h.2
    have : ∃ m', Fs A e (x :: s) m' := by
      by_cases h0 : k = 0
      · rw [if_pos h0] at h2; exact ⟨_, h2⟩
      · rw [if_neg h0] at h2; exact ⟨_, h2.2⟩
    obtain ⟨m', hm⟩ := this
    rcases Fs.last he hm with q | q
    · cases q
    · exact q
theorem Fs.runs {A : Nat} {e : Nat → Nat} (hA : A ≤ 3) (he : ∀ a, a < A → 1 ≤ e a) {t : List Nat} {m : Nat} (h : Fs A e t m) : ∃ rs, t = tk rs ∧ Ru rs :=
  rns_of t.length t rfl (fun k hk => Nat.le_trans (h.tok k hk) hA) (h.last he)

/-- what stands open behind a run -/
def psh (e : Nat → Nat) : List (Nat × Nat) → Nat → List Nat → List (Nat × Nat)
  | st, _, [] => st
  | st, h, k :: r => psh e ((h, e (k - 1)) :: st) (4 * h + k) r
theorem pth_run (e : Nat → Nat) : ∀ (r : List Nat) (st : List (Nat × Nat)) (h : Nat) (t : List Nat), (∀ k, k ∈ r → 1 ≤ k) → pth e st h (r ++ 0 :: t) = cdF h r :: pth e (pop (psh e st h r) (cdF h r)).1 (pop (psh e st h r) (cdF h r)).2 t
  | [], st, h, t, _ => by simp [pth, psh, cdF]
  | k :: r, st, h, t, hk => by
    have := hk k List.mem_cons_self
    rw [List.cons_append, pth, if_neg (show ¬ k = 0 by omega), pth_run e r _ _ t (fun x hx => hk x (List.mem_cons_of_mem _ hx))]
    rfl
theorem pop_pos : ∀ (st : List (Nat × Nat)) (h : Nat), 1 ≤ h → (∀ p, p ∈ st → 1 ≤ p.1) → 1 ≤ (pop st h).2 ∧ ∀ p, p ∈ (pop st h).1 → 1 ≤ p.1
  | [], h, h1, h2 => ⟨h1, h2⟩
  | (g, l) :: st, h, h1, h2 => by
    rw [pop]
    split
    · refine ⟨h1, fun p hp => ?_⟩
      rcases List.mem_cons.mp hp with rfl | hp
      · exact h2 (g, l) List.mem_cons_self
      · exact h2 p (List.mem_cons_of_mem _ hp)
    · exact pop_pos st g (h2 (g, l) List.mem_cons_self) (fun p hp => h2 p (List.mem_cons_of_mem _ hp))
theorem psh_pos (e : Nat → Nat) : ∀ (r : List Nat) (st : List (Nat × Nat)) (h : Nat), 1 ≤ h → (∀ p, p ∈ st → 1 ≤ p.1) → ∀ p, p ∈ psh e st h r → 1 ≤ p.1
  | [], _, _, _, h2 => h2
  | k :: r, st, h, h1, h2 => psh_pos e r _ _ (by omega) (fun p hp => by
      rcases List.mem_cons.mp hp with rfl | hp
      · exact h1
      · exact h2 p hp)
theorem cdF_pos {h : Nat} (h1 : 1 ≤ h) (r : List Nat) : 1 ≤ cdF h r := by
  rw [cdF_eq]
  have : 0 < h * 4 ^ r.length := Nat.mul_pos h1 (Nat.pow_pos (by omega))
  omega
/-- the order of paths is that of runs -/
theorem pth_lt (e : Nat → Nat) : ∀ (rs us : List (List Nat)), Ru rs → Ru us → rs.length = us.length → ∀ (st : List (Nat × Nat)) (h : Nat), 1 ≤ h → (∀ p, p ∈ st → 1 ≤ p.1) → ltL (pth e st h (tk rs)) (pth e st h (tk us)) = ltL (rs.map cd) (us.map cd)
  | [], [], _, _, _, _, _, _, _ => rfl
  | [], _ :: _, _, _, hl, _, _, _, _ => by simp at hl
  | _ :: _, [], _, _, hl, _, _, _, _ => by simp at hl
  | r :: rs, u :: us, hr, hu, hl, st, h, h1, h2 => by
    rw [tk_cons, tk_cons, pth_run e r _ _ _ (fun k hk => (hr.hd k hk).1), pth_run e u _ _ _ (fun k hk => (hu.hd k hk).1)]
    simp only [List.map_cons, ltL]
    have a1 := fun k hk => (hr.hd k hk).2
    have a2 := fun k hk => (hu.hd k hk).2
    have l1 : (cdF h r < cdF h u) = (cd r < cd u) := propext ((cdF_lt h1 a1 a2).trans (cdF_lt (Nat.le_refl 1) a1 a2).symm)
    by_cases hq : r = u
    · subst hq
      rw [pth_lt e rs us hr.tl hu.tl (by simpa using hl) _ _ (pop_pos _ _ (cdF_pos h1 r) (psh_pos e r st h h1 h2)).1 (pop_pos _ _ (cdF_pos h1 r) (psh_pos e r st h h1 h2)).2]
      simp
    · have n1 : ¬ cdF h r = cdF h u := fun z => hq (cdF_inj h1 a1 a2 z)
      have n2 : ¬ cd r = cd u := fun z => hq (cdF_inj (Nat.le_refl 1) a1 a2 z)
      simp only [l1, n1, n2, decide_false, Bool.false_and, Bool.or_false]
theorem pth_len (e : Nat → Nat) : ∀ (t : List Nat) (st : List (Nat × Nat)) (h : Nat), (pth e st h t).length = lvs t
  | [], _, _ => rfl
  | k :: r, st, h => by
    rw [pth, lvs]
    split
    · rw [List.length_cons, pth_len e r]; omega
    · rw [pth_len e r]; omega
/-- a key: for each leaf how many acts are new (3 bits), then these (2 bits each), from bit B down -/
def ac2 (B : Nat) : List Nat → Nat
  | [] => 0
  | k :: r => (k - 1) * 2 ^ (B - 2) + ac2 (B - 2) r
def kr (B : Nat) : List (List Nat) → Nat
  | [] => 0
  | r :: rs => r.length * 2 ^ (B - 3) + (ac2 (B - 3) r + kr (B - 3 - 2 * r.length) rs)
def Bt : Nat → List (List Nat) → Prop
  | _, [] => True
  | B, r :: rs => (rs = [] → r = []) ∧ (rs ≠ [] → 3 + 2 * r.length ≤ B ∧ r.length ≤ 7 ∧ Bt (B - 3 - 2 * r.length) rs)
theorem ac2_lt : ∀ (r : List Nat) (B x : Nat), (∀ k, k ∈ r → 1 ≤ k ∧ k ≤ 3) → 2 * r.length ≤ B → x < 2 ^ (B - 2 * r.length) → ac2 B r + x < 2 ^ B
  | [], B, x, _, _, h => by simpa [ac2] using h
  | k :: r, B, x, hk, hB, h => by
    rw [List.length_cons] at hB h
    have h1 := ac2_lt r (B - 2) x (fun q hq => hk q (List.mem_cons_of_mem _ hq)) (by omega) (by rw [show B - 2 - 2 * r.length = B - 2 * (r.length + 1) by omega]; exact h)
    have h2 := (hk k List.mem_cons_self).2
    have h3 : (k - 1) * 2 ^ (B - 2) ≤ 2 * 2 ^ (B - 2) := Nat.mul_le_mul_right _ (by omega)
    have h4 : 2 ^ B = 4 * 2 ^ (B - 2) := by rw [show B = B - 2 + 2 by omega, Nat.pow_add]; simp; omega
    rw [ac2]; omega
theorem kr_lt : ∀ (rs : List (List Nat)) (B : Nat), Ru rs → Bt B rs → kr B rs < 2 ^ B
  | [], B, _, _ => Nat.pow_pos (by omega)
  | r :: rs, B, hr, hb => by
    by_cases he : rs = []
    · subst he
      have h1 := hb.1 rfl
      subst h1
      simp only [kr, ac2]
      have := Nat.pow_pos (n := B) (show 0 < 2 by omega)
      simpa using this
    · obtain ⟨h1, h2, h3⟩ := hb.2 he
      have h4 := kr_lt rs _ hr.tl h3
      have h5 := ac2_lt r (B - 3) _ hr.hd (by omega) h4
      have h6 : r.length * 2 ^ (B - 3) ≤ 7 * 2 ^ (B - 3) := Nat.mul_le_mul_right _ h2
      have h7 : 2 ^ B = 8 * 2 ^ (B - 3) := by rw [show B = B - 3 + 3 by omega, Nat.pow_add]; simp; omega
      rw [kr]; omega
theorem ac2_cmp : ∀ (r u : List Nat) (B x y : Nat), r.length = u.length → (∀ k, k ∈ r → 1 ≤ k ∧ k ≤ 3) → (∀ k, k ∈ u → 1 ≤ k ∧ k ≤ 3) → 2 * r.length ≤ B → x < 2 ^ (B - 2 * r.length) → dv r < dv u → ac2 B r + x < ac2 B u + y
  | [], [], _, _, _, _, _, _, _, _, h => by simp [dv, cdF] at h
  | [], _ :: _, _, _, _, h, _, _, _, _, _ => by simp at h
  | _ :: _, [], _, _, _, h, _, _, _, _, _ => by simp at h
  | k :: r, l :: u, B, x, y, hL, hr, hu, hB, hx, hd => by
    rw [List.length_cons] at hB hx
    have hl : r.length = u.length := by simpa using hL
    rw [dv_cons, dv_cons, hl] at hd
    have b1 := dv_lt r (fun q hq => (hr q (List.mem_cons_of_mem _ hq)).2)
    have b2 := dv_lt u (fun q hq => (hu q (List.mem_cons_of_mem _ hq)).2)
    have k1 := hr k List.mem_cons_self
    have k2 := hu l List.mem_cons_self
    have hx' : x < 2 ^ (B - 2 - 2 * r.length) := by rw [show B - 2 - 2 * r.length = B - 2 * (r.length + 1) by omega]; exact hx
    rw [ac2, ac2]
    rcases Nat.lt_trichotomy k l with g | g | g
    · have h1 := ac2_lt r (B - 2) x (fun q hq => hr q (List.mem_cons_of_mem _ hq)) (by omega) hx'
      have h2 : (k - 1 + 1) * 2 ^ (B - 2) ≤ (l - 1) * 2 ^ (B - 2) := Nat.mul_le_mul_right _ (by omega)
      rw [Nat.add_mul] at h2
      omega
    · subst g
      have := ac2_cmp r u (B - 2) x y hl (fun q hq => hr q (List.mem_cons_of_mem _ hq)) (fun q hq => hu q (List.mem_cons_of_mem _ hq)) (by omega) hx' (by omega)
      omega
    · exfalso
      rw [hl] at b1
      have h2 : (l + 1) * 4 ^ u.length ≤ k * 4 ^ u.length := Nat.mul_le_mul_right _ (by omega)
      rw [Nat.add_mul] at h2
      omega
theorem kr_hd {r u : List Nat} {rs us : List (List Nat)} {B : Nat} (hr : Ru (r :: rs)) (hu : Ru (u :: us)) (b1 : Bt B (r :: rs)) (b2 : Bt B (u :: us)) (hl : rs.length = us.length) (h : cd r < cd u) : kr B (r :: rs) < kr B (u :: us) := by
  have a1 := fun k hk => (hr.hd k hk).2
  have a2 := fun k hk => (hu.hd k hk).2
  by_cases he : rs = []
  · have e2 : us = [] := by rw [he] at hl; exact List.length_eq_zero_iff.mp hl.symm
    rw [b1.1 he, b2.1 e2] at h
    exact absurd h (Nat.lt_irrefl _)
  · have e2 : us ≠ [] := fun z => he (by rw [z] at hl; exact List.length_eq_zero_iff.mp hl)
    obtain ⟨c1, c2, c3⟩ := b1.2 he
    obtain ⟨d1, d2, d3⟩ := b2.2 e2
    have q1 := kr_lt rs _ hr.tl c3
    have q2 := kr_lt us _ hu.tl d3
    have z1 := ac2_lt r (B - 3) _ hr.hd (by omega) q1
    rw [kr, kr]
    rcases (cdF_lt (Nat.le_refl 1) a1 a2).mp h with g | ⟨g, g2⟩
    · have : (r.length + 1) * 2 ^ (B - 3) ≤ u.length * 2 ^ (B - 3) := Nat.mul_le_mul_right _ g
      rw [Nat.add_mul] at this
      omega
    · have := ac2_cmp r u (B - 3) (kr (B - 3 - 2 * r.length) rs) (kr (B - 3 - 2 * u.length) us) g hr.hd hu.hd (by omega) q1 g2
      rw [← g] at this ⊢
      omega
/-- the order of keys is that of runs -/
theorem kr_cmp : ∀ (rs us : List (List Nat)) (B : Nat), Ru rs → Ru us → Bt B rs → Bt B us → rs.length = us.length → decide (kr B rs < kr B us) = ltL (rs.map cd) (us.map cd)
  | [], [], _, _, _, _, _, _ => by simp [ltL]
  | [], _ :: _, _, _, _, _, _, h => by simp at h
  | _ :: _, [], _, _, _, _, _, h => by simp at h
  | r :: rs, u :: us, B, hr, hu, b1, b2, hL => by
    have hl : rs.length = us.length := by simpa using hL
    have a1 := fun k hk => (hr.hd k hk).2
    have a2 := fun k hk => (hu.hd k hk).2
    simp only [List.map_cons, ltL]
    rcases Nat.lt_trichotomy (cd r) (cd u) with g | g | g
    · rw [decide_eq_true (kr_hd hr hu b1 b2 hl g), decide_eq_true g]; rfl
    · have e1 : r = u := cdF_inj (Nat.le_refl 1) a1 a2 g
      subst e1
      rw [decide_eq_false (Nat.lt_irrefl _), decide_eq_true rfl, Bool.false_or, Bool.true_and]
      by_cases he : rs = []
      · have e2 : us = [] := by rw [he] at hl; exact List.length_eq_zero_iff.mp hl.symm
        subst he; subst e2
        simp [ltL]
      · have e2 : us ≠ [] := fun z => he (by rw [z] at hl; exact List.length_eq_zero_iff.mp hl)
        rw [← kr_cmp rs us (B - 3 - 2 * r.length) hr.tl hu.tl (b1.2 he).2.2 (b2.2 e2).2.2 hl]
        congr 1
        rw [kr, kr]
        apply propext
        omega
    · have := kr_hd hu hr b2 b1 hl.symm g
      rw [decide_eq_false (by omega), decide_eq_false (by omega), decide_eq_false (by omega)]; rfl

/-- runs of a row of tokens -/
def rns : List Nat → List (List Nat)
  | [] => []
  | k :: r => if k = 0 then [] :: rns r else match rns r with
    | [] => []
    | q :: rs => (k :: q) :: rs
theorem rns_run : ∀ (r : List Nat) (t : List Nat), (∀ k, k ∈ r → 1 ≤ k) → rns (r ++ 0 :: t) = r :: rns t
  | [], t, _ => by simp [rns]
  | k :: r, t, h => by
    have := h k List.mem_cons_self
    rw [List.cons_append, rns, if_neg (show ¬ k = 0 by omega), rns_run r t (fun x hx => h x (List.mem_cons_of_mem _ hx))]
theorem rns_tk : ∀ (rs : List (List Nat)), Ru rs → rns (tk rs) = rs
  | [], _ => rfl
  | r :: rs, h => by rw [tk_cons, rns_run r _ (fun k hk => (h.hd k hk).1), rns_tk rs h.tl]
def ky (t : List Nat) : Nat := kr 30 (rns t)
def acR (rs : List (List Nat)) : Nat := acs (tk rs)
theorem acs_run : ∀ (r : List Nat), (∀ k, k ∈ r → 1 ≤ k) → acs r = r.length
  | [], _ => rfl
  | k :: r, h => by
    have := h k List.mem_cons_self
    simp only [acs, if_neg (show ¬ k = 0 by omega), acs_run r (fun x hx => h x (List.mem_cons_of_mem _ hx)), List.length_cons]; omega
theorem Fs.run {A : Nat} {e : Nat → Nat} (he : ∀ a, a < A → 2 ≤ e a) : ∀ {r u : List Nat} {m : Nat}, (∀ k, k ∈ r → 1 ≤ k) → Fs A e (r ++ u) m → ∃ m', m + r.length ≤ m' ∧ Fs A e u m'
  | [], u, m, _, h => ⟨m, by simp, h⟩
  | k :: r, u, m, hk, h => by
    have h1 := hk k List.mem_cons_self
    rw [List.cons_append] at h
    have h2 := h.2
    rw [if_neg (show ¬ k = 0 by omega)] at h2
    obtain ⟨m', g1, g2⟩ := Fs.run he (fun x hx => hk x (List.mem_cons_of_mem _ hx)) h2.2
    have := he (k - 1) (by omega)
    have := h.1
    exact ⟨m', by rw [List.length_cons]; omega, g2⟩
theorem Bt_of {A : Nat} {e : Nat → Nat} (he : ∀ a, a < A → 2 ≤ e a) : ∀ (rs : List (List Nat)) (B m : Nat), Ru rs → Fs A e (tk rs) m → 1 ≤ m → acs (tk rs) ≤ 7 → 3 * rs.length + 2 * acs (tk rs) ≤ B + 3 → Bt B rs
  | [], _, _, _, _, _, _, _ => trivial
  | r :: rs, B, m, hr, hf, hm, h7, hB => by
    have hk := fun k hk => (hr.hd k hk).1
    rw [tk_cons] at hf h7 hB
    rw [acs_app, acs_run r hk] at h7 hB
    simp only [acs, if_pos] at h7 hB
    obtain ⟨m', g1, g2⟩ := Fs.run he hk hf
    have g3 := g2.2
    rw [if_pos rfl] at g3
    refine ⟨fun hn => ?_, fun hn => ?_⟩
    · rw [hn] at g3
      have g3 : m' - 1 = 0 := g3
      exact List.length_eq_zero_iff.mp (by omega)
    · have hl : 1 ≤ rs.length := by
        cases rs with
        | nil => exact absurd rfl hn
        | cons _ _ => simp
      have hm' : 1 ≤ m' - 1 := by
        rcases Nat.eq_zero_or_pos (m' - 1) with z | z
        · exfalso
          rw [z] at g3
          cases rs with
          | nil => exact hn rfl
          | cons q s =>
            rw [tk_cons] at g3
            cases q with
            | nil => exact absurd g3.1 (by omega)
            | cons _ _ => exact absurd g3.1 (by omega)
        · exact z
      rw [List.length_cons] at hB
      exact ⟨by omega, by omega, Bt_of he rs _ _ hr.tl g3 hm' (by omega) (by omega)⟩
/-- a tree of a world: at most seven leaves -/
def Tr (A : Nat) (e : Nat → Nat) (n : Nat) (t : List Nat) : Prop := Fs A e t 1 ∧ lvs t = n
def Eok (A : Nat) (e : Nat → Nat) : Prop := A ≤ 3 ∧ ∀ a, a < A → 2 ≤ e a ∧ e a ≤ 4
theorem Eok.two {A : Nat} {e : Nat → Nat} (h : Eok A e) : ∀ a, a < A → 2 ≤ e a := fun a ha => (h.2 a ha).1
theorem Eok.one {A : Nat} {e : Nat → Nat} (h : Eok A e) : ∀ a, a < A → 1 ≤ e a := fun a ha => Nat.le_trans (by omega) (h.two a ha)
theorem Tr.rn {A : Nat} {e : Nat → Nat} (hE : Eok A e) {n : Nat} {t : List Nat} (h : Tr A e n t) (hn : n ≤ 7) : t = tk (rns t) ∧ Ru (rns t) ∧ (rns t).length = n ∧ Bt 30 (rns t) := by
  obtain ⟨rs, h1, h2⟩ := Fs.runs hE.1 hE.one h.1
  have h3 : rns t = rs := by rw [h1, rns_tk rs h2]
  have h4 : rs.length = n := by rw [← lvs_tk rs h2, ← h1]; exact h.2
  rw [h3]
  have h5 := Fs.cnt hE.two h.1
  have h6 := h.2
  refine ⟨h1, h2, h4, Bt_of hE.two rs 30 1 h2 (h1 ▸ h.1) (Nat.le_refl _) (by rw [← h1]; omega) (by rw [← h1]; omega)⟩
theorem Tr.len {A : Nat} {e : Nat → Nat} (hE : Eok A e) {n : Nat} {t : List Nat} (h : Tr A e n t) : t.length + 1 ≤ 2 * n ∧ 1 ≤ n := by
  have h5 := Fs.cnt hE.two h.1
  have h6 := h.2
  have := len_la t
  omega
theorem Tr.tok {A : Nat} {e : Nat → Nat} (hE : Eok A e) {n : Nat} {t : List Nat} (h : Tr A e n t) : ∀ k, k ∈ t → k ≤ 3 := fun k hk => Nat.le_trans (h.1.tok k hk) hE.1
/-- the order of trees with as many leaves -/
def gt (t u : List Nat) : Prop := ky u < ky t
theorem ky_lt {A : Nat} {e : Nat → Nat} (hE : Eok A e) {n : Nat} {t : List Nat} (h : Tr A e n t) (hn : n ≤ 7) : ky t < 2 ^ 30 := by
  obtain ⟨_, h2, _, h4⟩ := h.rn hE hn
  exact kr_lt _ _ h2 h4
theorem ky_pth {A : Nat} {e : Nat → Nat} (hE : Eok A e) {n : Nat} {t u : List Nat} (h : Tr A e n t) (g : Tr A e n u) (hn : n ≤ 7) : decide (ky t < ky u) = ltL (pth e [] 1 t) (pth e [] 1 u) := by
  obtain ⟨h1, h2, h3, h4⟩ := h.rn hE hn
  obtain ⟨g1, g2, g3, g4⟩ := g.rn hE hn
  have := pth_lt e (rns t) (rns u) h2 g2 (h3.trans g3.symm) [] 1 (Nat.le_refl _) (fun p hp => absurd hp List.not_mem_nil)
  rw [← h1, ← g1] at this
  rw [this]
  exact kr_cmp _ _ 30 h2 g2 h4 g4 (h3.trans g3.symm)
theorem ltL_tri : ∀ (p q : List Nat), p.length = q.length → ltL p q = false → ltL q p = false → p = q
  | [], [], _, _, _ => rfl
  | [], _ :: _, h, _, _ => by simp at h
  | _ :: _, [], h, _, _ => by simp at h
  | a :: p, b :: q, h, h1, h2 => by
    simp only [ltL, Bool.or_eq_false_iff, decide_eq_false_iff_not] at h1 h2
    have hab : a = b := by omega
    subst hab
    simp only [decide_true, Bool.true_and] at h1 h2
    rw [ltL_tri p q (by simpa using h) h1.2 h2.2]
theorem map_cd_inj : ∀ (rs us : List (List Nat)), Ru rs → Ru us → rs.map cd = us.map cd → rs = us
  | [], [], _, _, _ => rfl
  | [], _ :: _, _, _, h => by simp at h
  | _ :: _, [], _, _, h => by simp at h
  | r :: rs, u :: us, hr, hu, h => by
    simp only [List.map_cons, List.cons.injEq] at h
    rw [cdF_inj (Nat.le_refl 1) (fun k hk => (hr.hd k hk).2) (fun k hk => (hu.hd k hk).2) h.1, map_cd_inj rs us hr.tl hu.tl h.2]
theorem ky_inj {A : Nat} {e : Nat → Nat} (hE : Eok A e) {n : Nat} {t u : List Nat} (h : Tr A e n t) (g : Tr A e n u) (hn : n ≤ 7) (hk : ky t = ky u) : t = u := by
  obtain ⟨h1, h2, h3, h4⟩ := h.rn hE hn
  obtain ⟨g1, g2, g3, g4⟩ := g.rn hE hn
  have a := kr_cmp _ _ 30 h2 g2 h4 g4 (h3.trans g3.symm)
  have b := kr_cmp _ _ 30 g2 h2 g4 h4 (g3.trans h3.symm)
  have hk : kr 30 (rns t) = kr 30 (rns u) := hk
  rw [decide_eq_false (by omega)] at a b
  have := map_cd_inj _ _ h2 g2 (ltL_tri _ _ (by simp [h3, g3]) a.symm b.symm)
  rw [h1, g1, this]
theorem cd_inj {A : Nat} {e : Nat → Nat} (hE : Eok A e) {n m : Nat} {t u : List Nat} (h : Tr A e n t) (g : Tr A e m u) (hk : cd t = cd u) : t = u := cdF_inj (Nat.le_refl 1) (h.tok hE) (g.tok hE) hk
theorem pth_inj {A : Nat} {e : Nat → Nat} (hE : Eok A e) {n : Nat} {t u : List Nat} (h : Tr A e n t) (g : Tr A e n u) (hn : n ≤ 7) (hp : pth e [] 1 t = pth e [] 1 u) : t = u := by
  have a := ky_pth hE h g hn
  have b := ky_pth hE g h hn
  rw [hp] at a b
  have hi : ∀ p : List Nat, ltL p p = false := fun p => by
    induction p with
    | nil => rfl
    | cons x p ih => simp [ltL, ih]
  rw [hi] at a b
  have a := of_decide_eq_false a
  have b := of_decide_eq_false b
  exact ky_inj hE h g hn (by omega)
theorem cd_lt {t : List Nat} (h : ∀ k, k ∈ t → k ≤ 3) : cd t < 2 * 4 ^ t.length := by
  have := dv_lt t h
  show cdF 1 t < _
  rw [cdF_eq]; omega
theorem cd_le {t : List Nat} (h : ∀ k, k ∈ t → k ≤ 3) (hl : t.length ≤ 14) : cd t < 2 ^ 29 := by
  have h1 := cd_lt h
  have h2 : 4 ^ t.length ≤ 4 ^ 14 := Nat.pow_le_pow_right (by omega) hl
  have : (4 : Nat) ^ 14 = 268435456 := by decide
  omega
