/-! TEXTS: bytes, and their tokens -/
def sbt (c : Nat) : Int32 := (nI c).toInt8.toInt32
def sml (c : Nat) : Bool := decide (97 ≤ c) && decide (c ≤ 122)
def dgt (c : Nat) : Bool := decide (48 ≤ c) && decide (c ≤ 57)
def aln (c : Nat) : Bool := sml c || dgt c
def sgn (c : Nat) : Bool := c == 59 || c == 40 || c == 41 || c == 44 || c == 43 || c == 45 || c == 61
theorem sbt_small : ∀ c, c < 256 → ((nI 97 ≤ sbt c ∧ sbt c ≤ nI 122) ↔ sml c = true) ∧ ((nI 48 ≤ sbt c ∧ sbt c ≤ nI 57) ↔ dgt c = true) := by decide +kernel
theorem sbt_eq : ∀ c, c < 256 → ∀ n, n < 128 → (sbt c = nI n ↔ c = n) := by decide +kernel
theorem sbt_255 : ∀ c, c < 256 → sbt c &&& nI 255 = nI c := by decide +kernel
theorem sbt_lo : ∀ c, c < 128 → sbt c = nI c := by decide +kernel
theorem aln_lt {c : Nat} (h : aln c = true) : c < 128 ∧ c ≠ 32 ∧ c ≠ 10 ∧ sgn c = false := by
  simp [aln, sml, dgt] at h
  simp [sgn]
  omega
def arun : List Nat → Nat
  | [] => 0
  | c :: r => if aln c then arun r + 1 else 0
theorem arun_le : ∀ (u : List Nat), arun u ≤ u.length
  | [] => Nat.le_refl _
  | c :: r => by
    rw [arun]
    split
    · have := arun_le r; rw [List.length_cons]; omega
    · exact Nat.zero_le _
theorem arun_in : ∀ (u : List Nat) (i : Nat), i < arun u → aln (u.getD i 0) = true
  | [], i, h => by simp [arun] at h
  | c :: r, i, h => by
    rw [arun] at h
    split at h
    · rename_i hc
      cases i with
      | zero => exact hc
      | succ i => exact arun_in r i (by omega)
    · omega
theorem arun_end : ∀ (u : List Nat), arun u < u.length → aln (u.getD (arun u) 0) = false
  | [], h => by simp at h
  | c :: r, h => by
    rw [arun] at h ⊢
    split
    · rename_i hc
      rw [if_pos hc, List.length_cons] at h
      exact arun_end r (by omega)
    · rename_i hc
      simpa using hc
def wvl (w : List Nat) : Nat := w.foldl (fun x c => x * 256 + c) 0
def nvl (w : List Nat) : Nat := w.foldl (fun x c => x * 10 + (c - 48)) 0
theorem wvl_snoc {w : List Nat} {c : Nat} : wvl (w ++ [c]) = wvl w * 256 + c := by unfold wvl; rw [List.foldl_append]; rfl
theorem nvl_snoc {w : List Nat} {c : Nat} : nvl (w ++ [c]) = nvl w * 10 + (c - 48) := by unfold nvl; rw [List.foldl_append]; rfl
theorem wvl_lt (w : List Nat) (h : ∀ c, c ∈ w → c < 256) : wvl w < 256 ^ w.length := by
  obtain ⟨n, hn⟩ : ∃ n, w.length = n := ⟨_, rfl⟩
  induction n generalizing w with
  | zero => rw [List.length_eq_zero_iff.mp hn]; decide
  | succ n ih =>
    obtain ⟨v, c, rfl⟩ : ∃ v c, w = v ++ [c] := ⟨w.dropLast, w.getLast (by intro z; rw [z] at hn; simp at hn), (List.dropLast_concat_getLast _).symm⟩
    have hl : v.length = n := by simpa using hn
    have h1 := ih v (fun x hx => h x (List.mem_append.mpr (Or.inl hx))) hl
    have h2 := h c (by simp)
    rw [wvl_snoc, List.length_append, List.length_singleton, Nat.pow_succ]
    omega
theorem nvl_lt (w : List Nat) (h : ∀ c, c ∈ w → dgt c = true) : nvl w < 10 ^ w.length := by
  obtain ⟨n, hn⟩ : ∃ n, w.length = n := ⟨_, rfl⟩
  induction n generalizing w with
  | zero => rw [List.length_eq_zero_iff.mp hn]; decide
  | succ n ih =>
    obtain ⟨v, c, rfl⟩ : ∃ v c, w = v ++ [c] := ⟨w.dropLast, w.getLast (by intro z; rw [z] at hn; simp at hn), (List.dropLast_concat_getLast _).symm⟩
    have hl : v.length = n := by simpa using hn
    have h1 := ih v (fun x hx => h x (List.mem_append.mpr (Or.inl hx))) hl
    have h2 := h c (by simp)
    simp [dgt] at h2
    rw [nvl_snoc, List.length_append, List.length_singleton, Nat.pow_succ]
    omega
/-- kind of a word: 2 letters alone, 3 digits alone, 4 none -/
def tkk (w : List Nat) : Nat := if w.all sml = true ∧ w.length ≤ 6 then 2 else if w.all dgt = true ∧ w.length ≤ 2 then 3 else 4
def tkv (w : List Nat) : Nat := if w.all sml = true then wvl w else nvl w
abbrev zTk : Type := Nat × Nat × Nat
def tend (bs : List Nat) (lim : Nat) : zTk := (if lim < bs.length then 1 else 0, min bs.length lim, 0)
def lexF (bs : List Nat) (lim : Nat) : Nat → Nat → List zTk
  | 0, _ => [tend bs lim]
  | f + 1, p => if p < min bs.length lim then (if aln (bs.getD p 0) then (tkk ((bs.drop p).take (arun (bs.drop p))), p, tkv ((bs.drop p).take (arun (bs.drop p)))) :: lexF bs lim f (p + arun (bs.drop p)) else if bs.getD p 0 = 32 ∨ bs.getD p 0 = 10 then lexF bs lim f (p + 1) else (if sgn (bs.getD p 0) then bs.getD p 0 else 4, p, 0) :: lexF bs lim f (p + 1)) else [tend bs lim]
theorem arun_pos {bs : List Nat} {p : Nat} (h : p < bs.length) (ha : aln (bs.getD p 0) = true) : 1 ≤ arun (bs.drop p) := by
  rw [List.drop_eq_getElem_cons h, arun]
  rw [List.getD_eq_getElem?_getD, List.getElem?_eq_getElem h] at ha
  have ha : aln bs[p] = true := ha
  rw [if_pos ha]
  omega
theorem lexF_fuel {bs : List Nat} {lim : Nat} : ∀ (f g p : Nat), min bs.length lim - p ≤ f → min bs.length lim - p ≤ g → lexF bs lim f p = lexF bs lim g p
  | 0, 0, p, _, _ => rfl
  | 0, g + 1, p, h, _ => by rw [lexF, lexF, if_neg (by omega)]
  | f + 1, 0, p, _, h => by rw [lexF, lexF, if_neg (by omega)]
  | f + 1, g + 1, p, hf, hg => by
    rw [lexF, lexF]
    by_cases h : p < min bs.length lim
    · rw [if_pos h, if_pos h]
      by_cases ha : aln (bs.getD p 0) = true
      · have := arun_pos (by omega) ha
        rw [if_pos ha, if_pos ha, lexF_fuel f g _ (by omega) (by omega)]
      · rw [if_neg ha, if_neg ha, lexF_fuel f g _ (by omega) (by omega)]
    · rw [if_neg h, if_neg h]
def lexA (bs : List Nat) (lim p : Nat) : List zTk := lexF bs lim (min bs.length lim - p) p
theorem lexA_end {bs : List Nat} {lim p : Nat} (h : min bs.length lim ≤ p) : lexA bs lim p = [tend bs lim] := by
  unfold lexA
  rw [show min bs.length lim - p = 0 by omega, lexF]
theorem lexA_tok {bs : List Nat} {lim p : Nat} (h : p < min bs.length lim) (ha : aln (bs.getD p 0) = true) : lexA bs lim p = (tkk ((bs.drop p).take (arun (bs.drop p))), p, tkv ((bs.drop p).take (arun (bs.drop p)))) :: lexA bs lim (p + arun (bs.drop p)) := by
  have := arun_pos (by omega) ha
  unfold lexA
  rw [show min bs.length lim - p = (min bs.length lim - p - 1) + 1 by omega, lexF, if_pos h, if_pos ha, lexF_fuel _ (min bs.length lim - (p + arun (bs.drop p))) _ (by omega) (by omega)]
theorem lexA_bl {bs : List Nat} {lim p : Nat} (h : p < min bs.length lim) (ha : bs.getD p 0 = 32 ∨ bs.getD p 0 = 10) : lexA bs lim p = lexA bs lim (p + 1) := by
  have hn : ¬ aln (bs.getD p 0) = true := fun z => by have := aln_lt z; omega
  unfold lexA
  rw [show min bs.length lim - p = (min bs.length lim - p - 1) + 1 by omega, lexF, if_pos h, if_neg hn, if_pos ha, lexF_fuel _ (min bs.length lim - (p + 1)) _ (by omega) (by omega)]
theorem lexA_sg {bs : List Nat} {lim p : Nat} (h : p < min bs.length lim) (hn : ¬ aln (bs.getD p 0) = true) (ha : ¬ (bs.getD p 0 = 32 ∨ bs.getD p 0 = 10)) : lexA bs lim p = (if sgn (bs.getD p 0) then bs.getD p 0 else 4, p, 0) :: lexA bs lim (p + 1) := by
  unfold lexA
  rw [show min bs.length lim - p = (min bs.length lim - p - 1) + 1 by omega, lexF, if_pos h, if_neg hn, if_neg ha, lexF_fuel _ (min bs.length lim - (p + 1)) _ (by omega) (by omega)]
theorem lexA_ne {bs : List Nat} {lim p : Nat} : lexA bs lim p ≠ [] := by
  unfold lexA
  generalize min bs.length lim - p = f
  induction f generalizing p with
  | zero => simp [lexF]
  | succ f ih =>
    rw [lexF]
    split
    · split
      · simp
      · split
        · exact ih
        · simp
    · simp
theorem lexA_len {bs : List Nat} {lim : Nat} : ∀ (d p : Nat), p + d = min bs.length lim → (lexA bs lim p).length ≤ d + 1
  | 0, p, h => by rw [lexA_end (by omega)]; simp
  | d + 1, p, h => by
    by_cases ha : aln (bs.getD p 0) = true
    · rw [lexA_tok (by omega) ha, List.length_cons]
      have h1 := arun_pos (p := p) (by omega) ha
      by_cases h2 : p + arun (bs.drop p) ≤ min bs.length lim
      · have := lexA_len (bs := bs) (lim := lim) (min bs.length lim - (p + arun (bs.drop p))) (p + arun (bs.drop p)) (by omega)
        omega
      · rw [lexA_end (by omega)]; simp
    · by_cases hb : bs.getD p 0 = 32 ∨ bs.getD p 0 = 10
      · rw [lexA_bl (by omega) hb]; have := lexA_len (bs := bs) (lim := lim) d (p + 1) (by omega); omega
      · rw [lexA_sg (by omega) ha hb, List.length_cons]; have := lexA_len (bs := bs) (lim := lim) d (p + 1) (by omega); omega
/-- one token on; the last one stays -/
def adv : List zTk → List zTk
  | a :: b :: r => b :: r
  | l => l
def t0 : zTk := (0, 0, 0)
def hdT (ts : List zTk) : zTk := ts.headD t0
theorem getD_take {u : List Nat} {n i : Nat} (h : i < n) : (u.take n).getD i 0 = u.getD i 0 := by
  rw [List.getD_eq_getElem?_getD, List.getD_eq_getElem?_getD, List.getElem?_take_of_lt h]
theorem getD_drop {u : List Nat} {n i : Nat} : (u.drop n).getD i 0 = u.getD (n + i) 0 := by
  rw [List.getD_eq_getElem?_getD, List.getD_eq_getElem?_getD, List.getElem?_drop]
