/-! THE PARSER, over tokens -/
def TkOk (t : zTk) : Prop := t.1 < 256 ∧ t.2.1 ≤ 940 ∧ (t.1 = 2 → t.2.2 < 2 ^ 48 ∧ t.2.2 ≠ 0) ∧ (t.1 = 3 → t.2.2 < 100)
def Tks (ts : List zTk) : Prop := ts ≠ [] ∧ ts.length ≤ 941 ∧ ∀ t, t ∈ ts → TkOk t
theorem Tks.hd {ts : List zTk} (h : Tks ts) : TkOk (hdT ts) := by
  cases ts with
  | nil => exact absurd rfl h.1
  | cons a r => exact h.2.2 a List.mem_cons_self
theorem Tks.adv {ts : List zTk} (h : Tks ts) : Tks (_root_.Jvm.Pilot.CLeafWorldsLaw_law_r8483_d58aac.adv ts) := by
  match ts, h with
  | [], h => exact absurd rfl h.1
  | [a], h => exact h
  | a :: b :: r, h => exact ⟨by simp [_root_.Jvm.Pilot.CLeafWorldsLaw_law_r8483_d58aac.adv], by have := h.2.1; simp [_root_.Jvm.Pilot.CLeafWorldsLaw_law_r8483_d58aac.adv] at this ⊢; omega, fun t ht => h.2.2 t (List.mem_cons_of_mem _ ht)⟩
theorem lex_ok {bs : List Nat} (hb : ∀ c, c ∈ bs → c < 256) (hl : bs.length ≤ 940) {lim : Nat} : ∀ (d p : Nat), min bs.length lim ≤ p + d → ∀ t, t ∈ lexA bs lim p → TkOk t
  | d, p, h, t, ht => by
    have hend : ∀ q, min bs.length lim ≤ q → ∀ t, t ∈ lexA bs lim q → TkOk t := fun q hq t ht => by
      rw [lexA_end hq] at ht
      rw [List.mem_singleton.mp ht]
      unfold tend TkOk
      refine ⟨?_, ?_, fun z => ?_, fun z => ?_⟩
      · split <;> omega
      · show min bs.length lim ≤ 940; omega
      · simp only at z; split at z <;> omega
      · simp only at z; split at z <;> omega
    by_cases hp : p < min bs.length lim
    · cases d with
      | zero => omega
      | succ d =>
        by_cases ha : aln (bs.getD p 0) = true
        · rw [lexA_tok hp ha] at ht
          have hr := arun_pos (p := p) (by omega) ha
          rcases List.mem_cons.mp ht with rfl | ht
          · have hm : ∀ c, c ∈ (bs.drop p).take (arun (bs.drop p)) → c < 256 := fun c hc => hb c (List.mem_of_mem_drop (List.mem_of_mem_take hc))
            have hal := arun_le (bs.drop p)
            have hwl : ((bs.drop p).take (arun (bs.drop p))).length = arun (bs.drop p) := by rw [List.length_take]; omega
            refine ⟨?_, by show p ≤ 940; omega, fun z => ?_, fun z => ?_⟩
            · show tkk _ < 256
              unfold tkk; split
              · omega
              · split <;> omega
            · have z : tkk ((bs.drop p).take (arun (bs.drop p))) = 2 := z
              unfold tkk at z
              split at z
              · rename_i hc
                show tkv _ < 2 ^ 48 ∧ tkv _ ≠ 0
                unfold tkv
                rw [if_pos hc.1]
                have h1 := wvl_lt _ hm
                have h2 : 256 ^ ((bs.drop p).take (arun (bs.drop p))).length ≤ 256 ^ 6 := Nat.pow_le_pow_right (by omega) hc.2
                have h3 : (256 : Nat) ^ 6 = 2 ^ 48 := by decide
                refine ⟨by omega, ?_⟩
                obtain ⟨v, c, e⟩ : ∃ v c, (bs.drop p).take (arun (bs.drop p)) = v ++ [c] := ⟨_, _, (List.dropLast_concat_getLast (l := (bs.drop p).take (arun (bs.drop p))) (by intro z; rw [z] at hwl; simp at hwl; omega)).symm⟩
                have hcs : sml c = true := List.all_eq_true.mp hc.1 c (by rw [e]; simp)
                have := sml_lt hcs
                rw [e, wvl_snoc]
                omega
              · split at z <;> omega
            · have z : tkk ((bs.drop p).take (arun (bs.drop p))) = 3 := z
              unfold tkk at z
              split at z
              · omega
              · split at z
                · rename_i hn hc
                  show tkv _ < 100
                  unfold tkv
                  rw [if_neg (fun y => by
                    have h1 := all_cnt (f := sml) (w := (bs.drop p).take (arun (bs.drop p)))
                    have := List.all_eq_true.mp y _ (getD_mem (t := (bs.drop p).take (arun (bs.drop p))) (j := 0) (by omega))
                    have h2 := List.all_eq_true.mp hc.1 _ (getD_mem (t := (bs.drop p).take (arun (bs.drop p))) (j := 0) (by omega))
                    rw [sml_dgt this] at h2
                    cases h2)]
                  have h1 := nvl_lt _ (List.all_eq_true.mp hc.1)
                  have h2 : 10 ^ ((bs.drop p).take (arun (bs.drop p))).length ≤ 10 ^ 2 := Nat.pow_le_pow_right (by omega) hc.2
                  omega
                · omega
          · exact lex_ok hb hl d _ (by omega) t ht
        · by_cases hbk : bs.getD p 0 = 32 ∨ bs.getD p 0 = 10
          · rw [lexA_bl hp hbk] at ht
            exact lex_ok hb hl d _ (by omega) t ht
          · rw [lexA_sg hp ha hbk] at ht
            rcases List.mem_cons.mp ht with rfl | ht
            · have hc : bs.getD p 0 < 256 := hb _ (getD_mem (by omega))
              refine ⟨?_, by show p ≤ 940; omega, fun z => ?_, fun z => ?_⟩
              · show (if sgn (bs.getD p 0) = true then bs.getD p 0 else 4) < 256
                split <;> omega
              · have z : (if sgn (bs.getD p 0) = true then bs.getD p 0 else 4) = 2 := z
                split at z
                · rename_i hs; rw [z] at hs; exact absurd hs (by decide)
                · omega
              · have z : (if sgn (bs.getD p 0) = true then bs.getD p 0 else 4) = 3 := z
                split at z
                · rename_i hs; rw [z] at hs; exact absurd hs (by decide)
                · omega
            · exact lex_ok hb hl d _ (by omega) t ht
    · exact hend p (by omega) t ht
theorem lex_tks {bs : List Nat} (hb : ∀ c, c ∈ bs → c < 256) (hl : bs.length ≤ 940) {lim : Nat} : Tks (lexA bs lim 0) := by
  refine ⟨lexA_ne, ?_, lex_ok hb hl (min bs.length lim) 0 (by omega)⟩
  have := lexA_len (bs := bs) (lim := lim) (min bs.length lim) 0 (by omega)
  omega
def isW (ts : List zTk) (v : Nat) : Prop := (hdT ts).1 = 2 ∧ (hdT ts).2.2 = v
def isNm (ts : List zTk) : Prop := (hdT ts).1 = 2 ∧ (hdT ts).2.2 ≠ 120 ∧ (hdT ts).2.2 ≠ 7171940 ∧ (hdT ts).2.2 ≠ 6382452 ∧ (hdT ts).2.2 ≠ 7102839
/-- the act of a name -/
def fAct (nm : Nat → Nat) (v : Nat) : Nat → Option Nat
  | 0 => none
  | A + 1 => if nm A = v then some A else fAct nm v A
theorem fAct_some {nm : Nat → Nat} {v : Nat} : ∀ {A a : Nat}, fAct nm v A = some a → a < A ∧ nm a = v
  | 0, a, h => by cases h
  | A + 1, a, h => by
    rw [fAct] at h
    split at h
    · rename_i hh; cases h; exact ⟨by omega, hh⟩
    · have := fAct_some h; exact ⟨by omega, this.2⟩
theorem fAct_none {nm : Nat → Nat} {v : Nat} : ∀ {A : Nat}, fAct nm v A = none → ∀ a, a < A → nm a ≠ v
  | 0, _, a, ha => by omega
  | A + 1, h, a, ha => by
    rw [fAct] at h
    split at h
    · cases h
    · rename_i hh
      by_cases e : a = A
      · rw [e]; exact hh
      · exact fAct_none h a (by omega)
theorem fAct_of {nm : Nat → Nat} {v A a : Nat} (ha : a < A) (hv : nm a = v) (hd : ∀ b, b < A → nm b = v → b = a) : fAct nm v A = some a := by
  cases h : fAct nm v A with
  | none => exact absurd hv (fAct_none h a ha)
  | some b => have := fAct_some h; rw [hd b this.1 this.2]
abbrev zEr : Type := Nat × Nat
def clsP : List Nat → List zTk → zEr ⊕ (List Nat × List zTk)
  | [], ts => Sum.inr ([], ts)
  | l :: st, ts => if 1 < l then (if (hdT ts).1 = 44 then Sum.inr ((l - 1) :: st, adv ts) else Sum.inl (1, (hdT ts).2.1)) else (if (hdT ts).1 = 41 then clsP st (adv ts) else Sum.inl (1, (hdT ts).2.1))
theorem clsP_tks : ∀ {st st' : List Nat} {ts ts' : List zTk}, Tks ts → clsP st ts = Sum.inr (st', ts') → Tks ts' ∧ st'.length ≤ st.length
  | [], st', ts, ts', h, e => by cases e; exact ⟨h, Nat.le_refl _⟩
  | l :: st, st', ts, ts', h, e => by
    rw [clsP] at e
    split at e
    · split at e
      · cases e; exact ⟨h.adv, by simp⟩
      · cases e
    · split at e
      · have := clsP_tks h.adv e; exact ⟨this.1, by rw [List.length_cons]; omega⟩
      · cases e
