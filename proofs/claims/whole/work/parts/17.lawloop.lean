theorem law_hth {n : Nat} {f : Nat → Int32} : Nat.beq (mg (mL_law n f) / 10) 1 = false := by
  show Nat.beq (2 / 10) 1 = false
  rfl
theorem Sd.new5 {S : zS} (h : Sd S) : Sd (al S 5000 0 1 1) := by
  have h5 : ∀ a b, b < cnt a → ¬ (a = 5000 ∧ b = 0) := fun a b hb z => by
    rw [z.1] at hb
    exact Nat.not_lt_zero b (show b < 0 from hb)
  refine ⟨fun a b hb => ?_, fun a b k hb hk => ?_, fun a b hg hb => ?_, fun a b k p hp hg => ?_, fun m hm => ?_⟩
  · rw [gE_al, if_neg (h5 a b hb)]; exact h.1 a b hb
  · rw [gR_al, if_neg (h5 a b hb)]; exact h.2.1 a b k hb hk
  · rw [gN_al, if_neg (h5 a b hb)]; exact h.2.2.1 a b hg hb
  · rw [gR_al] at hp
    by_cases e : a = 5000 ∧ b = 0
    · rw [if_pos e] at hp; cases hp
    · rw [if_neg e] at hp; exact h.2.2.2.1 a b k p hp hg
  · rw [gC_al] at hm
    rw [gE_al, if_neg (fun z => absurd z.1 (by decide))]; exact h.2.2.2.2 m (by omega)
def sStart : zS := al (iMt sM1) 5000 0 1 1
theorem sd_sStart : Sd sStart := sd_start.new5
theorem lg_same (v : Int64) : lg_cmp v v = nI 0 := by
  unfold lg_cmp
  rw [if_neg (by show ¬ v < v; exact Int64.lt_irrefl), if_pos rfl]
  rfl
theorem law_gt {n i : Nat} (hn : n ≤ 3072) (hi : i ≤ 4000) : (nI n - nI 6 < nI i) ↔ n < i + 6 := by
  rw [Int32.lt_iff_toInt_lt, pk_sub_toInt (by omega) (by omega), nI_toInt (by omega)]
  omega
/-- the pairs of methods, each answering alike from Inv k into Inv (k + 1) -/
def pr_feed (NN : Nat) (Inv : Nat → zS → Prop) : Prop := ∀ (k : Nat) (S : zS) (a b c d e : Int32), 6 * k + 6 ≤ NN → Inv k S → Ok mX11_feed 0 (ent 6 [zr 11 0, zi a, zi b, zi c, zi d, zi e]) [] S (fun r S1 => ∃ v : Int32, r = some (zi v) ∧ Sd S1 ∧ Ok mX12_feed 0 (ent 6 [zr 12 0, zi a, zi b, zi c, zi d, zi e]) [] S1 (fun r2 S2 => r2 = some (zi v) ∧ Inv (k + 1) S2))
def pr_end (NN : Nat) (Inv : Nat → zS → Prop) : Prop := ∀ (k : Nat) (S : zS) (a : Int32), 6 * k + 6 ≤ NN → Inv k S → Ok mX11_end 0 (ent 2 [zr 11 0, zi a]) [] S (fun r S1 => ∃ v : Int32, r = some (zi v) ∧ Sd S1 ∧ Ok mX12_end 0 (ent 2 [zr 12 0, zi a]) [] S1 (fun r2 S2 => r2 = some (zi v) ∧ Inv (k + 1) S2))
def pr_world (NN : Nat) (Inv : Nat → zS → Prop) : Prop := ∀ (k : Nat) (S : zS), 6 * k + 6 ≤ NN → Inv k S → Ok mX11_world 0 (ent 4 [zr 11 0]) [] S (fun r S1 => ∃ v : Int32, r = some (zi v) ∧ Sd S1 ∧ Ok mX12_world 0 (ent 2 [zr 12 0]) [] S1 (fun r2 S2 => r2 = some (zi v) ∧ Inv (k + 1) S2))
def pr_fault (NN : Nat) (Inv : Nat → zS → Prop) : Prop := ∀ (k : Nat) (S : zS), 6 * k + 6 ≤ NN → Inv k S → Ok mX11_fault 0 (ent 1 [zr 11 0]) [] S (fun r S1 => ∃ v : Int32, r = some (zi v) ∧ Sd S1 ∧ Ok mX12_fault 0 (ent 1 [zr 12 0]) [] S1 (fun r2 S2 => r2 = some (zi v) ∧ Inv (k + 1) S2))
def pr_act (NN : Nat) (Inv : Nat → zS → Prop) : Prop := ∀ (k : Nat) (S : zS) (a : Int32), 6 * k + 6 ≤ NN → Inv k S → Ok mX11_act 0 (ent 3 [zr 11 0, zi a]) [] S (fun r S1 => ∃ v : Int32, r = some (zi v) ∧ Sd S1 ∧ Ok mX12_act 0 (ent 2 [zr 12 0, zi a]) [] S1 (fun r2 S2 => r2 = some (zi v) ∧ Inv (k + 1) S2))
def pr_law (NN : Nat) (Inv : Nat → zS → Prop) : Prop := ∀ (k : Nat) (S : zS) (a b : Int32), 6 * k + 6 ≤ NN → Inv k S → Ok mX11_law 0 (ent 4 [zr 11 0, zi a, zi b]) [] S (fun r S1 => ∃ v : Int32, r = some (zi v) ∧ Sd S1 ∧ Ok mX12_law 0 (ent 3 [zr 12 0, zi a, zi b]) [] S1 (fun r2 S2 => r2 = some (zi v) ∧ Inv (k + 1) S2))
def pr_take (NN : Nat) (Inv : Nat → zS → Prop) : Prop := ∀ (k : Nat) (S : zS) (a : Int32), 6 * k + 6 ≤ NN → Inv k S → Ok mX11_take 0 (ent 3 [zr 11 0, zi a]) [] S (fun r S1 => ∃ v : Int32, r = some (zi v) ∧ Sd S1 ∧ Ok mX12_take 0 (ent 2 [zr 12 0, zi a]) [] S1 (fun r2 S2 => r2 = some (zi v) ∧ Inv (k + 1) S2))
def pr_trees (NN : Nat) (Inv : Nat → zS → Prop) : Prop := ∀ (k : Nat) (S : zS) (a : Int32), 6 * k + 6 ≤ NN → Inv k S → Ok mX11_trees 0 (ent 2 [zr 11 0, zi a]) [] S (fun r S1 => ∃ v : Int64, r = some (zl v) ∧ Sd S1 ∧ Ok mX12_trees 0 (ent 2 [zr 12 0, zi a]) [] S1 (fun r2 S2 => r2 = some (zl v) ∧ Inv (k + 1) S2))
def pr_sum (NN : Nat) (Inv : Nat → zS → Prop) : Prop := ∀ (k : Nat) (S : zS), 6 * k + 6 ≤ NN → Inv k S → Ok mX11_sum 0 (ent 1 [zr 11 0]) [] S (fun r S1 => ∃ v : Int32, r = some (zi v) ∧ Sd S1 ∧ Ok mX12_sum 0 (ent 1 [zr 12 0]) [] S1 (fun r2 S2 => r2 = some (zi v) ∧ Inv (k + 1) S2))
def pr_leaves (NN : Nat) (Inv : Nat → zS → Prop) : Prop := ∀ (k : Nat) (S : zS), 6 * k + 6 ≤ NN → Inv k S → Ok mX11_leaves 0 (ent 1 [zr 11 0]) [] S (fun r S1 => ∃ v : Int32, r = some (zi v) ∧ Sd S1 ∧ Ok mX12_leaves 0 (ent 1 [zr 12 0]) [] S1 (fun r2 S2 => r2 = some (zi v) ∧ Inv (k + 1) S2))
def pr_termAt (NN : Nat) (Inv : Nat → zS → Prop) : Prop := ∀ (k : Nat) (S : zS) (a b : Int32), 6 * k + 6 ≤ NN → Inv k S → Ok mX11_termAt 0 (ent 3 [zr 11 0, zi a, zi b]) [] S (fun r S1 => ∃ v : Int32, r = some (zi v) ∧ Sd S1 ∧ Ok mX12_termAt 0 (ent 4 [zr 12 0, zi a, zi b]) [] S1 (fun r2 S2 => r2 = some (zi v) ∧ Inv (k + 1) S2))
def pr_reduce (NN : Nat) (Inv : Nat → zS → Prop) : Prop := ∀ (k : Nat) (S : zS), 6 * k + 6 ≤ NN → Inv k S → Ok mX11_reduce 0 (ent 2 [zr 11 0]) [] S (fun r S1 => ∃ v : Int32, r = some (zi v) ∧ Sd S1 ∧ Ok mX12_reduce 0 (ent 3 [zr 12 0]) [] S1 (fun r2 S2 => r2 = some (zi v) ∧ Inv (k + 1) S2))
def pr_size (NN : Nat) (Inv : Nat → zS → Prop) : Prop := ∀ (k : Nat) (S : zS) (a : Int32), 6 * k + 6 ≤ NN → Inv k S → Ok mX11_size 0 (ent 3 [zr 11 0, zi a]) [] S (fun r S1 => ∃ v : Int32, r = some (zi v) ∧ Sd S1 ∧ Ok mX12_size 0 (ent 2 [zr 12 0, zi a]) [] S1 (fun r2 S2 => r2 = some (zi v) ∧ Inv (k + 1) S2))
def pr_normalAt (NN : Nat) (Inv : Nat → zS → Prop) : Prop := ∀ (k : Nat) (S : zS) (a b c : Int32), 6 * k + 6 ≤ NN → Inv k S → Ok mX11_normalAt 0 (ent 6 [zr 11 0, zi a, zi b, zi c]) [] S (fun r S1 => ∃ v : Int32, r = some (zi v) ∧ Sd S1 ∧ Ok mX12_normalAt 0 (ent 7 [zr 12 0, zi a, zi b, zi c]) [] S1 (fun r2 S2 => r2 = some (zi v) ∧ Inv (k + 1) S2))
def pr_bare (NN : Nat) (Inv : Nat → zS → Prop) : Prop := ∀ (k : Nat) (S : zS) (a : Int32), 6 * k + 6 ≤ NN → Inv k S → Ok mX11_bare 0 (ent 3 [zr 11 0, zi a]) [] S (fun r S1 => ∃ v : Int32, r = some (zi v) ∧ Sd S1 ∧ Ok mX12_bare 0 (ent 2 [zr 12 0, zi a]) [] S1 (fun r2 S2 => r2 = some (zi v) ∧ Inv (k + 1) S2))
def pr_closed (NN : Nat) (Inv : Nat → zS → Prop) : Prop := ∀ (k : Nat) (S : zS) (a : Int32), 6 * k + 6 ≤ NN → Inv k S → Ok mX11_closed 0 (ent 4 [zr 11 0, zi a]) [] S (fun r S1 => ∃ v : Int32, r = some (zi v) ∧ Sd S1 ∧ Ok mX12_closed 0 (ent 3 [zr 12 0, zi a]) [] S1 (fun r2 S2 => r2 = some (zi v) ∧ Inv (k + 1) S2))
def pr_plug (NN : Nat) (Inv : Nat → zS → Prop) : Prop := ∀ (k : Nat) (S : zS) (a : Int32), 6 * k + 6 ≤ NN → Inv k S → Ok mX11_plug 0 (ent 3 [zr 11 0, zi a]) [] S (fun r S1 => ∃ v : Int32, r = some (zi v) ∧ Sd S1 ∧ Ok mX12_plug 0 (ent 5 [zr 12 0, zi a]) [] S1 (fun r2 S2 => r2 = some (zi v) ∧ Inv (k + 1) S2))
def pr_times (NN : Nat) (Inv : Nat → zS → Prop) : Prop := ∀ (k : Nat) (S : zS) (a : Int32), 6 * k + 6 ≤ NN → Inv k S → Ok mX11_times 0 (ent 2 [zr 11 0, zi a]) [] S (fun r S1 => ∃ v : Int32, r = some (zi v) ∧ Sd S1 ∧ Ok mX12_times 0 (ent 2 [zr 12 0, zi a]) [] S1 (fun r2 S2 => r2 = some (zi v) ∧ Inv (k + 1) S2))
def pr_add (NN : Nat) (Inv : Nat → zS → Prop) : Prop := ∀ (k : Nat) (S : zS) (a b : Int32), 6 * k + 6 ≤ NN → Inv k S → Ok mX11_add 0 (ent 4 [zr 11 0, zi a, zi b]) [] S (fun r S1 => ∃ v : Int32, r = some (zi v) ∧ Sd S1 ∧ Ok mX12_add 0 (ent 3 [zr 12 0, zi a, zi b]) [] S1 (fun r2 S2 => r2 = some (zi v) ∧ Inv (k + 1) S2))
def pr_undo (NN : Nat) (Inv : Nat → zS → Prop) : Prop := ∀ (k : Nat) (S : zS), 6 * k + 6 ≤ NN → Inv k S → Ok mX11_undo 0 (ent 1 [zr 11 0]) [] S (fun r S1 => ∃ v : Int32, r = some (zi v) ∧ Sd S1 ∧ Ok mX12_undo 0 (ent 2 [zr 12 0]) [] S1 (fun r2 S2 => r2 = some (zi v) ∧ Inv (k + 1) S2))
def pr_dual (NN : Nat) (Inv : Nat → zS → Prop) : Prop := ∀ (k : Nat) (S : zS), 6 * k + 6 ≤ NN → Inv k S → Ok mX11_dual 0 (ent 3 [zr 11 0]) [] S (fun r S1 => ∃ v : Int32, r = some (zi v) ∧ Sd S1 ∧ Ok mX12_dual 0 (ent 2 [zr 12 0]) [] S1 (fun r2 S2 => r2 = some (zi v) ∧ Inv (k + 1) S2))
def pr_koszul (NN : Nat) (Inv : Nat → zS → Prop) : Prop := ∀ (k : Nat) (S : zS) (a : Int32), 6 * k + 6 ≤ NN → Inv k S → Ok mX11_koszul 0 (ent 7 [zr 11 0, zi a]) [] S (fun r S1 => ∃ v : Int32, r = some (zi v) ∧ Sd S1 ∧ Ok mX12_koszul 0 (ent 3 [zr 12 0, zi a]) [] S1 (fun r2 S2 => r2 = some (zi v) ∧ Inv (k + 1) S2))
def pr_layered (NN : Nat) (Inv : Nat → zS → Prop) : Prop := ∀ (k : Nat) (S : zS) (a b : Int32), 6 * k + 6 ≤ NN → Inv k S → Ok mX11_layered 0 (ent 5 [zr 11 0, zi a, zi b]) [] S (fun r S1 => ∃ v : Int64, r = some (zl v) ∧ Sd S1 ∧ Ok mX12_layered 0 (ent 6 [zr 12 0, zi a, zi b]) [] S1 (fun r2 S2 => r2 = some (zl v) ∧ Inv (k + 1) S2))
def pr_map (NN : Nat) (Inv : Nat → zS → Prop) : Prop := ∀ (k : Nat) (S : zS) (a : Int32), 6 * k + 6 ≤ NN → Inv k S → Ok mX11_map 0 (ent 5 [zr 11 0, zi a]) [] S (fun r S1 => ∃ v : Int32, r = some (zi v) ∧ Sd S1 ∧ Ok mX12_map 0 (ent 5 [zr 12 0, zi a]) [] S1 (fun r2 S2 => r2 = some (zi v) ∧ Inv (k + 1) S2))
def pr_broken (NN : Nat) (Inv : Nat → zS → Prop) : Prop := ∀ (k : Nat) (S : zS), 6 * k + 6 ≤ NN → Inv k S → Ok mX11_broken 0 (ent 1 [zr 11 0]) [] S (fun r S1 => ∃ v : Int32, r = some (zi v) ∧ Sd S1 ∧ Ok mX12_broken 0 (ent 1 [zr 12 0]) [] S1 (fun r2 S2 => r2 = some (zi v) ∧ Inv (k + 1) S2))
def pr_space (NN : Nat) (Inv : Nat → zS → Prop) : Prop := ∀ (k : Nat) (S : zS) (a : Int32), 6 * k + 6 ≤ NN → Inv k S → Ok mX11_space 0 (ent 2 [zr 11 0, zi a]) [] S (fun r S1 => ∃ v : Int32, r = some (zi v) ∧ Sd S1 ∧ Ok mX12_space 0 (ent 3 [zr 12 0, zi a]) [] S1 (fun r2 S2 => r2 = some (zi v) ∧ Inv (k + 1) S2))
def pr_table (NN : Nat) (Inv : Nat → zS → Prop) : Prop := ∀ (k : Nat) (S : zS) (a : Int32), 6 * k + 6 ≤ NN → Inv k S → Ok mX11_table 0 (ent 5 [zr 11 0, zi a]) [] S (fun r S1 => ∃ v : Int32, r = some (zi v) ∧ Sd S1 ∧ Ok mX12_table 0 (ent 3 [zr 12 0, zi a]) [] S1 (fun r2 S2 => r2 = some (zi v) ∧ Inv (k + 1) S2))
def pr_holds (NN : Nat) (Inv : Nat → zS → Prop) : Prop := ∀ (k : Nat) (S : zS) (a : Int32), 6 * k + 6 ≤ NN → Inv k S → Ok mX11_holds 0 (ent 3 [zr 11 0, zi a]) [] S (fun r S1 => ∃ v : Int32, r = some (zi v) ∧ Sd S1 ∧ Ok mX12_holds 0 (ent 7 [zr 12 0, zi a]) [] S1 (fun r2 S2 => r2 = some (zi v) ∧ Inv (k + 1) S2))
def pr_done (NN : Nat) (Inv : Nat → zS → Prop) : Prop := ∀ (k : Nat) (S : zS) (a : Int32), 6 * k + 6 ≤ NN → Inv k S → Ok mX11_done 0 (ent 4 [zr 11 0, zi a]) [] S (fun r S1 => ∃ v : Int32, r = some (zi v) ∧ Sd S1 ∧ Ok mX12_done 0 (ent 3 [zr 12 0, zi a]) [] S1 (fun r2 S2 => r2 = some (zi v) ∧ Inv (k + 1) S2))
def pr_drawn (NN : Nat) (Inv : Nat → zS → Prop) : Prop := ∀ (k : Nat) (S : zS) (a b : Int32), 6 * k + 6 ≤ NN → Inv k S → Ok mX11_drawn 0 (ent 6 [zr 11 0, zi a, zi b]) [] S (fun r S1 => ∃ v : Int32, r = some (zi v) ∧ Sd S1 ∧ Ok mX12_drawn 0 (ent 4 [zr 12 0, zi a, zi b]) [] S1 (fun r2 S2 => r2 = some (zi v) ∧ Inv (k + 1) S2))
def pr_image (NN : Nat) (Inv : Nat → zS → Prop) : Prop := ∀ (k : Nat) (S : zS) (a : Int32), 6 * k + 6 ≤ NN → Inv k S → Ok mX11_image 0 (ent 2 [zr 11 0, zi a]) [] S (fun r S1 => ∃ v : Int32, r = some (zi v) ∧ Sd S1 ∧ Ok mX12_image 0 (ent 3 [zr 12 0, zi a]) [] S1 (fun r2 S2 => r2 = some (zi v) ∧ Inv (k + 1) S2))
def pr_restore (NN : Nat) (Inv : Nat → zS → Prop) : Prop := ∀ (k : Nat) (S : zS) (a : Int32), 6 * k + 6 ≤ NN → Inv k S → Ok mX11_restore 0 (ent 2 [zr 11 0, zi a]) [] S (fun r S1 => ∃ v : Int32, r = some (zi v) ∧ Sd S1 ∧ Ok mX12_restore 0 (ent 3 [zr 12 0, zi a]) [] S1 (fun r2 S2 => r2 = some (zi v) ∧ Inv (k + 1) S2))
def pr_count (NN : Nat) (Inv : Nat → zS → Prop) : Prop := ∀ (k : Nat) (S : zS) (a : Int32), 6 * k + 6 ≤ NN → Inv k S → Ok mX11_count 0 (ent 2 [zr 11 0, zi a]) [] S (fun r S1 => ∃ v : Int32, r = some (zi v) ∧ Sd S1 ∧ Ok mX12_count 0 (ent 2 [zr 12 0, zi a]) [] S1 (fun r2 S2 => r2 = some (zi v) ∧ Inv (k + 1) S2))
def pr_term (NN : Nat) (Inv : Nat → zS → Prop) : Prop := ∀ (n : Nat) (f : Nat → Int32) (k : Nat) (S : zS) (a : Int32) (L : List (Option zV)) (Po : Option zV → zS → Prop), 6 * k + 6 ≤ NN → Inv k S → exl S L → (∀ (v : Int32) (S1 : zS), v = nI 0 ∨ v = nI 1 → Sd S1 → Ok mX12_term 0 (ent 2 [zr 12 0, zi a]) [] S1 (fun r2 S2 => ∃ b : Int32, r2 = some (zi b) ∧ Sd S2 ∧ Ok mX12_thrown 0 (ent 1 [zr 12 0]) [] S2 (fun r3 S3 => r3 = some (zi v) ∧ (v = nI 0 → gJ S3 5000 0 0 = b.toInt64) ∧ Inv (k + 1) S3)) → Ok (mL_law n f) 470 L [zi v] S1 Po) → Ok (mL_law n f) 467 L [zr 5000 0, zi a, zr 11 0] S Po
def pr_undone (NN : Nat) (Inv : Nat → zS → Prop) : Prop := ∀ (n : Nat) (f : Nat → Int32) (k : Nat) (S : zS) (a : Int32) (L : List (Option zV)) (Po : Option zV → zS → Prop), 6 * k + 6 ≤ NN → Inv k S → exl S L → (∀ (v : Int32) (S1 : zS), v = nI 0 ∨ v = nI 1 → Sd S1 → Ok mX12_undone 0 (ent 2 [zr 12 0, zi a]) [] S1 (fun r2 S2 => ∃ b : Int64, r2 = some (zl b) ∧ Sd S2 ∧ Ok mX12_thrown 0 (ent 1 [zr 12 0]) [] S2 (fun r3 S3 => r3 = some (zi v) ∧ (v = nI 0 → gJ S3 5000 0 0 = b) ∧ Inv (k + 1) S3)) → Ok (mL_law n f) 813 L [zi v] S1 Po) → Ok (mL_law n f) 810 L [zr 5000 0, zi a, zr 11 0] S Po
set_option maxRecDepth 100000 in
set_option maxHeartbeats 8000000 in
theorem law_loop {NN : Nat} {Inv : Nat → zS → Prop} (hNN : NN ≤ 3072) (hinv : ∀ k S, Inv k S → Sd S ∧ gE S 5000 0 = true ∧ gN S 5000 0 = 1 ∧ gC S ≤ 601024 ∧ gQ S ≤ 7293033) (h_feed : pr_feed NN Inv) (h_end : pr_end NN Inv) (h_world : pr_world NN Inv) (h_fault : pr_fault NN Inv) (h_act : pr_act NN Inv) (h_law : pr_law NN Inv) (h_take : pr_take NN Inv) (h_trees : pr_trees NN Inv) (h_sum : pr_sum NN Inv) (h_leaves : pr_leaves NN Inv) (h_termAt : pr_termAt NN Inv) (h_reduce : pr_reduce NN Inv) (h_size : pr_size NN Inv) (h_normalAt : pr_normalAt NN Inv) (h_bare : pr_bare NN Inv) (h_closed : pr_closed NN Inv) (h_plug : pr_plug NN Inv) (h_times : pr_times NN Inv) (h_add : pr_add NN Inv) (h_undo : pr_undo NN Inv) (h_dual : pr_dual NN Inv) (h_koszul : pr_koszul NN Inv) (h_layered : pr_layered NN Inv) (h_map : pr_map NN Inv) (h_broken : pr_broken NN Inv) (h_space : pr_space NN Inv) (h_table : pr_table NN Inv) (h_holds : pr_holds NN Inv) (h_done : pr_done NN Inv) (h_drawn : pr_drawn NN Inv) (h_image : pr_image NN Inv) (h_restore : pr_restore NN Inv) (h_count : pr_count NN Inv) (h_term : pr_term NN Inv) (h_undone : pr_undone NN Inv) (hstay : ∀ k S, Inv k S → Inv (k + 1) S) {n : Nat} {f : Nat → Int32} (hn : n ≤ NN) : ∀ (d k i : Nat) (S : zS), i = 6 * k → n < i + 6 + 6 * d → i ≤ n → Inv k S → Ok (mL_law n f) 23 [some (zr 77777 0), some (zr 11 0), some (zr 12 0), some (zr 5000 0), some (zi (nI i)), none, none, none] [] S (fun r S1 => r = some (zi (nI 1)) ∧ gC S1 ≤ 601024 ∧ gQ S1 ≤ 7293033) := by
  intro d
  induction d with
  | zero =>
    intro k i S hi hd hin hI
    refine r_iload (q := 25) dL_law_23 rfl rfl ?_
    refine r_aload_n (q := 26) dL_law_25 rfl rfl rfl ?_
    refine r_slen (q := 27) ⟨rfl, rfl⟩ dL_law_26 rfl ?_
    refine r_topi (y := nI n) rfl ?_
    refine r_bipush (q := 29) (nI 6) dL_law_27 rfl (by decide) ?_
    refine r_isub (q := 30) dL_law_29 rfl ?_
    refine r_icmp_gt (q := 33) (t := 1176) dL_law_30 (by decide) rfl (fun h30 => ?_) (fun h30 => ?_)
    · skip
      refine r_iconst (q := 1177) (nI 1) dL_law_1176 rfl (by decide) ?_
      exact r_zreturn (hth := law_hth) (Or.inr rfl) dL_law_1177 rfl ⟨rfl, (hinv k S hI).2.2.2.1, (hinv k S hI).2.2.2.2⟩
    · exact absurd ((law_gt (by omega) (by omega)).mpr (by omega)) h30
  | succ d ih =>
    intro k i S hi hd hin hI
    refine r_iload (q := 25) dL_law_23 rfl rfl ?_
    refine r_aload_n (q := 26) dL_law_25 rfl rfl rfl ?_
    refine r_slen (q := 27) ⟨rfl, rfl⟩ dL_law_26 rfl ?_
    refine r_topi (y := nI n) rfl ?_
    refine r_bipush (q := 29) (nI 6) dL_law_27 rfl (by decide) ?_
    refine r_isub (q := 30) dL_law_29 rfl ?_
    refine r_icmp_gt (q := 33) (t := 1176) dL_law_30 (by decide) rfl (fun h30 => ?_) (fun h30 => ?_)
    · skip
      refine r_iconst (q := 1177) (nI 1) dL_law_1176 rfl (by decide) ?_
      exact r_zreturn (hth := law_hth) (Or.inr rfl) dL_law_1177 rfl ⟨rfl, (hinv k S hI).2.2.2.1, (hinv k S hI).2.2.2.2⟩
    · skip
      have hlt : i + 6 ≤ n := by rcases Nat.lt_or_ge n (i + 6) with z | z; exact absurd ((law_gt (by omega) (by omega)).mpr z) h30; exact z
      have hs : Sd S := (hinv k S hI).1
      refine r_aload_n (q := 34) dL_law_33 rfl rfl rfl ?_
      refine r_iload (q := 36) dL_law_34 rfl rfl ?_
      refine r_sldN (q := 37) ⟨rfl, rfl⟩ dL_law_36 rfl (show i < n by omega) (show n < 2147483648 by omega) ?_
      refine r_topi (y := f i) rfl ?_
      refine r_bipush (q := 39) (nI 63) dL_law_37 rfl (by decide) ?_
      refine r_iand (q := 40) dL_law_39 rfl ?_
      obtain ⟨c, hc, ec⟩ : ∃ c, c < 64 ∧ f i &&& nI 63 = nI c := pk_andE (f i) (m := nI 63) 6 (by decide)
      refine r_topi ec ?_
      match c, hc with
      | 0, _ =>
        refine r_tabIn (q := 196) (off := 156) dL_law_40 (by decide) (by decide) (by decide) (by decide) ?_
        refine r_aload_n (q := 197) dL_law_196 rfl rfl rfl ?_
        refine r_aload_n (q := 198) dL_law_197 rfl rfl rfl ?_
        refine r_iload (q := 200) dL_law_198 rfl rfl ?_
        refine r_iconst (q := 201) (nI 1) dL_law_200 rfl (by decide) ?_
        refine r_iaddN (q := 202) dL_law_201 rfl ?_
        refine r_sldN (q := 203) ⟨rfl, rfl⟩ dL_law_202 rfl (show i + 1 < n by omega) (show n < 2147483648 by omega) ?_
        refine r_topi (y := f (i + 1)) rfl ?_
        refine r_aload_n (q := 204) dL_law_203 rfl rfl rfl ?_
        refine r_iload (q := 206) dL_law_204 rfl rfl ?_
        refine r_iconst (q := 207) (nI 2) dL_law_206 rfl (by decide) ?_
        refine r_iaddN (q := 208) dL_law_207 rfl ?_
        refine r_sldN (q := 209) ⟨rfl, rfl⟩ dL_law_208 rfl (show i + 2 < n by omega) (show n < 2147483648 by omega) ?_
        refine r_topi (y := f (i + 2)) rfl ?_
        refine r_aload_n (q := 210) dL_law_209 rfl rfl rfl ?_
        refine r_iload (q := 212) dL_law_210 rfl rfl ?_
        refine r_iconst (q := 213) (nI 3) dL_law_212 rfl (by decide) ?_
        refine r_iaddN (q := 214) dL_law_213 rfl ?_
        refine r_sldN (q := 215) ⟨rfl, rfl⟩ dL_law_214 rfl (show i + 3 < n by omega) (show n < 2147483648 by omega) ?_
        refine r_topi (y := f (i + 3)) rfl ?_
        refine r_aload_n (q := 216) dL_law_215 rfl rfl rfl ?_
        refine r_iload (q := 218) dL_law_216 rfl rfl ?_
        refine r_iconst (q := 219) (nI 4) dL_law_218 rfl (by decide) ?_
        refine r_iaddN (q := 220) dL_law_219 rfl ?_
        refine r_sldN (q := 221) ⟨rfl, rfl⟩ dL_law_220 rfl (show i + 4 < n by omega) (show n < 2147483648 by omega) ?_
        refine r_topi (y := f (i + 4)) rfl ?_
        refine r_aload_n (q := 222) dL_law_221 rfl rfl rfl ?_
        refine r_iload (q := 224) dL_law_222 rfl rfl ?_
        refine r_iconst (q := 225) (nI 5) dL_law_224 rfl (by decide) ?_
        refine r_iaddN (q := 226) dL_law_225 rfl ?_
        refine r_sldN (q := 227) ⟨rfl, rfl⟩ dL_law_226 rfl (show i + 5 < n by omega) (show n < 2147483648 by omega) ?_
        refine r_topi (y := f (i + 5)) rfl ?_
        refine r_callV (Mc := mX11_feed) (q := 230) (As := [zi (f (i + 1)), zi (f (i + 2)), zi (f (i + 3)), zi (f (i + 4)), zi (f (i + 5))]) (st := []) ck11 dL_law_227 rfl rfl mkX11_feed wt483 wt484 wt485 rfl (Nat.le_of_ble_eq_true rfl) (Nat.le_of_ble_eq_true rfl) (Nat.le_of_ble_eq_true rfl) (Nat.le_of_ble_eq_true rfl) (Nat.le_of_ble_eq_true rfl) (Or.inl rfl) (hs.e (by decide)) (h_feed k S (f (i + 1)) (f (i + 2)) (f (i + 3)) (f (i + 4)) (f (i + 5)) (by omega) hI) (fun r227 S227 hp227 => ?_)
        obtain ⟨v227, rfl, hs227, hk227⟩ := hp227
        show Ok _ _ _ [zi v227] _ _
        refine r_aload_n (q := 231) dL_law_230 rfl rfl rfl ?_
        refine r_aload_n (q := 232) dL_law_231 rfl rfl rfl ?_
        refine r_iload (q := 234) dL_law_232 rfl rfl ?_
        refine r_iconst (q := 235) (nI 1) dL_law_234 rfl (by decide) ?_
        refine r_iaddN (q := 236) dL_law_235 rfl ?_
        refine r_sldN (q := 237) ⟨rfl, rfl⟩ dL_law_236 rfl (show i + 1 < n by omega) (show n < 2147483648 by omega) ?_
        refine r_topi (y := f (i + 1)) rfl ?_
        refine r_aload_n (q := 238) dL_law_237 rfl rfl rfl ?_
        refine r_iload (q := 240) dL_law_238 rfl rfl ?_
        refine r_iconst (q := 241) (nI 2) dL_law_240 rfl (by decide) ?_
        refine r_iaddN (q := 242) dL_law_241 rfl ?_
        refine r_sldN (q := 243) ⟨rfl, rfl⟩ dL_law_242 rfl (show i + 2 < n by omega) (show n < 2147483648 by omega) ?_
        refine r_topi (y := f (i + 2)) rfl ?_
        refine r_aload_n (q := 244) dL_law_243 rfl rfl rfl ?_
        refine r_iload (q := 246) dL_law_244 rfl rfl ?_
        refine r_iconst (q := 247) (nI 3) dL_law_246 rfl (by decide) ?_
        refine r_iaddN (q := 248) dL_law_247 rfl ?_
        refine r_sldN (q := 249) ⟨rfl, rfl⟩ dL_law_248 rfl (show i + 3 < n by omega) (show n < 2147483648 by omega) ?_
        refine r_topi (y := f (i + 3)) rfl ?_
        refine r_aload_n (q := 250) dL_law_249 rfl rfl rfl ?_
        refine r_iload (q := 252) dL_law_250 rfl rfl ?_
        refine r_iconst (q := 253) (nI 4) dL_law_252 rfl (by decide) ?_
        refine r_iaddN (q := 254) dL_law_253 rfl ?_
        refine r_sldN (q := 255) ⟨rfl, rfl⟩ dL_law_254 rfl (show i + 4 < n by omega) (show n < 2147483648 by omega) ?_
        refine r_topi (y := f (i + 4)) rfl ?_
        refine r_aload_n (q := 256) dL_law_255 rfl rfl rfl ?_
        refine r_iload (q := 258) dL_law_256 rfl rfl ?_
        refine r_iconst (q := 259) (nI 5) dL_law_258 rfl (by decide) ?_
        refine r_iaddN (q := 260) dL_law_259 rfl ?_
        refine r_sldN (q := 261) ⟨rfl, rfl⟩ dL_law_260 rfl (show i + 5 < n by omega) (show n < 2147483648 by omega) ?_
        refine r_topi (y := f (i + 5)) rfl ?_
        refine r_callV (Mc := mX12_feed) (q := 264) (As := [zi (f (i + 1)), zi (f (i + 2)), zi (f (i + 3)), zi (f (i + 4)), zi (f (i + 5))]) (st := [zi v227]) ck12 dL_law_261 rfl rfl mkX12_feed wt1251 wt1252 wt1253 rfl (Nat.le_of_ble_eq_true rfl) (Nat.le_of_ble_eq_true rfl) (Nat.le_of_ble_eq_true rfl) (Nat.le_of_ble_eq_true rfl) (Nat.le_of_ble_eq_true rfl) (Or.inl rfl) (hs227.e (by decide)) hk227 (fun r261 S261 hp261 => ?_)
        obtain ⟨rfl, hi261⟩ := hp261
        show Ok _ _ _ [zi v227, zi v227] _ _
        refine r_icmp_eq (q := 267) (t := 1170) dL_law_264 (by decide) rfl (fun h264 => ?_) (fun h264 => absurd h264 (fun z => z rfl))
        refine r_mask [true, true, true, true, true, false, false, false] rfl ?_
        refine r_iincN (q := 1173) (L' := [some (zr 77777 0), some (zr 11 0), some (zr 12 0), some (zr 5000 0), some (zi (nI (i + 6))), none, none, none]) 6 rfl dL_law_1170 rfl rfl (Nat.le_of_ble_eq_true rfl) rfl ?_
        refine r_goto (q := 23) dL_law_1173 (by decide) ?_
        exact ih (k + 1) (i + 6) _ (by omega) (by omega) (by omega) hi261
      | 1, _ =>
        refine r_tabIn (q := 269) (off := 229) dL_law_40 (by decide) (by decide) (by decide) (by decide) ?_
        refine r_aload_n (q := 270) dL_law_269 rfl rfl rfl ?_
        refine r_aload_n (q := 271) dL_law_270 rfl rfl rfl ?_
        refine r_iload (q := 273) dL_law_271 rfl rfl ?_
        refine r_iconst (q := 274) (nI 1) dL_law_273 rfl (by decide) ?_
        refine r_iaddN (q := 275) dL_law_274 rfl ?_
        refine r_sldN (q := 276) ⟨rfl, rfl⟩ dL_law_275 rfl (show i + 1 < n by omega) (show n < 2147483648 by omega) ?_
        refine r_topi (y := f (i + 1)) rfl ?_
        refine r_callV (Mc := mX11_end) (q := 279) (As := [zi (f (i + 1))]) (st := []) ck11 dL_law_276 rfl rfl mkX11_end wt491 wt492 wt493 rfl (Nat.le_of_ble_eq_true rfl) (Nat.le_of_ble_eq_true rfl) (Nat.le_of_ble_eq_true rfl) (Nat.le_of_ble_eq_true rfl) (Nat.le_of_ble_eq_true rfl) (Or.inl rfl) (hs.e (by decide)) (h_end k S (f (i + 1)) (by omega) hI) (fun r276 S276 hp276 => ?_)
        obtain ⟨v276, rfl, hs276, hk276⟩ := hp276
        show Ok _ _ _ [zi v276] _ _
        refine r_aload_n (q := 280) dL_law_279 rfl rfl rfl ?_
        refine r_aload_n (q := 281) dL_law_280 rfl rfl rfl ?_
        refine r_iload (q := 283) dL_law_281 rfl rfl ?_
        refine r_iconst (q := 284) (nI 1) dL_law_283 rfl (by decide) ?_
        refine r_iaddN (q := 285) dL_law_284 rfl ?_
        refine r_sldN (q := 286) ⟨rfl, rfl⟩ dL_law_285 rfl (show i + 1 < n by omega) (show n < 2147483648 by omega) ?_
        refine r_topi (y := f (i + 1)) rfl ?_
        refine r_callV (Mc := mX12_end) (q := 289) (As := [zi (f (i + 1))]) (st := [zi v276]) ck12 dL_law_286 rfl rfl mkX12_end wt1260 wt1261 wt1262 rfl (Nat.le_of_ble_eq_true rfl) (Nat.le_of_ble_eq_true rfl) (Nat.le_of_ble_eq_true rfl) (Nat.le_of_ble_eq_true rfl) (Nat.le_of_ble_eq_true rfl) (Or.inl rfl) (hs276.e (by decide)) hk276 (fun r286 S286 hp286 => ?_)
        obtain ⟨rfl, hi286⟩ := hp286
        show Ok _ _ _ [zi v276, zi v276] _ _
        refine r_icmp_eq (q := 292) (t := 1170) dL_law_289 (by decide) rfl (fun h289 => ?_) (fun h289 => absurd h289 (fun z => z rfl))
        refine r_mask [true, true, true, true, true, false, false, false] rfl ?_
        refine r_iincN (q := 1173) (L' := [some (zr 77777 0), some (zr 11 0), some (zr 12 0), some (zr 5000 0), some (zi (nI (i + 6))), none, none, none]) 6 rfl dL_law_1170 rfl rfl (Nat.le_of_ble_eq_true rfl) rfl ?_
        refine r_goto (q := 23) dL_law_1173 (by decide) ?_
        exact ih (k + 1) (i + 6) _ (by omega) (by omega) (by omega) hi286
      | 2, _ =>
        refine r_tabIn (q := 294) (off := 254) dL_law_40 (by decide) (by decide) (by decide) (by decide) ?_
        refine r_aload_n (q := 295) dL_law_294 rfl rfl rfl ?_
        refine r_callV (Mc := mX11_world) (q := 298) (As := []) (st := []) ck11 dL_law_295 rfl rfl mkX11_world wt495 wt496 wt497 rfl (Nat.le_of_ble_eq_true rfl) (Nat.le_of_ble_eq_true rfl) (Nat.le_of_ble_eq_true rfl) (Nat.le_of_ble_eq_true rfl) (Nat.le_of_ble_eq_true rfl) (Or.inr ⟨Nat.le_of_ble_eq_true rfl, rfl, rfl⟩) (hs.e (by decide)) (h_world k S  (by omega) hI) (fun r295 S295 hp295 => ?_)
        obtain ⟨v295, rfl, hs295, hk295⟩ := hp295
        show Ok _ _ _ [zi v295] _ _
        refine r_aload_n (q := 299) dL_law_298 rfl rfl rfl ?_
        refine r_callV (Mc := mX12_world) (q := 302) (As := []) (st := [zi v295]) ck12 dL_law_299 rfl rfl mkX12_world wt1561 wt1562 wt1563 rfl (Nat.le_of_ble_eq_true rfl) (Nat.le_of_ble_eq_true rfl) (Nat.le_of_ble_eq_true rfl) (Nat.le_of_ble_eq_true rfl) (Nat.le_of_ble_eq_true rfl) (Or.inl rfl) (hs295.e (by decide)) hk295 (fun r299 S299 hp299 => ?_)
        obtain ⟨rfl, hi299⟩ := hp299
        show Ok _ _ _ [zi v295, zi v295] _ _
        refine r_icmp_eq (q := 305) (t := 1170) dL_law_302 (by decide) rfl (fun h302 => ?_) (fun h302 => absurd h302 (fun z => z rfl))
        refine r_mask [true, true, true, true, true, false, false, false] rfl ?_
        refine r_iincN (q := 1173) (L' := [some (zr 77777 0), some (zr 11 0), some (zr 12 0), some (zr 5000 0), some (zi (nI (i + 6))), none, none, none]) 6 rfl dL_law_1170 rfl rfl (Nat.le_of_ble_eq_true rfl) rfl ?_
        refine r_goto (q := 23) dL_law_1173 (by decide) ?_
        exact ih (k + 1) (i + 6) _ (by omega) (by omega) (by omega) hi299
      | 3, _ =>
        refine r_tabIn (q := 307) (off := 267) dL_law_40 (by decide) (by decide) (by decide) (by decide) ?_
        refine r_aload_n (q := 308) dL_law_307 rfl rfl rfl ?_
        refine r_callV (Mc := mX11_fault) (q := 311) (As := []) (st := []) ck11 dL_law_308 rfl rfl mkX11_fault wt670 wt671 wt672 rfl (Nat.le_of_ble_eq_true rfl) (Nat.le_of_ble_eq_true rfl) (Nat.le_of_ble_eq_true rfl) (Nat.le_of_ble_eq_true rfl) (Nat.le_of_ble_eq_true rfl) (Or.inl rfl) (hs.e (by decide)) (h_fault k S  (by omega) hI) (fun r308 S308 hp308 => ?_)
        obtain ⟨v308, rfl, hs308, hk308⟩ := hp308
        show Ok _ _ _ [zi v308] _ _
        refine r_aload_n (q := 312) dL_law_311 rfl rfl rfl ?_
        refine r_callV (Mc := mX12_fault) (q := 315) (As := []) (st := [zi v308]) ck12 dL_law_312 rfl rfl mkX12_fault wt1661 wt1662 wt1663 rfl (Nat.le_of_ble_eq_true rfl) (Nat.le_of_ble_eq_true rfl) (Nat.le_of_ble_eq_true rfl) (Nat.le_of_ble_eq_true rfl) (Nat.le_of_ble_eq_true rfl) (Or.inl rfl) (hs308.e (by decide)) hk308 (fun r312 S312 hp312 => ?_)
        obtain ⟨rfl, hi312⟩ := hp312
        show Ok _ _ _ [zi v308, zi v308] _ _
        refine r_icmp_eq (q := 318) (t := 1170) dL_law_315 (by decide) rfl (fun h315 => ?_) (fun h315 => absurd h315 (fun z => z rfl))
        refine r_mask [true, true, true, true, true, false, false, false] rfl ?_
        refine r_iincN (q := 1173) (L' := [some (zr 77777 0), some (zr 11 0), some (zr 12 0), some (zr 5000 0), some (zi (nI (i + 6))), none, none, none]) 6 rfl dL_law_1170 rfl rfl (Nat.le_of_ble_eq_true rfl) rfl ?_
        refine r_goto (q := 23) dL_law_1173 (by decide) ?_
        exact ih (k + 1) (i + 6) _ (by omega) (by omega) (by omega) hi312
      | 4, _ =>
        refine r_tabIn (q := 320) (off := 280) dL_law_40 (by decide) (by decide) (by decide) (by decide) ?_
        refine r_aload_n (q := 321) dL_law_320 rfl rfl rfl ?_
        refine r_aload_n (q := 322) dL_law_321 rfl rfl rfl ?_
        refine r_iload (q := 324) dL_law_322 rfl rfl ?_
        refine r_iconst (q := 325) (nI 1) dL_law_324 rfl (by decide) ?_
        refine r_iaddN (q := 326) dL_law_325 rfl ?_
        refine r_sldN (q := 327) ⟨rfl, rfl⟩ dL_law_326 rfl (show i + 1 < n by omega) (show n < 2147483648 by omega) ?_
        refine r_topi (y := f (i + 1)) rfl ?_
        refine r_callV (Mc := mX11_act) (q := 330) (As := [zi (f (i + 1))]) (st := []) ck11 dL_law_327 rfl rfl mkX11_act wt674 wt675 wt676 rfl (Nat.le_of_ble_eq_true rfl) (Nat.le_of_ble_eq_true rfl) (Nat.le_of_ble_eq_true rfl) (Nat.le_of_ble_eq_true rfl) (Nat.le_of_ble_eq_true rfl) (Or.inl rfl) (hs.e (by decide)) (h_act k S (f (i + 1)) (by omega) hI) (fun r327 S327 hp327 => ?_)
        obtain ⟨v327, rfl, hs327, hk327⟩ := hp327
        show Ok _ _ _ [zi v327] _ _
        refine r_aload_n (q := 331) dL_law_330 rfl rfl rfl ?_
        refine r_aload_n (q := 332) dL_law_331 rfl rfl rfl ?_
        refine r_iload (q := 334) dL_law_332 rfl rfl ?_
        refine r_iconst (q := 335) (nI 1) dL_law_334 rfl (by decide) ?_
        refine r_iaddN (q := 336) dL_law_335 rfl ?_
        refine r_sldN (q := 337) ⟨rfl, rfl⟩ dL_law_336 rfl (show i + 1 < n by omega) (show n < 2147483648 by omega) ?_
        refine r_topi (y := f (i + 1)) rfl ?_
        refine r_callV (Mc := mX12_act) (q := 340) (As := [zi (f (i + 1))]) (st := [zi v327]) ck12 dL_law_337 rfl rfl mkX12_act wt1665 wt1666 wt1667 rfl (Nat.le_of_ble_eq_true rfl) (Nat.le_of_ble_eq_true rfl) (Nat.le_of_ble_eq_true rfl) (Nat.le_of_ble_eq_true rfl) (Nat.le_of_ble_eq_true rfl) (Or.inl rfl) (hs327.e (by decide)) hk327 (fun r337 S337 hp337 => ?_)
        obtain ⟨rfl, hi337⟩ := hp337
        show Ok _ _ _ [zi v327, zi v327] _ _
        refine r_icmp_eq (q := 343) (t := 1170) dL_law_340 (by decide) rfl (fun h340 => ?_) (fun h340 => absurd h340 (fun z => z rfl))
        refine r_mask [true, true, true, true, true, false, false, false] rfl ?_
        refine r_iincN (q := 1173) (L' := [some (zr 77777 0), some (zr 11 0), some (zr 12 0), some (zr 5000 0), some (zi (nI (i + 6))), none, none, none]) 6 rfl dL_law_1170 rfl rfl (Nat.le_of_ble_eq_true rfl) rfl ?_
        refine r_goto (q := 23) dL_law_1173 (by decide) ?_
        exact ih (k + 1) (i + 6) _ (by omega) (by omega) (by omega) hi337
      | 5, _ =>
        refine r_tabIn (q := 345) (off := 305) dL_law_40 (by decide) (by decide) (by decide) (by decide) ?_
        refine r_aload_n (q := 346) dL_law_345 rfl rfl rfl ?_
        refine r_aload_n (q := 347) dL_law_346 rfl rfl rfl ?_
        refine r_iload (q := 349) dL_law_347 rfl rfl ?_
        refine r_iconst (q := 350) (nI 1) dL_law_349 rfl (by decide) ?_
        refine r_iaddN (q := 351) dL_law_350 rfl ?_
        refine r_sldN (q := 352) ⟨rfl, rfl⟩ dL_law_351 rfl (show i + 1 < n by omega) (show n < 2147483648 by omega) ?_
        refine r_topi (y := f (i + 1)) rfl ?_
        refine r_aload_n (q := 353) dL_law_352 rfl rfl rfl ?_
        refine r_iload (q := 355) dL_law_353 rfl rfl ?_
        refine r_iconst (q := 356) (nI 2) dL_law_355 rfl (by decide) ?_
        refine r_iaddN (q := 357) dL_law_356 rfl ?_
        refine r_sldN (q := 358) ⟨rfl, rfl⟩ dL_law_357 rfl (show i + 2 < n by omega) (show n < 2147483648 by omega) ?_
        refine r_topi (y := f (i + 2)) rfl ?_
        refine r_callV (Mc := mX11_law) (q := 361) (As := [zi (f (i + 1)), zi (f (i + 2))]) (st := []) ck11 dL_law_358 rfl rfl mkX11_law wt686 wt687 wt688 rfl (Nat.le_of_ble_eq_true rfl) (Nat.le_of_ble_eq_true rfl) (Nat.le_of_ble_eq_true rfl) (Nat.le_of_ble_eq_true rfl) (Nat.le_of_ble_eq_true rfl) (Or.inl rfl) (hs.e (by decide)) (h_law k S (f (i + 1)) (f (i + 2)) (by omega) hI) (fun r358 S358 hp358 => ?_)
        obtain ⟨v358, rfl, hs358, hk358⟩ := hp358
        show Ok _ _ _ [zi v358] _ _
        refine r_aload_n (q := 362) dL_law_361 rfl rfl rfl ?_
        refine r_aload_n (q := 363) dL_law_362 rfl rfl rfl ?_
        refine r_iload (q := 365) dL_law_363 rfl rfl ?_
        refine r_iconst (q := 366) (nI 1) dL_law_365 rfl (by decide) ?_
        refine r_iaddN (q := 367) dL_law_366 rfl ?_
        refine r_sldN (q := 368) ⟨rfl, rfl⟩ dL_law_367 rfl (show i + 1 < n by omega) (show n < 2147483648 by omega) ?_
        refine r_topi (y := f (i + 1)) rfl ?_
        refine r_aload_n (q := 369) dL_law_368 rfl rfl rfl ?_
        refine r_iload (q := 371) dL_law_369 rfl rfl ?_
        refine r_iconst (q := 372) (nI 2) dL_law_371 rfl (by decide) ?_
        refine r_iaddN (q := 373) dL_law_372 rfl ?_
        refine r_sldN (q := 374) ⟨rfl, rfl⟩ dL_law_373 rfl (show i + 2 < n by omega) (show n < 2147483648 by omega) ?_
        refine r_topi (y := f (i + 2)) rfl ?_
        refine r_callV (Mc := mX12_law) (q := 377) (As := [zi (f (i + 1)), zi (f (i + 2))]) (st := [zi v358]) ck12 dL_law_374 rfl rfl mkX12_law wt1673 wt1674 wt1675 rfl (Nat.le_of_ble_eq_true rfl) (Nat.le_of_ble_eq_true rfl) (Nat.le_of_ble_eq_true rfl) (Nat.le_of_ble_eq_true rfl) (Nat.le_of_ble_eq_true rfl) (Or.inl rfl) (hs358.e (by decide)) hk358 (fun r374 S374 hp374 => ?_)
        obtain ⟨rfl, hi374⟩ := hp374
        show Ok _ _ _ [zi v358, zi v358] _ _
        refine r_icmp_eq (q := 380) (t := 1170) dL_law_377 (by decide) rfl (fun h377 => ?_) (fun h377 => absurd h377 (fun z => z rfl))
        refine r_mask [true, true, true, true, true, false, false, false] rfl ?_
        refine r_iincN (q := 1173) (L' := [some (zr 77777 0), some (zr 11 0), some (zr 12 0), some (zr 5000 0), some (zi (nI (i + 6))), none, none, none]) 6 rfl dL_law_1170 rfl rfl (Nat.le_of_ble_eq_true rfl) rfl ?_
        refine r_goto (q := 23) dL_law_1173 (by decide) ?_
        exact ih (k + 1) (i + 6) _ (by omega) (by omega) (by omega) hi374
      | 6, _ =>
        refine r_tabIn (q := 382) (off := 342) dL_law_40 (by decide) (by decide) (by decide) (by decide) ?_
        refine r_aload_n (q := 383) dL_law_382 rfl rfl rfl ?_
        refine r_aload_n (q := 384) dL_law_383 rfl rfl rfl ?_
        refine r_iload (q := 386) dL_law_384 rfl rfl ?_
        refine r_iconst (q := 387) (nI 1) dL_law_386 rfl (by decide) ?_
        refine r_iaddN (q := 388) dL_law_387 rfl ?_
        refine r_sldN (q := 389) ⟨rfl, rfl⟩ dL_law_388 rfl (show i + 1 < n by omega) (show n < 2147483648 by omega) ?_
        refine r_topi (y := f (i + 1)) rfl ?_
        refine r_callV (Mc := mX11_take) (q := 392) (As := [zi (f (i + 1))]) (st := []) ck11 dL_law_389 rfl rfl mkX11_take wt694 wt695 wt696 rfl (Nat.le_of_ble_eq_true rfl) (Nat.le_of_ble_eq_true rfl) (Nat.le_of_ble_eq_true rfl) (Nat.le_of_ble_eq_true rfl) (Nat.le_of_ble_eq_true rfl) (Or.inr ⟨Nat.le_of_ble_eq_true rfl, rfl, rfl⟩) (hs.e (by decide)) (h_take k S (f (i + 1)) (by omega) hI) (fun r389 S389 hp389 => ?_)
        obtain ⟨v389, rfl, hs389, hk389⟩ := hp389
        show Ok _ _ _ [zi v389] _ _
        refine r_aload_n (q := 393) dL_law_392 rfl rfl rfl ?_
        refine r_aload_n (q := 394) dL_law_393 rfl rfl rfl ?_
        refine r_iload (q := 396) dL_law_394 rfl rfl ?_
        refine r_iconst (q := 397) (nI 1) dL_law_396 rfl (by decide) ?_
        refine r_iaddN (q := 398) dL_law_397 rfl ?_
        refine r_sldN (q := 399) ⟨rfl, rfl⟩ dL_law_398 rfl (show i + 1 < n by omega) (show n < 2147483648 by omega) ?_
        refine r_topi (y := f (i + 1)) rfl ?_
        refine r_callV (Mc := mX12_take) (q := 402) (As := [zi (f (i + 1))]) (st := [zi v389]) ck12 dL_law_399 rfl rfl mkX12_take wt1702 wt1703 wt1704 rfl (Nat.le_of_ble_eq_true rfl) (Nat.le_of_ble_eq_true rfl) (Nat.le_of_ble_eq_true rfl) (Nat.le_of_ble_eq_true rfl) (Nat.le_of_ble_eq_true rfl) (Or.inl rfl) (hs389.e (by decide)) hk389 (fun r399 S399 hp399 => ?_)
        obtain ⟨rfl, hi399⟩ := hp399
        show Ok _ _ _ [zi v389, zi v389] _ _
        refine r_icmp_eq (q := 405) (t := 1170) dL_law_402 (by decide) rfl (fun h402 => ?_) (fun h402 => absurd h402 (fun z => z rfl))
        refine r_mask [true, true, true, true, true, false, false, false] rfl ?_
        refine r_iincN (q := 1173) (L' := [some (zr 77777 0), some (zr 11 0), some (zr 12 0), some (zr 5000 0), some (zi (nI (i + 6))), none, none, none]) 6 rfl dL_law_1170 rfl rfl (Nat.le_of_ble_eq_true rfl) rfl ?_
        refine r_goto (q := 23) dL_law_1173 (by decide) ?_
        exact ih (k + 1) (i + 6) _ (by omega) (by omega) (by omega) hi399
      | 7, _ =>
        refine r_tabIn (q := 407) (off := 367) dL_law_40 (by decide) (by decide) (by decide) (by decide) ?_
        refine r_aload_n (q := 408) dL_law_407 rfl rfl rfl ?_
        refine r_aload_n (q := 409) dL_law_408 rfl rfl rfl ?_
        refine r_iload (q := 411) dL_law_409 rfl rfl ?_
        refine r_iconst (q := 412) (nI 1) dL_law_411 rfl (by decide) ?_
        refine r_iaddN (q := 413) dL_law_412 rfl ?_
        refine r_sldN (q := 414) ⟨rfl, rfl⟩ dL_law_413 rfl (show i + 1 < n by omega) (show n < 2147483648 by omega) ?_
        refine r_topi (y := f (i + 1)) rfl ?_
        refine r_callV (Mc := mX11_trees) (q := 417) (As := [zi (f (i + 1))]) (st := []) ck11 dL_law_414 rfl rfl mkX11_trees wt712 wt713 wt714 rfl (Nat.le_of_ble_eq_true rfl) (Nat.le_of_ble_eq_true rfl) (Nat.le_of_ble_eq_true rfl) (Nat.le_of_ble_eq_true rfl) (Nat.le_of_ble_eq_true rfl) (Or.inl rfl) (hs.e (by decide)) (h_trees k S (f (i + 1)) (by omega) hI) (fun r414 S414 hp414 => ?_)
        obtain ⟨v414, rfl, hs414, hk414⟩ := hp414
        show Ok _ _ _ [zl v414] _ _
        refine r_aload_n (q := 418) dL_law_417 rfl rfl rfl ?_
        refine r_aload_n (q := 419) dL_law_418 rfl rfl rfl ?_
        refine r_iload (q := 421) dL_law_419 rfl rfl ?_
        refine r_iconst (q := 422) (nI 1) dL_law_421 rfl (by decide) ?_
        refine r_iaddN (q := 423) dL_law_422 rfl ?_
        refine r_sldN (q := 424) ⟨rfl, rfl⟩ dL_law_423 rfl (show i + 1 < n by omega) (show n < 2147483648 by omega) ?_
        refine r_topi (y := f (i + 1)) rfl ?_
        refine r_callV (Mc := mX12_trees) (q := 427) (As := [zi (f (i + 1))]) (st := [zl v414]) ck12 dL_law_424 rfl rfl mkX12_trees wt1681 wt1682 wt1683 rfl (Nat.le_of_ble_eq_true rfl) (Nat.le_of_ble_eq_true rfl) (Nat.le_of_ble_eq_true rfl) (Nat.le_of_ble_eq_true rfl) (Nat.le_of_ble_eq_true rfl) (Or.inl rfl) (hs414.e (by decide)) hk414 (fun r424 S424 hp424 => ?_)
        obtain ⟨rfl, hi424⟩ := hp424
        show Ok _ _ _ [zl v414, zl v414] _ _
        refine r_lcmp (q := 428) dL_law_427 rfl ?_
        refine r_topi (lg_same _) ?_
        refine r_if_eqN (q := 431) (t := 1170) (by omega) dL_law_428 (by decide) rfl (fun h428 => ?_) (fun h428 => absurd h428 (by omega))
        refine r_mask [true, true, true, true, true, false, false, false] rfl ?_
        refine r_iincN (q := 1173) (L' := [some (zr 77777 0), some (zr 11 0), some (zr 12 0), some (zr 5000 0), some (zi (nI (i + 6))), none, none, none]) 6 rfl dL_law_1170 rfl rfl (Nat.le_of_ble_eq_true rfl) rfl ?_
        refine r_goto (q := 23) dL_law_1173 (by decide) ?_
        exact ih (k + 1) (i + 6) _ (by omega) (by omega) (by omega) hi424
      | 8, _ =>
        refine r_tabIn (q := 433) (off := 393) dL_law_40 (by decide) (by decide) (by decide) (by decide) ?_
        refine r_aload_n (q := 434) dL_law_433 rfl rfl rfl ?_
        refine r_callV (Mc := mX11_sum) (q := 437) (As := []) (st := []) ck11 dL_law_434 rfl rfl mkX11_sum wt717 wt718 wt719 rfl (Nat.le_of_ble_eq_true rfl) (Nat.le_of_ble_eq_true rfl) (Nat.le_of_ble_eq_true rfl) (Nat.le_of_ble_eq_true rfl) (Nat.le_of_ble_eq_true rfl) (Or.inr ⟨Nat.le_of_ble_eq_true rfl, rfl, rfl⟩) (hs.e (by decide)) (h_sum k S  (by omega) hI) (fun r434 S434 hp434 => ?_)
        obtain ⟨v434, rfl, hs434, hk434⟩ := hp434
        show Ok _ _ _ [zi v434] _ _
        refine r_aload_n (q := 438) dL_law_437 rfl rfl rfl ?_
        refine r_callV (Mc := mX12_sum) (q := 441) (As := []) (st := [zi v434]) ck12 dL_law_438 rfl rfl mkX12_sum wt1718 wt1719 wt1720 rfl (Nat.le_of_ble_eq_true rfl) (Nat.le_of_ble_eq_true rfl) (Nat.le_of_ble_eq_true rfl) (Nat.le_of_ble_eq_true rfl) (Nat.le_of_ble_eq_true rfl) (Or.inl rfl) (hs434.e (by decide)) hk434 (fun r438 S438 hp438 => ?_)
        obtain ⟨rfl, hi438⟩ := hp438
        show Ok _ _ _ [zi v434, zi v434] _ _
        refine r_icmp_eq (q := 444) (t := 1170) dL_law_441 (by decide) rfl (fun h441 => ?_) (fun h441 => absurd h441 (fun z => z rfl))
        refine r_mask [true, true, true, true, true, false, false, false] rfl ?_
        refine r_iincN (q := 1173) (L' := [some (zr 77777 0), some (zr 11 0), some (zr 12 0), some (zr 5000 0), some (zi (nI (i + 6))), none, none, none]) 6 rfl dL_law_1170 rfl rfl (Nat.le_of_ble_eq_true rfl) rfl ?_
        refine r_goto (q := 23) dL_law_1173 (by decide) ?_
        exact ih (k + 1) (i + 6) _ (by omega) (by omega) (by omega) hi438
      | 9, _ =>
        refine r_tabIn (q := 446) (off := 406) dL_law_40 (by decide) (by decide) (by decide) (by decide) ?_
        refine r_aload_n (q := 447) dL_law_446 rfl rfl rfl ?_
        refine r_callV (Mc := mX11_leaves) (q := 450) (As := []) (st := []) ck11 dL_law_447 rfl rfl mkX11_leaves wt729 wt730 wt731 rfl (Nat.le_of_ble_eq_true rfl) (Nat.le_of_ble_eq_true rfl) (Nat.le_of_ble_eq_true rfl) (Nat.le_of_ble_eq_true rfl) (Nat.le_of_ble_eq_true rfl) (Or.inl rfl) (hs.e (by decide)) (h_leaves k S  (by omega) hI) (fun r447 S447 hp447 => ?_)
        obtain ⟨v447, rfl, hs447, hk447⟩ := hp447
        show Ok _ _ _ [zi v447] _ _
        refine r_aload_n (q := 451) dL_law_450 rfl rfl rfl ?_
        refine r_callV (Mc := mX12_leaves) (q := 454) (As := []) (st := [zi v447]) ck12 dL_law_451 rfl rfl mkX12_leaves wt1726 wt1727 wt1728 rfl (Nat.le_of_ble_eq_true rfl) (Nat.le_of_ble_eq_true rfl) (Nat.le_of_ble_eq_true rfl) (Nat.le_of_ble_eq_true rfl) (Nat.le_of_ble_eq_true rfl) (Or.inl rfl) (hs447.e (by decide)) hk447 (fun r451 S451 hp451 => ?_)
        obtain ⟨rfl, hi451⟩ := hp451
        show Ok _ _ _ [zi v447, zi v447] _ _
        refine r_icmp_eq (q := 457) (t := 1170) dL_law_454 (by decide) rfl (fun h454 => ?_) (fun h454 => absurd h454 (fun z => z rfl))
        refine r_mask [true, true, true, true, true, false, false, false] rfl ?_
        refine r_iincN (q := 1173) (L' := [some (zr 77777 0), some (zr 11 0), some (zr 12 0), some (zr 5000 0), some (zi (nI (i + 6))), none, none, none]) 6 rfl dL_law_1170 rfl rfl (Nat.le_of_ble_eq_true rfl) rfl ?_
        refine r_goto (q := 23) dL_law_1173 (by decide) ?_
        exact ih (k + 1) (i + 6) _ (by omega) (by omega) (by omega) hi451
      | 10, _ =>
        refine r_tabIn (q := 459) (off := 419) dL_law_40 (by decide) (by decide) (by decide) (by decide) ?_
        refine r_aload_n (q := 460) dL_law_459 rfl rfl rfl ?_
        refine r_aload_n (q := 461) dL_law_460 rfl rfl rfl ?_
        refine r_iload (q := 463) dL_law_461 rfl rfl ?_
        refine r_iconst (q := 464) (nI 1) dL_law_463 rfl (by decide) ?_
        refine r_iaddN (q := 465) dL_law_464 rfl ?_
        refine r_sldN (q := 466) ⟨rfl, rfl⟩ dL_law_465 rfl (show i + 1 < n by omega) (show n < 2147483648 by omega) ?_
        refine r_topi (y := f (i + 1)) rfl ?_
        refine r_aload_n (q := 467) dL_law_466 rfl rfl rfl ?_
        refine h_term n f k S (f (i + 1)) _ _ (by omega) hI ⟨Or.inr rfl, Or.inl ⟨hs.e (by decide), rfl⟩, Or.inl ⟨hs.e (by decide), rfl⟩, Or.inl ⟨(hinv k S hI).2.1, rfl⟩, trivial, trivial⟩ (fun v467 S467 h01467 hs467 hk467 => ?_)
        refine r_istore (q := 472) (L' := [some (zr 77777 0), some (zr 11 0), some (zr 12 0), some (zr 5000 0), some (zi (nI i)), some (zi v467), none, none]) dL_law_470 rfl (Nat.le_of_ble_eq_true rfl) rfl ?_
        refine r_aload_n (q := 473) dL_law_472 rfl rfl rfl ?_
        refine r_aload_n (q := 474) dL_law_473 rfl rfl rfl ?_
        refine r_iload (q := 476) dL_law_474 rfl rfl ?_
        refine r_iconst (q := 477) (nI 1) dL_law_476 rfl (by decide) ?_
        refine r_iaddN (q := 478) dL_law_477 rfl ?_
        refine r_sldN (q := 479) ⟨rfl, rfl⟩ dL_law_478 rfl (show i + 1 < n by omega) (show n < 2147483648 by omega) ?_
        refine r_topi (y := f (i + 1)) rfl ?_
        refine r_callV (Mc := mX12_term) (q := 482) (As := [zi (f (i + 1))]) (st := []) ck12 dL_law_479 rfl rfl mkX12_term wt1730 wt1731 wt1732 rfl (Nat.le_of_ble_eq_true rfl) (Nat.le_of_ble_eq_true rfl) (Nat.le_of_ble_eq_true rfl) (Nat.le_of_ble_eq_true rfl) (Nat.le_of_ble_eq_true rfl) (Or.inl rfl) (hs467.e (by decide)) hk467 (fun r479 S479 hp479 => ?_)
        obtain ⟨b479, rfl, hs479, hk479⟩ := hp479
        show Ok _ _ _ [zi b479] _ _
        refine r_istore (q := 484) (L' := [some (zr 77777 0), some (zr 11 0), some (zr 12 0), some (zr 5000 0), some (zi (nI i)), some (zi v467), some (zi b479), none]) dL_law_482 rfl (Nat.le_of_ble_eq_true rfl) rfl ?_
        refine r_aload_n (q := 485) dL_law_484 rfl rfl rfl ?_
        refine r_callV (Mc := mX12_thrown) (q := 488) (As := []) (st := []) ck12 dL_law_485 rfl rfl mkX12_thrown wt1247 wt1248 wt1249 rfl (Nat.le_of_ble_eq_true rfl) (Nat.le_of_ble_eq_true rfl) (Nat.le_of_ble_eq_true rfl) (Nat.le_of_ble_eq_true rfl) (Nat.le_of_ble_eq_true rfl) (Or.inl rfl) (hs479.e (by decide)) hk479 (fun r485 S485 hp485 => ?_)
        obtain ⟨rfl, ho485, hi485⟩ := hp485
        show Ok _ _ _ [zi v467] _ _
        refine r_iload (q := 490) dL_law_488 rfl rfl ?_
        refine r_icmp_eq (q := 493) (t := 495) dL_law_490 (by decide) rfl (fun h490 => ?_) (fun h490 => absurd h490 (fun z => z rfl))
        refine r_iload (q := 497) dL_law_495 rfl rfl ?_
        refine r_if_ne (q := 500) (t := 512) dL_law_497 (by decide) rfl (fun h497 => ?_) (fun h497 => ?_)
        · skip
          refine r_goto (q := 1170) dL_law_512 (by decide) ?_
          refine r_mask [true, true, true, true, true, false, false, false] rfl ?_
          refine r_iincN (q := 1173) (L' := [some (zr 77777 0), some (zr 11 0), some (zr 12 0), some (zr 5000 0), some (zi (nI (i + 6))), none, none, none]) 6 rfl dL_law_1170 rfl rfl (Nat.le_of_ble_eq_true rfl) rfl ?_
          refine r_goto (q := 23) dL_law_1173 (by decide) ?_
          exact ih (k + 1) (i + 6) _ (by omega) (by omega) (by omega) hi485
        · skip
          have hv0 : v467 = nI 0 := by first | exact h497 | (exact Classical.not_not.mp h497)
          refine r_aload_n (q := 501) dL_law_500 rfl rfl rfl ?_
          refine r_iconst (q := 502) (nI 0) dL_law_501 rfl (by decide) ?_
          refine r_laldN (q := 503) 1 (by decide) rfl dL_law_502 rfl (hinv _ _ hi485).2.1 (hinv _ _ hi485).2.2.1 (by omega) (by decide) ?_
          refine r_iload (q := 505) dL_law_503 rfl rfl ?_
          refine r_i2l (q := 506) dL_law_505 rfl ?_
          refine r_lcmp (q := 507) dL_law_506 rfl ?_
          refine r_topi (y := nI 0) (by rw [ho485 hv0]; exact lg_same _) ?_
          refine r_if_eqN (q := 510) (t := 512) (by omega) dL_law_507 (by decide) rfl (fun h507 => ?_) (fun h507 => absurd h507 (by omega))
          refine r_goto (q := 1170) dL_law_512 (by decide) ?_
          refine r_mask [true, true, true, true, true, false, false, false] rfl ?_
          refine r_iincN (q := 1173) (L' := [some (zr 77777 0), some (zr 11 0), some (zr 12 0), some (zr 5000 0), some (zi (nI (i + 6))), none, none, none]) 6 rfl dL_law_1170 rfl rfl (Nat.le_of_ble_eq_true rfl) rfl ?_
          refine r_goto (q := 23) dL_law_1173 (by decide) ?_
          exact ih (k + 1) (i + 6) _ (by omega) (by omega) (by omega) hi485
      | 11, _ =>
        refine r_tabIn (q := 515) (off := 475) dL_law_40 (by decide) (by decide) (by decide) (by decide) ?_
        refine r_aload_n (q := 516) dL_law_515 rfl rfl rfl ?_
        refine r_aload_n (q := 517) dL_law_516 rfl rfl rfl ?_
        refine r_iload (q := 519) dL_law_517 rfl rfl ?_
        refine r_iconst (q := 520) (nI 1) dL_law_519 rfl (by decide) ?_
        refine r_iaddN (q := 521) dL_law_520 rfl ?_
        refine r_sldN (q := 522) ⟨rfl, rfl⟩ dL_law_521 rfl (show i + 1 < n by omega) (show n < 2147483648 by omega) ?_
        refine r_topi (y := f (i + 1)) rfl ?_
        refine r_aload_n (q := 523) dL_law_522 rfl rfl rfl ?_
        refine r_iload (q := 525) dL_law_523 rfl rfl ?_
        refine r_iconst (q := 526) (nI 2) dL_law_525 rfl (by decide) ?_
        refine r_iaddN (q := 527) dL_law_526 rfl ?_
        refine r_sldN (q := 528) ⟨rfl, rfl⟩ dL_law_527 rfl (show i + 2 < n by omega) (show n < 2147483648 by omega) ?_
        refine r_topi (y := f (i + 2)) rfl ?_
        refine r_callV (Mc := mX11_termAt) (q := 531) (As := [zi (f (i + 1)), zi (f (i + 2))]) (st := []) ck11 dL_law_528 rfl rfl mkX11_termAt wt733 wt734 wt735 rfl (Nat.le_of_ble_eq_true rfl) (Nat.le_of_ble_eq_true rfl) (Nat.le_of_ble_eq_true rfl) (Nat.le_of_ble_eq_true rfl) (Nat.le_of_ble_eq_true rfl) (Or.inl rfl) (hs.e (by decide)) (h_termAt k S (f (i + 1)) (f (i + 2)) (by omega) hI) (fun r528 S528 hp528 => ?_)
        obtain ⟨v528, rfl, hs528, hk528⟩ := hp528
        show Ok _ _ _ [zi v528] _ _
        refine r_aload_n (q := 532) dL_law_531 rfl rfl rfl ?_
        refine r_aload_n (q := 533) dL_law_532 rfl rfl rfl ?_
        refine r_iload (q := 535) dL_law_533 rfl rfl ?_
        refine r_iconst (q := 536) (nI 1) dL_law_535 rfl (by decide) ?_
        refine r_iaddN (q := 537) dL_law_536 rfl ?_
        refine r_sldN (q := 538) ⟨rfl, rfl⟩ dL_law_537 rfl (show i + 1 < n by omega) (show n < 2147483648 by omega) ?_
        refine r_topi (y := f (i + 1)) rfl ?_
        refine r_aload_n (q := 539) dL_law_538 rfl rfl rfl ?_
        refine r_iload (q := 541) dL_law_539 rfl rfl ?_
        refine r_iconst (q := 542) (nI 2) dL_law_541 rfl (by decide) ?_
        refine r_iaddN (q := 543) dL_law_542 rfl ?_
        refine r_sldN (q := 544) ⟨rfl, rfl⟩ dL_law_543 rfl (show i + 2 < n by omega) (show n < 2147483648 by omega) ?_
        refine r_topi (y := f (i + 2)) rfl ?_
        refine r_callV (Mc := mX12_termAt) (q := 547) (As := [zi (f (i + 1)), zi (f (i + 2))]) (st := [zi v528]) ck12 dL_law_544 rfl rfl mkX12_termAt wt1738 wt1739 wt1740 rfl (Nat.le_of_ble_eq_true rfl) (Nat.le_of_ble_eq_true rfl) (Nat.le_of_ble_eq_true rfl) (Nat.le_of_ble_eq_true rfl) (Nat.le_of_ble_eq_true rfl) (Or.inl rfl) (hs528.e (by decide)) hk528 (fun r544 S544 hp544 => ?_)
        obtain ⟨rfl, hi544⟩ := hp544
        show Ok _ _ _ [zi v528, zi v528] _ _
        refine r_icmp_eq (q := 550) (t := 1170) dL_law_547 (by decide) rfl (fun h547 => ?_) (fun h547 => absurd h547 (fun z => z rfl))
        refine r_mask [true, true, true, true, true, false, false, false] rfl ?_
        refine r_iincN (q := 1173) (L' := [some (zr 77777 0), some (zr 11 0), some (zr 12 0), some (zr 5000 0), some (zi (nI (i + 6))), none, none, none]) 6 rfl dL_law_1170 rfl rfl (Nat.le_of_ble_eq_true rfl) rfl ?_
        refine r_goto (q := 23) dL_law_1173 (by decide) ?_
        exact ih (k + 1) (i + 6) _ (by omega) (by omega) (by omega) hi544
      | 12, _ =>
        refine r_tabIn (q := 552) (off := 512) dL_law_40 (by decide) (by decide) (by decide) (by decide) ?_
        refine r_aload_n (q := 553) dL_law_552 rfl rfl rfl ?_
        refine r_callV (Mc := mX11_reduce) (q := 556) (As := []) (st := []) ck11 dL_law_553 rfl rfl mkX11_reduce wt762 wt763 wt764 rfl (Nat.le_of_ble_eq_true rfl) (Nat.le_of_ble_eq_true rfl) (Nat.le_of_ble_eq_true rfl) (Nat.le_of_ble_eq_true rfl) (Nat.le_of_ble_eq_true rfl) (Or.inr ⟨Nat.le_of_ble_eq_true rfl, rfl, rfl⟩) (hs.e (by decide)) (h_reduce k S  (by omega) hI) (fun r553 S553 hp553 => ?_)
        obtain ⟨v553, rfl, hs553, hk553⟩ := hp553
        show Ok _ _ _ [zi v553] _ _
        refine r_aload_n (q := 557) dL_law_556 rfl rfl rfl ?_
        refine r_callV (Mc := mX12_reduce) (q := 560) (As := []) (st := [zi v553]) ck12 dL_law_557 rfl rfl mkX12_reduce wt1747 wt1748 wt1749 rfl (Nat.le_of_ble_eq_true rfl) (Nat.le_of_ble_eq_true rfl) (Nat.le_of_ble_eq_true rfl) (Nat.le_of_ble_eq_true rfl) (Nat.le_of_ble_eq_true rfl) (Or.inl rfl) (hs553.e (by decide)) hk553 (fun r557 S557 hp557 => ?_)
        obtain ⟨rfl, hi557⟩ := hp557
        show Ok _ _ _ [zi v553, zi v553] _ _
        refine r_icmp_eq (q := 563) (t := 1170) dL_law_560 (by decide) rfl (fun h560 => ?_) (fun h560 => absurd h560 (fun z => z rfl))
        refine r_mask [true, true, true, true, true, false, false, false] rfl ?_
        refine r_iincN (q := 1173) (L' := [some (zr 77777 0), some (zr 11 0), some (zr 12 0), some (zr 5000 0), some (zi (nI (i + 6))), none, none, none]) 6 rfl dL_law_1170 rfl rfl (Nat.le_of_ble_eq_true rfl) rfl ?_
        refine r_goto (q := 23) dL_law_1173 (by decide) ?_
        exact ih (k + 1) (i + 6) _ (by omega) (by omega) (by omega) hi557
      | 13, _ =>
        refine r_tabIn (q := 565) (off := 525) dL_law_40 (by decide) (by decide) (by decide) (by decide) ?_
        refine r_aload_n (q := 566) dL_law_565 rfl rfl rfl ?_
        refine r_aload_n (q := 567) dL_law_566 rfl rfl rfl ?_
        refine r_iload (q := 569) dL_law_567 rfl rfl ?_
        refine r_iconst (q := 570) (nI 1) dL_law_569 rfl (by decide) ?_
        refine r_iaddN (q := 571) dL_law_570 rfl ?_
        refine r_sldN (q := 572) ⟨rfl, rfl⟩ dL_law_571 rfl (show i + 1 < n by omega) (show n < 2147483648 by omega) ?_
        refine r_topi (y := f (i + 1)) rfl ?_
        refine r_callV (Mc := mX11_size) (q := 575) (As := [zi (f (i + 1))]) (st := []) ck11 dL_law_572 rfl rfl mkX11_size wt907 wt908 wt909 rfl (Nat.le_of_ble_eq_true rfl) (Nat.le_of_ble_eq_true rfl) (Nat.le_of_ble_eq_true rfl) (Nat.le_of_ble_eq_true rfl) (Nat.le_of_ble_eq_true rfl) (Or.inr ⟨Nat.le_of_ble_eq_true rfl, rfl, rfl⟩) (hs.e (by decide)) (h_size k S (f (i + 1)) (by omega) hI) (fun r572 S572 hp572 => ?_)
        obtain ⟨v572, rfl, hs572, hk572⟩ := hp572
        show Ok _ _ _ [zi v572] _ _
        refine r_aload_n (q := 576) dL_law_575 rfl rfl rfl ?_
        refine r_aload_n (q := 577) dL_law_576 rfl rfl rfl ?_
        refine r_iload (q := 579) dL_law_577 rfl rfl ?_
        refine r_iconst (q := 580) (nI 1) dL_law_579 rfl (by decide) ?_
        refine r_iaddN (q := 581) dL_law_580 rfl ?_
        refine r_sldN (q := 582) ⟨rfl, rfl⟩ dL_law_581 rfl (show i + 1 < n by omega) (show n < 2147483648 by omega) ?_
        refine r_topi (y := f (i + 1)) rfl ?_
        refine r_callV (Mc := mX12_size) (q := 585) (As := [zi (f (i + 1))]) (st := [zi v572]) ck12 dL_law_582 rfl rfl mkX12_size wt1840 wt1841 wt1842 rfl (Nat.le_of_ble_eq_true rfl) (Nat.le_of_ble_eq_true rfl) (Nat.le_of_ble_eq_true rfl) (Nat.le_of_ble_eq_true rfl) (Nat.le_of_ble_eq_true rfl) (Or.inl rfl) (hs572.e (by decide)) hk572 (fun r582 S582 hp582 => ?_)
        obtain ⟨rfl, hi582⟩ := hp582
        show Ok _ _ _ [zi v572, zi v572] _ _
        refine r_icmp_eq (q := 588) (t := 1170) dL_law_585 (by decide) rfl (fun h585 => ?_) (fun h585 => absurd h585 (fun z => z rfl))
        refine r_mask [true, true, true, true, true, false, false, false] rfl ?_
        refine r_iincN (q := 1173) (L' := [some (zr 77777 0), some (zr 11 0), some (zr 12 0), some (zr 5000 0), some (zi (nI (i + 6))), none, none, none]) 6 rfl dL_law_1170 rfl rfl (Nat.le_of_ble_eq_true rfl) rfl ?_
        refine r_goto (q := 23) dL_law_1173 (by decide) ?_
        exact ih (k + 1) (i + 6) _ (by omega) (by omega) (by omega) hi582
      | 14, _ =>
        refine r_tabIn (q := 590) (off := 550) dL_law_40 (by decide) (by decide) (by decide) (by decide) ?_
        refine r_aload_n (q := 591) dL_law_590 rfl rfl rfl ?_
        refine r_aload_n (q := 592) dL_law_591 rfl rfl rfl ?_
        refine r_iload (q := 594) dL_law_592 rfl rfl ?_
        refine r_iconst (q := 595) (nI 1) dL_law_594 rfl (by decide) ?_
        refine r_iaddN (q := 596) dL_law_595 rfl ?_
        refine r_sldN (q := 597) ⟨rfl, rfl⟩ dL_law_596 rfl (show i + 1 < n by omega) (show n < 2147483648 by omega) ?_
        refine r_topi (y := f (i + 1)) rfl ?_
        refine r_aload_n (q := 598) dL_law_597 rfl rfl rfl ?_
        refine r_iload (q := 600) dL_law_598 rfl rfl ?_
        refine r_iconst (q := 601) (nI 2) dL_law_600 rfl (by decide) ?_
        refine r_iaddN (q := 602) dL_law_601 rfl ?_
        refine r_sldN (q := 603) ⟨rfl, rfl⟩ dL_law_602 rfl (show i + 2 < n by omega) (show n < 2147483648 by omega) ?_
        refine r_topi (y := f (i + 2)) rfl ?_
        refine r_aload_n (q := 604) dL_law_603 rfl rfl rfl ?_
        refine r_iload (q := 606) dL_law_604 rfl rfl ?_
        refine r_iconst (q := 607) (nI 3) dL_law_606 rfl (by decide) ?_
        refine r_iaddN (q := 608) dL_law_607 rfl ?_
        refine r_sldN (q := 609) ⟨rfl, rfl⟩ dL_law_608 rfl (show i + 3 < n by omega) (show n < 2147483648 by omega) ?_
        refine r_topi (y := f (i + 3)) rfl ?_
        refine r_callV (Mc := mX11_normalAt) (q := 612) (As := [zi (f (i + 1)), zi (f (i + 2)), zi (f (i + 3))]) (st := []) ck11 dL_law_609 rfl rfl mkX11_normalAt wt911 wt912 wt913 rfl (Nat.le_of_ble_eq_true rfl) (Nat.le_of_ble_eq_true rfl) (Nat.le_of_ble_eq_true rfl) (Nat.le_of_ble_eq_true rfl) (Nat.le_of_ble_eq_true rfl) (Or.inr ⟨Nat.le_of_ble_eq_true rfl, rfl, rfl⟩) (hs.e (by decide)) (h_normalAt k S (f (i + 1)) (f (i + 2)) (f (i + 3)) (by omega) hI) (fun r609 S609 hp609 => ?_)
        obtain ⟨v609, rfl, hs609, hk609⟩ := hp609
        show Ok _ _ _ [zi v609] _ _
        refine r_aload_n (q := 613) dL_law_612 rfl rfl rfl ?_
        refine r_aload_n (q := 614) dL_law_613 rfl rfl rfl ?_
        refine r_iload (q := 616) dL_law_614 rfl rfl ?_
        refine r_iconst (q := 617) (nI 1) dL_law_616 rfl (by decide) ?_
        refine r_iaddN (q := 618) dL_law_617 rfl ?_
        refine r_sldN (q := 619) ⟨rfl, rfl⟩ dL_law_618 rfl (show i + 1 < n by omega) (show n < 2147483648 by omega) ?_
        refine r_topi (y := f (i + 1)) rfl ?_
        refine r_aload_n (q := 620) dL_law_619 rfl rfl rfl ?_
        refine r_iload (q := 622) dL_law_620 rfl rfl ?_
        refine r_iconst (q := 623) (nI 2) dL_law_622 rfl (by decide) ?_
        refine r_iaddN (q := 624) dL_law_623 rfl ?_
        refine r_sldN (q := 625) ⟨rfl, rfl⟩ dL_law_624 rfl (show i + 2 < n by omega) (show n < 2147483648 by omega) ?_
        refine r_topi (y := f (i + 2)) rfl ?_
        refine r_aload_n (q := 626) dL_law_625 rfl rfl rfl ?_
        refine r_iload (q := 628) dL_law_626 rfl rfl ?_
        refine r_iconst (q := 629) (nI 3) dL_law_628 rfl (by decide) ?_
        refine r_iaddN (q := 630) dL_law_629 rfl ?_
        refine r_sldN (q := 631) ⟨rfl, rfl⟩ dL_law_630 rfl (show i + 3 < n by omega) (show n < 2147483648 by omega) ?_
        refine r_topi (y := f (i + 3)) rfl ?_
        refine r_callV (Mc := mX12_normalAt) (q := 634) (As := [zi (f (i + 1)), zi (f (i + 2)), zi (f (i + 3))]) (st := [zi v609]) ck12 dL_law_631 rfl rfl mkX12_normalAt wt1848 wt1849 wt1850 rfl (Nat.le_of_ble_eq_true rfl) (Nat.le_of_ble_eq_true rfl) (Nat.le_of_ble_eq_true rfl) (Nat.le_of_ble_eq_true rfl) (Nat.le_of_ble_eq_true rfl) (Or.inl rfl) (hs609.e (by decide)) hk609 (fun r631 S631 hp631 => ?_)
        obtain ⟨rfl, hi631⟩ := hp631
        show Ok _ _ _ [zi v609, zi v609] _ _
        refine r_icmp_eq (q := 637) (t := 1170) dL_law_634 (by decide) rfl (fun h634 => ?_) (fun h634 => absurd h634 (fun z => z rfl))
        refine r_mask [true, true, true, true, true, false, false, false] rfl ?_
        refine r_iincN (q := 1173) (L' := [some (zr 77777 0), some (zr 11 0), some (zr 12 0), some (zr 5000 0), some (zi (nI (i + 6))), none, none, none]) 6 rfl dL_law_1170 rfl rfl (Nat.le_of_ble_eq_true rfl) rfl ?_
        refine r_goto (q := 23) dL_law_1173 (by decide) ?_
        exact ih (k + 1) (i + 6) _ (by omega) (by omega) (by omega) hi631
      | 15, _ =>
        refine r_tabIn (q := 639) (off := 599) dL_law_40 (by decide) (by decide) (by decide) (by decide) ?_
        refine r_aload_n (q := 640) dL_law_639 rfl rfl rfl ?_
        refine r_aload_n (q := 641) dL_law_640 rfl rfl rfl ?_
        refine r_iload (q := 643) dL_law_641 rfl rfl ?_
        refine r_iconst (q := 644) (nI 1) dL_law_643 rfl (by decide) ?_
        refine r_iaddN (q := 645) dL_law_644 rfl ?_
        refine r_sldN (q := 646) ⟨rfl, rfl⟩ dL_law_645 rfl (show i + 1 < n by omega) (show n < 2147483648 by omega) ?_
        refine r_topi (y := f (i + 1)) rfl ?_
        refine r_callV (Mc := mX11_bare) (q := 649) (As := [zi (f (i + 1))]) (st := []) ck11 dL_law_646 rfl rfl mkX11_bare wt920 wt921 wt922 rfl (Nat.le_of_ble_eq_true rfl) (Nat.le_of_ble_eq_true rfl) (Nat.le_of_ble_eq_true rfl) (Nat.le_of_ble_eq_true rfl) (Nat.le_of_ble_eq_true rfl) (Or.inr ⟨Nat.le_of_ble_eq_true rfl, rfl, rfl⟩) (hs.e (by decide)) (h_bare k S (f (i + 1)) (by omega) hI) (fun r646 S646 hp646 => ?_)
        obtain ⟨v646, rfl, hs646, hk646⟩ := hp646
        show Ok _ _ _ [zi v646] _ _
        refine r_aload_n (q := 650) dL_law_649 rfl rfl rfl ?_
        refine r_aload_n (q := 651) dL_law_650 rfl rfl rfl ?_
        refine r_iload (q := 653) dL_law_651 rfl rfl ?_
        refine r_iconst (q := 654) (nI 1) dL_law_653 rfl (by decide) ?_
        refine r_iaddN (q := 655) dL_law_654 rfl ?_
        refine r_sldN (q := 656) ⟨rfl, rfl⟩ dL_law_655 rfl (show i + 1 < n by omega) (show n < 2147483648 by omega) ?_
        refine r_topi (y := f (i + 1)) rfl ?_
        refine r_callV (Mc := mX12_bare) (q := 659) (As := [zi (f (i + 1))]) (st := [zi v646]) ck12 dL_law_656 rfl rfl mkX12_bare wt1852 wt1853 wt1854 rfl (Nat.le_of_ble_eq_true rfl) (Nat.le_of_ble_eq_true rfl) (Nat.le_of_ble_eq_true rfl) (Nat.le_of_ble_eq_true rfl) (Nat.le_of_ble_eq_true rfl) (Or.inl rfl) (hs646.e (by decide)) hk646 (fun r656 S656 hp656 => ?_)
        obtain ⟨rfl, hi656⟩ := hp656
        show Ok _ _ _ [zi v646, zi v646] _ _
        refine r_icmp_eq (q := 662) (t := 1170) dL_law_659 (by decide) rfl (fun h659 => ?_) (fun h659 => absurd h659 (fun z => z rfl))
        refine r_mask [true, true, true, true, true, false, false, false] rfl ?_
        refine r_iincN (q := 1173) (L' := [some (zr 77777 0), some (zr 11 0), some (zr 12 0), some (zr 5000 0), some (zi (nI (i + 6))), none, none, none]) 6 rfl dL_law_1170 rfl rfl (Nat.le_of_ble_eq_true rfl) rfl ?_
        refine r_goto (q := 23) dL_law_1173 (by decide) ?_
        exact ih (k + 1) (i + 6) _ (by omega) (by omega) (by omega) hi656
      | 16, _ =>
        refine r_tabIn (q := 664) (off := 624) dL_law_40 (by decide) (by decide) (by decide) (by decide) ?_
        refine r_aload_n (q := 665) dL_law_664 rfl rfl rfl ?_
        refine r_aload_n (q := 666) dL_law_665 rfl rfl rfl ?_
        refine r_iload (q := 668) dL_law_666 rfl rfl ?_
        refine r_iconst (q := 669) (nI 1) dL_law_668 rfl (by decide) ?_
        refine r_iaddN (q := 670) dL_law_669 rfl ?_
        refine r_sldN (q := 671) ⟨rfl, rfl⟩ dL_law_670 rfl (show i + 1 < n by omega) (show n < 2147483648 by omega) ?_
        refine r_topi (y := f (i + 1)) rfl ?_
        refine r_callV (Mc := mX11_closed) (q := 674) (As := [zi (f (i + 1))]) (st := []) ck11 dL_law_671 rfl rfl mkX11_closed wt936 wt937 wt938 rfl (Nat.le_of_ble_eq_true rfl) (Nat.le_of_ble_eq_true rfl) (Nat.le_of_ble_eq_true rfl) (Nat.le_of_ble_eq_true rfl) (Nat.le_of_ble_eq_true rfl) (Or.inr ⟨Nat.le_of_ble_eq_true rfl, rfl, rfl⟩) (hs.e (by decide)) (h_closed k S (f (i + 1)) (by omega) hI) (fun r671 S671 hp671 => ?_)
        obtain ⟨v671, rfl, hs671, hk671⟩ := hp671
        show Ok _ _ _ [zi v671] _ _
        refine r_aload_n (q := 675) dL_law_674 rfl rfl rfl ?_
        refine r_aload_n (q := 676) dL_law_675 rfl rfl rfl ?_
        refine r_iload (q := 678) dL_law_676 rfl rfl ?_
        refine r_iconst (q := 679) (nI 1) dL_law_678 rfl (by decide) ?_
        refine r_iaddN (q := 680) dL_law_679 rfl ?_
        refine r_sldN (q := 681) ⟨rfl, rfl⟩ dL_law_680 rfl (show i + 1 < n by omega) (show n < 2147483648 by omega) ?_
        refine r_topi (y := f (i + 1)) rfl ?_
        refine r_callV (Mc := mX12_closed) (q := 684) (As := [zi (f (i + 1))]) (st := [zi v671]) ck12 dL_law_681 rfl rfl mkX12_closed wt1868 wt1869 wt1870 rfl (Nat.le_of_ble_eq_true rfl) (Nat.le_of_ble_eq_true rfl) (Nat.le_of_ble_eq_true rfl) (Nat.le_of_ble_eq_true rfl) (Nat.le_of_ble_eq_true rfl) (Or.inl rfl) (hs671.e (by decide)) hk671 (fun r681 S681 hp681 => ?_)
        obtain ⟨rfl, hi681⟩ := hp681
        show Ok _ _ _ [zi v671, zi v671] _ _
        refine r_icmp_eq (q := 687) (t := 1170) dL_law_684 (by decide) rfl (fun h684 => ?_) (fun h684 => absurd h684 (fun z => z rfl))
        refine r_mask [true, true, true, true, true, false, false, false] rfl ?_
        refine r_iincN (q := 1173) (L' := [some (zr 77777 0), some (zr 11 0), some (zr 12 0), some (zr 5000 0), some (zi (nI (i + 6))), none, none, none]) 6 rfl dL_law_1170 rfl rfl (Nat.le_of_ble_eq_true rfl) rfl ?_
        refine r_goto (q := 23) dL_law_1173 (by decide) ?_
        exact ih (k + 1) (i + 6) _ (by omega) (by omega) (by omega) hi681
      | 17, _ =>
        refine r_tabIn (q := 689) (off := 649) dL_law_40 (by decide) (by decide) (by decide) (by decide) ?_
        refine r_aload_n (q := 690) dL_law_689 rfl rfl rfl ?_
        refine r_aload_n (q := 691) dL_law_690 rfl rfl rfl ?_
        refine r_iload (q := 693) dL_law_691 rfl rfl ?_
        refine r_iconst (q := 694) (nI 1) dL_law_693 rfl (by decide) ?_
        refine r_iaddN (q := 695) dL_law_694 rfl ?_
        refine r_sldN (q := 696) ⟨rfl, rfl⟩ dL_law_695 rfl (show i + 1 < n by omega) (show n < 2147483648 by omega) ?_
        refine r_topi (y := f (i + 1)) rfl ?_
        refine r_callV (Mc := mX11_plug) (q := 699) (As := [zi (f (i + 1))]) (st := []) ck11 dL_law_696 rfl rfl mkX11_plug wt940 wt941 wt942 rfl (Nat.le_of_ble_eq_true rfl) (Nat.le_of_ble_eq_true rfl) (Nat.le_of_ble_eq_true rfl) (Nat.le_of_ble_eq_true rfl) (Nat.le_of_ble_eq_true rfl) (Or.inr ⟨Nat.le_of_ble_eq_true rfl, rfl, rfl⟩) (hs.e (by decide)) (h_plug k S (f (i + 1)) (by omega) hI) (fun r696 S696 hp696 => ?_)
        obtain ⟨v696, rfl, hs696, hk696⟩ := hp696
        show Ok _ _ _ [zi v696] _ _
        refine r_aload_n (q := 700) dL_law_699 rfl rfl rfl ?_
        refine r_aload_n (q := 701) dL_law_700 rfl rfl rfl ?_
        refine r_iload (q := 703) dL_law_701 rfl rfl ?_
        refine r_iconst (q := 704) (nI 1) dL_law_703 rfl (by decide) ?_
        refine r_iaddN (q := 705) dL_law_704 rfl ?_
        refine r_sldN (q := 706) ⟨rfl, rfl⟩ dL_law_705 rfl (show i + 1 < n by omega) (show n < 2147483648 by omega) ?_
        refine r_topi (y := f (i + 1)) rfl ?_
        refine r_callV (Mc := mX12_plug) (q := 709) (As := [zi (f (i + 1))]) (st := [zi v696]) ck12 dL_law_706 rfl rfl mkX12_plug wt1872 wt1873 wt1874 rfl (Nat.le_of_ble_eq_true rfl) (Nat.le_of_ble_eq_true rfl) (Nat.le_of_ble_eq_true rfl) (Nat.le_of_ble_eq_true rfl) (Nat.le_of_ble_eq_true rfl) (Or.inl rfl) (hs696.e (by decide)) hk696 (fun r706 S706 hp706 => ?_)
        obtain ⟨rfl, hi706⟩ := hp706
        show Ok _ _ _ [zi v696, zi v696] _ _
        refine r_icmp_eq (q := 712) (t := 1170) dL_law_709 (by decide) rfl (fun h709 => ?_) (fun h709 => absurd h709 (fun z => z rfl))
        refine r_mask [true, true, true, true, true, false, false, false] rfl ?_
        refine r_iincN (q := 1173) (L' := [some (zr 77777 0), some (zr 11 0), some (zr 12 0), some (zr 5000 0), some (zi (nI (i + 6))), none, none, none]) 6 rfl dL_law_1170 rfl rfl (Nat.le_of_ble_eq_true rfl) rfl ?_
        refine r_goto (q := 23) dL_law_1173 (by decide) ?_
        exact ih (k + 1) (i + 6) _ (by omega) (by omega) (by omega) hi706
      | 18, _ =>
        refine r_tabIn (q := 714) (off := 674) dL_law_40 (by decide) (by decide) (by decide) (by decide) ?_
        refine r_aload_n (q := 715) dL_law_714 rfl rfl rfl ?_
        refine r_aload_n (q := 716) dL_law_715 rfl rfl rfl ?_
        refine r_iload (q := 718) dL_law_716 rfl rfl ?_
        refine r_iconst (q := 719) (nI 1) dL_law_718 rfl (by decide) ?_
        refine r_iaddN (q := 720) dL_law_719 rfl ?_
        refine r_sldN (q := 721) ⟨rfl, rfl⟩ dL_law_720 rfl (show i + 1 < n by omega) (show n < 2147483648 by omega) ?_
        refine r_topi (y := f (i + 1)) rfl ?_
        refine r_callV (Mc := mX11_times) (q := 724) (As := [zi (f (i + 1))]) (st := []) ck11 dL_law_721 rfl rfl mkX11_times wt951 wt952 wt953 rfl (Nat.le_of_ble_eq_true rfl) (Nat.le_of_ble_eq_true rfl) (Nat.le_of_ble_eq_true rfl) (Nat.le_of_ble_eq_true rfl) (Nat.le_of_ble_eq_true rfl) (Or.inr ⟨Nat.le_of_ble_eq_true rfl, rfl, rfl⟩) (hs.e (by decide)) (h_times k S (f (i + 1)) (by omega) hI) (fun r721 S721 hp721 => ?_)
        obtain ⟨v721, rfl, hs721, hk721⟩ := hp721
        show Ok _ _ _ [zi v721] _ _
        refine r_aload_n (q := 725) dL_law_724 rfl rfl rfl ?_
        refine r_aload_n (q := 726) dL_law_725 rfl rfl rfl ?_
        refine r_iload (q := 728) dL_law_726 rfl rfl ?_
        refine r_iconst (q := 729) (nI 1) dL_law_728 rfl (by decide) ?_
        refine r_iaddN (q := 730) dL_law_729 rfl ?_
        refine r_sldN (q := 731) ⟨rfl, rfl⟩ dL_law_730 rfl (show i + 1 < n by omega) (show n < 2147483648 by omega) ?_
        refine r_topi (y := f (i + 1)) rfl ?_
        refine r_callV (Mc := mX12_times) (q := 734) (As := [zi (f (i + 1))]) (st := [zi v721]) ck12 dL_law_731 rfl rfl mkX12_times wt1880 wt1881 wt1882 rfl (Nat.le_of_ble_eq_true rfl) (Nat.le_of_ble_eq_true rfl) (Nat.le_of_ble_eq_true rfl) (Nat.le_of_ble_eq_true rfl) (Nat.le_of_ble_eq_true rfl) (Or.inl rfl) (hs721.e (by decide)) hk721 (fun r731 S731 hp731 => ?_)
        obtain ⟨rfl, hi731⟩ := hp731
        show Ok _ _ _ [zi v721, zi v721] _ _
        refine r_icmp_eq (q := 737) (t := 1170) dL_law_734 (by decide) rfl (fun h734 => ?_) (fun h734 => absurd h734 (fun z => z rfl))
        refine r_mask [true, true, true, true, true, false, false, false] rfl ?_
        refine r_iincN (q := 1173) (L' := [some (zr 77777 0), some (zr 11 0), some (zr 12 0), some (zr 5000 0), some (zi (nI (i + 6))), none, none, none]) 6 rfl dL_law_1170 rfl rfl (Nat.le_of_ble_eq_true rfl) rfl ?_
        refine r_goto (q := 23) dL_law_1173 (by decide) ?_
        exact ih (k + 1) (i + 6) _ (by omega) (by omega) (by omega) hi731
      | 19, _ =>
        refine r_tabIn (q := 739) (off := 699) dL_law_40 (by decide) (by decide) (by decide) (by decide) ?_
        refine r_aload_n (q := 740) dL_law_739 rfl rfl rfl ?_
        refine r_aload_n (q := 741) dL_law_740 rfl rfl rfl ?_
        refine r_iload (q := 743) dL_law_741 rfl rfl ?_
        refine r_iconst (q := 744) (nI 1) dL_law_743 rfl (by decide) ?_
        refine r_iaddN (q := 745) dL_law_744 rfl ?_
        refine r_sldN (q := 746) ⟨rfl, rfl⟩ dL_law_745 rfl (show i + 1 < n by omega) (show n < 2147483648 by omega) ?_
        refine r_topi (y := f (i + 1)) rfl ?_
        refine r_aload_n (q := 747) dL_law_746 rfl rfl rfl ?_
        refine r_iload (q := 749) dL_law_747 rfl rfl ?_
        refine r_iconst (q := 750) (nI 2) dL_law_749 rfl (by decide) ?_
        refine r_iaddN (q := 751) dL_law_750 rfl ?_
        refine r_sldN (q := 752) ⟨rfl, rfl⟩ dL_law_751 rfl (show i + 2 < n by omega) (show n < 2147483648 by omega) ?_
        refine r_topi (y := f (i + 2)) rfl ?_
        refine r_callV (Mc := mX11_add) (q := 755) (As := [zi (f (i + 1)), zi (f (i + 2))]) (st := []) ck11 dL_law_752 rfl rfl mkX11_add wt963 wt964 wt965 rfl (Nat.le_of_ble_eq_true rfl) (Nat.le_of_ble_eq_true rfl) (Nat.le_of_ble_eq_true rfl) (Nat.le_of_ble_eq_true rfl) (Nat.le_of_ble_eq_true rfl) (Or.inr ⟨Nat.le_of_ble_eq_true rfl, rfl, rfl⟩) (hs.e (by decide)) (h_add k S (f (i + 1)) (f (i + 2)) (by omega) hI) (fun r752 S752 hp752 => ?_)
        obtain ⟨v752, rfl, hs752, hk752⟩ := hp752
        show Ok _ _ _ [zi v752] _ _
        refine r_aload_n (q := 756) dL_law_755 rfl rfl rfl ?_
        refine r_aload_n (q := 757) dL_law_756 rfl rfl rfl ?_
        refine r_iload (q := 759) dL_law_757 rfl rfl ?_
        refine r_iconst (q := 760) (nI 1) dL_law_759 rfl (by decide) ?_
        refine r_iaddN (q := 761) dL_law_760 rfl ?_
        refine r_sldN (q := 762) ⟨rfl, rfl⟩ dL_law_761 rfl (show i + 1 < n by omega) (show n < 2147483648 by omega) ?_
        refine r_topi (y := f (i + 1)) rfl ?_
        refine r_aload_n (q := 763) dL_law_762 rfl rfl rfl ?_
        refine r_iload (q := 765) dL_law_763 rfl rfl ?_
        refine r_iconst (q := 766) (nI 2) dL_law_765 rfl (by decide) ?_
        refine r_iaddN (q := 767) dL_law_766 rfl ?_
        refine r_sldN (q := 768) ⟨rfl, rfl⟩ dL_law_767 rfl (show i + 2 < n by omega) (show n < 2147483648 by omega) ?_
        refine r_topi (y := f (i + 2)) rfl ?_
        refine r_callV (Mc := mX12_add) (q := 771) (As := [zi (f (i + 1)), zi (f (i + 2))]) (st := [zi v752]) ck12 dL_law_768 rfl rfl mkX12_add wt1892 wt1893 wt1894 rfl (Nat.le_of_ble_eq_true rfl) (Nat.le_of_ble_eq_true rfl) (Nat.le_of_ble_eq_true rfl) (Nat.le_of_ble_eq_true rfl) (Nat.le_of_ble_eq_true rfl) (Or.inl rfl) (hs752.e (by decide)) hk752 (fun r768 S768 hp768 => ?_)
        obtain ⟨rfl, hi768⟩ := hp768
        show Ok _ _ _ [zi v752, zi v752] _ _
        refine r_icmp_eq (q := 774) (t := 1170) dL_law_771 (by decide) rfl (fun h771 => ?_) (fun h771 => absurd h771 (fun z => z rfl))
        refine r_mask [true, true, true, true, true, false, false, false] rfl ?_
        refine r_iincN (q := 1173) (L' := [some (zr 77777 0), some (zr 11 0), some (zr 12 0), some (zr 5000 0), some (zi (nI (i + 6))), none, none, none]) 6 rfl dL_law_1170 rfl rfl (Nat.le_of_ble_eq_true rfl) rfl ?_
        refine r_goto (q := 23) dL_law_1173 (by decide) ?_
        exact ih (k + 1) (i + 6) _ (by omega) (by omega) (by omega) hi768
      | 20, _ =>
        refine r_tabIn (q := 776) (off := 736) dL_law_40 (by decide) (by decide) (by decide) (by decide) ?_
        refine r_aload_n (q := 777) dL_law_776 rfl rfl rfl ?_
        refine r_callV (Mc := mX11_undo) (q := 780) (As := []) (st := []) ck11 dL_law_777 rfl rfl mkX11_undo wt967 wt968 wt969 rfl (Nat.le_of_ble_eq_true rfl) (Nat.le_of_ble_eq_true rfl) (Nat.le_of_ble_eq_true rfl) (Nat.le_of_ble_eq_true rfl) (Nat.le_of_ble_eq_true rfl) (Or.inr ⟨Nat.le_of_ble_eq_true rfl, rfl, rfl⟩) (hs.e (by decide)) (h_undo k S  (by omega) hI) (fun r777 S777 hp777 => ?_)
        obtain ⟨v777, rfl, hs777, hk777⟩ := hp777
        show Ok _ _ _ [zi v777] _ _
        refine r_aload_n (q := 781) dL_law_780 rfl rfl rfl ?_
        refine r_callV (Mc := mX12_undo) (q := 784) (As := []) (st := [zi v777]) ck12 dL_law_781 rfl rfl mkX12_undo wt1698 wt1699 wt1700 rfl (Nat.le_of_ble_eq_true rfl) (Nat.le_of_ble_eq_true rfl) (Nat.le_of_ble_eq_true rfl) (Nat.le_of_ble_eq_true rfl) (Nat.le_of_ble_eq_true rfl) (Or.inl rfl) (hs777.e (by decide)) hk777 (fun r781 S781 hp781 => ?_)
        obtain ⟨rfl, hi781⟩ := hp781
        show Ok _ _ _ [zi v777, zi v777] _ _
        refine r_icmp_eq (q := 787) (t := 1170) dL_law_784 (by decide) rfl (fun h784 => ?_) (fun h784 => absurd h784 (fun z => z rfl))
        refine r_mask [true, true, true, true, true, false, false, false] rfl ?_
        refine r_iincN (q := 1173) (L' := [some (zr 77777 0), some (zr 11 0), some (zr 12 0), some (zr 5000 0), some (zi (nI (i + 6))), none, none, none]) 6 rfl dL_law_1170 rfl rfl (Nat.le_of_ble_eq_true rfl) rfl ?_
        refine r_goto (q := 23) dL_law_1173 (by decide) ?_
        exact ih (k + 1) (i + 6) _ (by omega) (by omega) (by omega) hi781
      | 21, _ =>
        refine r_tabIn (q := 789) (off := 749) dL_law_40 (by decide) (by decide) (by decide) (by decide) ?_
        refine r_aload_n (q := 790) dL_law_789 rfl rfl rfl ?_
        refine r_callV (Mc := mX11_dual) (q := 793) (As := []) (st := []) ck11 dL_law_790 rfl rfl mkX11_dual wt971 wt972 wt973 rfl (Nat.le_of_ble_eq_true rfl) (Nat.le_of_ble_eq_true rfl) (Nat.le_of_ble_eq_true rfl) (Nat.le_of_ble_eq_true rfl) (Nat.le_of_ble_eq_true rfl) (Or.inr ⟨Nat.le_of_ble_eq_true rfl, rfl, rfl⟩) (hs.e (by decide)) (h_dual k S  (by omega) hI) (fun r790 S790 hp790 => ?_)
        obtain ⟨v790, rfl, hs790, hk790⟩ := hp790
        show Ok _ _ _ [zi v790] _ _
        refine r_aload_n (q := 794) dL_law_793 rfl rfl rfl ?_
        refine r_callV (Mc := mX12_dual) (q := 797) (As := []) (st := [zi v790]) ck12 dL_law_794 rfl rfl mkX12_dual wt1896 wt1897 wt1898 rfl (Nat.le_of_ble_eq_true rfl) (Nat.le_of_ble_eq_true rfl) (Nat.le_of_ble_eq_true rfl) (Nat.le_of_ble_eq_true rfl) (Nat.le_of_ble_eq_true rfl) (Or.inl rfl) (hs790.e (by decide)) hk790 (fun r794 S794 hp794 => ?_)
        obtain ⟨rfl, hi794⟩ := hp794
        show Ok _ _ _ [zi v790, zi v790] _ _
        refine r_icmp_eq (q := 800) (t := 1170) dL_law_797 (by decide) rfl (fun h797 => ?_) (fun h797 => absurd h797 (fun z => z rfl))
        refine r_mask [true, true, true, true, true, false, false, false] rfl ?_
        refine r_iincN (q := 1173) (L' := [some (zr 77777 0), some (zr 11 0), some (zr 12 0), some (zr 5000 0), some (zi (nI (i + 6))), none, none, none]) 6 rfl dL_law_1170 rfl rfl (Nat.le_of_ble_eq_true rfl) rfl ?_
        refine r_goto (q := 23) dL_law_1173 (by decide) ?_
        exact ih (k + 1) (i + 6) _ (by omega) (by omega) (by omega) hi794
      | 22, _ =>
        refine r_tabIn (q := 802) (off := 762) dL_law_40 (by decide) (by decide) (by decide) (by decide) ?_
        refine r_aload_n (q := 803) dL_law_802 rfl rfl rfl ?_
        refine r_aload_n (q := 804) dL_law_803 rfl rfl rfl ?_
        refine r_iload (q := 806) dL_law_804 rfl rfl ?_
        refine r_iconst (q := 807) (nI 1) dL_law_806 rfl (by decide) ?_
        refine r_iaddN (q := 808) dL_law_807 rfl ?_
        refine r_sldN (q := 809) ⟨rfl, rfl⟩ dL_law_808 rfl (show i + 1 < n by omega) (show n < 2147483648 by omega) ?_
        refine r_topi (y := f (i + 1)) rfl ?_
        refine r_aload_n (q := 810) dL_law_809 rfl rfl rfl ?_
        refine h_undone n f k S (f (i + 1)) _ _ (by omega) hI ⟨Or.inr rfl, Or.inl ⟨hs.e (by decide), rfl⟩, Or.inl ⟨hs.e (by decide), rfl⟩, Or.inl ⟨(hinv k S hI).2.1, rfl⟩, trivial, trivial⟩ (fun v810 S810 h01810 hs810 hk810 => ?_)
        refine r_istore (q := 815) (L' := [some (zr 77777 0), some (zr 11 0), some (zr 12 0), some (zr 5000 0), some (zi (nI i)), some (zi v810), none, none]) dL_law_813 rfl (Nat.le_of_ble_eq_true rfl) rfl ?_
        refine r_aload_n (q := 816) dL_law_815 rfl rfl rfl ?_
        refine r_aload_n (q := 817) dL_law_816 rfl rfl rfl ?_
        refine r_iload (q := 819) dL_law_817 rfl rfl ?_
        refine r_iconst (q := 820) (nI 1) dL_law_819 rfl (by decide) ?_
        refine r_iaddN (q := 821) dL_law_820 rfl ?_
        refine r_sldN (q := 822) ⟨rfl, rfl⟩ dL_law_821 rfl (show i + 1 < n by omega) (show n < 2147483648 by omega) ?_
        refine r_topi (y := f (i + 1)) rfl ?_
        refine r_callV (Mc := mX12_undone) (q := 825) (As := [zi (f (i + 1))]) (st := []) ck12 dL_law_822 rfl rfl mkX12_undone wt1912 wt1913 wt1914 rfl (Nat.le_of_ble_eq_true rfl) (Nat.le_of_ble_eq_true rfl) (Nat.le_of_ble_eq_true rfl) (Nat.le_of_ble_eq_true rfl) (Nat.le_of_ble_eq_true rfl) (Or.inl rfl) (hs810.e (by decide)) hk810 (fun r822 S822 hp822 => ?_)
        obtain ⟨b822, rfl, hs822, hk822⟩ := hp822
        show Ok _ _ _ [zl b822] _ _
        refine r_lstore (q := 827) (L' := [some (zr 77777 0), some (zr 11 0), some (zr 12 0), some (zr 5000 0), some (zi (nI i)), some (zi v810), some (zl b822), none]) dL_law_825 rfl (Nat.le_of_ble_eq_true rfl) rfl ?_
        refine r_aload_n (q := 828) dL_law_827 rfl rfl rfl ?_
        refine r_callV (Mc := mX12_thrown) (q := 831) (As := []) (st := []) ck12 dL_law_828 rfl rfl mkX12_thrown wt1247 wt1248 wt1249 rfl (Nat.le_of_ble_eq_true rfl) (Nat.le_of_ble_eq_true rfl) (Nat.le_of_ble_eq_true rfl) (Nat.le_of_ble_eq_true rfl) (Nat.le_of_ble_eq_true rfl) (Or.inl rfl) (hs822.e (by decide)) hk822 (fun r828 S828 hp828 => ?_)
        obtain ⟨rfl, ho828, hi828⟩ := hp828
        show Ok _ _ _ [zi v810] _ _
        refine r_iload (q := 833) dL_law_831 rfl rfl ?_
        refine r_icmp_eq (q := 836) (t := 838) dL_law_833 (by decide) rfl (fun h833 => ?_) (fun h833 => absurd h833 (fun z => z rfl))
        refine r_iload (q := 840) dL_law_838 rfl rfl ?_
        refine r_if_ne (q := 843) (t := 854) dL_law_840 (by decide) rfl (fun h840 => ?_) (fun h840 => ?_)
        · skip
          refine r_goto (q := 1170) dL_law_854 (by decide) ?_
          refine r_mask [true, true, true, true, true, false, false, false] rfl ?_
          refine r_iincN (q := 1173) (L' := [some (zr 77777 0), some (zr 11 0), some (zr 12 0), some (zr 5000 0), some (zi (nI (i + 6))), none, none, none]) 6 rfl dL_law_1170 rfl rfl (Nat.le_of_ble_eq_true rfl) rfl ?_
          refine r_goto (q := 23) dL_law_1173 (by decide) ?_
          exact ih (k + 1) (i + 6) _ (by omega) (by omega) (by omega) hi828
        · skip
          have hv0 : v810 = nI 0 := by first | exact h840 | (exact Classical.not_not.mp h840)
          refine r_aload_n (q := 844) dL_law_843 rfl rfl rfl ?_
          refine r_iconst (q := 845) (nI 0) dL_law_844 rfl (by decide) ?_
          refine r_laldN (q := 846) 1 (by decide) rfl dL_law_845 rfl (hinv _ _ hi828).2.1 (hinv _ _ hi828).2.2.1 (by omega) (by decide) ?_
          refine r_lload (q := 848) dL_law_846 rfl rfl ?_
          refine r_lcmp (q := 849) dL_law_848 rfl ?_
          refine r_topi (y := nI 0) (by rw [ho828 hv0]; exact lg_same _) ?_
          refine r_if_eqN (q := 852) (t := 854) (by omega) dL_law_849 (by decide) rfl (fun h849 => ?_) (fun h849 => absurd h849 (by omega))
          refine r_goto (q := 1170) dL_law_854 (by decide) ?_
          refine r_mask [true, true, true, true, true, false, false, false] rfl ?_
          refine r_iincN (q := 1173) (L' := [some (zr 77777 0), some (zr 11 0), some (zr 12 0), some (zr 5000 0), some (zi (nI (i + 6))), none, none, none]) 6 rfl dL_law_1170 rfl rfl (Nat.le_of_ble_eq_true rfl) rfl ?_
          refine r_goto (q := 23) dL_law_1173 (by decide) ?_
          exact ih (k + 1) (i + 6) _ (by omega) (by omega) (by omega) hi828
      | 23, _ =>
        refine r_tabIn (q := 857) (off := 817) dL_law_40 (by decide) (by decide) (by decide) (by decide) ?_
        refine r_aload_n (q := 858) dL_law_857 rfl rfl rfl ?_
        refine r_aload_n (q := 859) dL_law_858 rfl rfl rfl ?_
        refine r_iload (q := 861) dL_law_859 rfl rfl ?_
        refine r_iconst (q := 862) (nI 1) dL_law_861 rfl (by decide) ?_
        refine r_iaddN (q := 863) dL_law_862 rfl ?_
        refine r_sldN (q := 864) ⟨rfl, rfl⟩ dL_law_863 rfl (show i + 1 < n by omega) (show n < 2147483648 by omega) ?_
        refine r_topi (y := f (i + 1)) rfl ?_
        refine r_callV (Mc := mX11_koszul) (q := 867) (As := [zi (f (i + 1))]) (st := []) ck11 dL_law_864 rfl rfl mkX11_koszul wt1017 wt1018 wt1019 rfl (Nat.le_of_ble_eq_true rfl) (Nat.le_of_ble_eq_true rfl) (Nat.le_of_ble_eq_true rfl) (Nat.le_of_ble_eq_true rfl) (Nat.le_of_ble_eq_true rfl) (Or.inr ⟨Nat.le_of_ble_eq_true rfl, rfl, rfl⟩) (hs.e (by decide)) (h_koszul k S (f (i + 1)) (by omega) hI) (fun r864 S864 hp864 => ?_)
        obtain ⟨v864, rfl, hs864, hk864⟩ := hp864
        show Ok _ _ _ [zi v864] _ _
        refine r_aload_n (q := 868) dL_law_867 rfl rfl rfl ?_
        refine r_aload_n (q := 869) dL_law_868 rfl rfl rfl ?_
        refine r_iload (q := 871) dL_law_869 rfl rfl ?_
        refine r_iconst (q := 872) (nI 1) dL_law_871 rfl (by decide) ?_
        refine r_iaddN (q := 873) dL_law_872 rfl ?_
        refine r_sldN (q := 874) ⟨rfl, rfl⟩ dL_law_873 rfl (show i + 1 < n by omega) (show n < 2147483648 by omega) ?_
        refine r_topi (y := f (i + 1)) rfl ?_
        refine r_callV (Mc := mX12_koszul) (q := 877) (As := [zi (f (i + 1))]) (st := [zi v864]) ck12 dL_law_874 rfl rfl mkX12_koszul wt1928 wt1929 wt1930 rfl (Nat.le_of_ble_eq_true rfl) (Nat.le_of_ble_eq_true rfl) (Nat.le_of_ble_eq_true rfl) (Nat.le_of_ble_eq_true rfl) (Nat.le_of_ble_eq_true rfl) (Or.inl rfl) (hs864.e (by decide)) hk864 (fun r874 S874 hp874 => ?_)
        obtain ⟨rfl, hi874⟩ := hp874
        show Ok _ _ _ [zi v864, zi v864] _ _
        refine r_icmp_eq (q := 880) (t := 1170) dL_law_877 (by decide) rfl (fun h877 => ?_) (fun h877 => absurd h877 (fun z => z rfl))
        refine r_mask [true, true, true, true, true, false, false, false] rfl ?_
        refine r_iincN (q := 1173) (L' := [some (zr 77777 0), some (zr 11 0), some (zr 12 0), some (zr 5000 0), some (zi (nI (i + 6))), none, none, none]) 6 rfl dL_law_1170 rfl rfl (Nat.le_of_ble_eq_true rfl) rfl ?_
        refine r_goto (q := 23) dL_law_1173 (by decide) ?_
        exact ih (k + 1) (i + 6) _ (by omega) (by omega) (by omega) hi874
      | 24, _ =>
        refine r_tabIn (q := 882) (off := 842) dL_law_40 (by decide) (by decide) (by decide) (by decide) ?_
        refine r_aload_n (q := 883) dL_law_882 rfl rfl rfl ?_
        refine r_aload_n (q := 884) dL_law_883 rfl rfl rfl ?_
        refine r_iload (q := 886) dL_law_884 rfl rfl ?_
        refine r_iconst (q := 887) (nI 1) dL_law_886 rfl (by decide) ?_
        refine r_iaddN (q := 888) dL_law_887 rfl ?_
        refine r_sldN (q := 889) ⟨rfl, rfl⟩ dL_law_888 rfl (show i + 1 < n by omega) (show n < 2147483648 by omega) ?_
        refine r_topi (y := f (i + 1)) rfl ?_
        refine r_aload_n (q := 890) dL_law_889 rfl rfl rfl ?_
        refine r_iload (q := 892) dL_law_890 rfl rfl ?_
        refine r_iconst (q := 893) (nI 2) dL_law_892 rfl (by decide) ?_
        refine r_iaddN (q := 894) dL_law_893 rfl ?_
        refine r_sldN (q := 895) ⟨rfl, rfl⟩ dL_law_894 rfl (show i + 2 < n by omega) (show n < 2147483648 by omega) ?_
        refine r_topi (y := f (i + 2)) rfl ?_
        refine r_callV (Mc := mX11_layered) (q := 898) (As := [zi (f (i + 1)), zi (f (i + 2))]) (st := []) ck11 dL_law_895 rfl rfl mkX11_layered wt1033 wt1034 wt1035 rfl (Nat.le_of_ble_eq_true rfl) (Nat.le_of_ble_eq_true rfl) (Nat.le_of_ble_eq_true rfl) (Nat.le_of_ble_eq_true rfl) (Nat.le_of_ble_eq_true rfl) (Or.inr ⟨Nat.le_of_ble_eq_true rfl, rfl, rfl⟩) (hs.e (by decide)) (h_layered k S (f (i + 1)) (f (i + 2)) (by omega) hI) (fun r895 S895 hp895 => ?_)
        obtain ⟨v895, rfl, hs895, hk895⟩ := hp895
        show Ok _ _ _ [zl v895] _ _
        refine r_aload_n (q := 899) dL_law_898 rfl rfl rfl ?_
        refine r_aload_n (q := 900) dL_law_899 rfl rfl rfl ?_
        refine r_iload (q := 902) dL_law_900 rfl rfl ?_
        refine r_iconst (q := 903) (nI 1) dL_law_902 rfl (by decide) ?_
        refine r_iaddN (q := 904) dL_law_903 rfl ?_
        refine r_sldN (q := 905) ⟨rfl, rfl⟩ dL_law_904 rfl (show i + 1 < n by omega) (show n < 2147483648 by omega) ?_
        refine r_topi (y := f (i + 1)) rfl ?_
        refine r_aload_n (q := 906) dL_law_905 rfl rfl rfl ?_
        refine r_iload (q := 908) dL_law_906 rfl rfl ?_
        refine r_iconst (q := 909) (nI 2) dL_law_908 rfl (by decide) ?_
        refine r_iaddN (q := 910) dL_law_909 rfl ?_
        refine r_sldN (q := 911) ⟨rfl, rfl⟩ dL_law_910 rfl (show i + 2 < n by omega) (show n < 2147483648 by omega) ?_
        refine r_topi (y := f (i + 2)) rfl ?_
        refine r_callV (Mc := mX12_layered) (q := 914) (As := [zi (f (i + 1)), zi (f (i + 2))]) (st := [zl v895]) ck12 dL_law_911 rfl rfl mkX12_layered wt1932 wt1933 wt1934 rfl (Nat.le_of_ble_eq_true rfl) (Nat.le_of_ble_eq_true rfl) (Nat.le_of_ble_eq_true rfl) (Nat.le_of_ble_eq_true rfl) (Nat.le_of_ble_eq_true rfl) (Or.inl rfl) (hs895.e (by decide)) hk895 (fun r911 S911 hp911 => ?_)
        obtain ⟨rfl, hi911⟩ := hp911
        show Ok _ _ _ [zl v895, zl v895] _ _
        refine r_lcmp (q := 915) dL_law_914 rfl ?_
        refine r_topi (lg_same _) ?_
        refine r_if_eqN (q := 918) (t := 1170) (by omega) dL_law_915 (by decide) rfl (fun h915 => ?_) (fun h915 => absurd h915 (by omega))
        refine r_mask [true, true, true, true, true, false, false, false] rfl ?_
        refine r_iincN (q := 1173) (L' := [some (zr 77777 0), some (zr 11 0), some (zr 12 0), some (zr 5000 0), some (zi (nI (i + 6))), none, none, none]) 6 rfl dL_law_1170 rfl rfl (Nat.le_of_ble_eq_true rfl) rfl ?_
        refine r_goto (q := 23) dL_law_1173 (by decide) ?_
        exact ih (k + 1) (i + 6) _ (by omega) (by omega) (by omega) hi911
      | 25, _ =>
        refine r_tabIn (q := 920) (off := 880) dL_law_40 (by decide) (by decide) (by decide) (by decide) ?_
        refine r_aload_n (q := 921) dL_law_920 rfl rfl rfl ?_
        refine r_aload_n (q := 922) dL_law_921 rfl rfl rfl ?_
        refine r_iload (q := 924) dL_law_922 rfl rfl ?_
        refine r_iconst (q := 925) (nI 1) dL_law_924 rfl (by decide) ?_
        refine r_iaddN (q := 926) dL_law_925 rfl ?_
        refine r_sldN (q := 927) ⟨rfl, rfl⟩ dL_law_926 rfl (show i + 1 < n by omega) (show n < 2147483648 by omega) ?_
        refine r_topi (y := f (i + 1)) rfl ?_
        refine r_callV (Mc := mX11_map) (q := 930) (As := [zi (f (i + 1))]) (st := []) ck11 dL_law_927 rfl rfl mkX11_map wt1045 wt1046 wt1047 rfl (Nat.le_of_ble_eq_true rfl) (Nat.le_of_ble_eq_true rfl) (Nat.le_of_ble_eq_true rfl) (Nat.le_of_ble_eq_true rfl) (Nat.le_of_ble_eq_true rfl) (Or.inr ⟨Nat.le_of_ble_eq_true rfl, rfl, rfl⟩) (hs.e (by decide)) (h_map k S (f (i + 1)) (by omega) hI) (fun r927 S927 hp927 => ?_)
        obtain ⟨v927, rfl, hs927, hk927⟩ := hp927
        show Ok _ _ _ [zi v927] _ _
        refine r_aload_n (q := 931) dL_law_930 rfl rfl rfl ?_
        refine r_aload_n (q := 932) dL_law_931 rfl rfl rfl ?_
        refine r_iload (q := 934) dL_law_932 rfl rfl ?_
        refine r_iconst (q := 935) (nI 1) dL_law_934 rfl (by decide) ?_
        refine r_iaddN (q := 936) dL_law_935 rfl ?_
        refine r_sldN (q := 937) ⟨rfl, rfl⟩ dL_law_936 rfl (show i + 1 < n by omega) (show n < 2147483648 by omega) ?_
        refine r_topi (y := f (i + 1)) rfl ?_
        refine r_callV (Mc := mX12_map) (q := 940) (As := [zi (f (i + 1))]) (st := [zi v927]) ck12 dL_law_937 rfl rfl mkX12_map wt1944 wt1945 wt1946 rfl (Nat.le_of_ble_eq_true rfl) (Nat.le_of_ble_eq_true rfl) (Nat.le_of_ble_eq_true rfl) (Nat.le_of_ble_eq_true rfl) (Nat.le_of_ble_eq_true rfl) (Or.inl rfl) (hs927.e (by decide)) hk927 (fun r937 S937 hp937 => ?_)
        obtain ⟨rfl, hi937⟩ := hp937
        show Ok _ _ _ [zi v927, zi v927] _ _
        refine r_icmp_eq (q := 943) (t := 1170) dL_law_940 (by decide) rfl (fun h940 => ?_) (fun h940 => absurd h940 (fun z => z rfl))
        refine r_mask [true, true, true, true, true, false, false, false] rfl ?_
        refine r_iincN (q := 1173) (L' := [some (zr 77777 0), some (zr 11 0), some (zr 12 0), some (zr 5000 0), some (zi (nI (i + 6))), none, none, none]) 6 rfl dL_law_1170 rfl rfl (Nat.le_of_ble_eq_true rfl) rfl ?_
        refine r_goto (q := 23) dL_law_1173 (by decide) ?_
        exact ih (k + 1) (i + 6) _ (by omega) (by omega) (by omega) hi937
      | 26, _ =>
        refine r_tabIn (q := 945) (off := 905) dL_law_40 (by decide) (by decide) (by decide) (by decide) ?_
        refine r_aload_n (q := 946) dL_law_945 rfl rfl rfl ?_
        refine r_callV (Mc := mX11_broken) (q := 949) (As := []) (st := []) ck11 dL_law_946 rfl rfl mkX11_broken wt1076 wt1077 wt1078 rfl (Nat.le_of_ble_eq_true rfl) (Nat.le_of_ble_eq_true rfl) (Nat.le_of_ble_eq_true rfl) (Nat.le_of_ble_eq_true rfl) (Nat.le_of_ble_eq_true rfl) (Or.inl rfl) (hs.e (by decide)) (h_broken k S  (by omega) hI) (fun r946 S946 hp946 => ?_)
        obtain ⟨v946, rfl, hs946, hk946⟩ := hp946
        show Ok _ _ _ [zi v946] _ _
        refine r_aload_n (q := 950) dL_law_949 rfl rfl rfl ?_
        refine r_callV (Mc := mX12_broken) (q := 953) (As := []) (st := [zi v946]) ck12 dL_law_950 rfl rfl mkX12_broken wt1968 wt1969 wt1970 rfl (Nat.le_of_ble_eq_true rfl) (Nat.le_of_ble_eq_true rfl) (Nat.le_of_ble_eq_true rfl) (Nat.le_of_ble_eq_true rfl) (Nat.le_of_ble_eq_true rfl) (Or.inl rfl) (hs946.e (by decide)) hk946 (fun r950 S950 hp950 => ?_)
        obtain ⟨rfl, hi950⟩ := hp950
        show Ok _ _ _ [zi v946, zi v946] _ _
        refine r_icmp_eq (q := 956) (t := 1170) dL_law_953 (by decide) rfl (fun h953 => ?_) (fun h953 => absurd h953 (fun z => z rfl))
        refine r_mask [true, true, true, true, true, false, false, false] rfl ?_
        refine r_iincN (q := 1173) (L' := [some (zr 77777 0), some (zr 11 0), some (zr 12 0), some (zr 5000 0), some (zi (nI (i + 6))), none, none, none]) 6 rfl dL_law_1170 rfl rfl (Nat.le_of_ble_eq_true rfl) rfl ?_
        refine r_goto (q := 23) dL_law_1173 (by decide) ?_
        exact ih (k + 1) (i + 6) _ (by omega) (by omega) (by omega) hi950
      | 27, _ =>
        refine r_tabIn (q := 958) (off := 918) dL_law_40 (by decide) (by decide) (by decide) (by decide) ?_
        refine r_aload_n (q := 959) dL_law_958 rfl rfl rfl ?_
        refine r_aload_n (q := 960) dL_law_959 rfl rfl rfl ?_
        refine r_iload (q := 962) dL_law_960 rfl rfl ?_
        refine r_iconst (q := 963) (nI 1) dL_law_962 rfl (by decide) ?_
        refine r_iaddN (q := 964) dL_law_963 rfl ?_
        refine r_sldN (q := 965) ⟨rfl, rfl⟩ dL_law_964 rfl (show i + 1 < n by omega) (show n < 2147483648 by omega) ?_
        refine r_topi (y := f (i + 1)) rfl ?_
        refine r_callV (Mc := mX11_space) (q := 968) (As := [zi (f (i + 1))]) (st := []) ck11 dL_law_965 rfl rfl mkX11_space wt1080 wt1081 wt1082 rfl (Nat.le_of_ble_eq_true rfl) (Nat.le_of_ble_eq_true rfl) (Nat.le_of_ble_eq_true rfl) (Nat.le_of_ble_eq_true rfl) (Nat.le_of_ble_eq_true rfl) (Or.inl rfl) (hs.e (by decide)) (h_space k S (f (i + 1)) (by omega) hI) (fun r965 S965 hp965 => ?_)
        obtain ⟨v965, rfl, hs965, hk965⟩ := hp965
        show Ok _ _ _ [zi v965] _ _
        refine r_aload_n (q := 969) dL_law_968 rfl rfl rfl ?_
        refine r_aload_n (q := 970) dL_law_969 rfl rfl rfl ?_
        refine r_iload (q := 972) dL_law_970 rfl rfl ?_
        refine r_iconst (q := 973) (nI 1) dL_law_972 rfl (by decide) ?_
        refine r_iaddN (q := 974) dL_law_973 rfl ?_
        refine r_sldN (q := 975) ⟨rfl, rfl⟩ dL_law_974 rfl (show i + 1 < n by omega) (show n < 2147483648 by omega) ?_
        refine r_topi (y := f (i + 1)) rfl ?_
        refine r_callV (Mc := mX12_space) (q := 978) (As := [zi (f (i + 1))]) (st := [zi v965]) ck12 dL_law_975 rfl rfl mkX12_space wt1972 wt1973 wt1974 rfl (Nat.le_of_ble_eq_true rfl) (Nat.le_of_ble_eq_true rfl) (Nat.le_of_ble_eq_true rfl) (Nat.le_of_ble_eq_true rfl) (Nat.le_of_ble_eq_true rfl) (Or.inl rfl) (hs965.e (by decide)) hk965 (fun r975 S975 hp975 => ?_)
        obtain ⟨rfl, hi975⟩ := hp975
        show Ok _ _ _ [zi v965, zi v965] _ _
        refine r_icmp_eq (q := 981) (t := 1170) dL_law_978 (by decide) rfl (fun h978 => ?_) (fun h978 => absurd h978 (fun z => z rfl))
        refine r_mask [true, true, true, true, true, false, false, false] rfl ?_
        refine r_iincN (q := 1173) (L' := [some (zr 77777 0), some (zr 11 0), some (zr 12 0), some (zr 5000 0), some (zi (nI (i + 6))), none, none, none]) 6 rfl dL_law_1170 rfl rfl (Nat.le_of_ble_eq_true rfl) rfl ?_
        refine r_goto (q := 23) dL_law_1173 (by decide) ?_
        exact ih (k + 1) (i + 6) _ (by omega) (by omega) (by omega) hi975
      | 28, _ =>
        refine r_tabIn (q := 983) (off := 943) dL_law_40 (by decide) (by decide) (by decide) (by decide) ?_
        refine r_aload_n (q := 984) dL_law_983 rfl rfl rfl ?_
        refine r_aload_n (q := 985) dL_law_984 rfl rfl rfl ?_
        refine r_iload (q := 987) dL_law_985 rfl rfl ?_
        refine r_iconst (q := 988) (nI 1) dL_law_987 rfl (by decide) ?_
        refine r_iaddN (q := 989) dL_law_988 rfl ?_
        refine r_sldN (q := 990) ⟨rfl, rfl⟩ dL_law_989 rfl (show i + 1 < n by omega) (show n < 2147483648 by omega) ?_
        refine r_topi (y := f (i + 1)) rfl ?_
        refine r_callV (Mc := mX11_table) (q := 993) (As := [zi (f (i + 1))]) (st := []) ck11 dL_law_990 rfl rfl mkX11_table wt1084 wt1085 wt1086 rfl (Nat.le_of_ble_eq_true rfl) (Nat.le_of_ble_eq_true rfl) (Nat.le_of_ble_eq_true rfl) (Nat.le_of_ble_eq_true rfl) (Nat.le_of_ble_eq_true rfl) (Or.inl rfl) (hs.e (by decide)) (h_table k S (f (i + 1)) (by omega) hI) (fun r990 S990 hp990 => ?_)
        obtain ⟨v990, rfl, hs990, hk990⟩ := hp990
        show Ok _ _ _ [zi v990] _ _
        refine r_aload_n (q := 994) dL_law_993 rfl rfl rfl ?_
        refine r_aload_n (q := 995) dL_law_994 rfl rfl rfl ?_
        refine r_iload (q := 997) dL_law_995 rfl rfl ?_
        refine r_iconst (q := 998) (nI 1) dL_law_997 rfl (by decide) ?_
        refine r_iaddN (q := 999) dL_law_998 rfl ?_
        refine r_sldN (q := 1000) ⟨rfl, rfl⟩ dL_law_999 rfl (show i + 1 < n by omega) (show n < 2147483648 by omega) ?_
        refine r_topi (y := f (i + 1)) rfl ?_
        refine r_callV (Mc := mX12_table) (q := 1003) (As := [zi (f (i + 1))]) (st := [zi v990]) ck12 dL_law_1000 rfl rfl mkX12_table wt1976 wt1977 wt1978 rfl (Nat.le_of_ble_eq_true rfl) (Nat.le_of_ble_eq_true rfl) (Nat.le_of_ble_eq_true rfl) (Nat.le_of_ble_eq_true rfl) (Nat.le_of_ble_eq_true rfl) (Or.inl rfl) (hs990.e (by decide)) hk990 (fun r1000 S1000 hp1000 => ?_)
        obtain ⟨rfl, hi1000⟩ := hp1000
        show Ok _ _ _ [zi v990, zi v990] _ _
        refine r_icmp_eq (q := 1006) (t := 1170) dL_law_1003 (by decide) rfl (fun h1003 => ?_) (fun h1003 => absurd h1003 (fun z => z rfl))
        refine r_mask [true, true, true, true, true, false, false, false] rfl ?_
        refine r_iincN (q := 1173) (L' := [some (zr 77777 0), some (zr 11 0), some (zr 12 0), some (zr 5000 0), some (zi (nI (i + 6))), none, none, none]) 6 rfl dL_law_1170 rfl rfl (Nat.le_of_ble_eq_true rfl) rfl ?_
        refine r_goto (q := 23) dL_law_1173 (by decide) ?_
        exact ih (k + 1) (i + 6) _ (by omega) (by omega) (by omega) hi1000
      | 29, _ =>
        refine r_tabIn (q := 1008) (off := 968) dL_law_40 (by decide) (by decide) (by decide) (by decide) ?_
        refine r_aload_n (q := 1009) dL_law_1008 rfl rfl rfl ?_
        refine r_aload_n (q := 1010) dL_law_1009 rfl rfl rfl ?_
        refine r_iload (q := 1012) dL_law_1010 rfl rfl ?_
        refine r_iconst (q := 1013) (nI 1) dL_law_1012 rfl (by decide) ?_
        refine r_iaddN (q := 1014) dL_law_1013 rfl ?_
        refine r_sldN (q := 1015) ⟨rfl, rfl⟩ dL_law_1014 rfl (show i + 1 < n by omega) (show n < 2147483648 by omega) ?_
        refine r_topi (y := f (i + 1)) rfl ?_
        refine r_callV (Mc := mX11_holds) (q := 1018) (As := [zi (f (i + 1))]) (st := []) ck11 dL_law_1015 rfl rfl mkX11_holds wt1095 wt1096 wt1097 rfl (Nat.le_of_ble_eq_true rfl) (Nat.le_of_ble_eq_true rfl) (Nat.le_of_ble_eq_true rfl) (Nat.le_of_ble_eq_true rfl) (Nat.le_of_ble_eq_true rfl) (Or.inr ⟨Nat.le_of_ble_eq_true rfl, rfl, rfl⟩) (hs.e (by decide)) (h_holds k S (f (i + 1)) (by omega) hI) (fun r1015 S1015 hp1015 => ?_)
        obtain ⟨v1015, rfl, hs1015, hk1015⟩ := hp1015
        show Ok _ _ _ [zi v1015] _ _
        refine r_aload_n (q := 1019) dL_law_1018 rfl rfl rfl ?_
        refine r_aload_n (q := 1020) dL_law_1019 rfl rfl rfl ?_
        refine r_iload (q := 1022) dL_law_1020 rfl rfl ?_
        refine r_iconst (q := 1023) (nI 1) dL_law_1022 rfl (by decide) ?_
        refine r_iaddN (q := 1024) dL_law_1023 rfl ?_
        refine r_sldN (q := 1025) ⟨rfl, rfl⟩ dL_law_1024 rfl (show i + 1 < n by omega) (show n < 2147483648 by omega) ?_
        refine r_topi (y := f (i + 1)) rfl ?_
        refine r_callV (Mc := mX12_holds) (q := 1028) (As := [zi (f (i + 1))]) (st := [zi v1015]) ck12 dL_law_1025 rfl rfl mkX12_holds wt1988 wt1989 wt1990 rfl (Nat.le_of_ble_eq_true rfl) (Nat.le_of_ble_eq_true rfl) (Nat.le_of_ble_eq_true rfl) (Nat.le_of_ble_eq_true rfl) (Nat.le_of_ble_eq_true rfl) (Or.inl rfl) (hs1015.e (by decide)) hk1015 (fun r1025 S1025 hp1025 => ?_)
        obtain ⟨rfl, hi1025⟩ := hp1025
        show Ok _ _ _ [zi v1015, zi v1015] _ _
        refine r_icmp_eq (q := 1031) (t := 1170) dL_law_1028 (by decide) rfl (fun h1028 => ?_) (fun h1028 => absurd h1028 (fun z => z rfl))
        refine r_mask [true, true, true, true, true, false, false, false] rfl ?_
        refine r_iincN (q := 1173) (L' := [some (zr 77777 0), some (zr 11 0), some (zr 12 0), some (zr 5000 0), some (zi (nI (i + 6))), none, none, none]) 6 rfl dL_law_1170 rfl rfl (Nat.le_of_ble_eq_true rfl) rfl ?_
        refine r_goto (q := 23) dL_law_1173 (by decide) ?_
        exact ih (k + 1) (i + 6) _ (by omega) (by omega) (by omega) hi1025
      | 30, _ =>
        refine r_tabIn (q := 1033) (off := 993) dL_law_40 (by decide) (by decide) (by decide) (by decide) ?_
        refine r_aload_n (q := 1034) dL_law_1033 rfl rfl rfl ?_
        refine r_aload_n (q := 1035) dL_law_1034 rfl rfl rfl ?_
        refine r_iload (q := 1037) dL_law_1035 rfl rfl ?_
        refine r_iconst (q := 1038) (nI 1) dL_law_1037 rfl (by decide) ?_
        refine r_iaddN (q := 1039) dL_law_1038 rfl ?_
        refine r_sldN (q := 1040) ⟨rfl, rfl⟩ dL_law_1039 rfl (show i + 1 < n by omega) (show n < 2147483648 by omega) ?_
        refine r_topi (y := f (i + 1)) rfl ?_
        refine r_callV (Mc := mX11_done) (q := 1043) (As := [zi (f (i + 1))]) (st := []) ck11 dL_law_1040 rfl rfl mkX11_done wt1125 wt1126 wt1127 rfl (Nat.le_of_ble_eq_true rfl) (Nat.le_of_ble_eq_true rfl) (Nat.le_of_ble_eq_true rfl) (Nat.le_of_ble_eq_true rfl) (Nat.le_of_ble_eq_true rfl) (Or.inl rfl) (hs.e (by decide)) (h_done k S (f (i + 1)) (by omega) hI) (fun r1040 S1040 hp1040 => ?_)
        obtain ⟨v1040, rfl, hs1040, hk1040⟩ := hp1040
        show Ok _ _ _ [zi v1040] _ _
        refine r_aload_n (q := 1044) dL_law_1043 rfl rfl rfl ?_
        refine r_aload_n (q := 1045) dL_law_1044 rfl rfl rfl ?_
        refine r_iload (q := 1047) dL_law_1045 rfl rfl ?_
        refine r_iconst (q := 1048) (nI 1) dL_law_1047 rfl (by decide) ?_
        refine r_iaddN (q := 1049) dL_law_1048 rfl ?_
        refine r_sldN (q := 1050) ⟨rfl, rfl⟩ dL_law_1049 rfl (show i + 1 < n by omega) (show n < 2147483648 by omega) ?_
        refine r_topi (y := f (i + 1)) rfl ?_
        refine r_callV (Mc := mX12_done) (q := 1053) (As := [zi (f (i + 1))]) (st := [zi v1040]) ck12 dL_law_1050 rfl rfl mkX12_done wt1996 wt1997 wt1998 rfl (Nat.le_of_ble_eq_true rfl) (Nat.le_of_ble_eq_true rfl) (Nat.le_of_ble_eq_true rfl) (Nat.le_of_ble_eq_true rfl) (Nat.le_of_ble_eq_true rfl) (Or.inl rfl) (hs1040.e (by decide)) hk1040 (fun r1050 S1050 hp1050 => ?_)
        obtain ⟨rfl, hi1050⟩ := hp1050
        show Ok _ _ _ [zi v1040, zi v1040] _ _
        refine r_icmp_eq (q := 1056) (t := 1170) dL_law_1053 (by decide) rfl (fun h1053 => ?_) (fun h1053 => absurd h1053 (fun z => z rfl))
        refine r_mask [true, true, true, true, true, false, false, false] rfl ?_
        refine r_iincN (q := 1173) (L' := [some (zr 77777 0), some (zr 11 0), some (zr 12 0), some (zr 5000 0), some (zi (nI (i + 6))), none, none, none]) 6 rfl dL_law_1170 rfl rfl (Nat.le_of_ble_eq_true rfl) rfl ?_
        refine r_goto (q := 23) dL_law_1173 (by decide) ?_
        exact ih (k + 1) (i + 6) _ (by omega) (by omega) (by omega) hi1050
      | 31, _ =>
        refine r_tabIn (q := 1058) (off := 1018) dL_law_40 (by decide) (by decide) (by decide) (by decide) ?_
        refine r_aload_n (q := 1059) dL_law_1058 rfl rfl rfl ?_
        refine r_aload_n (q := 1060) dL_law_1059 rfl rfl rfl ?_
        refine r_iload (q := 1062) dL_law_1060 rfl rfl ?_
        refine r_iconst (q := 1063) (nI 1) dL_law_1062 rfl (by decide) ?_
        refine r_iaddN (q := 1064) dL_law_1063 rfl ?_
        refine r_sldN (q := 1065) ⟨rfl, rfl⟩ dL_law_1064 rfl (show i + 1 < n by omega) (show n < 2147483648 by omega) ?_
        refine r_topi (y := f (i + 1)) rfl ?_
        refine r_aload_n (q := 1066) dL_law_1065 rfl rfl rfl ?_
        refine r_iload (q := 1068) dL_law_1066 rfl rfl ?_
        refine r_iconst (q := 1069) (nI 2) dL_law_1068 rfl (by decide) ?_
        refine r_iaddN (q := 1070) dL_law_1069 rfl ?_
        refine r_sldN (q := 1071) ⟨rfl, rfl⟩ dL_law_1070 rfl (show i + 2 < n by omega) (show n < 2147483648 by omega) ?_
        refine r_topi (y := f (i + 2)) rfl ?_
        refine r_callV (Mc := mX11_drawn) (q := 1074) (As := [zi (f (i + 1)), zi (f (i + 2))]) (st := []) ck11 dL_law_1071 rfl rfl mkX11_drawn wt1142 wt1143 wt1144 rfl (Nat.le_of_ble_eq_true rfl) (Nat.le_of_ble_eq_true rfl) (Nat.le_of_ble_eq_true rfl) (Nat.le_of_ble_eq_true rfl) (Nat.le_of_ble_eq_true rfl) (Or.inr ⟨Nat.le_of_ble_eq_true rfl, rfl, rfl⟩) (hs.e (by decide)) (h_drawn k S (f (i + 1)) (f (i + 2)) (by omega) hI) (fun r1071 S1071 hp1071 => ?_)
        obtain ⟨v1071, rfl, hs1071, hk1071⟩ := hp1071
        show Ok _ _ _ [zi v1071] _ _
        refine r_aload_n (q := 1075) dL_law_1074 rfl rfl rfl ?_
        refine r_aload_n (q := 1076) dL_law_1075 rfl rfl rfl ?_
        refine r_iload (q := 1078) dL_law_1076 rfl rfl ?_
        refine r_iconst (q := 1079) (nI 1) dL_law_1078 rfl (by decide) ?_
        refine r_iaddN (q := 1080) dL_law_1079 rfl ?_
        refine r_sldN (q := 1081) ⟨rfl, rfl⟩ dL_law_1080 rfl (show i + 1 < n by omega) (show n < 2147483648 by omega) ?_
        refine r_topi (y := f (i + 1)) rfl ?_
        refine r_aload_n (q := 1082) dL_law_1081 rfl rfl rfl ?_
        refine r_iload (q := 1084) dL_law_1082 rfl rfl ?_
        refine r_iconst (q := 1085) (nI 2) dL_law_1084 rfl (by decide) ?_
        refine r_iaddN (q := 1086) dL_law_1085 rfl ?_
        refine r_sldN (q := 1087) ⟨rfl, rfl⟩ dL_law_1086 rfl (show i + 2 < n by omega) (show n < 2147483648 by omega) ?_
        refine r_topi (y := f (i + 2)) rfl ?_
        refine r_callV (Mc := mX12_drawn) (q := 1090) (As := [zi (f (i + 1)), zi (f (i + 2))]) (st := [zi v1071]) ck12 dL_law_1087 rfl rfl mkX12_drawn wt2000 wt2001 wt2002 rfl (Nat.le_of_ble_eq_true rfl) (Nat.le_of_ble_eq_true rfl) (Nat.le_of_ble_eq_true rfl) (Nat.le_of_ble_eq_true rfl) (Nat.le_of_ble_eq_true rfl) (Or.inl rfl) (hs1071.e (by decide)) hk1071 (fun r1087 S1087 hp1087 => ?_)
        obtain ⟨rfl, hi1087⟩ := hp1087
        show Ok _ _ _ [zi v1071, zi v1071] _ _
        refine r_icmp_eq (q := 1093) (t := 1170) dL_law_1090 (by decide) rfl (fun h1090 => ?_) (fun h1090 => absurd h1090 (fun z => z rfl))
        refine r_mask [true, true, true, true, true, false, false, false] rfl ?_
        refine r_iincN (q := 1173) (L' := [some (zr 77777 0), some (zr 11 0), some (zr 12 0), some (zr 5000 0), some (zi (nI (i + 6))), none, none, none]) 6 rfl dL_law_1170 rfl rfl (Nat.le_of_ble_eq_true rfl) rfl ?_
        refine r_goto (q := 23) dL_law_1173 (by decide) ?_
        exact ih (k + 1) (i + 6) _ (by omega) (by omega) (by omega) hi1087
      | 32, _ =>
        refine r_tabIn (q := 1095) (off := 1055) dL_law_40 (by decide) (by decide) (by decide) (by decide) ?_
        refine r_aload_n (q := 1096) dL_law_1095 rfl rfl rfl ?_
        refine r_aload_n (q := 1097) dL_law_1096 rfl rfl rfl ?_
        refine r_iload (q := 1099) dL_law_1097 rfl rfl ?_
        refine r_iconst (q := 1100) (nI 1) dL_law_1099 rfl (by decide) ?_
        refine r_iaddN (q := 1101) dL_law_1100 rfl ?_
        refine r_sldN (q := 1102) ⟨rfl, rfl⟩ dL_law_1101 rfl (show i + 1 < n by omega) (show n < 2147483648 by omega) ?_
        refine r_topi (y := f (i + 1)) rfl ?_
        refine r_callV (Mc := mX11_image) (q := 1105) (As := [zi (f (i + 1))]) (st := []) ck11 dL_law_1102 rfl rfl mkX11_image wt1149 wt1150 wt1151 rfl (Nat.le_of_ble_eq_true rfl) (Nat.le_of_ble_eq_true rfl) (Nat.le_of_ble_eq_true rfl) (Nat.le_of_ble_eq_true rfl) (Nat.le_of_ble_eq_true rfl) (Or.inr ⟨Nat.le_of_ble_eq_true rfl, rfl, rfl⟩) (hs.e (by decide)) (h_image k S (f (i + 1)) (by omega) hI) (fun r1102 S1102 hp1102 => ?_)
        obtain ⟨v1102, rfl, hs1102, hk1102⟩ := hp1102
        show Ok _ _ _ [zi v1102] _ _
        refine r_aload_n (q := 1106) dL_law_1105 rfl rfl rfl ?_
        refine r_aload_n (q := 1107) dL_law_1106 rfl rfl rfl ?_
        refine r_iload (q := 1109) dL_law_1107 rfl rfl ?_
        refine r_iconst (q := 1110) (nI 1) dL_law_1109 rfl (by decide) ?_
        refine r_iaddN (q := 1111) dL_law_1110 rfl ?_
        refine r_sldN (q := 1112) ⟨rfl, rfl⟩ dL_law_1111 rfl (show i + 1 < n by omega) (show n < 2147483648 by omega) ?_
        refine r_topi (y := f (i + 1)) rfl ?_
        refine r_callV (Mc := mX12_image) (q := 1115) (As := [zi (f (i + 1))]) (st := [zi v1102]) ck12 dL_law_1112 rfl rfl mkX12_image wt2009 wt2010 wt2011 rfl (Nat.le_of_ble_eq_true rfl) (Nat.le_of_ble_eq_true rfl) (Nat.le_of_ble_eq_true rfl) (Nat.le_of_ble_eq_true rfl) (Nat.le_of_ble_eq_true rfl) (Or.inl rfl) (hs1102.e (by decide)) hk1102 (fun r1112 S1112 hp1112 => ?_)
        obtain ⟨rfl, hi1112⟩ := hp1112
        show Ok _ _ _ [zi v1102, zi v1102] _ _
        refine r_icmp_eq (q := 1118) (t := 1170) dL_law_1115 (by decide) rfl (fun h1115 => ?_) (fun h1115 => absurd h1115 (fun z => z rfl))
        refine r_mask [true, true, true, true, true, false, false, false] rfl ?_
        refine r_iincN (q := 1173) (L' := [some (zr 77777 0), some (zr 11 0), some (zr 12 0), some (zr 5000 0), some (zi (nI (i + 6))), none, none, none]) 6 rfl dL_law_1170 rfl rfl (Nat.le_of_ble_eq_true rfl) rfl ?_
        refine r_goto (q := 23) dL_law_1173 (by decide) ?_
        exact ih (k + 1) (i + 6) _ (by omega) (by omega) (by omega) hi1112
      | 33, _ =>
        refine r_tabIn (q := 1120) (off := 1080) dL_law_40 (by decide) (by decide) (by decide) (by decide) ?_
        refine r_aload_n (q := 1121) dL_law_1120 rfl rfl rfl ?_
        refine r_aload_n (q := 1122) dL_law_1121 rfl rfl rfl ?_
        refine r_iload (q := 1124) dL_law_1122 rfl rfl ?_
        refine r_iconst (q := 1125) (nI 1) dL_law_1124 rfl (by decide) ?_
        refine r_iaddN (q := 1126) dL_law_1125 rfl ?_
        refine r_sldN (q := 1127) ⟨rfl, rfl⟩ dL_law_1126 rfl (show i + 1 < n by omega) (show n < 2147483648 by omega) ?_
        refine r_topi (y := f (i + 1)) rfl ?_
        refine r_callV (Mc := mX11_restore) (q := 1130) (As := [zi (f (i + 1))]) (st := []) ck11 dL_law_1127 rfl rfl mkX11_restore wt1158 wt1159 wt1160 rfl (Nat.le_of_ble_eq_true rfl) (Nat.le_of_ble_eq_true rfl) (Nat.le_of_ble_eq_true rfl) (Nat.le_of_ble_eq_true rfl) (Nat.le_of_ble_eq_true rfl) (Or.inr ⟨Nat.le_of_ble_eq_true rfl, rfl, rfl⟩) (hs.e (by decide)) (h_restore k S (f (i + 1)) (by omega) hI) (fun r1127 S1127 hp1127 => ?_)
        obtain ⟨v1127, rfl, hs1127, hk1127⟩ := hp1127
        show Ok _ _ _ [zi v1127] _ _
        refine r_aload_n (q := 1131) dL_law_1130 rfl rfl rfl ?_
        refine r_aload_n (q := 1132) dL_law_1131 rfl rfl rfl ?_
        refine r_iload (q := 1134) dL_law_1132 rfl rfl ?_
        refine r_iconst (q := 1135) (nI 1) dL_law_1134 rfl (by decide) ?_
        refine r_iaddN (q := 1136) dL_law_1135 rfl ?_
        refine r_sldN (q := 1137) ⟨rfl, rfl⟩ dL_law_1136 rfl (show i + 1 < n by omega) (show n < 2147483648 by omega) ?_
        refine r_topi (y := f (i + 1)) rfl ?_
        refine r_callV (Mc := mX12_restore) (q := 1140) (As := [zi (f (i + 1))]) (st := [zi v1127]) ck12 dL_law_1137 rfl rfl mkX12_restore wt2013 wt2014 wt2015 rfl (Nat.le_of_ble_eq_true rfl) (Nat.le_of_ble_eq_true rfl) (Nat.le_of_ble_eq_true rfl) (Nat.le_of_ble_eq_true rfl) (Nat.le_of_ble_eq_true rfl) (Or.inl rfl) (hs1127.e (by decide)) hk1127 (fun r1137 S1137 hp1137 => ?_)
        obtain ⟨rfl, hi1137⟩ := hp1137
        show Ok _ _ _ [zi v1127, zi v1127] _ _
        refine r_icmp_eq (q := 1143) (t := 1170) dL_law_1140 (by decide) rfl (fun h1140 => ?_) (fun h1140 => absurd h1140 (fun z => z rfl))
        refine r_mask [true, true, true, true, true, false, false, false] rfl ?_
        refine r_iincN (q := 1173) (L' := [some (zr 77777 0), some (zr 11 0), some (zr 12 0), some (zr 5000 0), some (zi (nI (i + 6))), none, none, none]) 6 rfl dL_law_1170 rfl rfl (Nat.le_of_ble_eq_true rfl) rfl ?_
        refine r_goto (q := 23) dL_law_1173 (by decide) ?_
        exact ih (k + 1) (i + 6) _ (by omega) (by omega) (by omega) hi1137
      | 34, _ =>
        refine r_tabIn (q := 1145) (off := 1105) dL_law_40 (by decide) (by decide) (by decide) (by decide) ?_
        refine r_aload_n (q := 1146) dL_law_1145 rfl rfl rfl ?_
        refine r_aload_n (q := 1147) dL_law_1146 rfl rfl rfl ?_
        refine r_iload (q := 1149) dL_law_1147 rfl rfl ?_
        refine r_iconst (q := 1150) (nI 1) dL_law_1149 rfl (by decide) ?_
        refine r_iaddN (q := 1151) dL_law_1150 rfl ?_
        refine r_sldN (q := 1152) ⟨rfl, rfl⟩ dL_law_1151 rfl (show i + 1 < n by omega) (show n < 2147483648 by omega) ?_
        refine r_topi (y := f (i + 1)) rfl ?_
        refine r_callV (Mc := mX11_count) (q := 1155) (As := [zi (f (i + 1))]) (st := []) ck11 dL_law_1152 rfl rfl mkX11_count wt1162 wt1163 wt1164 rfl (Nat.le_of_ble_eq_true rfl) (Nat.le_of_ble_eq_true rfl) (Nat.le_of_ble_eq_true rfl) (Nat.le_of_ble_eq_true rfl) (Nat.le_of_ble_eq_true rfl) (Or.inl rfl) (hs.e (by decide)) (h_count k S (f (i + 1)) (by omega) hI) (fun r1152 S1152 hp1152 => ?_)
        obtain ⟨v1152, rfl, hs1152, hk1152⟩ := hp1152
        show Ok _ _ _ [zi v1152] _ _
        refine r_aload_n (q := 1156) dL_law_1155 rfl rfl rfl ?_
        refine r_aload_n (q := 1157) dL_law_1156 rfl rfl rfl ?_
        refine r_iload (q := 1159) dL_law_1157 rfl rfl ?_
        refine r_iconst (q := 1160) (nI 1) dL_law_1159 rfl (by decide) ?_
        refine r_iaddN (q := 1161) dL_law_1160 rfl ?_
        refine r_sldN (q := 1162) ⟨rfl, rfl⟩ dL_law_1161 rfl (show i + 1 < n by omega) (show n < 2147483648 by omega) ?_
        refine r_topi (y := f (i + 1)) rfl ?_
        refine r_callV (Mc := mX12_count) (q := 1165) (As := [zi (f (i + 1))]) (st := [zi v1152]) ck12 dL_law_1162 rfl rfl mkX12_count wt2017 wt2018 wt2019 rfl (Nat.le_of_ble_eq_true rfl) (Nat.le_of_ble_eq_true rfl) (Nat.le_of_ble_eq_true rfl) (Nat.le_of_ble_eq_true rfl) (Nat.le_of_ble_eq_true rfl) (Or.inl rfl) (hs1152.e (by decide)) hk1152 (fun r1162 S1162 hp1162 => ?_)
        obtain ⟨rfl, hi1162⟩ := hp1162
        show Ok _ _ _ [zi v1152, zi v1152] _ _
        refine r_icmp_eq (q := 1168) (t := 1170) dL_law_1165 (by decide) rfl (fun h1165 => ?_) (fun h1165 => absurd h1165 (fun z => z rfl))
        refine r_mask [true, true, true, true, true, false, false, false] rfl ?_
        refine r_iincN (q := 1173) (L' := [some (zr 77777 0), some (zr 11 0), some (zr 12 0), some (zr 5000 0), some (zi (nI (i + 6))), none, none, none]) 6 rfl dL_law_1170 rfl rfl (Nat.le_of_ble_eq_true rfl) rfl ?_
        refine r_goto (q := 23) dL_law_1173 (by decide) ?_
        exact ih (k + 1) (i + 6) _ (by omega) (by omega) (by omega) hi1162
      | c + 35, hc =>
        refine r_tabOut (q := 1170) dL_law_40 (Or.inr (by rw [nI_toInt (by omega)]; omega)) (by decide) ?_
        have hidle := hstay k S hI
        refine r_mask [true, true, true, true, true, false, false, false] rfl ?_
        refine r_iincN (q := 1173) (L' := [some (zr 77777 0), some (zr 11 0), some (zr 12 0), some (zr 5000 0), some (zi (nI (i + 6))), none, none, none]) 6 rfl dL_law_1170 rfl rfl (Nat.le_of_ble_eq_true rfl) rfl ?_
        refine r_goto (q := 23) dL_law_1173 (by decide) ?_
        exact ih (k + 1) (i + 6) _ (by omega) (by omega) (by omega) hidle
