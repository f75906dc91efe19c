def tBg (a b k : Nat) : Bool := (a == 500 || a == 501 || a == 502 || a == 4 && (k == 3 || k == 4 || k == 5 || k == 6 || k == 7 || k == 14 || k == 15)) && b == 0
theorem tBg_rk (a b k : Nat) (h : tRk a b k = true) : tBg a b k = true := by
  simp [tRk] at h
  simp [tBg]
  omega
theorem Bs.fr {S S1 : zS} {bs : List Nat} {T : Nat → Nat → Nat → Bool} (h : Bs S 1200 bs) (f : Fr T S S1) (ht : ∀ k, T 1200 0 k = false) : Bs S1 1200 bs := ⟨fun k hk => (f.1 _ _ _ (ht k)).trans (h.1 k hk), h.2⟩
/-- the reader stands at ts, the rest of all tokens -/
def Rc (S : zS) (ts : List zTk) : Prop := ∃ (all : List zTk) (i : Nat), i < all.length ∧ all.length ≤ 941 ∧ ts = all.drop i ∧ gI S 4 0 3 = nI all.length ∧ gI S 4 0 4 = nI i ∧ Ka S all ∧ gI S 4 0 5 = nI (hdT ts).1 ∧ gI S 4 0 6 = nI (hdT ts).2.1 ∧ ((hdT ts).1 = 2 ∨ (hdT ts).1 = 3 → gJ S 4 0 7 = lN (hdT ts).2.2)
theorem hd_drop {all : List zTk} {i : Nat} (h : i < all.length) : hdT (all.drop i) = all.getD i t0 := by
  rw [List.drop_eq_getElem_cons h, List.getD_eq_getElem?_getD, List.getElem?_eq_getElem h]; rfl
theorem adv_drop {all : List zTk} {i : Nat} (h : i < all.length) : adv (all.drop i) = if i + 1 < all.length then all.drop (i + 1) else all.drop i := by
  rw [List.drop_eq_getElem_cons h]
  by_cases h2 : i + 1 < all.length
  · rw [if_pos h2, List.drop_eq_getElem_cons h2]; rfl
  · rw [if_neg h2, List.drop_eq_nil_of_le (by omega)]; rfl
theorem aln_d {c : Nat} (h : aln c = true) (hn : ¬ sml c = true) : dgt c = true := by
  rw [aln, Bool.or_eq_true] at h
  exact h.resolve_left hn
theorem aln_n {c : Nat} (h : ¬ aln c = true) : sml c = false ∧ dgt c = false := by
  have na : aln c = false := by simpa using h
  rw [aln, Bool.or_eq_false_iff] at na
  exact na
theorem aln_take : ∀ (u : List Nat) (c : Nat), c ∈ u.take (arun u) → aln c = true
  | [], c, h => by simp at h
  | x :: r, c, h => by
    rw [arun] at h
    split at h
    · rename_i hx
      rw [List.take_succ_cons] at h
      rcases List.mem_cons.mp h with rfl | h
      · exact hx
      · exact aln_take r c h
    · simp at h
def tAv (a b k : Nat) : Bool := a == 4 && b == 0 && (k == 4 || k == 5 || k == 6 || k == 7)

set_option maxRecDepth 100000 in
theorem ok_advance_go {S : zS} (hs : Sd S) {n i : Nat} (hn9 : n ≤ 941) (hn : gI S 4 0 3 = nI n) (hi : gI S 4 0 4 = nI i) (hin : i + 1 < n) : Ok mX4_advance 0 (ent 1 [zr 4 0]) [] S (fun r S1 => r = none ∧ Fr tAv S S1 ∧ gI S1 4 0 4 = nI (i + 1) ∧ gI S1 4 0 5 = gI S 500 0 (i + 1) ∧ gI S1 4 0 6 = gI S 501 0 (i + 1) ∧ gJ S1 4 0 7 = gJ S 502 0 (i + 1)) := by
  show Ok mX4_advance 0 [some (zr 4 0)] [] S _
  refine r_aload_n (q := 1) dX4_advance_0 rfl rfl rfl ?_
  refine r_geti (q := 4) ck4 dX4_advance_1 rfl (k := 4) (by decide) wt125 (Or.inl rfl) (hs.e (by decide)) ?_
  refine r_topi (y := nI i) hi ?_
  refine r_iconst (q := 5) (nI 1) dX4_advance_4 rfl (by decide) ?_
  refine r_iaddN (q := 6) dX4_advance_5 rfl ?_
  refine r_aload_n (q := 7) dX4_advance_6 rfl rfl rfl ?_
  refine r_geti (q := 10) ck4 dX4_advance_7 rfl (k := 3) (by decide) wt124 (Or.inl rfl) (hs.e (by decide)) ?_
  refine r_topi (y := nI n) hn ?_
  refine r_icmp_geN (q := 13) (t := 23) (by omega) (by omega) dX4_advance_10 (by decide) rfl (fun h10 => absurd h10 (by omega)) (fun h10 => ?_)
  refine r_aload_n (q := 14) dX4_advance_13 rfl rfl rfl ?_
  refine r_dup (q := 15) dX4_advance_14 rfl rfl ?_
  refine r_geti (q := 18) ck4 dX4_advance_15 rfl (k := 4) (by decide) wt125 (Or.inl rfl) (hs.e (by decide)) ?_
  refine r_topi (y := nI i) hi ?_
  refine r_iconst (q := 19) (nI 1) dX4_advance_18 rfl (by decide) ?_
  refine r_iaddN (q := 20) dX4_advance_19 rfl ?_
  refine r_puti (q := 23) ck4 dX4_advance_20 rfl (k := 4) (by decide) wt125 (Or.inl rfl) rfl (hs.e (by decide)) ?_
  refine r_aload_n (q := 24) dX4_advance_23 rfl rfl rfl ?_
  refine r_aload_n (q := 25) dX4_advance_24 rfl rfl rfl ?_
  refine r_getr (q := 28) (some (500, 0)) ck4 dX4_advance_25 rfl (k := 0) (by decide) wt121 rfl (hs.e (by decide)) (hs.r (by decide) (by decide)) ?_
  refine r_aload_n (q := 29) dX4_advance_28 rfl rfl rfl ?_
  refine r_geti (q := 32) ck4 dX4_advance_29 rfl (k := 4) (by decide) wt125 (Or.inl rfl) (hs.e (by decide)) ?_
  refine r_topi (y := nI (i + 1)) (by simp [gI_sI, gJ_sJ, gI_sJ, gJ_sI]) ?_
  refine r_ialdN (q := 33) 941 (by decide) rfl dX4_advance_32 rfl (hs.e (by decide)) (hs.n rfl (by decide)) (by omega) (by decide) ?_
  refine r_topi (y := gI S 500 0 (i + 1)) (by simp [gI_sI, gJ_sJ, gI_sJ, gJ_sI]) ?_
  refine r_puti (q := 36) ck4 dX4_advance_33 rfl (k := 5) (by decide) wt126 (Or.inl rfl) rfl (hs.e (by decide)) ?_
  refine r_aload_n (q := 37) dX4_advance_36 rfl rfl rfl ?_
  refine r_aload_n (q := 38) dX4_advance_37 rfl rfl rfl ?_
  refine r_getr (q := 41) (some (501, 0)) ck4 dX4_advance_38 rfl (k := 1) (by decide) wt122 rfl (hs.e (by decide)) (hs.r (by decide) (by decide)) ?_
  refine r_aload_n (q := 42) dX4_advance_41 rfl rfl rfl ?_
  refine r_geti (q := 45) ck4 dX4_advance_42 rfl (k := 4) (by decide) wt125 (Or.inl rfl) (hs.e (by decide)) ?_
  refine r_topi (y := nI (i + 1)) (by simp [gI_sI, gJ_sJ, gI_sJ, gJ_sI]) ?_
  refine r_ialdN (q := 46) 941 (by decide) rfl dX4_advance_45 rfl (hs.e (by decide)) (hs.n rfl (by decide)) (by omega) (by decide) ?_
  refine r_topi (y := gI S 501 0 (i + 1)) (by simp [gI_sI, gJ_sJ, gI_sJ, gJ_sI]) ?_
  refine r_puti (q := 49) ck4 dX4_advance_46 rfl (k := 6) (by decide) wt127 (Or.inl rfl) rfl (hs.e (by decide)) ?_
  refine r_aload_n (q := 50) dX4_advance_49 rfl rfl rfl ?_
  refine r_aload_n (q := 51) dX4_advance_50 rfl rfl rfl ?_
  refine r_getr (q := 54) (some (502, 0)) ck4 dX4_advance_51 rfl (k := 2) (by decide) wt123 rfl (hs.e (by decide)) (hs.r (by decide) (by decide)) ?_
  refine r_aload_n (q := 55) dX4_advance_54 rfl rfl rfl ?_
  refine r_geti (q := 58) ck4 dX4_advance_55 rfl (k := 4) (by decide) wt125 (Or.inl rfl) (hs.e (by decide)) ?_
  refine r_topi (y := nI (i + 1)) (by simp [gI_sI, gJ_sJ, gI_sJ, gJ_sI]) ?_
  refine r_laldN (q := 59) 941 (by decide) rfl dX4_advance_58 rfl (hs.e (by decide)) (hs.n rfl (by decide)) (by omega) (by decide) ?_
  refine r_topl (y := gJ S 502 0 (i + 1)) (by simp [gI_sI, gJ_sJ, gI_sJ, gJ_sI]) ?_
  refine r_putl (q := 62) ck4 dX4_advance_59 rfl (k := 7) (by decide) wt128 (Or.inl rfl) rfl (hs.e (by decide)) ?_
  refine r_return dX4_advance_62 rfl ?_
  refine ⟨rfl, (((Fr.rf.i rfl).i rfl).i rfl).j rfl, ?_, ?_, ?_, ?_⟩
  · (repeat (first | rw [gI_sJ] | rw [gI_sI, if_neg (by omega)] | rw [gI_sI, if_pos ⟨rfl, rfl, rfl⟩])); first | done | assumption
  · (repeat (first | rw [gI_sJ] | rw [gI_sI, if_neg (by omega)] | rw [gI_sI, if_pos ⟨rfl, rfl, rfl⟩])); first | done | assumption
  · (repeat (first | rw [gI_sJ] | rw [gI_sI, if_neg (by omega)] | rw [gI_sI, if_pos ⟨rfl, rfl, rfl⟩])); first | done | assumption
  · (repeat (first | rw [gJ_sJ, if_pos ⟨rfl, rfl, rfl⟩] | rw [gJ_sI])); first | done | rfl

set_option maxRecDepth 100000 in
theorem ok_advance_st {S : zS} (hs : Sd S) {n i : Nat} (hn9 : n ≤ 941) (hn : gI S 4 0 3 = nI n) (hi : gI S 4 0 4 = nI i) (hin : i + 1 = n) : Ok mX4_advance 0 (ent 1 [zr 4 0]) [] S (fun r S1 => r = none ∧ Fr tAv S S1 ∧ gI S1 4 0 4 = nI i ∧ gI S1 4 0 5 = gI S 500 0 i ∧ gI S1 4 0 6 = gI S 501 0 i ∧ gJ S1 4 0 7 = gJ S 502 0 i) := by
  show Ok mX4_advance 0 [some (zr 4 0)] [] S _
  refine r_aload_n (q := 1) dX4_advance_0 rfl rfl rfl ?_
  refine r_geti (q := 4) ck4 dX4_advance_1 rfl (k := 4) (by decide) wt125 (Or.inl rfl) (hs.e (by decide)) ?_
  refine r_topi (y := nI i) hi ?_
  refine r_iconst (q := 5) (nI 1) dX4_advance_4 rfl (by decide) ?_
  refine r_iaddN (q := 6) dX4_advance_5 rfl ?_
  refine r_aload_n (q := 7) dX4_advance_6 rfl rfl rfl ?_
  refine r_geti (q := 10) ck4 dX4_advance_7 rfl (k := 3) (by decide) wt124 (Or.inl rfl) (hs.e (by decide)) ?_
  refine r_topi (y := nI n) hn ?_
  refine r_icmp_geN (q := 13) (t := 23) (by omega) (by omega) dX4_advance_10 (by decide) rfl (fun h10 => ?_) (fun h10 => absurd h10 (by omega))
  refine r_aload_n (q := 24) dX4_advance_23 rfl rfl rfl ?_
  refine r_aload_n (q := 25) dX4_advance_24 rfl rfl rfl ?_
  refine r_getr (q := 28) (some (500, 0)) ck4 dX4_advance_25 rfl (k := 0) (by decide) wt121 rfl (hs.e (by decide)) (hs.r (by decide) (by decide)) ?_
  refine r_aload_n (q := 29) dX4_advance_28 rfl rfl rfl ?_
  refine r_geti (q := 32) ck4 dX4_advance_29 rfl (k := 4) (by decide) wt125 (Or.inl rfl) (hs.e (by decide)) ?_
  refine r_topi (y := nI i) hi ?_
  refine r_ialdN (q := 33) 941 (by decide) rfl dX4_advance_32 rfl (hs.e (by decide)) (hs.n rfl (by decide)) (by omega) (by decide) ?_
  refine r_puti (q := 36) ck4 dX4_advance_33 rfl (k := 5) (by decide) wt126 (Or.inl rfl) rfl (hs.e (by decide)) ?_
  refine r_aload_n (q := 37) dX4_advance_36 rfl rfl rfl ?_
  refine r_aload_n (q := 38) dX4_advance_37 rfl rfl rfl ?_
  refine r_getr (q := 41) (some (501, 0)) ck4 dX4_advance_38 rfl (k := 1) (by decide) wt122 rfl (hs.e (by decide)) (hs.r (by decide) (by decide)) ?_
  refine r_aload_n (q := 42) dX4_advance_41 rfl rfl rfl ?_
  refine r_geti (q := 45) ck4 dX4_advance_42 rfl (k := 4) (by decide) wt125 (Or.inl rfl) (hs.e (by decide)) ?_
  refine r_topi (y := gI S 4 0 4) (by simp [gI_sI, gJ_sJ, gI_sJ, gJ_sI]) ?_
  refine r_topi (y := nI i) hi ?_
  refine r_ialdN (q := 46) 941 (by decide) rfl dX4_advance_45 rfl (hs.e (by decide)) (hs.n rfl (by decide)) (by omega) (by decide) ?_
  refine r_topi (y := gI S 501 0 i) (by simp [gI_sI, gJ_sJ, gI_sJ, gJ_sI]) ?_
  refine r_puti (q := 49) ck4 dX4_advance_46 rfl (k := 6) (by decide) wt127 (Or.inl rfl) rfl (hs.e (by decide)) ?_
  refine r_aload_n (q := 50) dX4_advance_49 rfl rfl rfl ?_
  refine r_aload_n (q := 51) dX4_advance_50 rfl rfl rfl ?_
  refine r_getr (q := 54) (some (502, 0)) ck4 dX4_advance_51 rfl (k := 2) (by decide) wt123 rfl (hs.e (by decide)) (hs.r (by decide) (by decide)) ?_
  refine r_aload_n (q := 55) dX4_advance_54 rfl rfl rfl ?_
  refine r_geti (q := 58) ck4 dX4_advance_55 rfl (k := 4) (by decide) wt125 (Or.inl rfl) (hs.e (by decide)) ?_
  refine r_topi (y := gI S 4 0 4) (by simp [gI_sI, gJ_sJ, gI_sJ, gJ_sI]) ?_
  refine r_topi (y := nI i) hi ?_
  refine r_laldN (q := 59) 941 (by decide) rfl dX4_advance_58 rfl (hs.e (by decide)) (hs.n rfl (by decide)) (by omega) (by decide) ?_
  refine r_topl (y := gJ S 502 0 i) (by simp [gI_sI, gJ_sJ, gI_sJ, gJ_sI]) ?_
  refine r_putl (q := 62) ck4 dX4_advance_59 rfl (k := 7) (by decide) wt128 (Or.inl rfl) rfl (hs.e (by decide)) ?_
  refine r_return dX4_advance_62 rfl ?_
  refine ⟨rfl, ((Fr.rf.i rfl).i rfl).j rfl, ?_, ?_, ?_, ?_⟩
  · (repeat (first | rw [gI_sJ] | rw [gI_sI, if_neg (by omega)] | rw [gI_sI, if_pos ⟨rfl, rfl, rfl⟩])); first | done | assumption
  · (repeat (first | rw [gI_sJ] | rw [gI_sI, if_neg (by omega)] | rw [gI_sI, if_pos ⟨rfl, rfl, rfl⟩])); first | done | assumption
  · (repeat (first | rw [gI_sJ] | rw [gI_sI, if_neg (by omega)] | rw [gI_sI, if_pos ⟨rfl, rfl, rfl⟩])); first | done | assumption
  · (repeat (first | rw [gJ_sJ, if_pos ⟨rfl, rfl, rfl⟩] | rw [gJ_sI])); first | done | rfl

set_option maxRecDepth 100000 in
theorem ok_advance_0 {S : zS} (hs : Sd S) {n : Nat} (hn9 : n ≤ 941) (hn0 : 0 < n) (hn : gI S 4 0 3 = nI n) (hi : gI S 4 0 4 = -1) : Ok mX4_advance 0 (ent 1 [zr 4 0]) [] S (fun r S1 => r = none ∧ Fr tAv S S1 ∧ gI S1 4 0 4 = nI 0 ∧ gI S1 4 0 5 = gI S 500 0 0 ∧ gI S1 4 0 6 = gI S 501 0 0 ∧ gJ S1 4 0 7 = gJ S 502 0 0) := by
  show Ok mX4_advance 0 [some (zr 4 0)] [] S _
  refine r_aload_n (q := 1) dX4_advance_0 rfl rfl rfl ?_
  refine r_geti (q := 4) ck4 dX4_advance_1 rfl (k := 4) (by decide) wt125 (Or.inl rfl) (hs.e (by decide)) ?_
  refine r_iconst (q := 5) (nI 1) dX4_advance_4 rfl (by decide) ?_
  refine r_iadd (q := 6) dX4_advance_5 rfl ?_
  refine r_topi (y := nI 0) (by rw [hi]; decide) ?_
  refine r_aload_n (q := 7) dX4_advance_6 rfl rfl rfl ?_
  refine r_geti (q := 10) ck4 dX4_advance_7 rfl (k := 3) (by decide) wt124 (Or.inl rfl) (hs.e (by decide)) ?_
  refine r_topi (y := nI n) hn ?_
  refine r_icmp_geN (q := 13) (t := 23) (by omega) (by omega) dX4_advance_10 (by decide) rfl (fun h10 => absurd h10 (by omega)) (fun h10 => ?_)
  refine r_aload_n (q := 14) dX4_advance_13 rfl rfl rfl ?_
  refine r_dup (q := 15) dX4_advance_14 rfl rfl ?_
  refine r_geti (q := 18) ck4 dX4_advance_15 rfl (k := 4) (by decide) wt125 (Or.inl rfl) (hs.e (by decide)) ?_
  refine r_iconst (q := 19) (nI 1) dX4_advance_18 rfl (by decide) ?_
  refine r_iadd (q := 20) dX4_advance_19 rfl ?_
  refine r_topi (y := nI 0) (by rw [hi]; decide) ?_
  refine r_puti (q := 23) ck4 dX4_advance_20 rfl (k := 4) (by decide) wt125 (Or.inl rfl) rfl (hs.e (by decide)) ?_
  refine r_aload_n (q := 24) dX4_advance_23 rfl rfl rfl ?_
  refine r_aload_n (q := 25) dX4_advance_24 rfl rfl rfl ?_
  refine r_getr (q := 28) (some (500, 0)) ck4 dX4_advance_25 rfl (k := 0) (by decide) wt121 rfl (hs.e (by decide)) (hs.r (by decide) (by decide)) ?_
  refine r_aload_n (q := 29) dX4_advance_28 rfl rfl rfl ?_
  refine r_geti (q := 32) ck4 dX4_advance_29 rfl (k := 4) (by decide) wt125 (Or.inl rfl) (hs.e (by decide)) ?_
  refine r_topi (y := nI 0) (by simp [gI_sI, gJ_sJ, gI_sJ, gJ_sI]) ?_
  refine r_ialdN (q := 33) 941 (by decide) rfl dX4_advance_32 rfl (hs.e (by decide)) (hs.n rfl (by decide)) (by omega) (by decide) ?_
  refine r_topi (y := gI S 500 0 0) (by simp [gI_sI, gJ_sJ, gI_sJ, gJ_sI]) ?_
  refine r_puti (q := 36) ck4 dX4_advance_33 rfl (k := 5) (by decide) wt126 (Or.inl rfl) rfl (hs.e (by decide)) ?_
  refine r_aload_n (q := 37) dX4_advance_36 rfl rfl rfl ?_
  refine r_aload_n (q := 38) dX4_advance_37 rfl rfl rfl ?_
  refine r_getr (q := 41) (some (501, 0)) ck4 dX4_advance_38 rfl (k := 1) (by decide) wt122 rfl (hs.e (by decide)) (hs.r (by decide) (by decide)) ?_
  refine r_aload_n (q := 42) dX4_advance_41 rfl rfl rfl ?_
  refine r_geti (q := 45) ck4 dX4_advance_42 rfl (k := 4) (by decide) wt125 (Or.inl rfl) (hs.e (by decide)) ?_
  refine r_topi (y := nI 0) (by simp [gI_sI, gJ_sJ, gI_sJ, gJ_sI]) ?_
  refine r_ialdN (q := 46) 941 (by decide) rfl dX4_advance_45 rfl (hs.e (by decide)) (hs.n rfl (by decide)) (by omega) (by decide) ?_
  refine r_topi (y := gI S 501 0 0) (by simp [gI_sI, gJ_sJ, gI_sJ, gJ_sI]) ?_
  refine r_puti (q := 49) ck4 dX4_advance_46 rfl (k := 6) (by decide) wt127 (Or.inl rfl) rfl (hs.e (by decide)) ?_
  refine r_aload_n (q := 50) dX4_advance_49 rfl rfl rfl ?_
  refine r_aload_n (q := 51) dX4_advance_50 rfl rfl rfl ?_
  refine r_getr (q := 54) (some (502, 0)) ck4 dX4_advance_51 rfl (k := 2) (by decide) wt123 rfl (hs.e (by decide)) (hs.r (by decide) (by decide)) ?_
  refine r_aload_n (q := 55) dX4_advance_54 rfl rfl rfl ?_
  refine r_geti (q := 58) ck4 dX4_advance_55 rfl (k := 4) (by decide) wt125 (Or.inl rfl) (hs.e (by decide)) ?_
  refine r_topi (y := nI 0) (by simp [gI_sI, gJ_sJ, gI_sJ, gJ_sI]) ?_
  refine r_laldN (q := 59) 941 (by decide) rfl dX4_advance_58 rfl (hs.e (by decide)) (hs.n rfl (by decide)) (by omega) (by decide) ?_
  refine r_topl (y := gJ S 502 0 0) (by simp [gI_sI, gJ_sJ, gI_sJ, gJ_sI]) ?_
  refine r_putl (q := 62) ck4 dX4_advance_59 rfl (k := 7) (by decide) wt128 (Or.inl rfl) rfl (hs.e (by decide)) ?_
  refine r_return dX4_advance_62 rfl ?_
  refine ⟨rfl, (((Fr.rf.i rfl).i rfl).i rfl).j rfl, ?_, ?_, ?_, ?_⟩
  · (repeat (first | rw [gI_sJ] | rw [gI_sI, if_neg (by omega)] | rw [gI_sI, if_pos ⟨rfl, rfl, rfl⟩])); first | done | assumption
  · (repeat (first | rw [gI_sJ] | rw [gI_sI, if_neg (by omega)] | rw [gI_sI, if_pos ⟨rfl, rfl, rfl⟩])); first | done | assumption
  · (repeat (first | rw [gI_sJ] | rw [gI_sI, if_neg (by omega)] | rw [gI_sI, if_pos ⟨rfl, rfl, rfl⟩])); first | done | assumption
  · (repeat (first | rw [gJ_sJ, if_pos ⟨rfl, rfl, rfl⟩] | rw [gJ_sI])); first | done | rfl

theorem ok_advance {S : zS} (hs : Sd S) {ts : List zTk} (h : Rc S ts) : Ok mX4_advance 0 (ent 1 [zr 4 0]) [] S (fun r S1 => r = none ∧ Fr tAv S S1 ∧ Rc S1 (adv ts)) := by
  obtain ⟨all, i, h1, h2, rfl, h4, h5, h6, h7, h8, h9⟩ := h
  rw [adv_drop h1]
  by_cases h : i + 1 < all.length
  · rw [if_pos h]
    refine Ok.mono (ok_advance_go hs h2 h4 h5 h) fun r S1 z => ⟨z.1, z.2.1, all, i + 1, h, h2, rfl, (z.2.1.1 _ _ _ rfl).trans h4, z.2.2.1, ?_, ?_, ?_, ?_⟩
    · exact fun k hk => ⟨(z.2.1.1 _ _ _ rfl).trans (h6 k hk).1, (z.2.1.1 _ _ _ rfl).trans (h6 k hk).2.1, fun y => (z.2.1.2.1 _ _ _ rfl).trans ((h6 k hk).2.2 y)⟩
    · rw [z.2.2.2.1, hd_drop h]; exact (h6 _ h).1
    · rw [z.2.2.2.2.1, hd_drop h]; exact (h6 _ h).2.1
    · rw [hd_drop h, z.2.2.2.2.2]; exact (h6 _ h).2.2
  · rw [if_neg h]
    refine Ok.mono (ok_advance_st hs h2 h4 h5 (by omega)) fun r S1 z => ⟨z.1, z.2.1, all, i, h1, h2, rfl, (z.2.1.1 _ _ _ rfl).trans h4, z.2.2.1, ?_, ?_, ?_, ?_⟩
    · exact fun k hk => ⟨(z.2.1.1 _ _ _ rfl).trans (h6 k hk).1, (z.2.1.1 _ _ _ rfl).trans (h6 k hk).2.1, fun y => (z.2.1.2.1 _ _ _ rfl).trans ((h6 k hk).2.2 y)⟩
    · rw [z.2.2.2.1, hd_drop h1]; exact (h6 _ h1).1
    · rw [z.2.2.2.2.1, hd_drop h1]; exact (h6 _ h1).2.1
    · rw [hd_drop h1, z.2.2.2.2.2]; exact (h6 _ h1).2.2

set_option maxRecDepth 100000 in
theorem lp_bg2 {Po : Option zV → zS → Prop} {S : zS} (hs : Sd S) {bs : List Nat} (hb : Bs S 1200 bs) (hbl : bs.length ≤ 940) {p lim : Nat} (hp : p < bs.length) {tl : Int32} {stp : Nat} (K : Ok mX4_begin 90 [some (zr 4 0), some (zr 1200 0), some (zi tl), some (zi (nI lim)), some (zi (nI bs.length)), some (zi (nI stp)), some (zi (nI p)), some (zi (nI (p + arun (bs.drop p))))] [] S Po) : ∀ (d k : Nat), 1 ≤ k → k + d = arun (bs.drop p) → Ok mX4_begin 57 [some (zr 4 0), some (zr 1200 0), some (zi tl), some (zi (nI lim)), some (zi (nI bs.length)), some (zi (nI stp)), some (zi (nI p)), some (zi (nI (p + k)))] [] S Po := by
  intro d
  have hal := arun_le (bs.drop p)
  rw [List.length_drop] at hal
  induction d with
  | zero =>
    intro k hk1 hk
    obtain rfl : k = arun (bs.drop p) := by omega
    by_cases hend : p + arun (bs.drop p) < bs.length
    · have hn := arun_end (bs.drop p) (by rw [List.length_drop]; omega)
      rw [getD_drop] at hn
      have hlt := hb.lt (p + arun (bs.drop p))
      have r0 := hb.1 _ hend
      have n1 : sml (bs.getD (p + arun (bs.drop p)) 0) = false ∧ dgt (bs.getD (p + arun (bs.drop p)) 0) = false := by rw [aln, Bool.or_eq_false_iff] at hn; exact hn
      refine r_iload (q := 59) dX4_begin_57 rfl rfl ?_
      refine r_iload (q := 61) dX4_begin_59 rfl rfl ?_
      refine r_icmp_geN (q := 64) (t := 90) (by omega) (by omega) dX4_begin_61 (by decide) rfl (fun h61 => absurd h61 (by omega)) (fun h61 => ?_)
      refine r_aload_n (q := 65) dX4_begin_64 rfl rfl rfl ?_
      refine r_iload (q := 67) dX4_begin_65 rfl rfl ?_
      refine r_baldN (q := 68) 940 (by decide) rfl dX4_begin_67 rfl (hs.e (by decide)) (hs.n rfl (by decide)) (by omega) (by decide) ?_
      refine r_topi (y := sbt (bs.getD (p + arun (bs.drop p)) 0)) r0 ?_
      refine r_callS (Mc := mX4_isSmall) (q := 71) (As := [zi (sbt (bs.getD (p + arun (bs.drop p)) 0))]) (st := []) dX4_begin_68 rfl rfl mkX4_isSmall wt514 wt515 rfl (Nat.le_of_ble_eq_true rfl) (Nat.le_of_ble_eq_true rfl) (by decide) (by decide) (by decide) (Or.inl rfl) hs.some (ok_X4_isSmall hlt) (fun r68 S68 hp68 => ?_)
      obtain ⟨rfl, hq68⟩ := hp68
      rw [hq68]
      rw [n1.1, if_neg (by decide)]
      show Ok _ _ _ [zi (nI 0)] _ _
      refine r_if_neN (q := 74) (t := 84) (by omega) dX4_begin_71 (by decide) rfl (fun h71 => absurd h71 (by omega)) (fun h71 => ?_)
      refine r_aload_n (q := 75) dX4_begin_74 rfl rfl rfl ?_
      refine r_iload (q := 77) dX4_begin_75 rfl rfl ?_
      refine r_baldN (q := 78) 940 (by decide) rfl dX4_begin_77 rfl (hs.e (by decide)) (hs.n rfl (by decide)) (by omega) (by decide) ?_
      refine r_topi (y := sbt (bs.getD (p + arun (bs.drop p)) 0)) r0 ?_
      refine r_callS (Mc := mX4_isDigit) (q := 81) (As := [zi (sbt (bs.getD (p + arun (bs.drop p)) 0))]) (st := []) dX4_begin_78 rfl rfl mkX4_isDigit wt517 wt518 rfl (Nat.le_of_ble_eq_true rfl) (Nat.le_of_ble_eq_true rfl) (by decide) (by decide) (by decide) (Or.inl rfl) hs.some (ok_X4_isDigit hlt) (fun r78 S78 hp78 => ?_)
      obtain ⟨rfl, hq78⟩ := hp78
      rw [hq78]
      rw [n1.2, if_neg (by decide)]
      show Ok _ _ _ [zi (nI 0)] _ _
      refine r_if_eqN (q := 84) (t := 90) (by omega) dX4_begin_81 (by decide) rfl (fun h81 => ?_) (fun h81 => absurd h81 (by omega))
      exact K
    · skip
      refine r_iload (q := 59) dX4_begin_57 rfl rfl ?_
      refine r_iload (q := 61) dX4_begin_59 rfl rfl ?_
      refine r_icmp_geN (q := 64) (t := 90) (by omega) (by omega) dX4_begin_61 (by decide) rfl (fun h61 => ?_) (fun h61 => absurd h61 (by omega))
      exact K
  | succ d ih =>
    intro k hk1 hk
    have ha := arun_in (bs.drop p) k (by omega)
    rw [getD_drop] at ha
    have hlt := hb.lt (p + k)
    have r0 := hb.1 (p + k) (by omega)
    by_cases h1 : sml (bs.getD (p + k) 0) = true
    · skip
      refine r_iload (q := 59) dX4_begin_57 rfl rfl ?_
      refine r_iload (q := 61) dX4_begin_59 rfl rfl ?_
      refine r_icmp_geN (q := 64) (t := 90) (by omega) (by omega) dX4_begin_61 (by decide) rfl (fun h61 => absurd h61 (by omega)) (fun h61 => ?_)
      refine r_aload_n (q := 65) dX4_begin_64 rfl rfl rfl ?_
      refine r_iload (q := 67) dX4_begin_65 rfl rfl ?_
      refine r_baldN (q := 68) 940 (by decide) rfl dX4_begin_67 rfl (hs.e (by decide)) (hs.n rfl (by decide)) (by omega) (by decide) ?_
      refine r_topi (y := sbt (bs.getD (p + k) 0)) r0 ?_
      refine r_callS (Mc := mX4_isSmall) (q := 71) (As := [zi (sbt (bs.getD (p + k) 0))]) (st := []) dX4_begin_68 rfl rfl mkX4_isSmall wt514 wt515 rfl (Nat.le_of_ble_eq_true rfl) (Nat.le_of_ble_eq_true rfl) (by decide) (by decide) (by decide) (Or.inl rfl) hs.some (ok_X4_isSmall hlt) (fun r68 S68 hp68 => ?_)
      obtain ⟨rfl, hq68⟩ := hp68
      rw [hq68]
      rw [if_pos h1]
      show Ok _ _ _ [zi (nI 1)] _ _
      refine r_if_neN (q := 74) (t := 84) (by omega) dX4_begin_71 (by decide) rfl (fun h71 => ?_) (fun h71 => absurd h71 (by omega))
      refine r_iincN (q := 87) (L' := [some (zr 4 0), some (zr 1200 0), some (zi tl), some (zi (nI lim)), some (zi (nI bs.length)), some (zi (nI stp)), some (zi (nI p)), some (zi (nI (p + k + 1)))]) 1 rfl dX4_begin_84 rfl rfl (by decide) rfl ?_
      refine r_goto (q := 57) dX4_begin_87 (by decide) ?_
      exact ih (k + 1) (by omega) (by omega)
    · have h2 : dgt (bs.getD (p + k) 0) = true := aln_d ha h1
      refine r_iload (q := 59) dX4_begin_57 rfl rfl ?_
      refine r_iload (q := 61) dX4_begin_59 rfl rfl ?_
      refine r_icmp_geN (q := 64) (t := 90) (by omega) (by omega) dX4_begin_61 (by decide) rfl (fun h61 => absurd h61 (by omega)) (fun h61 => ?_)
      refine r_aload_n (q := 65) dX4_begin_64 rfl rfl rfl ?_
      refine r_iload (q := 67) dX4_begin_65 rfl rfl ?_
      refine r_baldN (q := 68) 940 (by decide) rfl dX4_begin_67 rfl (hs.e (by decide)) (hs.n rfl (by decide)) (by omega) (by decide) ?_
      refine r_topi (y := sbt (bs.getD (p + k) 0)) r0 ?_
      refine r_callS (Mc := mX4_isSmall) (q := 71) (As := [zi (sbt (bs.getD (p + k) 0))]) (st := []) dX4_begin_68 rfl rfl mkX4_isSmall wt514 wt515 rfl (Nat.le_of_ble_eq_true rfl) (Nat.le_of_ble_eq_true rfl) (by decide) (by decide) (by decide) (Or.inl rfl) hs.some (ok_X4_isSmall hlt) (fun r68 S68 hp68 => ?_)
      obtain ⟨rfl, hq68⟩ := hp68
      rw [hq68]
      rw [if_neg h1]
      show Ok _ _ _ [zi (nI 0)] _ _
      refine r_if_neN (q := 74) (t := 84) (by omega) dX4_begin_71 (by decide) rfl (fun h71 => absurd h71 (by omega)) (fun h71 => ?_)
      refine r_aload_n (q := 75) dX4_begin_74 rfl rfl rfl ?_
      refine r_iload (q := 77) dX4_begin_75 rfl rfl ?_
      refine r_baldN (q := 78) 940 (by decide) rfl dX4_begin_77 rfl (hs.e (by decide)) (hs.n rfl (by decide)) (by omega) (by decide) ?_
      refine r_topi (y := sbt (bs.getD (p + k) 0)) r0 ?_
      refine r_callS (Mc := mX4_isDigit) (q := 81) (As := [zi (sbt (bs.getD (p + k) 0))]) (st := []) dX4_begin_78 rfl rfl mkX4_isDigit wt517 wt518 rfl (Nat.le_of_ble_eq_true rfl) (Nat.le_of_ble_eq_true rfl) (by decide) (by decide) (by decide) (Or.inl rfl) hs.some (ok_X4_isDigit hlt) (fun r78 S78 hp78 => ?_)
      obtain ⟨rfl, hq78⟩ := hp78
      rw [hq78]
      rw [if_pos h2]
      show Ok _ _ _ [zi (nI 1)] _ _
      refine r_if_eqN (q := 84) (t := 90) (by omega) dX4_begin_81 (by decide) rfl (fun h81 => absurd h81 (by omega)) (fun h81 => ?_)
      refine r_iincN (q := 87) (L' := [some (zr 4 0), some (zr 1200 0), some (zi tl), some (zi (nI lim)), some (zi (nI bs.length)), some (zi (nI stp)), some (zi (nI p)), some (zi (nI (p + k + 1)))]) 1 rfl dX4_begin_84 rfl rfl (by decide) rfl ?_
      refine r_goto (q := 57) dX4_begin_87 (by decide) ?_
      exact ih (k + 1) (by omega) (by omega)

set_option maxRecDepth 100000 in
theorem lp_bg1 {Po : Option zV → zS → Prop} {bs : List Nat} (hbl : bs.length ≤ 940) {lim : Nat} (hlim : lim ≤ 940) {tl : Int32} : ∀ (d p : Nat) (S : zS) (l : List zTk), min bs.length lim ≤ p + d → p ≤ bs.length → l.length ≤ p → Sd S → Bs S 1200 bs → gI S 4 0 3 = nI l.length → Ka S l → l ++ lexA bs lim p = lexA bs lim 0 → (∀ S' l' p', Fr tRk S S' → gI S' 4 0 3 = nI l'.length → l'.length ≤ 940 → Ka S' l' → l' ++ [tend bs lim] = lexA bs lim 0 → Ok mX4_begin 124 [some (zr 4 0), some (zr 1200 0), some (zi tl), some (zi (nI lim)), some (zi (nI bs.length)), some (zi (nI (min bs.length lim))), some (zi (nI p')), none] [] S' Po) → Ok mX4_begin 24 [some (zr 4 0), some (zr 1200 0), some (zi tl), some (zi (nI lim)), some (zi (nI bs.length)), some (zi (nI (min bs.length lim))), some (zi (nI p)), none] [] S Po := by
  intro d
  induction d with
  | zero =>
    intro p S l hd hpl hlp hs hb h3 hka hlex K
    refine r_iload (q := 26) dX4_begin_24 rfl rfl ?_
    refine r_iload (q := 28) dX4_begin_26 rfl rfl ?_
    refine r_icmp_geN (q := 31) (t := 124) (by omega) (by omega) dX4_begin_28 (by decide) rfl (fun h28 => ?_) (fun h28 => absurd h28 (by omega))
    exact K S l p Fr.rf h3 (by omega) hka (by rw [← lexA_end (bs := bs) (lim := lim) (show min bs.length lim ≤ p by omega)]; exact hlex)
  | succ d ih =>
    intro p S l hd hpl hlp hs hb h3 hka hlex K
    by_cases hps : p < min bs.length lim
    · have hlt := hb.lt p
      have r0 := hb.1 p (by omega)
      have b1 := fun n hn => sbt_eq _ hlt n hn
      by_cases ha : aln (bs.getD p 0) = true
      · have hr1 := arun_pos (p := p) (by omega) ha
        have hal := arun_le (bs.drop p)
        rw [List.length_drop] at hal
        have hll := aln_lt ha
        rw [lexA_tok hps ha] at hlex
        by_cases h1 : sml (bs.getD p 0) = true
        · skip
          refine r_iload (q := 26) dX4_begin_24 rfl rfl ?_
          refine r_iload (q := 28) dX4_begin_26 rfl rfl ?_
          refine r_icmp_geN (q := 31) (t := 124) (by omega) (by omega) dX4_begin_28 (by decide) rfl (fun h28 => absurd h28 (by omega)) (fun h28 => ?_)
          refine r_iload (q := 33) dX4_begin_31 rfl rfl ?_
          refine r_iconst (q := 34) (nI 1) dX4_begin_33 rfl (by decide) ?_
          refine r_iaddN (q := 35) dX4_begin_34 rfl ?_
          refine r_istore (q := 37) (L' := [some (zr 4 0), some (zr 1200 0), some (zi tl), some (zi (nI lim)), some (zi (nI bs.length)), some (zi (nI (min bs.length lim))), some (zi (nI p)), some (zi (nI (p + 1)))]) dX4_begin_35 rfl (by decide) rfl ?_
          refine r_aload_n (q := 38) dX4_begin_37 rfl rfl rfl ?_
          refine r_iload (q := 40) dX4_begin_38 rfl rfl ?_
          refine r_baldN (q := 41) 940 (by decide) rfl dX4_begin_40 rfl (hs.e (by decide)) (hs.n rfl (by decide)) (by omega) (by decide) ?_
          refine r_topi (y := sbt (bs.getD p 0)) r0 ?_
          refine r_callS (Mc := mX4_isSmall) (q := 44) (As := [zi (sbt (bs.getD p 0))]) (st := []) dX4_begin_41 rfl rfl mkX4_isSmall wt514 wt515 rfl (Nat.le_of_ble_eq_true rfl) (Nat.le_of_ble_eq_true rfl) (by decide) (by decide) (by decide) (Or.inl rfl) hs.some (ok_X4_isSmall hlt) (fun r41 S41 hp41 => ?_)
          obtain ⟨rfl, hq41⟩ := hp41
          rw [hq41]
          rw [if_pos h1]
          show Ok _ _ _ [zi (nI 1)] _ _
          refine r_if_neN (q := 47) (t := 57) (by omega) dX4_begin_44 (by decide) rfl (fun h44 => ?_) (fun h44 => absurd h44 (by omega))
          refine lp_bg2 hs hb hbl (by omega) ?_ (arun (bs.drop p) - 1) 1 (by omega) (by omega)
          refine r_aload_n (q := 91) dX4_begin_90 rfl rfl rfl ?_
          refine r_iload (q := 93) dX4_begin_91 rfl rfl ?_
          refine r_baldN (q := 94) 940 (by decide) rfl dX4_begin_93 rfl (hs.e (by decide)) (hs.n rfl (by decide)) (by omega) (by decide) ?_
          refine r_topi (y := sbt (bs.getD p 0)) r0 ?_
          refine r_bipush (q := 96) (nI 32) dX4_begin_94 rfl (by decide) ?_
          refine r_icmp_eq (q := 99) (t := 117) dX4_begin_96 (by decide) rfl (fun h96 => absurd h96 (fun z => by have := (b1 32 (by omega)).mp z; omega)) (fun h96 => ?_)
          refine r_aload_n (q := 100) dX4_begin_99 rfl rfl rfl ?_
          refine r_iload (q := 102) dX4_begin_100 rfl rfl ?_
          refine r_baldN (q := 103) 940 (by decide) rfl dX4_begin_102 rfl (hs.e (by decide)) (hs.n rfl (by decide)) (by omega) (by decide) ?_
          refine r_topi (y := sbt (bs.getD p 0)) r0 ?_
          refine r_bipush (q := 105) (nI 10) dX4_begin_103 rfl (by decide) ?_
          refine r_icmp_eq (q := 108) (t := 117) dX4_begin_105 (by decide) rfl (fun h105 => absurd h105 (fun z => by have := (b1 10 (by omega)).mp z; omega)) (fun h105 => ?_)
          refine r_aload_n (q := 109) dX4_begin_108 rfl rfl rfl ?_
          refine r_aload_n (q := 110) dX4_begin_109 rfl rfl rfl ?_
          refine r_iload (q := 112) dX4_begin_110 rfl rfl ?_
          refine r_iload (q := 114) dX4_begin_112 rfl rfl ?_
          refine r_callV (Mc := mX4_addToken) (q := 117) (As := [zr 1200 0, zi (nI p), zi (nI (p + arun (bs.drop p)))]) (st := []) ck4 dX4_begin_114 rfl rfl mkX4_addToken wt520 wt522 wp3 rfl (Nat.le_of_ble_eq_true rfl) (Nat.le_of_ble_eq_true rfl) (by decide) (by decide) (by decide) (Or.inl rfl) (hs.e (by decide)) (ok_addToken_w hs hb hbl (fr := p) (n := arun (bs.drop p)) (by omega) h3 (by omega) hka hr1 (aln_take (bs.drop p))) (fun r114 S114 hp114 => ?_)
          obtain ⟨rfl, x2, x3, x4⟩ := hp114
          show Ok _ _ _ [] _ _
          refine r_iload (q := 119) dX4_begin_117 rfl rfl ?_
          refine r_istore (q := 121) (L' := [some (zr 4 0), some (zr 1200 0), some (zi tl), some (zi (nI lim)), some (zi (nI bs.length)), some (zi (nI (min bs.length lim))), some (zi (nI (p + arun (bs.drop p)))), some (zi (nI (p + arun (bs.drop p))))]) dX4_begin_119 rfl (by decide) rfl ?_
          refine r_goto (q := 24) dX4_begin_121 (by decide) ?_
          refine r_mask [true, true, true, true, true, true, true, false] rfl ?_
          exact ih (p + arun (bs.drop p)) S114 (l ++ [(tkk ((bs.drop p).take (arun (bs.drop p))), p, tkv ((bs.drop p).take (arun (bs.drop p))))]) (by omega) (by omega) (by rw [List.length_append, List.length_singleton]; omega) (hs.fr x2) (hb.fr x2 (fun _ => rfl)) x3 x4 (by rw [List.append_assoc, List.singleton_append]; exact hlex) (fun S' l' p' f1 f2 f3 f4 f5 => K S' l' p' (x2.tr f1) f2 f3 f4 f5)
        · have h2 : dgt (bs.getD p 0) = true := aln_d ha h1
          refine r_iload (q := 26) dX4_begin_24 rfl rfl ?_
          refine r_iload (q := 28) dX4_begin_26 rfl rfl ?_
          refine r_icmp_geN (q := 31) (t := 124) (by omega) (by omega) dX4_begin_28 (by decide) rfl (fun h28 => absurd h28 (by omega)) (fun h28 => ?_)
          refine r_iload (q := 33) dX4_begin_31 rfl rfl ?_
          refine r_iconst (q := 34) (nI 1) dX4_begin_33 rfl (by decide) ?_
          refine r_iaddN (q := 35) dX4_begin_34 rfl ?_
          refine r_istore (q := 37) (L' := [some (zr 4 0), some (zr 1200 0), some (zi tl), some (zi (nI lim)), some (zi (nI bs.length)), some (zi (nI (min bs.length lim))), some (zi (nI p)), some (zi (nI (p + 1)))]) dX4_begin_35 rfl (by decide) rfl ?_
          refine r_aload_n (q := 38) dX4_begin_37 rfl rfl rfl ?_
          refine r_iload (q := 40) dX4_begin_38 rfl rfl ?_
          refine r_baldN (q := 41) 940 (by decide) rfl dX4_begin_40 rfl (hs.e (by decide)) (hs.n rfl (by decide)) (by omega) (by decide) ?_
          refine r_topi (y := sbt (bs.getD p 0)) r0 ?_
          refine r_callS (Mc := mX4_isSmall) (q := 44) (As := [zi (sbt (bs.getD p 0))]) (st := []) dX4_begin_41 rfl rfl mkX4_isSmall wt514 wt515 rfl (Nat.le_of_ble_eq_true rfl) (Nat.le_of_ble_eq_true rfl) (by decide) (by decide) (by decide) (Or.inl rfl) hs.some (ok_X4_isSmall hlt) (fun r41 S41 hp41 => ?_)
          obtain ⟨rfl, hq41⟩ := hp41
          rw [hq41]
          rw [if_neg h1]
          show Ok _ _ _ [zi (nI 0)] _ _
          refine r_if_neN (q := 47) (t := 57) (by omega) dX4_begin_44 (by decide) rfl (fun h44 => absurd h44 (by omega)) (fun h44 => ?_)
          refine r_aload_n (q := 48) dX4_begin_47 rfl rfl rfl ?_
          refine r_iload (q := 50) dX4_begin_48 rfl rfl ?_
          refine r_baldN (q := 51) 940 (by decide) rfl dX4_begin_50 rfl (hs.e (by decide)) (hs.n rfl (by decide)) (by omega) (by decide) ?_
          refine r_topi (y := sbt (bs.getD p 0)) r0 ?_
          refine r_callS (Mc := mX4_isDigit) (q := 54) (As := [zi (sbt (bs.getD p 0))]) (st := []) dX4_begin_51 rfl rfl mkX4_isDigit wt517 wt518 rfl (Nat.le_of_ble_eq_true rfl) (Nat.le_of_ble_eq_true rfl) (by decide) (by decide) (by decide) (Or.inl rfl) hs.some (ok_X4_isDigit hlt) (fun r51 S51 hp51 => ?_)
          obtain ⟨rfl, hq51⟩ := hp51
          rw [hq51]
          rw [if_pos h2]
          show Ok _ _ _ [zi (nI 1)] _ _
          refine r_if_eqN (q := 57) (t := 90) (by omega) dX4_begin_54 (by decide) rfl (fun h54 => absurd h54 (by omega)) (fun h54 => ?_)
          refine lp_bg2 hs hb hbl (by omega) ?_ (arun (bs.drop p) - 1) 1 (by omega) (by omega)
          refine r_aload_n (q := 91) dX4_begin_90 rfl rfl rfl ?_
          refine r_iload (q := 93) dX4_begin_91 rfl rfl ?_
          refine r_baldN (q := 94) 940 (by decide) rfl dX4_begin_93 rfl (hs.e (by decide)) (hs.n rfl (by decide)) (by omega) (by decide) ?_
          refine r_topi (y := sbt (bs.getD p 0)) r0 ?_
          refine r_bipush (q := 96) (nI 32) dX4_begin_94 rfl (by decide) ?_
          refine r_icmp_eq (q := 99) (t := 117) dX4_begin_96 (by decide) rfl (fun h96 => absurd h96 (fun z => by have := (b1 32 (by omega)).mp z; omega)) (fun h96 => ?_)
          refine r_aload_n (q := 100) dX4_begin_99 rfl rfl rfl ?_
          refine r_iload (q := 102) dX4_begin_100 rfl rfl ?_
          refine r_baldN (q := 103) 940 (by decide) rfl dX4_begin_102 rfl (hs.e (by decide)) (hs.n rfl (by decide)) (by omega) (by decide) ?_
          refine r_topi (y := sbt (bs.getD p 0)) r0 ?_
          refine r_bipush (q := 105) (nI 10) dX4_begin_103 rfl (by decide) ?_
          refine r_icmp_eq (q := 108) (t := 117) dX4_begin_105 (by decide) rfl (fun h105 => absurd h105 (fun z => by have := (b1 10 (by omega)).mp z; omega)) (fun h105 => ?_)
          refine r_aload_n (q := 109) dX4_begin_108 rfl rfl rfl ?_
          refine r_aload_n (q := 110) dX4_begin_109 rfl rfl rfl ?_
          refine r_iload (q := 112) dX4_begin_110 rfl rfl ?_
          refine r_iload (q := 114) dX4_begin_112 rfl rfl ?_
          refine r_callV (Mc := mX4_addToken) (q := 117) (As := [zr 1200 0, zi (nI p), zi (nI (p + arun (bs.drop p)))]) (st := []) ck4 dX4_begin_114 rfl rfl mkX4_addToken wt520 wt522 wp3 rfl (Nat.le_of_ble_eq_true rfl) (Nat.le_of_ble_eq_true rfl) (by decide) (by decide) (by decide) (Or.inl rfl) (hs.e (by decide)) (ok_addToken_w hs hb hbl (fr := p) (n := arun (bs.drop p)) (by omega) h3 (by omega) hka hr1 (aln_take (bs.drop p))) (fun r114 S114 hp114 => ?_)
          obtain ⟨rfl, x2, x3, x4⟩ := hp114
          show Ok _ _ _ [] _ _
          refine r_iload (q := 119) dX4_begin_117 rfl rfl ?_
          refine r_istore (q := 121) (L' := [some (zr 4 0), some (zr 1200 0), some (zi tl), some (zi (nI lim)), some (zi (nI bs.length)), some (zi (nI (min bs.length lim))), some (zi (nI (p + arun (bs.drop p)))), some (zi (nI (p + arun (bs.drop p))))]) dX4_begin_119 rfl (by decide) rfl ?_
          refine r_goto (q := 24) dX4_begin_121 (by decide) ?_
          refine r_mask [true, true, true, true, true, true, true, false] rfl ?_
          exact ih (p + arun (bs.drop p)) S114 (l ++ [(tkk ((bs.drop p).take (arun (bs.drop p))), p, tkv ((bs.drop p).take (arun (bs.drop p))))]) (by omega) (by omega) (by rw [List.length_append, List.length_singleton]; omega) (hs.fr x2) (hb.fr x2 (fun _ => rfl)) x3 x4 (by rw [List.append_assoc, List.singleton_append]; exact hlex) (fun S' l' p' f1 f2 f3 f4 f5 => K S' l' p' (x2.tr f1) f2 f3 f4 f5)
      · have n1 := aln_n ha
        by_cases hbl2 : bs.getD p 0 = 32 ∨ bs.getD p 0 = 10
        · skip
          refine r_iload (q := 26) dX4_begin_24 rfl rfl ?_
          refine r_iload (q := 28) dX4_begin_26 rfl rfl ?_
          refine r_icmp_geN (q := 31) (t := 124) (by omega) (by omega) dX4_begin_28 (by decide) rfl (fun h28 => absurd h28 (by omega)) (fun h28 => ?_)
          refine r_iload (q := 33) dX4_begin_31 rfl rfl ?_
          refine r_iconst (q := 34) (nI 1) dX4_begin_33 rfl (by decide) ?_
          refine r_iaddN (q := 35) dX4_begin_34 rfl ?_
          refine r_istore (q := 37) (L' := [some (zr 4 0), some (zr 1200 0), some (zi tl), some (zi (nI lim)), some (zi (nI bs.length)), some (zi (nI (min bs.length lim))), some (zi (nI p)), some (zi (nI (p + 1)))]) dX4_begin_35 rfl (by decide) rfl ?_
          refine r_aload_n (q := 38) dX4_begin_37 rfl rfl rfl ?_
          refine r_iload (q := 40) dX4_begin_38 rfl rfl ?_
          refine r_baldN (q := 41) 940 (by decide) rfl dX4_begin_40 rfl (hs.e (by decide)) (hs.n rfl (by decide)) (by omega) (by decide) ?_
          refine r_topi (y := sbt (bs.getD p 0)) r0 ?_
          refine r_callS (Mc := mX4_isSmall) (q := 44) (As := [zi (sbt (bs.getD p 0))]) (st := []) dX4_begin_41 rfl rfl mkX4_isSmall wt514 wt515 rfl (Nat.le_of_ble_eq_true rfl) (Nat.le_of_ble_eq_true rfl) (by decide) (by decide) (by decide) (Or.inl rfl) hs.some (ok_X4_isSmall hlt) (fun r41 S41 hp41 => ?_)
          obtain ⟨rfl, hq41⟩ := hp41
          rw [hq41]
          rw [n1.1, if_neg (by decide)]
          show Ok _ _ _ [zi (nI 0)] _ _
          refine r_if_neN (q := 47) (t := 57) (by omega) dX4_begin_44 (by decide) rfl (fun h44 => absurd h44 (by omega)) (fun h44 => ?_)
          refine r_aload_n (q := 48) dX4_begin_47 rfl rfl rfl ?_
          refine r_iload (q := 50) dX4_begin_48 rfl rfl ?_
          refine r_baldN (q := 51) 940 (by decide) rfl dX4_begin_50 rfl (hs.e (by decide)) (hs.n rfl (by decide)) (by omega) (by decide) ?_
          refine r_topi (y := sbt (bs.getD p 0)) r0 ?_
          refine r_callS (Mc := mX4_isDigit) (q := 54) (As := [zi (sbt (bs.getD p 0))]) (st := []) dX4_begin_51 rfl rfl mkX4_isDigit wt517 wt518 rfl (Nat.le_of_ble_eq_true rfl) (Nat.le_of_ble_eq_true rfl) (by decide) (by decide) (by decide) (Or.inl rfl) hs.some (ok_X4_isDigit hlt) (fun r51 S51 hp51 => ?_)
          obtain ⟨rfl, hq51⟩ := hp51
          rw [hq51]
          rw [n1.2, if_neg (by decide)]
          show Ok _ _ _ [zi (nI 0)] _ _
          refine r_if_eqN (q := 57) (t := 90) (by omega) dX4_begin_54 (by decide) rfl (fun h54 => ?_) (fun h54 => absurd h54 (by omega))
          refine r_aload_n (q := 91) dX4_begin_90 rfl rfl rfl ?_
          refine r_iload (q := 93) dX4_begin_91 rfl rfl ?_
          refine r_baldN (q := 94) 940 (by decide) rfl dX4_begin_93 rfl (hs.e (by decide)) (hs.n rfl (by decide)) (by omega) (by decide) ?_
          refine r_topi (y := sbt (bs.getD p 0)) r0 ?_
          refine r_bipush (q := 96) (nI 32) dX4_begin_94 rfl (by decide) ?_
          refine r_icmp_eq (q := 99) (t := 117) dX4_begin_96 (by decide) rfl (fun h96 => ?_) (fun h96 => ?_)
          · skip
            refine r_iload (q := 119) dX4_begin_117 rfl rfl ?_
            refine r_istore (q := 121) (L' := [some (zr 4 0), some (zr 1200 0), some (zi tl), some (zi (nI lim)), some (zi (nI bs.length)), some (zi (nI (min bs.length lim))), some (zi (nI (p + 1))), some (zi (nI (p + 1)))]) dX4_begin_119 rfl (by decide) rfl ?_
            refine r_goto (q := 24) dX4_begin_121 (by decide) ?_
            refine r_mask [true, true, true, true, true, true, true, false] rfl ?_
            exact ih (p + 1) S l (by omega) (by omega) (by omega) hs hb h3 hka (by rw [← lexA_bl hps hbl2]; exact hlex) K
          · skip
            refine r_aload_n (q := 100) dX4_begin_99 rfl rfl rfl ?_
            refine r_iload (q := 102) dX4_begin_100 rfl rfl ?_
            refine r_baldN (q := 103) 940 (by decide) rfl dX4_begin_102 rfl (hs.e (by decide)) (hs.n rfl (by decide)) (by omega) (by decide) ?_
            refine r_topi (y := sbt (bs.getD p 0)) r0 ?_
            refine r_bipush (q := 105) (nI 10) dX4_begin_103 rfl (by decide) ?_
            refine r_icmp_eq (q := 108) (t := 117) dX4_begin_105 (by decide) rfl (fun h105 => ?_) (fun h105 => ?_)
            · skip
              refine r_iload (q := 119) dX4_begin_117 rfl rfl ?_
              refine r_istore (q := 121) (L' := [some (zr 4 0), some (zr 1200 0), some (zi tl), some (zi (nI lim)), some (zi (nI bs.length)), some (zi (nI (min bs.length lim))), some (zi (nI (p + 1))), some (zi (nI (p + 1)))]) dX4_begin_119 rfl (by decide) rfl ?_
              refine r_goto (q := 24) dX4_begin_121 (by decide) ?_
              refine r_mask [true, true, true, true, true, true, true, false] rfl ?_
              exact ih (p + 1) S l (by omega) (by omega) (by omega) hs hb h3 hka (by rw [← lexA_bl hps hbl2]; exact hlex) K
            · skip
              exact absurd hbl2 (fun z => z.elim (fun y => h96 ((b1 32 (by omega)).mpr y)) (fun y => h105 ((b1 10 (by omega)).mpr y)))
        · rw [lexA_sg hps ha hbl2] at hlex
          refine r_iload (q := 26) dX4_begin_24 rfl rfl ?_
          refine r_iload (q := 28) dX4_begin_26 rfl rfl ?_
          refine r_icmp_geN (q := 31) (t := 124) (by omega) (by omega) dX4_begin_28 (by decide) rfl (fun h28 => absurd h28 (by omega)) (fun h28 => ?_)
          refine r_iload (q := 33) dX4_begin_31 rfl rfl ?_
          refine r_iconst (q := 34) (nI 1) dX4_begin_33 rfl (by decide) ?_
          refine r_iaddN (q := 35) dX4_begin_34 rfl ?_
          refine r_istore (q := 37) (L' := [some (zr 4 0), some (zr 1200 0), some (zi tl), some (zi (nI lim)), some (zi (nI bs.length)), some (zi (nI (min bs.length lim))), some (zi (nI p)), some (zi (nI (p + 1)))]) dX4_begin_35 rfl (by decide) rfl ?_
          refine r_aload_n (q := 38) dX4_begin_37 rfl rfl rfl ?_
          refine r_iload (q := 40) dX4_begin_38 rfl rfl ?_
          refine r_baldN (q := 41) 940 (by decide) rfl dX4_begin_40 rfl (hs.e (by decide)) (hs.n rfl (by decide)) (by omega) (by decide) ?_
          refine r_topi (y := sbt (bs.getD p 0)) r0 ?_
          refine r_callS (Mc := mX4_isSmall) (q := 44) (As := [zi (sbt (bs.getD p 0))]) (st := []) dX4_begin_41 rfl rfl mkX4_isSmall wt514 wt515 rfl (Nat.le_of_ble_eq_true rfl) (Nat.le_of_ble_eq_true rfl) (by decide) (by decide) (by decide) (Or.inl rfl) hs.some (ok_X4_isSmall hlt) (fun r41 S41 hp41 => ?_)
          obtain ⟨rfl, hq41⟩ := hp41
          rw [hq41]
          rw [n1.1, if_neg (by decide)]
          show Ok _ _ _ [zi (nI 0)] _ _
          refine r_if_neN (q := 47) (t := 57) (by omega) dX4_begin_44 (by decide) rfl (fun h44 => absurd h44 (by omega)) (fun h44 => ?_)
          refine r_aload_n (q := 48) dX4_begin_47 rfl rfl rfl ?_
          refine r_iload (q := 50) dX4_begin_48 rfl rfl ?_
          refine r_baldN (q := 51) 940 (by decide) rfl dX4_begin_50 rfl (hs.e (by decide)) (hs.n rfl (by decide)) (by omega) (by decide) ?_
          refine r_topi (y := sbt (bs.getD p 0)) r0 ?_
          refine r_callS (Mc := mX4_isDigit) (q := 54) (As := [zi (sbt (bs.getD p 0))]) (st := []) dX4_begin_51 rfl rfl mkX4_isDigit wt517 wt518 rfl (Nat.le_of_ble_eq_true rfl) (Nat.le_of_ble_eq_true rfl) (by decide) (by decide) (by decide) (Or.inl rfl) hs.some (ok_X4_isDigit hlt) (fun r51 S51 hp51 => ?_)
          obtain ⟨rfl, hq51⟩ := hp51
          rw [hq51]
          rw [n1.2, if_neg (by decide)]
          show Ok _ _ _ [zi (nI 0)] _ _
          refine r_if_eqN (q := 57) (t := 90) (by omega) dX4_begin_54 (by decide) rfl (fun h54 => ?_) (fun h54 => absurd h54 (by omega))
          refine r_aload_n (q := 91) dX4_begin_90 rfl rfl rfl ?_
          refine r_iload (q := 93) dX4_begin_91 rfl rfl ?_
          refine r_baldN (q := 94) 940 (by decide) rfl dX4_begin_93 rfl (hs.e (by decide)) (hs.n rfl (by decide)) (by omega) (by decide) ?_
          refine r_topi (y := sbt (bs.getD p 0)) r0 ?_
          refine r_bipush (q := 96) (nI 32) dX4_begin_94 rfl (by decide) ?_
          refine r_icmp_eq (q := 99) (t := 117) dX4_begin_96 (by decide) rfl (fun h96 => absurd h96 (fun z => hbl2 (Or.inl ((b1 32 (by omega)).mp z)))) (fun h96 => ?_)
          refine r_aload_n (q := 100) dX4_begin_99 rfl rfl rfl ?_
          refine r_iload (q := 102) dX4_begin_100 rfl rfl ?_
          refine r_baldN (q := 103) 940 (by decide) rfl dX4_begin_102 rfl (hs.e (by decide)) (hs.n rfl (by decide)) (by omega) (by decide) ?_
          refine r_topi (y := sbt (bs.getD p 0)) r0 ?_
          refine r_bipush (q := 105) (nI 10) dX4_begin_103 rfl (by decide) ?_
          refine r_icmp_eq (q := 108) (t := 117) dX4_begin_105 (by decide) rfl (fun h105 => absurd h105 (fun z => hbl2 (Or.inr ((b1 10 (by omega)).mp z)))) (fun h105 => ?_)
          refine r_aload_n (q := 109) dX4_begin_108 rfl rfl rfl ?_
          refine r_aload_n (q := 110) dX4_begin_109 rfl rfl rfl ?_
          refine r_iload (q := 112) dX4_begin_110 rfl rfl ?_
          refine r_iload (q := 114) dX4_begin_112 rfl rfl ?_
          refine r_callV (Mc := mX4_addToken) (q := 117) (As := [zr 1200 0, zi (nI p), zi (nI (p + 1))]) (st := []) ck4 dX4_begin_114 rfl rfl mkX4_addToken wt520 wt522 wp3 rfl (Nat.le_of_ble_eq_true rfl) (Nat.le_of_ble_eq_true rfl) (by decide) (by decide) (by decide) (Or.inl rfl) (hs.e (by decide)) (ok_addToken_s hs hb hbl (fr := p) (by omega) h3 (by omega) hka ha) (fun r114 S114 hp114 => ?_)
          obtain ⟨rfl, x2, x3, x4⟩ := hp114
          show Ok _ _ _ [] _ _
          refine r_iload (q := 119) dX4_begin_117 rfl rfl ?_
          refine r_istore (q := 121) (L' := [some (zr 4 0), some (zr 1200 0), some (zi tl), some (zi (nI lim)), some (zi (nI bs.length)), some (zi (nI (min bs.length lim))), some (zi (nI (p + 1))), some (zi (nI (p + 1)))]) dX4_begin_119 rfl (by decide) rfl ?_
          refine r_goto (q := 24) dX4_begin_121 (by decide) ?_
          refine r_mask [true, true, true, true, true, true, true, false] rfl ?_
          exact ih (p + 1) S114 (l ++ [(if sgn (bs.getD p 0) then bs.getD p 0 else 4, p, 0)]) (by omega) (by omega) (by rw [List.length_append, List.length_singleton]; omega) (hs.fr x2) (hb.fr x2 (fun _ => rfl)) x3 x4 (by rw [List.append_assoc, List.singleton_append]; exact hlex) (fun S' l' p' f1 f2 f3 f4 f5 => K S' l' p' (x2.tr f1) f2 f3 f4 f5)
    · skip
      refine r_iload (q := 26) dX4_begin_24 rfl rfl ?_
      refine r_iload (q := 28) dX4_begin_26 rfl rfl ?_
      refine r_icmp_geN (q := 31) (t := 124) (by omega) (by omega) dX4_begin_28 (by decide) rfl (fun h28 => ?_) (fun h28 => absurd h28 (by omega))
      exact K S l p Fr.rf h3 (by omega) hka (by rw [← lexA_end (bs := bs) (lim := lim) (show min bs.length lim ≤ p by omega)]; exact hlex)

theorem tBg_av (a b k : Nat) (h : tAv a b k = true) : tBg a b k = true := by
  simp [tAv] at h
  simp [tBg]
  omega

set_option maxRecDepth 100000 in
theorem ok_begin {S : zS} (hs : Sd S) {bs : List Nat} (hb : Bs S 1200 bs) (hbl : bs.length ≤ 940) {lim : Nat} (hlim : lim ≤ 940) : Ok mX4_begin 0 (ent 8 [zr 4 0, zr 1200 0, zi (nI bs.length), zi (nI lim)]) [] S (fun r S1 => r = none ∧ Fr tBg S S1 ∧ gI S1 4 0 14 = nI 0 ∧ Rc S1 (lexA bs lim 0)) := by
  show Ok mX4_begin 0 [some (zr 4 0), some (zr 1200 0), some (zi (nI bs.length)), some (zi (nI lim)), none, none, none, none] [] S _
  refine r_iload_n (q := 1) dX4_begin_0 rfl rfl rfl ?_
  refine r_aload_n (q := 2) dX4_begin_1 rfl rfl rfl ?_
  refine r_alen (q := 3) (by decide) (by decide) dX4_begin_2 rfl (hs.e (by decide)) ?_
  refine r_topi (y := nI 940) (congrArg nI (hs.n rfl (by decide))) ?_
  refine r_mmin (q := 6) dX4_begin_3 rfl wt511 wt512 wt15 wt513 (Nat.le_of_ble_eq_true rfl) (by decide) (by decide) ?_
  refine r_topi (y := nI (min bs.length 940)) (nI_min (by omega) (by omega)) ?_
  refine r_topi (y := nI bs.length) (congrArg nI (by omega)) ?_
  refine r_istore (q := 8) (L' := [some (zr 4 0), some (zr 1200 0), some (zi (nI bs.length)), some (zi (nI lim)), some (zi (nI bs.length)), none, none, none]) dX4_begin_6 rfl (by decide) rfl ?_
  refine r_iload (q := 10) dX4_begin_8 rfl rfl ?_
  refine r_iload_n (q := 11) dX4_begin_10 rfl rfl rfl ?_
  refine r_mmin (q := 14) dX4_begin_11 rfl wt511 wt512 wt15 wt513 (Nat.le_of_ble_eq_true rfl) (by decide) (by decide) ?_
  refine r_topi (y := nI (min bs.length lim)) (nI_min (by omega) (by omega)) ?_
  refine r_istore (q := 16) (L' := [some (zr 4 0), some (zr 1200 0), some (zi (nI bs.length)), some (zi (nI lim)), some (zi (nI bs.length)), some (zi (nI (min bs.length lim))), none, none]) dX4_begin_14 rfl (by decide) rfl ?_
  refine r_iconst (q := 17) (nI 0) dX4_begin_16 rfl (by decide) ?_
  refine r_istore (q := 19) (L' := [some (zr 4 0), some (zr 1200 0), some (zi (nI bs.length)), some (zi (nI lim)), some (zi (nI bs.length)), some (zi (nI (min bs.length lim))), some (zi (nI 0)), none]) dX4_begin_17 rfl (by decide) rfl ?_
  refine r_aload_n (q := 20) dX4_begin_19 rfl rfl rfl ?_
  refine r_iconst (q := 21) (nI 0) dX4_begin_20 rfl (by decide) ?_
  refine r_puti (q := 24) ck4 dX4_begin_21 rfl (k := 3) (by decide) wt124 (Or.inl rfl) rfl (hs.e (by decide)) ?_
  refine lp_bg1 hbl hlim (min bs.length lim) 0 (sI S 4 0 3 (nI 0)) [] (by omega) (by omega) (by simp) hs ⟨fun k hk => by rw [gI_sI, if_neg (by omega)]; exact hb.1 k hk, hb.2⟩ (by rw [gI_sI, if_pos ⟨rfl, rfl, rfl⟩]; rfl) (fun i hi => absurd hi (by simp)) rfl (fun S' l' p' f1 f2 f3 f4 f5 => ?_)
  have hs' : Sd S' := Sd.fr (S := sI S 4 0 3 (nI 0)) hs f1
  have fA : Fr tBg S S' := Fr.tr (Fr.i Fr.rf rfl) (f1.mono tBg_rk)
  refine r_aload_n (q := 125) dX4_begin_124 rfl rfl rfl ?_
  refine r_getr (q := 128) (some (500, 0)) ck4 dX4_begin_125 rfl (k := 0) (by decide) wt121 rfl (hs'.e (by decide)) (hs'.r (by decide) (by decide)) ?_
  refine r_aload_n (q := 129) dX4_begin_128 rfl rfl rfl ?_
  refine r_geti (q := 132) ck4 dX4_begin_129 rfl (k := 3) (by decide) wt124 (Or.inl rfl) (hs'.e (by decide)) ?_
  refine r_topi (y := nI l'.length) f2 ?_
  refine r_iload (q := 134) dX4_begin_132 rfl rfl ?_
  refine r_iload_n (q := 135) dX4_begin_134 rfl rfl rfl ?_
  refine r_icmp_leN (q := 138) (t := 142) (by omega) (by omega) dX4_begin_135 (by decide) rfl (fun h135 => ?_) (fun h135 => ?_)
  · skip
    refine r_iconst (q := 143) (nI 0) dX4_begin_142 rfl (by decide) ?_
    refine r_iastN (q := 144) 941 (by decide) rfl dX4_begin_143 rfl (hs'.e (by decide)) (hs'.n rfl (by decide)) (by omega) (by decide) ?_
    refine r_aload_n (q := 145) dX4_begin_144 rfl rfl rfl ?_
    refine r_getr (q := 148) (some (501, 0)) ck4 dX4_begin_145 rfl (k := 1) (by decide) wt122 rfl (hs'.e (by decide)) (hs'.r (by decide) (by decide)) ?_
    refine r_aload_n (q := 149) dX4_begin_148 rfl rfl rfl ?_
    refine r_geti (q := 152) ck4 dX4_begin_149 rfl (k := 3) (by decide) wt124 (Or.inl rfl) (hs'.e (by decide)) ?_
    refine r_topi (y := gI S' 4 0 3) (by simp [gI_sI, gJ_sJ, gI_sJ, gJ_sI]) ?_
    refine r_topi (y := nI l'.length) f2 ?_
    refine r_iload (q := 154) dX4_begin_152 rfl rfl ?_
    refine r_iastN (q := 155) 941 (by decide) rfl dX4_begin_154 rfl (hs'.e (by decide)) (hs'.n rfl (by decide)) (by omega) (by decide) ?_
    refine r_aload_n (q := 156) dX4_begin_155 rfl rfl rfl ?_
    refine r_dup (q := 157) dX4_begin_156 rfl rfl ?_
    refine r_geti (q := 160) ck4 dX4_begin_157 rfl (k := 3) (by decide) wt124 (Or.inl rfl) (hs'.e (by decide)) ?_
    refine r_topi (y := gI S' 4 0 3) (by simp [gI_sI, gJ_sJ, gI_sJ, gJ_sI]) ?_
    refine r_topi (y := nI l'.length) f2 ?_
    refine r_iconst (q := 161) (nI 1) dX4_begin_160 rfl (by decide) ?_
    refine r_iaddN (q := 162) dX4_begin_161 rfl ?_
    refine r_puti (q := 165) ck4 dX4_begin_162 rfl (k := 3) (by decide) wt124 (Or.inl rfl) rfl (hs'.e (by decide)) ?_
    refine r_aload_n (q := 166) dX4_begin_165 rfl rfl rfl ?_
    refine r_iconst (q := 167) (nI 0) dX4_begin_166 rfl (by decide) ?_
    refine r_puti (q := 170) ck4 dX4_begin_167 rfl (k := 14) (by decide) wt136 (Or.inl rfl) rfl (hs'.e (by decide)) ?_
    refine r_aload_n (q := 171) dX4_begin_170 rfl rfl rfl ?_
    refine r_iconst (q := 172) (nI 0) dX4_begin_171 rfl (by decide) ?_
    refine r_puti (q := 175) ck4 dX4_begin_172 rfl (k := 15) (by decide) wt138 (Or.inl rfl) rfl (hs'.e (by decide)) ?_
    refine r_aload_n (q := 176) dX4_begin_175 rfl rfl rfl ?_
    refine r_iconst (q := 177) ((-1 : Int32)) dX4_begin_176 rfl (by decide) ?_
    refine r_puti (q := 180) ck4 dX4_begin_177 rfl (k := 4) (by decide) wt125 (Or.inl rfl) rfl (hs'.e (by decide)) ?_
    refine r_aload_n (q := 181) dX4_begin_180 rfl rfl rfl ?_
    have hx : ∀ i, i < l'.length → gI (sI (sI (sI (sI (sI (sI S' 500 0 l'.length (nI 0)) 501 0 l'.length (nI (min bs.length lim))) 4 0 3 (nI (l'.length + 1))) 4 0 14 (nI 0)) 4 0 15 (nI 0)) 4 0 4 (-1 : Int32)) 500 0 i = gI S' 500 0 i ∧ gI (sI (sI (sI (sI (sI (sI S' 500 0 l'.length (nI 0)) 501 0 l'.length (nI (min bs.length lim))) 4 0 3 (nI (l'.length + 1))) 4 0 14 (nI 0)) 4 0 15 (nI 0)) 4 0 4 (-1 : Int32)) 501 0 i = gI S' 501 0 i ∧ gJ (sI (sI (sI (sI (sI (sI S' 500 0 l'.length (nI 0)) 501 0 l'.length (nI (min bs.length lim))) 4 0 3 (nI (l'.length + 1))) 4 0 14 (nI 0)) 4 0 15 (nI 0)) 4 0 4 (-1 : Int32)) 502 0 i = gJ S' 502 0 i := fun i hi => ⟨by repeat (rw [gI_sI, if_neg (by omega)]), by repeat (rw [gI_sI, if_neg (by omega)]), rfl⟩
    have te : tend bs lim = (0, min bs.length lim, 0) := by unfold tend; rw [if_neg (by omega)]
    have hk : Ka (sI (sI (sI (sI (sI (sI S' 500 0 l'.length (nI 0)) 501 0 l'.length (nI (min bs.length lim))) 4 0 3 (nI (l'.length + 1))) 4 0 14 (nI 0)) 4 0 15 (nI 0)) 4 0 4 (-1 : Int32)) (l' ++ [tend bs lim]) := ka_snoc f4 hx (by rw [te]; repeat (first | rw [gI_sI, if_neg (by omega)] | rw [gI_sI, if_pos ⟨rfl, rfl, rfl⟩])) (by rw [te]; repeat (first | rw [gI_sI, if_neg (by omega)] | rw [gI_sI, if_pos ⟨rfl, rfl, rfl⟩])) (fun z => by rw [te] at z; exact absurd z (by show ¬ ((0 : Nat) = 2 ∨ (0 : Nat) = 3); omega))
    refine r_callV (Mc := mX4_advance) (q := 184) (As := []) (st := []) ck4 dX4_begin_181 rfl rfl mkX4_advance wt529 wt531 wp4 rfl (Nat.le_of_ble_eq_true rfl) (Nat.le_of_ble_eq_true rfl) (by decide) (by decide) (by decide) (Or.inl rfl) (hs'.e (by decide)) (ok_advance_0 (S := sI (sI (sI (sI (sI (sI S' 500 0 l'.length (nI 0)) 501 0 l'.length (nI (min bs.length lim))) 4 0 3 (nI (l'.length + 1))) 4 0 14 (nI 0)) 4 0 15 (nI 0)) 4 0 4 (-1 : Int32)) hs' (n := l'.length + 1) (by omega) (by omega) (by repeat (first | rw [gI_sI, if_neg (by omega)] | rw [gI_sI, if_pos ⟨rfl, rfl, rfl⟩])) (by rw [gI_sI, if_pos ⟨rfl, rfl, rfl⟩])) (fun r181 S181 hp181 => ?_)
    obtain ⟨rfl, a1, a2, a3, a4, a5⟩ := hp181
    have fB : Fr tBg S' (sI (sI (sI (sI (sI (sI S' 500 0 l'.length (nI 0)) 501 0 l'.length (nI (min bs.length lim))) 4 0 3 (nI (l'.length + 1))) 4 0 14 (nI 0)) 4 0 15 (nI 0)) 4 0 4 (-1 : Int32)) := (((((Fr.rf.i rfl).i rfl).i rfl).i rfl).i rfl).i rfl
    have hfk : gI (sI (sI (sI (sI (sI (sI S' 500 0 l'.length (nI 0)) 501 0 l'.length (nI (min bs.length lim))) 4 0 3 (nI (l'.length + 1))) 4 0 14 (nI 0)) 4 0 15 (nI 0)) 4 0 4 (-1 : Int32)) 4 0 14 = nI 0 := by repeat (first | rw [gI_sI, if_neg (by omega)] | rw [gI_sI, if_pos ⟨rfl, rfl, rfl⟩])
    show Ok _ _ _ [] _ _
    refine r_return dX4_begin_184 rfl ?_
    have hll : (l' ++ [tend bs lim]).length = l'.length + 1 := by rw [List.length_append, List.length_singleton]
    have h0 : 0 < (l' ++ [tend bs lim]).length := by omega
    refine ⟨rfl, (fA.tr fB).tr (a1.mono tBg_av), (a1.1 _ _ _ rfl).trans hfk, ?_⟩
    rw [← f5]
    refine ⟨l' ++ [tend bs lim], 0, h0, by omega, rfl, ?_, a2, fun k hk2 => ⟨(a1.1 _ _ _ rfl).trans (hk k hk2).1, (a1.1 _ _ _ rfl).trans (hk k hk2).2.1, fun y => (a1.2.1 _ _ _ rfl).trans ((hk k hk2).2.2 y)⟩, ?_, ?_, ?_⟩
    · rw [hll, a1.1 _ _ _ rfl]; repeat (first | rw [gI_sI, if_neg (by omega)] | rw [gI_sI, if_pos ⟨rfl, rfl, rfl⟩])
    · rw [a3, ← List.drop_zero (l := l' ++ [tend bs lim]), hd_drop h0]; exact (hk 0 h0).1
    · rw [a4, ← List.drop_zero (l := l' ++ [tend bs lim]), hd_drop h0]; exact (hk 0 h0).2.1
    · rw [a5, ← List.drop_zero (l := l' ++ [tend bs lim]), hd_drop h0]; exact (hk 0 h0).2.2
  · skip
    refine r_iconst (q := 139) (nI 1) dX4_begin_138 rfl (by decide) ?_
    refine r_goto (q := 143) dX4_begin_139 (by decide) ?_
    refine r_iastN (q := 144) 941 (by decide) rfl dX4_begin_143 rfl (hs'.e (by decide)) (hs'.n rfl (by decide)) (by omega) (by decide) ?_
    refine r_aload_n (q := 145) dX4_begin_144 rfl rfl rfl ?_
    refine r_getr (q := 148) (some (501, 0)) ck4 dX4_begin_145 rfl (k := 1) (by decide) wt122 rfl (hs'.e (by decide)) (hs'.r (by decide) (by decide)) ?_
    refine r_aload_n (q := 149) dX4_begin_148 rfl rfl rfl ?_
    refine r_geti (q := 152) ck4 dX4_begin_149 rfl (k := 3) (by decide) wt124 (Or.inl rfl) (hs'.e (by decide)) ?_
    refine r_topi (y := gI S' 4 0 3) (by simp [gI_sI, gJ_sJ, gI_sJ, gJ_sI]) ?_
    refine r_topi (y := nI l'.length) f2 ?_
    refine r_iload (q := 154) dX4_begin_152 rfl rfl ?_
    refine r_iastN (q := 155) 941 (by decide) rfl dX4_begin_154 rfl (hs'.e (by decide)) (hs'.n rfl (by decide)) (by omega) (by decide) ?_
    refine r_aload_n (q := 156) dX4_begin_155 rfl rfl rfl ?_
    refine r_dup (q := 157) dX4_begin_156 rfl rfl ?_
    refine r_geti (q := 160) ck4 dX4_begin_157 rfl (k := 3) (by decide) wt124 (Or.inl rfl) (hs'.e (by decide)) ?_
    refine r_topi (y := gI S' 4 0 3) (by simp [gI_sI, gJ_sJ, gI_sJ, gJ_sI]) ?_
    refine r_topi (y := nI l'.length) f2 ?_
    refine r_iconst (q := 161) (nI 1) dX4_begin_160 rfl (by decide) ?_
    refine r_iaddN (q := 162) dX4_begin_161 rfl ?_
    refine r_puti (q := 165) ck4 dX4_begin_162 rfl (k := 3) (by decide) wt124 (Or.inl rfl) rfl (hs'.e (by decide)) ?_
    refine r_aload_n (q := 166) dX4_begin_165 rfl rfl rfl ?_
    refine r_iconst (q := 167) (nI 0) dX4_begin_166 rfl (by decide) ?_
    refine r_puti (q := 170) ck4 dX4_begin_167 rfl (k := 14) (by decide) wt136 (Or.inl rfl) rfl (hs'.e (by decide)) ?_
    refine r_aload_n (q := 171) dX4_begin_170 rfl rfl rfl ?_
    refine r_iconst (q := 172) (nI 0) dX4_begin_171 rfl (by decide) ?_
    refine r_puti (q := 175) ck4 dX4_begin_172 rfl (k := 15) (by decide) wt138 (Or.inl rfl) rfl (hs'.e (by decide)) ?_
    refine r_aload_n (q := 176) dX4_begin_175 rfl rfl rfl ?_
    refine r_iconst (q := 177) ((-1 : Int32)) dX4_begin_176 rfl (by decide) ?_
    refine r_puti (q := 180) ck4 dX4_begin_177 rfl (k := 4) (by decide) wt125 (Or.inl rfl) rfl (hs'.e (by decide)) ?_
    refine r_aload_n (q := 181) dX4_begin_180 rfl rfl rfl ?_
    have hx : ∀ i, i < l'.length → gI (sI (sI (sI (sI (sI (sI S' 500 0 l'.length (nI 1)) 501 0 l'.length (nI (min bs.length lim))) 4 0 3 (nI (l'.length + 1))) 4 0 14 (nI 0)) 4 0 15 (nI 0)) 4 0 4 (-1 : Int32)) 500 0 i = gI S' 500 0 i ∧ gI (sI (sI (sI (sI (sI (sI S' 500 0 l'.length (nI 1)) 501 0 l'.length (nI (min bs.length lim))) 4 0 3 (nI (l'.length + 1))) 4 0 14 (nI 0)) 4 0 15 (nI 0)) 4 0 4 (-1 : Int32)) 501 0 i = gI S' 501 0 i ∧ gJ (sI (sI (sI (sI (sI (sI S' 500 0 l'.length (nI 1)) 501 0 l'.length (nI (min bs.length lim))) 4 0 3 (nI (l'.length + 1))) 4 0 14 (nI 0)) 4 0 15 (nI 0)) 4 0 4 (-1 : Int32)) 502 0 i = gJ S' 502 0 i := fun i hi => ⟨by repeat (rw [gI_sI, if_neg (by omega)]), by repeat (rw [gI_sI, if_neg (by omega)]), rfl⟩
    have te : tend bs lim = (1, min bs.length lim, 0) := by unfold tend; rw [if_pos (by omega)]
    have hk : Ka (sI (sI (sI (sI (sI (sI S' 500 0 l'.length (nI 1)) 501 0 l'.length (nI (min bs.length lim))) 4 0 3 (nI (l'.length + 1))) 4 0 14 (nI 0)) 4 0 15 (nI 0)) 4 0 4 (-1 : Int32)) (l' ++ [tend bs lim]) := ka_snoc f4 hx (by rw [te]; repeat (first | rw [gI_sI, if_neg (by omega)] | rw [gI_sI, if_pos ⟨rfl, rfl, rfl⟩])) (by rw [te]; repeat (first | rw [gI_sI, if_neg (by omega)] | rw [gI_sI, if_pos ⟨rfl, rfl, rfl⟩])) (fun z => by rw [te] at z; exact absurd z (by show ¬ ((1 : Nat) = 2 ∨ (1 : Nat) = 3); omega))
    refine r_callV (Mc := mX4_advance) (q := 184) (As := []) (st := []) ck4 dX4_begin_181 rfl rfl mkX4_advance wt529 wt531 wp4 rfl (Nat.le_of_ble_eq_true rfl) (Nat.le_of_ble_eq_true rfl) (by decide) (by decide) (by decide) (Or.inl rfl) (hs'.e (by decide)) (ok_advance_0 (S := sI (sI (sI (sI (sI (sI S' 500 0 l'.length (nI 1)) 501 0 l'.length (nI (min bs.length lim))) 4 0 3 (nI (l'.length + 1))) 4 0 14 (nI 0)) 4 0 15 (nI 0)) 4 0 4 (-1 : Int32)) hs' (n := l'.length + 1) (by omega) (by omega) (by repeat (first | rw [gI_sI, if_neg (by omega)] | rw [gI_sI, if_pos ⟨rfl, rfl, rfl⟩])) (by rw [gI_sI, if_pos ⟨rfl, rfl, rfl⟩])) (fun r181 S181 hp181 => ?_)
    obtain ⟨rfl, a1, a2, a3, a4, a5⟩ := hp181
    have fB : Fr tBg S' (sI (sI (sI (sI (sI (sI S' 500 0 l'.length (nI 1)) 501 0 l'.length (nI (min bs.length lim))) 4 0 3 (nI (l'.length + 1))) 4 0 14 (nI 0)) 4 0 15 (nI 0)) 4 0 4 (-1 : Int32)) := (((((Fr.rf.i rfl).i rfl).i rfl).i rfl).i rfl).i rfl
    have hfk : gI (sI (sI (sI (sI (sI (sI S' 500 0 l'.length (nI 1)) 501 0 l'.length (nI (min bs.length lim))) 4 0 3 (nI (l'.length + 1))) 4 0 14 (nI 0)) 4 0 15 (nI 0)) 4 0 4 (-1 : Int32)) 4 0 14 = nI 0 := by repeat (first | rw [gI_sI, if_neg (by omega)] | rw [gI_sI, if_pos ⟨rfl, rfl, rfl⟩])
    show Ok _ _ _ [] _ _
    refine r_return dX4_begin_184 rfl ?_
    have hll : (l' ++ [tend bs lim]).length = l'.length + 1 := by rw [List.length_append, List.length_singleton]
    have h0 : 0 < (l' ++ [tend bs lim]).length := by omega
    refine ⟨rfl, (fA.tr fB).tr (a1.mono tBg_av), (a1.1 _ _ _ rfl).trans hfk, ?_⟩
    rw [← f5]
    refine ⟨l' ++ [tend bs lim], 0, h0, by omega, rfl, ?_, a2, fun k hk2 => ⟨(a1.1 _ _ _ rfl).trans (hk k hk2).1, (a1.1 _ _ _ rfl).trans (hk k hk2).2.1, fun y => (a1.2.1 _ _ _ rfl).trans ((hk k hk2).2.2 y)⟩, ?_, ?_, ?_⟩
    · rw [hll, a1.1 _ _ _ rfl]; repeat (first | rw [gI_sI, if_neg (by omega)] | rw [gI_sI, if_pos ⟨rfl, rfl, rfl⟩])
    · rw [a3, ← List.drop_zero (l := l' ++ [tend bs lim]), hd_drop h0]; exact (hk 0 h0).1
    · rw [a4, ← List.drop_zero (l := l' ++ [tend bs lim]), hd_drop h0]; exact (hk 0 h0).2.1
    · rw [a5, ← List.drop_zero (l := l' ++ [tend bs lim]), hd_drop h0]; exact (hk 0 h0).2.2

