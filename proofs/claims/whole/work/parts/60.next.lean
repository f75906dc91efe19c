def tNx (a b k : Nat) : Bool := a == 12 && b == 0 && (k == 4 || k == 9 || k == 10 || k == 11 || k == 12 || k == 15)
def rkt (k : Nat) : Nat := if k = 0 then 0 else if k = 1 ∨ k = 4 then 4 else if k = 2 then 1 else if k = 3 then 2 else 3
/-- the reference's token -/
def Tm (S : zS) (t : zTk) : Prop := gI S 12 0 9 = nI (rkt t.1) ∧ gI S 12 0 10 = nI t.2.1 ∧ (t.1 = 2 → gJ S 12 0 15 = lN t.2.2) ∧ (t.1 = 3 → gI S 12 0 12 = nI t.2.2) ∧ (5 ≤ t.1 → gI S 12 0 12 = nI t.1)
/-- the reference's text, from p on -/
def Tx2 (S : zS) (bs : List Nat) (lim p : Nat) : Prop := Bs S 1301 bs ∧ gI S 12 0 3 = nI bs.length ∧ gI S 12 0 5 = nI lim ∧ gI S 12 0 4 = nI p
theorem lexA_skip {bs : List Nat} {lim p : Nat} (h : p < bs.length) (ha : bs.getD p 0 = 32 ∨ bs.getD p 0 = 10) : lexA bs lim p = lexA bs lim (p + 1) := by
  by_cases h2 : p < min bs.length lim
  · exact lexA_bl h2 ha
  · rw [lexA_end (by omega), lexA_end (by omega)]

set_option maxRecDepth 100000 in
theorem ok_peek_in {S : zS} (hs : Sd S) {bs : List Nat} {lim p : Nat} (hbl : bs.length ≤ 940) (hx : Tx2 S bs lim p) (hp : p < bs.length) : Ok mX12_peek 0 (ent 1 [zr 12 0]) [] S (fun r S1 => r = some (zi (nI (bs.getD p 0))) ∧ S1 = S) := by
  show Ok mX12_peek 0 [some (zr 12 0)] [] S _
  refine r_aload_n (q := 1) dX12_peek_0 rfl rfl rfl ?_
  refine r_geti (q := 4) ck12 dX12_peek_1 rfl (k := 4) (by decide) wt1282 (Or.inl rfl) (hs.e (by decide)) ?_
  refine r_topi (y := nI p) hx.2.2.2 ?_
  refine r_aload_n (q := 5) dX12_peek_4 rfl rfl rfl ?_
  refine r_geti (q := 8) ck12 dX12_peek_5 rfl (k := 3) (by decide) wt1281 (Or.inl rfl) (hs.e (by decide)) ?_
  refine r_topi (y := nI bs.length) hx.2.1 ?_
  refine r_icmp_geN (q := 11) (t := 27) (by omega) (by omega) dX12_peek_8 (by decide) rfl (fun h8 => absurd h8 (by omega)) (fun h8 => ?_)
  refine r_aload_n (q := 12) dX12_peek_11 rfl rfl rfl ?_
  refine r_getr (q := 15) (some (1301, 0)) ck12 dX12_peek_12 rfl (k := 1) (by decide) wt1279 rfl (hs.e (by decide)) (hs.r (by decide) (by decide)) ?_
  refine r_aload_n (q := 16) dX12_peek_15 rfl rfl rfl ?_
  refine r_geti (q := 19) ck12 dX12_peek_16 rfl (k := 4) (by decide) wt1282 (Or.inl rfl) (hs.e (by decide)) ?_
  refine r_topi (y := nI p) hx.2.2.2 ?_
  refine r_baldN (q := 20) 940 (by decide) rfl dX12_peek_19 rfl (hs.e (by decide)) (hs.n rfl (by decide)) (by omega) (by decide) ?_
  refine r_sipush (q := 23) (nI 255) dX12_peek_20 rfl (by decide) ?_
  refine r_iand (q := 24) dX12_peek_23 rfl ?_
  refine r_topi (y := nI (bs.getD p 0)) (by rw [hx.1.1 p hp]; exact sbt_255 _ (hx.1.lt p)) ?_
  refine r_goto (q := 28) dX12_peek_24 (by decide) ?_
  refine r_ireturn dX12_peek_28 rfl ?_
  exact ⟨rfl, rfl⟩

set_option maxRecDepth 100000 in
theorem ok_peek_out {S : zS} (hs : Sd S) {bs : List Nat} {lim p : Nat} (hbl : bs.length ≤ 940) (hx : Tx2 S bs lim p) (hp : p = bs.length) : Ok mX12_peek 0 (ent 1 [zr 12 0]) [] S (fun r S1 => r = some (zi (-1)) ∧ S1 = S) := by
  show Ok mX12_peek 0 [some (zr 12 0)] [] S _
  refine r_aload_n (q := 1) dX12_peek_0 rfl rfl rfl ?_
  refine r_geti (q := 4) ck12 dX12_peek_1 rfl (k := 4) (by decide) wt1282 (Or.inl rfl) (hs.e (by decide)) ?_
  refine r_topi (y := nI p) hx.2.2.2 ?_
  refine r_aload_n (q := 5) dX12_peek_4 rfl rfl rfl ?_
  refine r_geti (q := 8) ck12 dX12_peek_5 rfl (k := 3) (by decide) wt1281 (Or.inl rfl) (hs.e (by decide)) ?_
  refine r_topi (y := nI bs.length) hx.2.1 ?_
  refine r_icmp_geN (q := 11) (t := 27) (by omega) (by omega) dX12_peek_8 (by decide) rfl (fun h8 => ?_) (fun h8 => absurd h8 (by omega))
  refine r_iconst (q := 28) ((-1 : Int32)) dX12_peek_27 rfl (by decide) ?_
  refine r_ireturn dX12_peek_28 rfl ?_
  exact ⟨rfl, rfl⟩

set_option maxRecDepth 100000 in
theorem ok_X12_isSmall {S : zS} {c : Nat} (hc : c < 256) : Ok mX12_isSmall 0 (ent 1 [zi (nI c)]) [] S (fun r S1 => r = some (zi (nI (if sml c = true then 1 else 0))) ∧ S1 = S) := by
  show Ok mX12_isSmall 0 [some (zi (nI c))] [] S _
  refine r_iload_n (q := 1) dX12_isSmall_0 rfl rfl rfl ?_
  refine r_bipush (q := 3) (nI 97) dX12_isSmall_1 rfl (by decide) ?_
  refine r_icmp_ltN (q := 6) (t := 16) (by omega) (by omega) dX12_isSmall_3 (by decide) rfl (fun h3 => ?_) (fun h3 => ?_)
  · skip
    refine r_iconst (q := 17) (nI 0) dX12_isSmall_16 rfl (by decide) ?_
    refine r_zreturn (by decide) dX12_isSmall_17 rfl ?_
    exact ⟨by rw [if_neg (by simp [sml]; omega)], rfl⟩
  · skip
    refine r_iload_n (q := 7) dX12_isSmall_6 rfl rfl rfl ?_
    refine r_bipush (q := 9) (nI 122) dX12_isSmall_7 rfl (by decide) ?_
    refine r_icmp_gtN (q := 12) (t := 16) (by omega) (by omega) dX12_isSmall_9 (by decide) rfl (fun h9 => ?_) (fun h9 => ?_)
    · skip
      refine r_iconst (q := 17) (nI 0) dX12_isSmall_16 rfl (by decide) ?_
      refine r_zreturn (by decide) dX12_isSmall_17 rfl ?_
      exact ⟨by rw [if_neg (by simp [sml]; omega)], rfl⟩
    · skip
      refine r_iconst (q := 13) (nI 1) dX12_isSmall_12 rfl (by decide) ?_
      refine r_goto (q := 17) dX12_isSmall_13 (by decide) ?_
      refine r_zreturn (by decide) dX12_isSmall_17 rfl ?_
      exact ⟨by rw [if_pos (by simp [sml]; omega)], rfl⟩

set_option maxRecDepth 100000 in
theorem ok_X12_isSmall_m {S : zS} : Ok mX12_isSmall 0 (ent 1 [zi (-1 : Int32)]) [] S (fun r S1 => r = some (zi (nI 0)) ∧ S1 = S) := by
  show Ok mX12_isSmall 0 [some (zi (-1 : Int32))] [] S _
  refine r_iload_n (q := 1) dX12_isSmall_0 rfl rfl rfl ?_
  refine r_bipush (q := 3) (nI 97) dX12_isSmall_1 rfl (by decide) ?_
  refine r_icmp_lt (q := 6) (t := 16) dX12_isSmall_3 (by decide) rfl (fun h3 => ?_) (fun h3 => absurd h3 (by decide))
  refine r_iconst (q := 17) (nI 0) dX12_isSmall_16 rfl (by decide) ?_
  refine r_zreturn (by decide) dX12_isSmall_17 rfl ?_
  exact ⟨rfl, rfl⟩

set_option maxRecDepth 100000 in
theorem ok_X12_isDigit {S : zS} {c : Nat} (hc : c < 256) : Ok mX12_isDigit 0 (ent 1 [zi (nI c)]) [] S (fun r S1 => r = some (zi (nI (if dgt c = true then 1 else 0))) ∧ S1 = S) := by
  show Ok mX12_isDigit 0 [some (zi (nI c))] [] S _
  refine r_iload_n (q := 1) dX12_isDigit_0 rfl rfl rfl ?_
  refine r_bipush (q := 3) (nI 48) dX12_isDigit_1 rfl (by decide) ?_
  refine r_icmp_ltN (q := 6) (t := 16) (by omega) (by omega) dX12_isDigit_3 (by decide) rfl (fun h3 => ?_) (fun h3 => ?_)
  · skip
    refine r_iconst (q := 17) (nI 0) dX12_isDigit_16 rfl (by decide) ?_
    refine r_zreturn (by decide) dX12_isDigit_17 rfl ?_
    exact ⟨by rw [if_neg (by simp [dgt]; omega)], rfl⟩
  · skip
    refine r_iload_n (q := 7) dX12_isDigit_6 rfl rfl rfl ?_
    refine r_bipush (q := 9) (nI 57) dX12_isDigit_7 rfl (by decide) ?_
    refine r_icmp_gtN (q := 12) (t := 16) (by omega) (by omega) dX12_isDigit_9 (by decide) rfl (fun h9 => ?_) (fun h9 => ?_)
    · skip
      refine r_iconst (q := 17) (nI 0) dX12_isDigit_16 rfl (by decide) ?_
      refine r_zreturn (by decide) dX12_isDigit_17 rfl ?_
      exact ⟨by rw [if_neg (by simp [dgt]; omega)], rfl⟩
    · skip
      refine r_iconst (q := 13) (nI 1) dX12_isDigit_12 rfl (by decide) ?_
      refine r_goto (q := 17) dX12_isDigit_13 (by decide) ?_
      refine r_zreturn (by decide) dX12_isDigit_17 rfl ?_
      exact ⟨by rw [if_pos (by simp [dgt]; omega)], rfl⟩

set_option maxRecDepth 100000 in
theorem ok_X12_isDigit_m {S : zS} : Ok mX12_isDigit 0 (ent 1 [zi (-1 : Int32)]) [] S (fun r S1 => r = some (zi (nI 0)) ∧ S1 = S) := by
  show Ok mX12_isDigit 0 [some (zi (-1 : Int32))] [] S _
  refine r_iload_n (q := 1) dX12_isDigit_0 rfl rfl rfl ?_
  refine r_bipush (q := 3) (nI 48) dX12_isDigit_1 rfl (by decide) ?_
  refine r_icmp_lt (q := 6) (t := 16) dX12_isDigit_3 (by decide) rfl (fun h3 => ?_) (fun h3 => absurd h3 (by decide))
  refine r_iconst (q := 17) (nI 0) dX12_isDigit_16 rfl (by decide) ?_
  refine r_zreturn (by decide) dX12_isDigit_17 rfl ?_
  exact ⟨rfl, rfl⟩

set_option maxRecDepth 100000 in
theorem lp_nx0 {Po : Option zV → zS → Prop} {bs : List Nat} {lim : Nat} (hbl : bs.length ≤ 940) : ∀ (d p : Nat) (S : zS), p + d = bs.length → Sd S → Tx2 S bs lim p → (∀ S' p', Fr tNx S S' → p' ≤ bs.length → Tx2 S' bs lim p' → lexA bs lim p' = lexA bs lim p → (p' < bs.length → ¬ (bs.getD p' 0 = 32 ∨ bs.getD p' 0 = 10)) → Ok mX12_next 31 [some (zr 12 0), none, none, none] [] S' Po) → Ok mX12_next 0 [some (zr 12 0), none, none, none] [] S Po := by
  intro d
  induction d with
  | zero =>
    intro p S hd hs hx K
    obtain rfl : p = bs.length := by omega
    refine r_aload_n (q := 1) dX12_next_0 rfl rfl rfl ?_
    refine r_callV (Mc := mX12_peek) (q := 4) (As := []) (st := []) ck12 dX12_next_1 rfl rfl mkX12_peek wt1577 wt1579 wp71 rfl (Nat.le_of_ble_eq_true rfl) (Nat.le_of_ble_eq_true rfl) (by decide) (by decide) (by decide) (Or.inl rfl) (hs.e (by decide)) (ok_peek_out hs hbl hx rfl) (fun r1 S1 hp1 => ?_)
    obtain ⟨rfl, hq1⟩ := hp1
    rw [hq1]
    show Ok _ _ _ [zi (-1 : Int32)] _ _
    refine r_bipush (q := 6) (nI 32) dX12_next_4 rfl (by decide) ?_
    refine r_icmp_eq (q := 9) (t := 18) dX12_next_6 (by decide) rfl (fun h6 => absurd h6 (by decide)) (fun h6 => ?_)
    refine r_aload_n (q := 10) dX12_next_9 rfl rfl rfl ?_
    refine r_callV (Mc := mX12_peek) (q := 13) (As := []) (st := []) ck12 dX12_next_10 rfl rfl mkX12_peek wt1577 wt1579 wp71 rfl (Nat.le_of_ble_eq_true rfl) (Nat.le_of_ble_eq_true rfl) (by decide) (by decide) (by decide) (Or.inl rfl) (hs.e (by decide)) (ok_peek_out hs hbl hx rfl) (fun r10 S10 hp10 => ?_)
    obtain ⟨rfl, hq10⟩ := hp10
    rw [hq10]
    show Ok _ _ _ [zi (-1 : Int32)] _ _
    refine r_bipush (q := 15) (nI 10) dX12_next_13 rfl (by decide) ?_
    refine r_icmp_ne (q := 18) (t := 31) dX12_next_15 (by decide) rfl (fun h15 => ?_) (fun h15 => absurd h15 (by decide))
    exact K S bs.length Fr.rf (Nat.le_refl _) hx rfl (fun h => absurd h (by omega))
  | succ d ih =>
    intro p S hd hs hx K
    have hlt := hx.1.lt p
    refine r_aload_n (q := 1) dX12_next_0 rfl rfl rfl ?_
    refine r_callV (Mc := mX12_peek) (q := 4) (As := []) (st := []) ck12 dX12_next_1 rfl rfl mkX12_peek wt1577 wt1579 wp71 rfl (Nat.le_of_ble_eq_true rfl) (Nat.le_of_ble_eq_true rfl) (by decide) (by decide) (by decide) (Or.inl rfl) (hs.e (by decide)) (ok_peek_in hs hbl hx (by omega)) (fun r1 S1 hp1 => ?_)
    obtain ⟨rfl, hq1⟩ := hp1
    rw [hq1]
    show Ok _ _ _ [zi (nI (bs.getD p 0))] _ _
    refine r_bipush (q := 6) (nI 32) dX12_next_4 rfl (by decide) ?_
    refine r_icmp_eqN (q := 9) (t := 18) (by omega) (by omega) dX12_next_6 (by decide) rfl (fun h6 => ?_) (fun h6 => ?_)
    · skip
      refine r_aload_n (q := 19) dX12_next_18 rfl rfl rfl ?_
      refine r_dup (q := 20) dX12_next_19 rfl rfl ?_
      refine r_geti (q := 23) ck12 dX12_next_20 rfl (k := 4) (by decide) wt1282 (Or.inl rfl) (hs.e (by decide)) ?_
      refine r_topi (y := nI p) hx.2.2.2 ?_
      refine r_iconst (q := 24) (nI 1) dX12_next_23 rfl (by decide) ?_
      refine r_iaddN (q := 25) dX12_next_24 rfl ?_
      refine r_puti (q := 28) ck12 dX12_next_25 rfl (k := 4) (by decide) wt1282 (Or.inl rfl) rfl (hs.e (by decide)) ?_
      refine r_goto (q := 0) dX12_next_28 (by decide) ?_
      refine ih (p + 1) _ (by omega) hs ⟨⟨fun k hk => by rw [gI_sI, if_neg (by omega)]; exact hx.1.1 k hk, hx.1.2⟩, by rw [gI_sI, if_neg (by omega)]; exact hx.2.1, by rw [gI_sI, if_neg (by omega)]; exact hx.2.2.1, by rw [gI_sI, if_pos ⟨rfl, rfl, rfl⟩]⟩ (fun S' p' f1 f2 f3 f4 f5 => K S' p' ((Fr.rf.i rfl).tr f1) f2 f3 (f4.trans (lexA_skip (by omega) (by omega)).symm) f5)
    · skip
      refine r_aload_n (q := 10) dX12_next_9 rfl rfl rfl ?_
      refine r_callV (Mc := mX12_peek) (q := 13) (As := []) (st := []) ck12 dX12_next_10 rfl rfl mkX12_peek wt1577 wt1579 wp71 rfl (Nat.le_of_ble_eq_true rfl) (Nat.le_of_ble_eq_true rfl) (by decide) (by decide) (by decide) (Or.inl rfl) (hs.e (by decide)) (ok_peek_in hs hbl hx (by omega)) (fun r10 S10 hp10 => ?_)
      obtain ⟨rfl, hq10⟩ := hp10
      rw [hq10]
      show Ok _ _ _ [zi (nI (bs.getD p 0))] _ _
      refine r_bipush (q := 15) (nI 10) dX12_next_13 rfl (by decide) ?_
      refine r_icmp_neN (q := 18) (t := 31) (by omega) (by omega) dX12_next_15 (by decide) rfl (fun h15 => ?_) (fun h15 => ?_)
      · skip
        exact K S p Fr.rf (by omega) hx rfl (fun _ => by omega)
      · skip
        refine r_aload_n (q := 19) dX12_next_18 rfl rfl rfl ?_
        refine r_dup (q := 20) dX12_next_19 rfl rfl ?_
        refine r_geti (q := 23) ck12 dX12_next_20 rfl (k := 4) (by decide) wt1282 (Or.inl rfl) (hs.e (by decide)) ?_
        refine r_topi (y := nI p) hx.2.2.2 ?_
        refine r_iconst (q := 24) (nI 1) dX12_next_23 rfl (by decide) ?_
        refine r_iaddN (q := 25) dX12_next_24 rfl ?_
        refine r_puti (q := 28) ck12 dX12_next_25 rfl (k := 4) (by decide) wt1282 (Or.inl rfl) rfl (hs.e (by decide)) ?_
        refine r_goto (q := 0) dX12_next_28 (by decide) ?_
        refine ih (p + 1) _ (by omega) hs ⟨⟨fun k hk => by rw [gI_sI, if_neg (by omega)]; exact hx.1.1 k hk, hx.1.2⟩, by rw [gI_sI, if_neg (by omega)]; exact hx.2.1, by rw [gI_sI, if_neg (by omega)]; exact hx.2.2.1, by rw [gI_sI, if_pos ⟨rfl, rfl, rfl⟩]⟩ (fun S' p' f1 f2 f3 f4 f5 => K S' p' ((Fr.rf.i rfl).tr f1) f2 f3 (f4.trans (lexA_skip (by omega) (by omega)).symm) f5)

def Wr (S : zS) (w : List Nat) : Prop := (w.all sml = true → w.length ≤ 6 → gJ S 12 0 15 = lN (wvl w)) ∧ (w.all dgt = true → w.length ≤ 2 → gI S 12 0 12 = nI (nvl w))
theorem wr_w {w : List Nat} {v : Int64} {c : Nat} (hv : w.all sml = true → w.length ≤ 6 → v = lN (wvl w)) (hw : ∀ x, x ∈ w → x < 256) (hc : c < 256) : (w ++ [c]).all sml = true → (w ++ [c]).length ≤ 6 → (v <<< ((nI 8).toInt64 &&& 63)) ||| lN c = lN (wvl (w ++ [c])) := by
  intro h1 h2
  rw [all_snoc, Bool.and_eq_true] at h1
  exact (Wv.s (w := w) (v := v) ⟨hv, fun _ _ => by
    cases w with
    | nil => exact hv rfl (by decide)
    | cons x r =>
      rename_i h3 _
      rw [List.all_cons, Bool.and_eq_true] at h3
      rw [List.all_cons, Bool.and_eq_true] at h1
      rw [sml_dgt h1.1.1] at h3
      exact absurd h3.1 (by decide)⟩ h1.2 hw).1 (by rw [all_snoc, h1.1, h1.2]; rfl) h2
theorem wr_n {w : List Nat} {v : Int32} {c : Nat} (hv : w.all dgt = true → w.length ≤ 2 → v = nI (nvl w)) : (w ++ [c]).all dgt = true → (w ++ [c]).length ≤ 2 → nI 10 * v + nI c - nI 48 = nI (nvl (w ++ [c])) := by
  intro h1 h2
  rw [all_snoc, Bool.and_eq_true] at h1
  rw [List.length_append, List.length_singleton] at h2
  have hc := dgt_lt h1.2
  rw [hv h1.1 (by omega), pk_mul, nI_add, pk_sub (by omega), nvl_snoc]
  congr 1
  omega

def tNy (a b k : Nat) : Bool := a == 12 && b == 0 && (k == 9 || k == 10 || k == 11 || k == 12 || k == 15)
theorem tNx_y (a b k : Nat) (h : tNy a b k = true) : tNx a b k = true := by
  simp [tNy] at h
  simp [tNx]
  omega
theorem Tx2.fr {S S1 : zS} {bs : List Nat} {lim p : Nat} (h : Tx2 S bs lim p) (f : Fr tNy S S1) : Tx2 S1 bs lim p := ⟨⟨fun k hk => (f.1 _ _ _ rfl).trans (h.1.1 k hk), h.1.2⟩, (f.1 _ _ _ rfl).trans h.2.1, (f.1 _ _ _ rfl).trans h.2.2.1, (f.1 _ _ _ rfl).trans h.2.2.2⟩
theorem Tx2.p {S : zS} {bs : List Nat} {lim p q : Nat} (h : Tx2 S bs lim p) : Tx2 (sI S 12 0 4 (nI q)) bs lim q := ⟨⟨fun k hk => by rw [gI_sI, if_neg (by omega)]; exact h.1.1 k hk, h.1.2⟩, by rw [gI_sI, if_neg (by omega)]; exact h.2.1, by rw [gI_sI, if_neg (by omega)]; exact h.2.2.1, by rw [gI_sI, if_pos ⟨rfl, rfl, rfl⟩]⟩

set_option maxRecDepth 100000 in
theorem lp_nw_1 {Po : Option zV → zS → Prop} {bs : List Nat} {lim p : Nat} {c0 : Int32} (hbl : bs.length ≤ 940) (hpl : p ≤ bs.length) : ∀ (d k : Nat) (S : zS) (al : Nat), k + d = arun (bs.drop p) → al = (if ((bs.drop p).take k).all sml = true then 1 else 0) → Sd S → Tx2 S bs lim (p + k) → gI S 12 0 11 = nI k → Wr S ((bs.drop p).take k) → (∀ S', Fr tNx S S' → gI S' 12 0 10 = gI S 12 0 10 → Tx2 S' bs lim (p + arun (bs.drop p)) → gI S' 12 0 11 = nI (arun (bs.drop p)) → Wr S' ((bs.drop p).take (arun (bs.drop p))) → Ok mX12_next 298 [some (zr 12 0), some (zi c0), some (zi (nI 1)), some (zi (nI (if ((bs.drop p).take (arun (bs.drop p))).all sml = true then 1 else 0)))] [] S' Po) → Ok mX12_next 181 [some (zr 12 0), some (zi c0), some (zi (nI 1)), some (zi (nI al))] [] S Po := by
  intro d
  have hal := arun_le (bs.drop p)
  rw [List.length_drop] at hal
  induction d with
  | zero =>
    intro k S al hk ha hs hx hsp hwr K
    obtain rfl : k = arun (bs.drop p) := by omega
    subst ha
    by_cases hend : p + arun (bs.drop p) < bs.length
    · have hn := arun_end (bs.drop p) (by rw [List.length_drop]; omega)
      rw [getD_drop] at hn
      have hlt := hx.1.lt (p + arun (bs.drop p))
      have n1 := aln_n (c := bs.getD (p + arun (bs.drop p)) 0) (by rw [hn]; decide)
      refine r_aload_n (q := 182) dX12_next_181 rfl rfl rfl ?_
      refine r_callV (Mc := mX12_peek) (q := 185) (As := []) (st := []) ck12 dX12_next_182 rfl rfl mkX12_peek wt1577 wt1579 wp71 rfl (Nat.le_of_ble_eq_true rfl) (Nat.le_of_ble_eq_true rfl) (by decide) (by decide) (by decide) (Or.inl rfl) (hs.e (by decide)) (ok_peek_in hs hbl hx hend) (fun r182 S182 hp182 => ?_)
      obtain ⟨rfl, hq182⟩ := hp182
      rw [hq182]
      show Ok _ _ _ [zi (nI (bs.getD (p + arun (bs.drop p)) 0))] _ _
      refine r_callS (Mc := mX12_isSmall) (q := 188) (As := [zi (nI (bs.getD (p + arun (bs.drop p)) 0))]) (st := []) dX12_next_185 rfl rfl mkX12_isSmall wt1581 wt1582 rfl (Nat.le_of_ble_eq_true rfl) (Nat.le_of_ble_eq_true rfl) (by decide) (by decide) (by decide) (Or.inl rfl) hs.some (ok_X12_isSmall hlt) (fun r185 S185 hp185 => ?_)
      obtain ⟨rfl, hq185⟩ := hp185
      rw [hq185]
      rw [if_neg (show ¬ sml (bs.getD (p + arun (bs.drop p)) 0) = true by rw [n1.1]; decide)]
      show Ok _ _ _ [zi (nI 0)] _ _
      refine r_if_neN (q := 191) (t := 201) (by omega) dX12_next_188 (by decide) rfl (fun h188 => absurd h188 (by omega)) (fun h188 => ?_)
      refine r_aload_n (q := 192) dX12_next_191 rfl rfl rfl ?_
      refine r_callV (Mc := mX12_peek) (q := 195) (As := []) (st := []) ck12 dX12_next_192 rfl rfl mkX12_peek wt1577 wt1579 wp71 rfl (Nat.le_of_ble_eq_true rfl) (Nat.le_of_ble_eq_true rfl) (by decide) (by decide) (by decide) (Or.inl rfl) (hs.e (by decide)) (ok_peek_in hs hbl hx hend) (fun r192 S192 hp192 => ?_)
      obtain ⟨rfl, hq192⟩ := hp192
      rw [hq192]
      show Ok _ _ _ [zi (nI (bs.getD (p + arun (bs.drop p)) 0))] _ _
      refine r_callS (Mc := mX12_isDigit) (q := 198) (As := [zi (nI (bs.getD (p + arun (bs.drop p)) 0))]) (st := []) dX12_next_195 rfl rfl mkX12_isDigit wt1584 wt1585 rfl (Nat.le_of_ble_eq_true rfl) (Nat.le_of_ble_eq_true rfl) (by decide) (by decide) (by decide) (Or.inl rfl) hs.some (ok_X12_isDigit hlt) (fun r195 S195 hp195 => ?_)
      obtain ⟨rfl, hq195⟩ := hp195
      rw [hq195]
      rw [if_neg (show ¬ dgt (bs.getD (p + arun (bs.drop p)) 0) = true by rw [n1.2]; decide)]
      show Ok _ _ _ [zi (nI 0)] _ _
      refine r_if_eqN (q := 201) (t := 298) (by omega) dX12_next_198 (by decide) rfl (fun h198 => ?_) (fun h198 => absurd h198 (by omega))
      exact K S Fr.rf rfl hx hsp hwr
    · skip
      refine r_aload_n (q := 182) dX12_next_181 rfl rfl rfl ?_
      refine r_callV (Mc := mX12_peek) (q := 185) (As := []) (st := []) ck12 dX12_next_182 rfl rfl mkX12_peek wt1577 wt1579 wp71 rfl (Nat.le_of_ble_eq_true rfl) (Nat.le_of_ble_eq_true rfl) (by decide) (by decide) (by decide) (Or.inl rfl) (hs.e (by decide)) (ok_peek_out hs hbl hx (by omega)) (fun r182 S182 hp182 => ?_)
      obtain ⟨rfl, hq182⟩ := hp182
      rw [hq182]
      show Ok _ _ _ [zi (-1 : Int32)] _ _
      refine r_callS (Mc := mX12_isSmall) (q := 188) (As := [zi (-1 : Int32)]) (st := []) dX12_next_185 rfl rfl mkX12_isSmall wt1581 wt1582 rfl (Nat.le_of_ble_eq_true rfl) (Nat.le_of_ble_eq_true rfl) (by decide) (by decide) (by decide) (Or.inl rfl) hs.some ok_X12_isSmall_m (fun r185 S185 hp185 => ?_)
      obtain ⟨rfl, hq185⟩ := hp185
      rw [hq185]
      show Ok _ _ _ [zi (nI 0)] _ _
      refine r_if_neN (q := 191) (t := 201) (by omega) dX12_next_188 (by decide) rfl (fun h188 => absurd h188 (by omega)) (fun h188 => ?_)
      refine r_aload_n (q := 192) dX12_next_191 rfl rfl rfl ?_
      refine r_callV (Mc := mX12_peek) (q := 195) (As := []) (st := []) ck12 dX12_next_192 rfl rfl mkX12_peek wt1577 wt1579 wp71 rfl (Nat.le_of_ble_eq_true rfl) (Nat.le_of_ble_eq_true rfl) (by decide) (by decide) (by decide) (Or.inl rfl) (hs.e (by decide)) (ok_peek_out hs hbl hx (by omega)) (fun r192 S192 hp192 => ?_)
      obtain ⟨rfl, hq192⟩ := hp192
      rw [hq192]
      show Ok _ _ _ [zi (-1 : Int32)] _ _
      refine r_callS (Mc := mX12_isDigit) (q := 198) (As := [zi (-1 : Int32)]) (st := []) dX12_next_195 rfl rfl mkX12_isDigit wt1584 wt1585 rfl (Nat.le_of_ble_eq_true rfl) (Nat.le_of_ble_eq_true rfl) (by decide) (by decide) (by decide) (Or.inl rfl) hs.some ok_X12_isDigit_m (fun r195 S195 hp195 => ?_)
      obtain ⟨rfl, hq195⟩ := hp195
      rw [hq195]
      show Ok _ _ _ [zi (nI 0)] _ _
      refine r_if_eqN (q := 201) (t := 298) (by omega) dX12_next_198 (by decide) rfl (fun h198 => ?_) (fun h198 => absurd h198 (by omega))
      exact K S Fr.rf rfl hx hsp hwr
  | succ d ih =>
    intro k S al hk ha hs hx hsp hwr K
    have hal1 := arun_in (bs.drop p) k (by omega)
    rw [getD_drop] at hal1
    have hlt := hx.1.lt (p + k)
    have hdl : k < (bs.drop p).length := by rw [List.length_drop]; omega
    have e0 : (bs.drop p).take (k + 1) = ((bs.drop p).take k) ++ [bs.getD (p + k) 0] := by rw [take_snoc hdl, getD_drop]
    have hwl : ((bs.drop p).take k).length = k := by rw [List.length_take, List.length_drop]; omega
    have hmem : ∀ x, x ∈ ((bs.drop p).take k) → x < 256 := fun x hx2 => hx.1.2 x (List.mem_of_mem_drop (List.mem_of_mem_take hx2))
    have ih' := fun S al => ih (k + 1) S al (by omega)
    rw [e0, all_snoc, show p + (k + 1) = p + k + 1 by omega] at ih'
    cases q : ((bs.drop p).take k).all sml with
    | false =>
      rw [q] at ha ih'
      obtain rfl : al = 0 := ha
      by_cases h1 : sml (bs.getD (p + k) 0) = true
      · have h2 := sml_dgt h1
        refine r_aload_n (q := 182) dX12_next_181 rfl rfl rfl ?_
        refine r_callV (Mc := mX12_peek) (q := 185) (As := []) (st := []) ck12 dX12_next_182 rfl rfl mkX12_peek wt1577 wt1579 wp71 rfl (Nat.le_of_ble_eq_true rfl) (Nat.le_of_ble_eq_true rfl) (by decide) (by decide) (by decide) (Or.inl rfl) (hs.e (by decide)) (ok_peek_in (S := S) hs hbl (hx.fr Fr.rf) (by omega)) (fun r182 S182 hp182 => ?_)
        obtain ⟨rfl, hq182⟩ := hp182
        rw [hq182]
        show Ok _ _ _ [zi (nI (bs.getD (p + k) 0))] _ _
        refine r_callS (Mc := mX12_isSmall) (q := 188) (As := [zi (nI (bs.getD (p + k) 0))]) (st := []) dX12_next_185 rfl rfl mkX12_isSmall wt1581 wt1582 rfl (Nat.le_of_ble_eq_true rfl) (Nat.le_of_ble_eq_true rfl) (by decide) (by decide) (by decide) (Or.inl rfl) hs.some (ok_X12_isSmall hlt) (fun r185 S185 hp185 => ?_)
        obtain ⟨rfl, hq185⟩ := hp185
        rw [hq185]
        rw [if_pos h1]
        show Ok _ _ _ [zi (nI 1)] _ _
        refine r_if_neN (q := 191) (t := 201) (by omega) dX12_next_188 (by decide) rfl (fun h188 => ?_) (fun h188 => absurd h188 (by omega))
        refine r_iload_n (q := 202) dX12_next_201 rfl rfl rfl ?_
        refine r_if_eqN (q := 205) (t := 220) (by omega) dX12_next_202 (by decide) rfl (fun h202 => ?_) (fun h202 => absurd h202 (by omega))
        refine r_iconst (q := 221) (nI 0) dX12_next_220 rfl (by decide) ?_
        refine r_istore_n (q := 222) (L' := [some (zr 12 0), some (zi c0), some (zi (nI 1)), some (zi (nI 0))]) dX12_next_221 rfl rfl (by decide) rfl ?_
        refine r_aload_n (q := 223) dX12_next_222 rfl rfl rfl ?_
        refine r_geti (q := 226) ck12 dX12_next_223 rfl (k := 11) (by decide) wt1289 (Or.inl rfl) (hs.e (by decide)) ?_
        refine r_topi (y := nI k) hsp ?_
        refine r_bipush (q := 228) (nI 6) dX12_next_226 rfl (by decide) ?_
        refine r_icmp_geN (q := 231) (t := 248) (by omega) (by omega) dX12_next_228 (by decide) rfl (fun h228 => ?_) (fun h228 => ?_)
        · skip
          refine r_aload_n (q := 249) dX12_next_248 rfl rfl rfl ?_
          refine r_geti (q := 252) ck12 dX12_next_249 rfl (k := 11) (by decide) wt1289 (Or.inl rfl) (hs.e (by decide)) ?_
          refine r_topi (y := nI k) hsp ?_
          refine r_iconst (q := 253) (nI 2) dX12_next_252 rfl (by decide) ?_
          refine r_icmp_geN (q := 256) (t := 275) (by omega) (by omega) dX12_next_253 (by decide) rfl (fun h253 => ?_) (fun h253 => absurd h253 (by omega))
          refine r_aload_n (q := 276) dX12_next_275 rfl rfl rfl ?_
          refine r_dup (q := 277) dX12_next_276 rfl rfl ?_
          refine r_geti (q := 280) ck12 dX12_next_277 rfl (k := 11) (by decide) wt1289 (Or.inl rfl) (hs.e (by decide)) ?_
          refine r_topi (y := nI k) hsp ?_
          refine r_iconst (q := 281) (nI 1) dX12_next_280 rfl (by decide) ?_
          refine r_iaddN (q := 282) dX12_next_281 rfl ?_
          refine r_puti (q := 285) ck12 dX12_next_282 rfl (k := 11) (by decide) wt1289 (Or.inl rfl) rfl (hs.e (by decide)) ?_
          refine r_aload_n (q := 286) dX12_next_285 rfl rfl rfl ?_
          refine r_dup (q := 287) dX12_next_286 rfl rfl ?_
          refine r_geti (q := 290) ck12 dX12_next_287 rfl (k := 4) (by decide) wt1282 (Or.inl rfl) (hs.e (by decide)) ?_
          refine r_topi (y := gI S 12 0 4) (by simp [gI_sI, gJ_sJ, gI_sJ, gJ_sI]) ?_
          refine r_topi (y := nI (p + k)) hx.2.2.2 ?_
          refine r_iconst (q := 291) (nI 1) dX12_next_290 rfl (by decide) ?_
          refine r_iaddN (q := 292) dX12_next_291 rfl ?_
          refine r_puti (q := 295) ck12 dX12_next_292 rfl (k := 4) (by decide) wt1282 (Or.inl rfl) rfl (hs.e (by decide)) ?_
          refine r_goto (q := 181) dX12_next_295 (by decide) ?_
          refine ih' (sI (sI S 12 0 11 (nI (k + 1))) 12 0 4 (nI ((p + k) + 1))) 0 (by rw [h1]; rfl) hs ?_ ?_ ⟨fun z1 z2 => ?_, fun z1 z2 => ?_⟩ (fun S' f1 f2 f3 f4 f5 => K S' (Fr.tr (Fr.mono (((Fr.rf.i rfl).i rfl) : Fr tNx S _) (fun _ _ _ h => h)) f1) (f2.trans ?_) f3 f4 f5)
          · have := (hx.fr (S1 := sI S 12 0 11 (nI (k + 1))) (Fr.rf.i rfl)).p (q := p + k + 1); exact this
          · (repeat (first | rw [gI_sI, if_neg (by omega)] | rw [gI_sI, if_pos ⟨rfl, rfl, rfl⟩] | rw [gI_sJ]))
          · rw [List.length_append, List.length_singleton, hwl] at z2; omega
          · rw [List.length_append, List.length_singleton, hwl] at z2; omega
          · (repeat (first | rw [gI_sI, if_neg (by omega)] | rw [gI_sJ]))
        · skip
          refine r_aload_n (q := 232) dX12_next_231 rfl rfl rfl ?_
          refine r_aload_n (q := 233) dX12_next_232 rfl rfl rfl ?_
          refine r_getl (q := 236) ck12 dX12_next_233 rfl (k := 15) (by decide) wt1293 rfl (hs.e (by decide)) ?_
          refine r_bipush (q := 238) (nI 8) dX12_next_236 rfl (by decide) ?_
          refine r_lshl (q := 239) dX12_next_238 rfl ?_
          refine r_aload_n (q := 240) dX12_next_239 rfl rfl rfl ?_
          refine r_callV (Mc := mX12_peek) (q := 243) (As := []) (st := [zl ((gJ S 12 0 15) <<< ((nI 8).toInt64 &&& 63)), zr 12 0]) ck12 dX12_next_240 rfl rfl mkX12_peek wt1577 wt1579 wp71 rfl (Nat.le_of_ble_eq_true rfl) (Nat.le_of_ble_eq_true rfl) (by decide) (by decide) (by decide) (Or.inl rfl) (hs.e (by decide)) (ok_peek_in (S := S) hs hbl (hx.fr Fr.rf) (by omega)) (fun r240 S240 hp240 => ?_)
          obtain ⟨rfl, hq240⟩ := hp240
          rw [hq240]
          show Ok _ _ _ [zi (nI (bs.getD (p + k) 0)), zl ((gJ S 12 0 15) <<< ((nI 8).toInt64 &&& 63)), zr 12 0] _ _
          refine r_i2l (q := 244) dX12_next_243 rfl ?_
          refine r_topl (y := lN (bs.getD (p + k) 0)) (nI_l (by omega)) ?_
          refine r_lor (q := 245) dX12_next_244 rfl ?_
          refine r_putl (q := 248) ck12 dX12_next_245 rfl (k := 15) (by decide) wt1293 (Or.inl rfl) rfl (hs.e (by decide)) ?_
          refine r_aload_n (q := 249) dX12_next_248 rfl rfl rfl ?_
          refine r_geti (q := 252) ck12 dX12_next_249 rfl (k := 11) (by decide) wt1289 (Or.inl rfl) (hs.e (by decide)) ?_
          refine r_topi (y := gI S 12 0 11) (by simp [gI_sI, gJ_sJ, gI_sJ, gJ_sI]) ?_
          refine r_topi (y := nI k) hsp ?_
          refine r_iconst (q := 253) (nI 2) dX12_next_252 rfl (by decide) ?_
          refine r_icmp_geN (q := 256) (t := 275) (by omega) (by omega) dX12_next_253 (by decide) rfl (fun h253 => ?_) (fun h253 => ?_)
          · skip
            refine r_aload_n (q := 276) dX12_next_275 rfl rfl rfl ?_
            refine r_dup (q := 277) dX12_next_276 rfl rfl ?_
            refine r_geti (q := 280) ck12 dX12_next_277 rfl (k := 11) (by decide) wt1289 (Or.inl rfl) (hs.e (by decide)) ?_
            refine r_topi (y := gI S 12 0 11) (by simp [gI_sI, gJ_sJ, gI_sJ, gJ_sI]) ?_
            refine r_topi (y := nI k) hsp ?_
            refine r_iconst (q := 281) (nI 1) dX12_next_280 rfl (by decide) ?_
            refine r_iaddN (q := 282) dX12_next_281 rfl ?_
            refine r_puti (q := 285) ck12 dX12_next_282 rfl (k := 11) (by decide) wt1289 (Or.inl rfl) rfl (hs.e (by decide)) ?_
            refine r_aload_n (q := 286) dX12_next_285 rfl rfl rfl ?_
            refine r_dup (q := 287) dX12_next_286 rfl rfl ?_
            refine r_geti (q := 290) ck12 dX12_next_287 rfl (k := 4) (by decide) wt1282 (Or.inl rfl) (hs.e (by decide)) ?_
            refine r_topi (y := gI S 12 0 4) (by simp [gI_sI, gJ_sJ, gI_sJ, gJ_sI]) ?_
            refine r_topi (y := nI (p + k)) hx.2.2.2 ?_
            refine r_iconst (q := 291) (nI 1) dX12_next_290 rfl (by decide) ?_
            refine r_iaddN (q := 292) dX12_next_291 rfl ?_
            refine r_puti (q := 295) ck12 dX12_next_292 rfl (k := 4) (by decide) wt1282 (Or.inl rfl) rfl (hs.e (by decide)) ?_
            refine r_goto (q := 181) dX12_next_295 (by decide) ?_
            refine ih' (sI (sI (sJ S 12 0 15 (((gJ S 12 0 15) <<< ((nI 8).toInt64 &&& 63)) ||| (lN (bs.getD (p + k) 0)))) 12 0 11 (nI (k + 1))) 12 0 4 (nI ((p + k) + 1))) 0 (by rw [h1]; rfl) hs ?_ ?_ ⟨fun z1 z2 => ?_, fun z1 z2 => ?_⟩ (fun S' f1 f2 f3 f4 f5 => K S' (Fr.tr (Fr.mono ((((Fr.rf.j rfl).i rfl).i rfl) : Fr tNx S _) (fun _ _ _ h => h)) f1) (f2.trans ?_) f3 f4 f5)
            · have := (hx.fr (S1 := sI (sJ S 12 0 15 (((gJ S 12 0 15) <<< ((nI 8).toInt64 &&& 63)) ||| (lN (bs.getD (p + k) 0)))) 12 0 11 (nI (k + 1))) ((Fr.rf.j rfl).i rfl)).p (q := p + k + 1); exact this
            · (repeat (first | rw [gI_sI, if_neg (by omega)] | rw [gI_sI, if_pos ⟨rfl, rfl, rfl⟩] | rw [gI_sJ]))
            · (repeat (first | rw [gJ_sI] | rw [gJ_sJ, if_pos ⟨rfl, rfl, rfl⟩])); exact wr_w hwr.1 hmem hlt z1 z2
            · rw [List.length_append, List.length_singleton, hwl] at z2; omega
            · (repeat (first | rw [gI_sI, if_neg (by omega)] | rw [gI_sJ]))
          · skip
            refine r_aload_n (q := 257) dX12_next_256 rfl rfl rfl ?_
            refine r_bipush (q := 259) (nI 10) dX12_next_257 rfl (by decide) ?_
            refine r_aload_n (q := 260) dX12_next_259 rfl rfl rfl ?_
            refine r_geti (q := 263) ck12 dX12_next_260 rfl (k := 12) (by decide) wt1290 (Or.inl rfl) (hs.e (by decide)) ?_
            refine r_topi (y := gI S 12 0 12) (by simp [gI_sI, gJ_sJ, gI_sJ, gJ_sI]) ?_
            refine r_imul (q := 264) dX12_next_263 rfl ?_
            refine r_aload_n (q := 265) dX12_next_264 rfl rfl rfl ?_
            refine r_callV (Mc := mX12_peek) (q := 268) (As := []) (st := [zi ((nI 10) * (gI S 12 0 12)), zr 12 0]) ck12 dX12_next_265 rfl rfl mkX12_peek wt1577 wt1579 wp71 rfl (Nat.le_of_ble_eq_true rfl) (Nat.le_of_ble_eq_true rfl) (by decide) (by decide) (by decide) (Or.inl rfl) (hs.e (by decide)) (ok_peek_in (S := sJ S 12 0 15 (((gJ S 12 0 15) <<< ((nI 8).toInt64 &&& 63)) ||| (lN (bs.getD (p + k) 0)))) hs hbl (hx.fr (Fr.rf.j rfl)) (by omega)) (fun r265 S265 hp265 => ?_)
            obtain ⟨rfl, hq265⟩ := hp265
            rw [hq265]
            show Ok _ _ _ [zi (nI (bs.getD (p + k) 0)), zi ((nI 10) * (gI S 12 0 12)), zr 12 0] _ _
            refine r_iadd (q := 269) dX12_next_268 rfl ?_
            refine r_bipush (q := 271) (nI 48) dX12_next_269 rfl (by decide) ?_
            refine r_isub (q := 272) dX12_next_271 rfl ?_
            refine r_puti (q := 275) ck12 dX12_next_272 rfl (k := 12) (by decide) wt1290 (Or.inl rfl) rfl (hs.e (by decide)) ?_
            refine r_aload_n (q := 276) dX12_next_275 rfl rfl rfl ?_
            refine r_dup (q := 277) dX12_next_276 rfl rfl ?_
            refine r_geti (q := 280) ck12 dX12_next_277 rfl (k := 11) (by decide) wt1289 (Or.inl rfl) (hs.e (by decide)) ?_
            refine r_topi (y := gI S 12 0 11) (by simp [gI_sI, gJ_sJ, gI_sJ, gJ_sI]) ?_
            refine r_topi (y := nI k) hsp ?_
            refine r_iconst (q := 281) (nI 1) dX12_next_280 rfl (by decide) ?_
            refine r_iaddN (q := 282) dX12_next_281 rfl ?_
            refine r_puti (q := 285) ck12 dX12_next_282 rfl (k := 11) (by decide) wt1289 (Or.inl rfl) rfl (hs.e (by decide)) ?_
            refine r_aload_n (q := 286) dX12_next_285 rfl rfl rfl ?_
            refine r_dup (q := 287) dX12_next_286 rfl rfl ?_
            refine r_geti (q := 290) ck12 dX12_next_287 rfl (k := 4) (by decide) wt1282 (Or.inl rfl) (hs.e (by decide)) ?_
            refine r_topi (y := gI S 12 0 4) (by simp [gI_sI, gJ_sJ, gI_sJ, gJ_sI]) ?_
            refine r_topi (y := nI (p + k)) hx.2.2.2 ?_
            refine r_iconst (q := 291) (nI 1) dX12_next_290 rfl (by decide) ?_
            refine r_iaddN (q := 292) dX12_next_291 rfl ?_
            refine r_puti (q := 295) ck12 dX12_next_292 rfl (k := 4) (by decide) wt1282 (Or.inl rfl) rfl (hs.e (by decide)) ?_
            refine r_goto (q := 181) dX12_next_295 (by decide) ?_
            refine ih' (sI (sI (sI (sJ S 12 0 15 (((gJ S 12 0 15) <<< ((nI 8).toInt64 &&& 63)) ||| (lN (bs.getD (p + k) 0)))) 12 0 12 ((((nI 10) * (gI S 12 0 12)) + (nI (bs.getD (p + k) 0))) - (nI 48))) 12 0 11 (nI (k + 1))) 12 0 4 (nI ((p + k) + 1))) 0 (by rw [h1]; rfl) hs ?_ ?_ ⟨fun z1 z2 => ?_, fun z1 z2 => ?_⟩ (fun S' f1 f2 f3 f4 f5 => K S' (Fr.tr (Fr.mono (((((Fr.rf.j rfl).i rfl).i rfl).i rfl) : Fr tNx S _) (fun _ _ _ h => h)) f1) (f2.trans ?_) f3 f4 f5)
            · have := (hx.fr (S1 := sI (sI (sJ S 12 0 15 (((gJ S 12 0 15) <<< ((nI 8).toInt64 &&& 63)) ||| (lN (bs.getD (p + k) 0)))) 12 0 12 ((((nI 10) * (gI S 12 0 12)) + (nI (bs.getD (p + k) 0))) - (nI 48))) 12 0 11 (nI (k + 1))) (((Fr.rf.j rfl).i rfl).i rfl)).p (q := p + k + 1); exact this
            · (repeat (first | rw [gI_sI, if_neg (by omega)] | rw [gI_sI, if_pos ⟨rfl, rfl, rfl⟩] | rw [gI_sJ]))
            · (repeat (first | rw [gJ_sI] | rw [gJ_sJ, if_pos ⟨rfl, rfl, rfl⟩])); exact wr_w hwr.1 hmem hlt z1 z2
            · (repeat (first | rw [gI_sI, if_neg (by omega)] | rw [gI_sI, if_pos ⟨rfl, rfl, rfl⟩] | rw [gI_sJ])); exact wr_n hwr.2 z1 z2
            · (repeat (first | rw [gI_sI, if_neg (by omega)] | rw [gI_sJ]))
      · have h2 := aln_d hal1 h1
        have h1f : sml (bs.getD (p + k) 0) = false := by simpa using h1
        refine r_aload_n (q := 182) dX12_next_181 rfl rfl rfl ?_
        refine r_callV (Mc := mX12_peek) (q := 185) (As := []) (st := []) ck12 dX12_next_182 rfl rfl mkX12_peek wt1577 wt1579 wp71 rfl (Nat.le_of_ble_eq_true rfl) (Nat.le_of_ble_eq_true rfl) (by decide) (by decide) (by decide) (Or.inl rfl) (hs.e (by decide)) (ok_peek_in (S := S) hs hbl (hx.fr Fr.rf) (by omega)) (fun r182 S182 hp182 => ?_)
        obtain ⟨rfl, hq182⟩ := hp182
        rw [hq182]
        show Ok _ _ _ [zi (nI (bs.getD (p + k) 0))] _ _
        refine r_callS (Mc := mX12_isSmall) (q := 188) (As := [zi (nI (bs.getD (p + k) 0))]) (st := []) dX12_next_185 rfl rfl mkX12_isSmall wt1581 wt1582 rfl (Nat.le_of_ble_eq_true rfl) (Nat.le_of_ble_eq_true rfl) (by decide) (by decide) (by decide) (Or.inl rfl) hs.some (ok_X12_isSmall hlt) (fun r185 S185 hp185 => ?_)
        obtain ⟨rfl, hq185⟩ := hp185
        rw [hq185]
        rw [if_neg h1]
        show Ok _ _ _ [zi (nI 0)] _ _
        refine r_if_neN (q := 191) (t := 201) (by omega) dX12_next_188 (by decide) rfl (fun h188 => absurd h188 (by omega)) (fun h188 => ?_)
        refine r_aload_n (q := 192) dX12_next_191 rfl rfl rfl ?_
        refine r_callV (Mc := mX12_peek) (q := 195) (As := []) (st := []) ck12 dX12_next_192 rfl rfl mkX12_peek wt1577 wt1579 wp71 rfl (Nat.le_of_ble_eq_true rfl) (Nat.le_of_ble_eq_true rfl) (by decide) (by decide) (by decide) (Or.inl rfl) (hs.e (by decide)) (ok_peek_in (S := S) hs hbl (hx.fr Fr.rf) (by omega)) (fun r192 S192 hp192 => ?_)
        obtain ⟨rfl, hq192⟩ := hp192
        rw [hq192]
        show Ok _ _ _ [zi (nI (bs.getD (p + k) 0))] _ _
        refine r_callS (Mc := mX12_isDigit) (q := 198) (As := [zi (nI (bs.getD (p + k) 0))]) (st := []) dX12_next_195 rfl rfl mkX12_isDigit wt1584 wt1585 rfl (Nat.le_of_ble_eq_true rfl) (Nat.le_of_ble_eq_true rfl) (by decide) (by decide) (by decide) (Or.inl rfl) hs.some (ok_X12_isDigit hlt) (fun r195 S195 hp195 => ?_)
        obtain ⟨rfl, hq195⟩ := hp195
        rw [hq195]
        rw [if_pos h2]
        show Ok _ _ _ [zi (nI 1)] _ _
        refine r_if_eqN (q := 201) (t := 298) (by omega) dX12_next_198 (by decide) rfl (fun h198 => absurd h198 (by omega)) (fun h198 => ?_)
        refine r_iload_n (q := 202) dX12_next_201 rfl rfl rfl ?_
        refine r_if_eqN (q := 205) (t := 220) (by omega) dX12_next_202 (by decide) rfl (fun h202 => ?_) (fun h202 => absurd h202 (by omega))
        refine r_iconst (q := 221) (nI 0) dX12_next_220 rfl (by decide) ?_
        refine r_istore_n (q := 222) (L' := [some (zr 12 0), some (zi c0), some (zi (nI 1)), some (zi (nI 0))]) dX12_next_221 rfl rfl (by decide) rfl ?_
        refine r_aload_n (q := 223) dX12_next_222 rfl rfl rfl ?_
        refine r_geti (q := 226) ck12 dX12_next_223 rfl (k := 11) (by decide) wt1289 (Or.inl rfl) (hs.e (by decide)) ?_
        refine r_topi (y := nI k) hsp ?_
        refine r_bipush (q := 228) (nI 6) dX12_next_226 rfl (by decide) ?_
        refine r_icmp_geN (q := 231) (t := 248) (by omega) (by omega) dX12_next_228 (by decide) rfl (fun h228 => ?_) (fun h228 => ?_)
        · skip
          refine r_aload_n (q := 249) dX12_next_248 rfl rfl rfl ?_
          refine r_geti (q := 252) ck12 dX12_next_249 rfl (k := 11) (by decide) wt1289 (Or.inl rfl) (hs.e (by decide)) ?_
          refine r_topi (y := nI k) hsp ?_
          refine r_iconst (q := 253) (nI 2) dX12_next_252 rfl (by decide) ?_
          refine r_icmp_geN (q := 256) (t := 275) (by omega) (by omega) dX12_next_253 (by decide) rfl (fun h253 => ?_) (fun h253 => absurd h253 (by omega))
          refine r_aload_n (q := 276) dX12_next_275 rfl rfl rfl ?_
          refine r_dup (q := 277) dX12_next_276 rfl rfl ?_
          refine r_geti (q := 280) ck12 dX12_next_277 rfl (k := 11) (by decide) wt1289 (Or.inl rfl) (hs.e (by decide)) ?_
          refine r_topi (y := nI k) hsp ?_
          refine r_iconst (q := 281) (nI 1) dX12_next_280 rfl (by decide) ?_
          refine r_iaddN (q := 282) dX12_next_281 rfl ?_
          refine r_puti (q := 285) ck12 dX12_next_282 rfl (k := 11) (by decide) wt1289 (Or.inl rfl) rfl (hs.e (by decide)) ?_
          refine r_aload_n (q := 286) dX12_next_285 rfl rfl rfl ?_
          refine r_dup (q := 287) dX12_next_286 rfl rfl ?_
          refine r_geti (q := 290) ck12 dX12_next_287 rfl (k := 4) (by decide) wt1282 (Or.inl rfl) (hs.e (by decide)) ?_
          refine r_topi (y := gI S 12 0 4) (by simp [gI_sI, gJ_sJ, gI_sJ, gJ_sI]) ?_
          refine r_topi (y := nI (p + k)) hx.2.2.2 ?_
          refine r_iconst (q := 291) (nI 1) dX12_next_290 rfl (by decide) ?_
          refine r_iaddN (q := 292) dX12_next_291 rfl ?_
          refine r_puti (q := 295) ck12 dX12_next_292 rfl (k := 4) (by decide) wt1282 (Or.inl rfl) rfl (hs.e (by decide)) ?_
          refine r_goto (q := 181) dX12_next_295 (by decide) ?_
          refine ih' (sI (sI S 12 0 11 (nI (k + 1))) 12 0 4 (nI ((p + k) + 1))) 0 (by rw [h1f]; rfl) hs ?_ ?_ ⟨fun z1 z2 => ?_, fun z1 z2 => ?_⟩ (fun S' f1 f2 f3 f4 f5 => K S' (Fr.tr (Fr.mono (((Fr.rf.i rfl).i rfl) : Fr tNx S _) (fun _ _ _ h => h)) f1) (f2.trans ?_) f3 f4 f5)
          · have := (hx.fr (S1 := sI S 12 0 11 (nI (k + 1))) (Fr.rf.i rfl)).p (q := p + k + 1); exact this
          · (repeat (first | rw [gI_sI, if_neg (by omega)] | rw [gI_sI, if_pos ⟨rfl, rfl, rfl⟩] | rw [gI_sJ]))
          · rw [List.length_append, List.length_singleton, hwl] at z2; omega
          · rw [List.length_append, List.length_singleton, hwl] at z2; omega
          · (repeat (first | rw [gI_sI, if_neg (by omega)] | rw [gI_sJ]))
        · skip
          refine r_aload_n (q := 232) dX12_next_231 rfl rfl rfl ?_
          refine r_aload_n (q := 233) dX12_next_232 rfl rfl rfl ?_
          refine r_getl (q := 236) ck12 dX12_next_233 rfl (k := 15) (by decide) wt1293 rfl (hs.e (by decide)) ?_
          refine r_bipush (q := 238) (nI 8) dX12_next_236 rfl (by decide) ?_
          refine r_lshl (q := 239) dX12_next_238 rfl ?_
          refine r_aload_n (q := 240) dX12_next_239 rfl rfl rfl ?_
          refine r_callV (Mc := mX12_peek) (q := 243) (As := []) (st := [zl ((gJ S 12 0 15) <<< ((nI 8).toInt64 &&& 63)), zr 12 0]) ck12 dX12_next_240 rfl rfl mkX12_peek wt1577 wt1579 wp71 rfl (Nat.le_of_ble_eq_true rfl) (Nat.le_of_ble_eq_true rfl) (by decide) (by decide) (by decide) (Or.inl rfl) (hs.e (by decide)) (ok_peek_in (S := S) hs hbl (hx.fr Fr.rf) (by omega)) (fun r240 S240 hp240 => ?_)
          obtain ⟨rfl, hq240⟩ := hp240
          rw [hq240]
          show Ok _ _ _ [zi (nI (bs.getD (p + k) 0)), zl ((gJ S 12 0 15) <<< ((nI 8).toInt64 &&& 63)), zr 12 0] _ _
          refine r_i2l (q := 244) dX12_next_243 rfl ?_
          refine r_topl (y := lN (bs.getD (p + k) 0)) (nI_l (by omega)) ?_
          refine r_lor (q := 245) dX12_next_244 rfl ?_
          refine r_putl (q := 248) ck12 dX12_next_245 rfl (k := 15) (by decide) wt1293 (Or.inl rfl) rfl (hs.e (by decide)) ?_
          refine r_aload_n (q := 249) dX12_next_248 rfl rfl rfl ?_
          refine r_geti (q := 252) ck12 dX12_next_249 rfl (k := 11) (by decide) wt1289 (Or.inl rfl) (hs.e (by decide)) ?_
          refine r_topi (y := gI S 12 0 11) (by simp [gI_sI, gJ_sJ, gI_sJ, gJ_sI]) ?_
          refine r_topi (y := nI k) hsp ?_
          refine r_iconst (q := 253) (nI 2) dX12_next_252 rfl (by decide) ?_
          refine r_icmp_geN (q := 256) (t := 275) (by omega) (by omega) dX12_next_253 (by decide) rfl (fun h253 => ?_) (fun h253 => ?_)
          · skip
            refine r_aload_n (q := 276) dX12_next_275 rfl rfl rfl ?_
            refine r_dup (q := 277) dX12_next_276 rfl rfl ?_
            refine r_geti (q := 280) ck12 dX12_next_277 rfl (k := 11) (by decide) wt1289 (Or.inl rfl) (hs.e (by decide)) ?_
            refine r_topi (y := gI S 12 0 11) (by simp [gI_sI, gJ_sJ, gI_sJ, gJ_sI]) ?_
            refine r_topi (y := nI k) hsp ?_
            refine r_iconst (q := 281) (nI 1) dX12_next_280 rfl (by decide) ?_
            refine r_iaddN (q := 282) dX12_next_281 rfl ?_
            refine r_puti (q := 285) ck12 dX12_next_282 rfl (k := 11) (by decide) wt1289 (Or.inl rfl) rfl (hs.e (by decide)) ?_
            refine r_aload_n (q := 286) dX12_next_285 rfl rfl rfl ?_
            refine r_dup (q := 287) dX12_next_286 rfl rfl ?_
            refine r_geti (q := 290) ck12 dX12_next_287 rfl (k := 4) (by decide) wt1282 (Or.inl rfl) (hs.e (by decide)) ?_
            refine r_topi (y := gI S 12 0 4) (by simp [gI_sI, gJ_sJ, gI_sJ, gJ_sI]) ?_
            refine r_topi (y := nI (p + k)) hx.2.2.2 ?_
            refine r_iconst (q := 291) (nI 1) dX12_next_290 rfl (by decide) ?_
            refine r_iaddN (q := 292) dX12_next_291 rfl ?_
            refine r_puti (q := 295) ck12 dX12_next_292 rfl (k := 4) (by decide) wt1282 (Or.inl rfl) rfl (hs.e (by decide)) ?_
            refine r_goto (q := 181) dX12_next_295 (by decide) ?_
            refine ih' (sI (sI (sJ S 12 0 15 (((gJ S 12 0 15) <<< ((nI 8).toInt64 &&& 63)) ||| (lN (bs.getD (p + k) 0)))) 12 0 11 (nI (k + 1))) 12 0 4 (nI ((p + k) + 1))) 0 (by rw [h1f]; rfl) hs ?_ ?_ ⟨fun z1 z2 => ?_, fun z1 z2 => ?_⟩ (fun S' f1 f2 f3 f4 f5 => K S' (Fr.tr (Fr.mono ((((Fr.rf.j rfl).i rfl).i rfl) : Fr tNx S _) (fun _ _ _ h => h)) f1) (f2.trans ?_) f3 f4 f5)
            · have := (hx.fr (S1 := sI (sJ S 12 0 15 (((gJ S 12 0 15) <<< ((nI 8).toInt64 &&& 63)) ||| (lN (bs.getD (p + k) 0)))) 12 0 11 (nI (k + 1))) ((Fr.rf.j rfl).i rfl)).p (q := p + k + 1); exact this
            · (repeat (first | rw [gI_sI, if_neg (by omega)] | rw [gI_sI, if_pos ⟨rfl, rfl, rfl⟩] | rw [gI_sJ]))
            · (repeat (first | rw [gJ_sI] | rw [gJ_sJ, if_pos ⟨rfl, rfl, rfl⟩])); exact wr_w hwr.1 hmem hlt z1 z2
            · rw [List.length_append, List.length_singleton, hwl] at z2; omega
            · (repeat (first | rw [gI_sI, if_neg (by omega)] | rw [gI_sJ]))
          · skip
            refine r_aload_n (q := 257) dX12_next_256 rfl rfl rfl ?_
            refine r_bipush (q := 259) (nI 10) dX12_next_257 rfl (by decide) ?_
            refine r_aload_n (q := 260) dX12_next_259 rfl rfl rfl ?_
            refine r_geti (q := 263) ck12 dX12_next_260 rfl (k := 12) (by decide) wt1290 (Or.inl rfl) (hs.e (by decide)) ?_
            refine r_topi (y := gI S 12 0 12) (by simp [gI_sI, gJ_sJ, gI_sJ, gJ_sI]) ?_
            refine r_imul (q := 264) dX12_next_263 rfl ?_
            refine r_aload_n (q := 265) dX12_next_264 rfl rfl rfl ?_
            refine r_callV (Mc := mX12_peek) (q := 268) (As := []) (st := [zi ((nI 10) * (gI S 12 0 12)), zr 12 0]) ck12 dX12_next_265 rfl rfl mkX12_peek wt1577 wt1579 wp71 rfl (Nat.le_of_ble_eq_true rfl) (Nat.le_of_ble_eq_true rfl) (by decide) (by decide) (by decide) (Or.inl rfl) (hs.e (by decide)) (ok_peek_in (S := sJ S 12 0 15 (((gJ S 12 0 15) <<< ((nI 8).toInt64 &&& 63)) ||| (lN (bs.getD (p + k) 0)))) hs hbl (hx.fr (Fr.rf.j rfl)) (by omega)) (fun r265 S265 hp265 => ?_)
            obtain ⟨rfl, hq265⟩ := hp265
            rw [hq265]
            show Ok _ _ _ [zi (nI (bs.getD (p + k) 0)), zi ((nI 10) * (gI S 12 0 12)), zr 12 0] _ _
            refine r_iadd (q := 269) dX12_next_268 rfl ?_
            refine r_bipush (q := 271) (nI 48) dX12_next_269 rfl (by decide) ?_
            refine r_isub (q := 272) dX12_next_271 rfl ?_
            refine r_puti (q := 275) ck12 dX12_next_272 rfl (k := 12) (by decide) wt1290 (Or.inl rfl) rfl (hs.e (by decide)) ?_
            refine r_aload_n (q := 276) dX12_next_275 rfl rfl rfl ?_
            refine r_dup (q := 277) dX12_next_276 rfl rfl ?_
            refine r_geti (q := 280) ck12 dX12_next_277 rfl (k := 11) (by decide) wt1289 (Or.inl rfl) (hs.e (by decide)) ?_
            refine r_topi (y := gI S 12 0 11) (by simp [gI_sI, gJ_sJ, gI_sJ, gJ_sI]) ?_
            refine r_topi (y := nI k) hsp ?_
            refine r_iconst (q := 281) (nI 1) dX12_next_280 rfl (by decide) ?_
            refine r_iaddN (q := 282) dX12_next_281 rfl ?_
            refine r_puti (q := 285) ck12 dX12_next_282 rfl (k := 11) (by decide) wt1289 (Or.inl rfl) rfl (hs.e (by decide)) ?_
            refine r_aload_n (q := 286) dX12_next_285 rfl rfl rfl ?_
            refine r_dup (q := 287) dX12_next_286 rfl rfl ?_
            refine r_geti (q := 290) ck12 dX12_next_287 rfl (k := 4) (by decide) wt1282 (Or.inl rfl) (hs.e (by decide)) ?_
            refine r_topi (y := gI S 12 0 4) (by simp [gI_sI, gJ_sJ, gI_sJ, gJ_sI]) ?_
            refine r_topi (y := nI (p + k)) hx.2.2.2 ?_
            refine r_iconst (q := 291) (nI 1) dX12_next_290 rfl (by decide) ?_
            refine r_iaddN (q := 292) dX12_next_291 rfl ?_
            refine r_puti (q := 295) ck12 dX12_next_292 rfl (k := 4) (by decide) wt1282 (Or.inl rfl) rfl (hs.e (by decide)) ?_
            refine r_goto (q := 181) dX12_next_295 (by decide) ?_
            refine ih' (sI (sI (sI (sJ S 12 0 15 (((gJ S 12 0 15) <<< ((nI 8).toInt64 &&& 63)) ||| (lN (bs.getD (p + k) 0)))) 12 0 12 ((((nI 10) * (gI S 12 0 12)) + (nI (bs.getD (p + k) 0))) - (nI 48))) 12 0 11 (nI (k + 1))) 12 0 4 (nI ((p + k) + 1))) 0 (by rw [h1f]; rfl) hs ?_ ?_ ⟨fun z1 z2 => ?_, fun z1 z2 => ?_⟩ (fun S' f1 f2 f3 f4 f5 => K S' (Fr.tr (Fr.mono (((((Fr.rf.j rfl).i rfl).i rfl).i rfl) : Fr tNx S _) (fun _ _ _ h => h)) f1) (f2.trans ?_) f3 f4 f5)
            · have := (hx.fr (S1 := sI (sI (sJ S 12 0 15 (((gJ S 12 0 15) <<< ((nI 8).toInt64 &&& 63)) ||| (lN (bs.getD (p + k) 0)))) 12 0 12 ((((nI 10) * (gI S 12 0 12)) + (nI (bs.getD (p + k) 0))) - (nI 48))) 12 0 11 (nI (k + 1))) (((Fr.rf.j rfl).i rfl).i rfl)).p (q := p + k + 1); exact this
            · (repeat (first | rw [gI_sI, if_neg (by omega)] | rw [gI_sI, if_pos ⟨rfl, rfl, rfl⟩] | rw [gI_sJ]))
            · (repeat (first | rw [gJ_sI] | rw [gJ_sJ, if_pos ⟨rfl, rfl, rfl⟩])); exact wr_w hwr.1 hmem hlt z1 z2
            · (repeat (first | rw [gI_sI, if_neg (by omega)] | rw [gI_sI, if_pos ⟨rfl, rfl, rfl⟩] | rw [gI_sJ])); exact wr_n hwr.2 z1 z2
            · (repeat (first | rw [gI_sI, if_neg (by omega)] | rw [gI_sJ]))
    | true =>
      rw [q] at ha ih'
      obtain rfl : al = 1 := ha
      by_cases h1 : sml (bs.getD (p + k) 0) = true
      · have h2 := sml_dgt h1
        refine r_aload_n (q := 182) dX12_next_181 rfl rfl rfl ?_
        refine r_callV (Mc := mX12_peek) (q := 185) (As := []) (st := []) ck12 dX12_next_182 rfl rfl mkX12_peek wt1577 wt1579 wp71 rfl (Nat.le_of_ble_eq_true rfl) (Nat.le_of_ble_eq_true rfl) (by decide) (by decide) (by decide) (Or.inl rfl) (hs.e (by decide)) (ok_peek_in (S := S) hs hbl (hx.fr Fr.rf) (by omega)) (fun r182 S182 hp182 => ?_)
        obtain ⟨rfl, hq182⟩ := hp182
        rw [hq182]
        show Ok _ _ _ [zi (nI (bs.getD (p + k) 0))] _ _
        refine r_callS (Mc := mX12_isSmall) (q := 188) (As := [zi (nI (bs.getD (p + k) 0))]) (st := []) dX12_next_185 rfl rfl mkX12_isSmall wt1581 wt1582 rfl (Nat.le_of_ble_eq_true rfl) (Nat.le_of_ble_eq_true rfl) (by decide) (by decide) (by decide) (Or.inl rfl) hs.some (ok_X12_isSmall hlt) (fun r185 S185 hp185 => ?_)
        obtain ⟨rfl, hq185⟩ := hp185
        rw [hq185]
        rw [if_pos h1]
        show Ok _ _ _ [zi (nI 1)] _ _
        refine r_if_neN (q := 191) (t := 201) (by omega) dX12_next_188 (by decide) rfl (fun h188 => ?_) (fun h188 => absurd h188 (by omega))
        refine r_iload_n (q := 202) dX12_next_201 rfl rfl rfl ?_
        refine r_if_eqN (q := 205) (t := 220) (by omega) dX12_next_202 (by decide) rfl (fun h202 => absurd h202 (by omega)) (fun h202 => ?_)
        refine r_aload_n (q := 206) dX12_next_205 rfl rfl rfl ?_
        refine r_callV (Mc := mX12_peek) (q := 209) (As := []) (st := []) ck12 dX12_next_206 rfl rfl mkX12_peek wt1577 wt1579 wp71 rfl (Nat.le_of_ble_eq_true rfl) (Nat.le_of_ble_eq_true rfl) (by decide) (by decide) (by decide) (Or.inl rfl) (hs.e (by decide)) (ok_peek_in (S := S) hs hbl (hx.fr Fr.rf) (by omega)) (fun r206 S206 hp206 => ?_)
        obtain ⟨rfl, hq206⟩ := hp206
        rw [hq206]
        show Ok _ _ _ [zi (nI (bs.getD (p + k) 0))] _ _
        refine r_callS (Mc := mX12_isSmall) (q := 212) (As := [zi (nI (bs.getD (p + k) 0))]) (st := []) dX12_next_209 rfl rfl mkX12_isSmall wt1581 wt1582 rfl (Nat.le_of_ble_eq_true rfl) (Nat.le_of_ble_eq_true rfl) (by decide) (by decide) (by decide) (Or.inl rfl) hs.some (ok_X12_isSmall hlt) (fun r209 S209 hp209 => ?_)
        obtain ⟨rfl, hq209⟩ := hp209
        rw [hq209]
        rw [if_pos h1]
        show Ok _ _ _ [zi (nI 1)] _ _
        refine r_iload_n (q := 213) dX12_next_212 rfl rfl rfl ?_
        refine r_icmp_neN (q := 216) (t := 220) (by omega) (by omega) dX12_next_213 (by decide) rfl (fun h213 => absurd h213 (by omega)) (fun h213 => ?_)
        refine r_iconst (q := 217) (nI 1) dX12_next_216 rfl (by decide) ?_
        refine r_goto (q := 221) dX12_next_217 (by decide) ?_
        refine r_istore_n (q := 222) (L' := [some (zr 12 0), some (zi c0), some (zi (nI 1)), some (zi (nI 1))]) dX12_next_221 rfl rfl (by decide) rfl ?_
        refine r_aload_n (q := 223) dX12_next_222 rfl rfl rfl ?_
        refine r_geti (q := 226) ck12 dX12_next_223 rfl (k := 11) (by decide) wt1289 (Or.inl rfl) (hs.e (by decide)) ?_
        refine r_topi (y := nI k) hsp ?_
        refine r_bipush (q := 228) (nI 6) dX12_next_226 rfl (by decide) ?_
        refine r_icmp_geN (q := 231) (t := 248) (by omega) (by omega) dX12_next_228 (by decide) rfl (fun h228 => ?_) (fun h228 => ?_)
        · skip
          refine r_aload_n (q := 249) dX12_next_248 rfl rfl rfl ?_
          refine r_geti (q := 252) ck12 dX12_next_249 rfl (k := 11) (by decide) wt1289 (Or.inl rfl) (hs.e (by decide)) ?_
          refine r_topi (y := nI k) hsp ?_
          refine r_iconst (q := 253) (nI 2) dX12_next_252 rfl (by decide) ?_
          refine r_icmp_geN (q := 256) (t := 275) (by omega) (by omega) dX12_next_253 (by decide) rfl (fun h253 => ?_) (fun h253 => absurd h253 (by omega))
          refine r_aload_n (q := 276) dX12_next_275 rfl rfl rfl ?_
          refine r_dup (q := 277) dX12_next_276 rfl rfl ?_
          refine r_geti (q := 280) ck12 dX12_next_277 rfl (k := 11) (by decide) wt1289 (Or.inl rfl) (hs.e (by decide)) ?_
          refine r_topi (y := nI k) hsp ?_
          refine r_iconst (q := 281) (nI 1) dX12_next_280 rfl (by decide) ?_
          refine r_iaddN (q := 282) dX12_next_281 rfl ?_
          refine r_puti (q := 285) ck12 dX12_next_282 rfl (k := 11) (by decide) wt1289 (Or.inl rfl) rfl (hs.e (by decide)) ?_
          refine r_aload_n (q := 286) dX12_next_285 rfl rfl rfl ?_
          refine r_dup (q := 287) dX12_next_286 rfl rfl ?_
          refine r_geti (q := 290) ck12 dX12_next_287 rfl (k := 4) (by decide) wt1282 (Or.inl rfl) (hs.e (by decide)) ?_
          refine r_topi (y := gI S 12 0 4) (by simp [gI_sI, gJ_sJ, gI_sJ, gJ_sI]) ?_
          refine r_topi (y := nI (p + k)) hx.2.2.2 ?_
          refine r_iconst (q := 291) (nI 1) dX12_next_290 rfl (by decide) ?_
          refine r_iaddN (q := 292) dX12_next_291 rfl ?_
          refine r_puti (q := 295) ck12 dX12_next_292 rfl (k := 4) (by decide) wt1282 (Or.inl rfl) rfl (hs.e (by decide)) ?_
          refine r_goto (q := 181) dX12_next_295 (by decide) ?_
          refine ih' (sI (sI S 12 0 11 (nI (k + 1))) 12 0 4 (nI ((p + k) + 1))) 1 (by rw [h1]; rfl) hs ?_ ?_ ⟨fun z1 z2 => ?_, fun z1 z2 => ?_⟩ (fun S' f1 f2 f3 f4 f5 => K S' (Fr.tr (Fr.mono (((Fr.rf.i rfl).i rfl) : Fr tNx S _) (fun _ _ _ h => h)) f1) (f2.trans ?_) f3 f4 f5)
          · have := (hx.fr (S1 := sI S 12 0 11 (nI (k + 1))) (Fr.rf.i rfl)).p (q := p + k + 1); exact this
          · (repeat (first | rw [gI_sI, if_neg (by omega)] | rw [gI_sI, if_pos ⟨rfl, rfl, rfl⟩] | rw [gI_sJ]))
          · rw [List.length_append, List.length_singleton, hwl] at z2; omega
          · rw [List.length_append, List.length_singleton, hwl] at z2; omega
          · (repeat (first | rw [gI_sI, if_neg (by omega)] | rw [gI_sJ]))
        · skip
          refine r_aload_n (q := 232) dX12_next_231 rfl rfl rfl ?_
          refine r_aload_n (q := 233) dX12_next_232 rfl rfl rfl ?_
          refine r_getl (q := 236) ck12 dX12_next_233 rfl (k := 15) (by decide) wt1293 rfl (hs.e (by decide)) ?_
          refine r_bipush (q := 238) (nI 8) dX12_next_236 rfl (by decide) ?_
          refine r_lshl (q := 239) dX12_next_238 rfl ?_
          refine r_aload_n (q := 240) dX12_next_239 rfl rfl rfl ?_
          refine r_callV (Mc := mX12_peek) (q := 243) (As := []) (st := [zl ((gJ S 12 0 15) <<< ((nI 8).toInt64 &&& 63)), zr 12 0]) ck12 dX12_next_240 rfl rfl mkX12_peek wt1577 wt1579 wp71 rfl (Nat.le_of_ble_eq_true rfl) (Nat.le_of_ble_eq_true rfl) (by decide) (by decide) (by decide) (Or.inl rfl) (hs.e (by decide)) (ok_peek_in (S := S) hs hbl (hx.fr Fr.rf) (by omega)) (fun r240 S240 hp240 => ?_)
          obtain ⟨rfl, hq240⟩ := hp240
          rw [hq240]
          show Ok _ _ _ [zi (nI (bs.getD (p + k) 0)), zl ((gJ S 12 0 15) <<< ((nI 8).toInt64 &&& 63)), zr 12 0] _ _
          refine r_i2l (q := 244) dX12_next_243 rfl ?_
          refine r_topl (y := lN (bs.getD (p + k) 0)) (nI_l (by omega)) ?_
          refine r_lor (q := 245) dX12_next_244 rfl ?_
          refine r_putl (q := 248) ck12 dX12_next_245 rfl (k := 15) (by decide) wt1293 (Or.inl rfl) rfl (hs.e (by decide)) ?_
          refine r_aload_n (q := 249) dX12_next_248 rfl rfl rfl ?_
          refine r_geti (q := 252) ck12 dX12_next_249 rfl (k := 11) (by decide) wt1289 (Or.inl rfl) (hs.e (by decide)) ?_
          refine r_topi (y := gI S 12 0 11) (by simp [gI_sI, gJ_sJ, gI_sJ, gJ_sI]) ?_
          refine r_topi (y := nI k) hsp ?_
          refine r_iconst (q := 253) (nI 2) dX12_next_252 rfl (by decide) ?_
          refine r_icmp_geN (q := 256) (t := 275) (by omega) (by omega) dX12_next_253 (by decide) rfl (fun h253 => ?_) (fun h253 => ?_)
          · skip
            refine r_aload_n (q := 276) dX12_next_275 rfl rfl rfl ?_
            refine r_dup (q := 277) dX12_next_276 rfl rfl ?_
            refine r_geti (q := 280) ck12 dX12_next_277 rfl (k := 11) (by decide) wt1289 (Or.inl rfl) (hs.e (by decide)) ?_
            refine r_topi (y := gI S 12 0 11) (by simp [gI_sI, gJ_sJ, gI_sJ, gJ_sI]) ?_
            refine r_topi (y := nI k) hsp ?_
            refine r_iconst (q := 281) (nI 1) dX12_next_280 rfl (by decide) ?_
            refine r_iaddN (q := 282) dX12_next_281 rfl ?_
            refine r_puti (q := 285) ck12 dX12_next_282 rfl (k := 11) (by decide) wt1289 (Or.inl rfl) rfl (hs.e (by decide)) ?_
            refine r_aload_n (q := 286) dX12_next_285 rfl rfl rfl ?_
            refine r_dup (q := 287) dX12_next_286 rfl rfl ?_
            refine r_geti (q := 290) ck12 dX12_next_287 rfl (k := 4) (by decide) wt1282 (Or.inl rfl) (hs.e (by decide)) ?_
            refine r_topi (y := gI S 12 0 4) (by simp [gI_sI, gJ_sJ, gI_sJ, gJ_sI]) ?_
            refine r_topi (y := nI (p + k)) hx.2.2.2 ?_
            refine r_iconst (q := 291) (nI 1) dX12_next_290 rfl (by decide) ?_
            refine r_iaddN (q := 292) dX12_next_291 rfl ?_
            refine r_puti (q := 295) ck12 dX12_next_292 rfl (k := 4) (by decide) wt1282 (Or.inl rfl) rfl (hs.e (by decide)) ?_
            refine r_goto (q := 181) dX12_next_295 (by decide) ?_
            refine ih' (sI (sI (sJ S 12 0 15 (((gJ S 12 0 15) <<< ((nI 8).toInt64 &&& 63)) ||| (lN (bs.getD (p + k) 0)))) 12 0 11 (nI (k + 1))) 12 0 4 (nI ((p + k) + 1))) 1 (by rw [h1]; rfl) hs ?_ ?_ ⟨fun z1 z2 => ?_, fun z1 z2 => ?_⟩ (fun S' f1 f2 f3 f4 f5 => K S' (Fr.tr (Fr.mono ((((Fr.rf.j rfl).i rfl).i rfl) : Fr tNx S _) (fun _ _ _ h => h)) f1) (f2.trans ?_) f3 f4 f5)
            · have := (hx.fr (S1 := sI (sJ S 12 0 15 (((gJ S 12 0 15) <<< ((nI 8).toInt64 &&& 63)) ||| (lN (bs.getD (p + k) 0)))) 12 0 11 (nI (k + 1))) ((Fr.rf.j rfl).i rfl)).p (q := p + k + 1); exact this
            · (repeat (first | rw [gI_sI, if_neg (by omega)] | rw [gI_sI, if_pos ⟨rfl, rfl, rfl⟩] | rw [gI_sJ]))
            · (repeat (first | rw [gJ_sI] | rw [gJ_sJ, if_pos ⟨rfl, rfl, rfl⟩])); exact wr_w hwr.1 hmem hlt z1 z2
            · rw [List.length_append, List.length_singleton, hwl] at z2; omega
            · (repeat (first | rw [gI_sI, if_neg (by omega)] | rw [gI_sJ]))
          · skip
            refine r_aload_n (q := 257) dX12_next_256 rfl rfl rfl ?_
            refine r_bipush (q := 259) (nI 10) dX12_next_257 rfl (by decide) ?_
            refine r_aload_n (q := 260) dX12_next_259 rfl rfl rfl ?_
            refine r_geti (q := 263) ck12 dX12_next_260 rfl (k := 12) (by decide) wt1290 (Or.inl rfl) (hs.e (by decide)) ?_
            refine r_topi (y := gI S 12 0 12) (by simp [gI_sI, gJ_sJ, gI_sJ, gJ_sI]) ?_
            refine r_imul (q := 264) dX12_next_263 rfl ?_
            refine r_aload_n (q := 265) dX12_next_264 rfl rfl rfl ?_
            refine r_callV (Mc := mX12_peek) (q := 268) (As := []) (st := [zi ((nI 10) * (gI S 12 0 12)), zr 12 0]) ck12 dX12_next_265 rfl rfl mkX12_peek wt1577 wt1579 wp71 rfl (Nat.le_of_ble_eq_true rfl) (Nat.le_of_ble_eq_true rfl) (by decide) (by decide) (by decide) (Or.inl rfl) (hs.e (by decide)) (ok_peek_in (S := sJ S 12 0 15 (((gJ S 12 0 15) <<< ((nI 8).toInt64 &&& 63)) ||| (lN (bs.getD (p + k) 0)))) hs hbl (hx.fr (Fr.rf.j rfl)) (by omega)) (fun r265 S265 hp265 => ?_)
            obtain ⟨rfl, hq265⟩ := hp265
            rw [hq265]
            show Ok _ _ _ [zi (nI (bs.getD (p + k) 0)), zi ((nI 10) * (gI S 12 0 12)), zr 12 0] _ _
            refine r_iadd (q := 269) dX12_next_268 rfl ?_
            refine r_bipush (q := 271) (nI 48) dX12_next_269 rfl (by decide) ?_
            refine r_isub (q := 272) dX12_next_271 rfl ?_
            refine r_puti (q := 275) ck12 dX12_next_272 rfl (k := 12) (by decide) wt1290 (Or.inl rfl) rfl (hs.e (by decide)) ?_
            refine r_aload_n (q := 276) dX12_next_275 rfl rfl rfl ?_
            refine r_dup (q := 277) dX12_next_276 rfl rfl ?_
            refine r_geti (q := 280) ck12 dX12_next_277 rfl (k := 11) (by decide) wt1289 (Or.inl rfl) (hs.e (by decide)) ?_
            refine r_topi (y := gI S 12 0 11) (by simp [gI_sI, gJ_sJ, gI_sJ, gJ_sI]) ?_
            refine r_topi (y := nI k) hsp ?_
            refine r_iconst (q := 281) (nI 1) dX12_next_280 rfl (by decide) ?_
            refine r_iaddN (q := 282) dX12_next_281 rfl ?_
            refine r_puti (q := 285) ck12 dX12_next_282 rfl (k := 11) (by decide) wt1289 (Or.inl rfl) rfl (hs.e (by decide)) ?_
            refine r_aload_n (q := 286) dX12_next_285 rfl rfl rfl ?_
            refine r_dup (q := 287) dX12_next_286 rfl rfl ?_
            refine r_geti (q := 290) ck12 dX12_next_287 rfl (k := 4) (by decide) wt1282 (Or.inl rfl) (hs.e (by decide)) ?_
            refine r_topi (y := gI S 12 0 4) (by simp [gI_sI, gJ_sJ, gI_sJ, gJ_sI]) ?_
            refine r_topi (y := nI (p + k)) hx.2.2.2 ?_
            refine r_iconst (q := 291) (nI 1) dX12_next_290 rfl (by decide) ?_
            refine r_iaddN (q := 292) dX12_next_291 rfl ?_
            refine r_puti (q := 295) ck12 dX12_next_292 rfl (k := 4) (by decide) wt1282 (Or.inl rfl) rfl (hs.e (by decide)) ?_
            refine r_goto (q := 181) dX12_next_295 (by decide) ?_
            refine ih' (sI (sI (sI (sJ S 12 0 15 (((gJ S 12 0 15) <<< ((nI 8).toInt64 &&& 63)) ||| (lN (bs.getD (p + k) 0)))) 12 0 12 ((((nI 10) * (gI S 12 0 12)) + (nI (bs.getD (p + k) 0))) - (nI 48))) 12 0 11 (nI (k + 1))) 12 0 4 (nI ((p + k) + 1))) 1 (by rw [h1]; rfl) hs ?_ ?_ ⟨fun z1 z2 => ?_, fun z1 z2 => ?_⟩ (fun S' f1 f2 f3 f4 f5 => K S' (Fr.tr (Fr.mono (((((Fr.rf.j rfl).i rfl).i rfl).i rfl) : Fr tNx S _) (fun _ _ _ h => h)) f1) (f2.trans ?_) f3 f4 f5)
            · have := (hx.fr (S1 := sI (sI (sJ S 12 0 15 (((gJ S 12 0 15) <<< ((nI 8).toInt64 &&& 63)) ||| (lN (bs.getD (p + k) 0)))) 12 0 12 ((((nI 10) * (gI S 12 0 12)) + (nI (bs.getD (p + k) 0))) - (nI 48))) 12 0 11 (nI (k + 1))) (((Fr.rf.j rfl).i rfl).i rfl)).p (q := p + k + 1); exact this
            · (repeat (first | rw [gI_sI, if_neg (by omega)] | rw [gI_sI, if_pos ⟨rfl, rfl, rfl⟩] | rw [gI_sJ]))
            · (repeat (first | rw [gJ_sI] | rw [gJ_sJ, if_pos ⟨rfl, rfl, rfl⟩])); exact wr_w hwr.1 hmem hlt z1 z2
            · (repeat (first | rw [gI_sI, if_neg (by omega)] | rw [gI_sI, if_pos ⟨rfl, rfl, rfl⟩] | rw [gI_sJ])); exact wr_n hwr.2 z1 z2
            · (repeat (first | rw [gI_sI, if_neg (by omega)] | rw [gI_sJ]))
      · have h2 := aln_d hal1 h1
        have h1f : sml (bs.getD (p + k) 0) = false := by simpa using h1
        refine r_aload_n (q := 182) dX12_next_181 rfl rfl rfl ?_
        refine r_callV (Mc := mX12_peek) (q := 185) (As := []) (st := []) ck12 dX12_next_182 rfl rfl mkX12_peek wt1577 wt1579 wp71 rfl (Nat.le_of_ble_eq_true rfl) (Nat.le_of_ble_eq_true rfl) (by decide) (by decide) (by decide) (Or.inl rfl) (hs.e (by decide)) (ok_peek_in (S := S) hs hbl (hx.fr Fr.rf) (by omega)) (fun r182 S182 hp182 => ?_)
        obtain ⟨rfl, hq182⟩ := hp182
        rw [hq182]
        show Ok _ _ _ [zi (nI (bs.getD (p + k) 0))] _ _
        refine r_callS (Mc := mX12_isSmall) (q := 188) (As := [zi (nI (bs.getD (p + k) 0))]) (st := []) dX12_next_185 rfl rfl mkX12_isSmall wt1581 wt1582 rfl (Nat.le_of_ble_eq_true rfl) (Nat.le_of_ble_eq_true rfl) (by decide) (by decide) (by decide) (Or.inl rfl) hs.some (ok_X12_isSmall hlt) (fun r185 S185 hp185 => ?_)
        obtain ⟨rfl, hq185⟩ := hp185
        rw [hq185]
        rw [if_neg h1]
        show Ok _ _ _ [zi (nI 0)] _ _
        refine r_if_neN (q := 191) (t := 201) (by omega) dX12_next_188 (by decide) rfl (fun h188 => absurd h188 (by omega)) (fun h188 => ?_)
        refine r_aload_n (q := 192) dX12_next_191 rfl rfl rfl ?_
        refine r_callV (Mc := mX12_peek) (q := 195) (As := []) (st := []) ck12 dX12_next_192 rfl rfl mkX12_peek wt1577 wt1579 wp71 rfl (Nat.le_of_ble_eq_true rfl) (Nat.le_of_ble_eq_true rfl) (by decide) (by decide) (by decide) (Or.inl rfl) (hs.e (by decide)) (ok_peek_in (S := S) hs hbl (hx.fr Fr.rf) (by omega)) (fun r192 S192 hp192 => ?_)
        obtain ⟨rfl, hq192⟩ := hp192
        rw [hq192]
        show Ok _ _ _ [zi (nI (bs.getD (p + k) 0))] _ _
        refine r_callS (Mc := mX12_isDigit) (q := 198) (As := [zi (nI (bs.getD (p + k) 0))]) (st := []) dX12_next_195 rfl rfl mkX12_isDigit wt1584 wt1585 rfl (Nat.le_of_ble_eq_true rfl) (Nat.le_of_ble_eq_true rfl) (by decide) (by decide) (by decide) (Or.inl rfl) hs.some (ok_X12_isDigit hlt) (fun r195 S195 hp195 => ?_)
        obtain ⟨rfl, hq195⟩ := hp195
        rw [hq195]
        rw [if_pos h2]
        show Ok _ _ _ [zi (nI 1)] _ _
        refine r_if_eqN (q := 201) (t := 298) (by omega) dX12_next_198 (by decide) rfl (fun h198 => absurd h198 (by omega)) (fun h198 => ?_)
        refine r_iload_n (q := 202) dX12_next_201 rfl rfl rfl ?_
        refine r_if_eqN (q := 205) (t := 220) (by omega) dX12_next_202 (by decide) rfl (fun h202 => absurd h202 (by omega)) (fun h202 => ?_)
        refine r_aload_n (q := 206) dX12_next_205 rfl rfl rfl ?_
        refine r_callV (Mc := mX12_peek) (q := 209) (As := []) (st := []) ck12 dX12_next_206 rfl rfl mkX12_peek wt1577 wt1579 wp71 rfl (Nat.le_of_ble_eq_true rfl) (Nat.le_of_ble_eq_true rfl) (by decide) (by decide) (by decide) (Or.inl rfl) (hs.e (by decide)) (ok_peek_in (S := S) hs hbl (hx.fr Fr.rf) (by omega)) (fun r206 S206 hp206 => ?_)
        obtain ⟨rfl, hq206⟩ := hp206
        rw [hq206]
        show Ok _ _ _ [zi (nI (bs.getD (p + k) 0))] _ _
        refine r_callS (Mc := mX12_isSmall) (q := 212) (As := [zi (nI (bs.getD (p + k) 0))]) (st := []) dX12_next_209 rfl rfl mkX12_isSmall wt1581 wt1582 rfl (Nat.le_of_ble_eq_true rfl) (Nat.le_of_ble_eq_true rfl) (by decide) (by decide) (by decide) (Or.inl rfl) hs.some (ok_X12_isSmall hlt) (fun r209 S209 hp209 => ?_)
        obtain ⟨rfl, hq209⟩ := hp209
        rw [hq209]
        rw [if_neg h1]
        show Ok _ _ _ [zi (nI 0)] _ _
        refine r_iload_n (q := 213) dX12_next_212 rfl rfl rfl ?_
        refine r_icmp_neN (q := 216) (t := 220) (by omega) (by omega) dX12_next_213 (by decide) rfl (fun h213 => ?_) (fun h213 => absurd h213 (by omega))
        refine r_iconst (q := 221) (nI 0) dX12_next_220 rfl (by decide) ?_
        refine r_istore_n (q := 222) (L' := [some (zr 12 0), some (zi c0), some (zi (nI 1)), some (zi (nI 0))]) dX12_next_221 rfl rfl (by decide) rfl ?_
        refine r_aload_n (q := 223) dX12_next_222 rfl rfl rfl ?_
        refine r_geti (q := 226) ck12 dX12_next_223 rfl (k := 11) (by decide) wt1289 (Or.inl rfl) (hs.e (by decide)) ?_
        refine r_topi (y := nI k) hsp ?_
        refine r_bipush (q := 228) (nI 6) dX12_next_226 rfl (by decide) ?_
        refine r_icmp_geN (q := 231) (t := 248) (by omega) (by omega) dX12_next_228 (by decide) rfl (fun h228 => ?_) (fun h228 => ?_)
        · skip
          refine r_aload_n (q := 249) dX12_next_248 rfl rfl rfl ?_
          refine r_geti (q := 252) ck12 dX12_next_249 rfl (k := 11) (by decide) wt1289 (Or.inl rfl) (hs.e (by decide)) ?_
          refine r_topi (y := nI k) hsp ?_
          refine r_iconst (q := 253) (nI 2) dX12_next_252 rfl (by decide) ?_
          refine r_icmp_geN (q := 256) (t := 275) (by omega) (by omega) dX12_next_253 (by decide) rfl (fun h253 => ?_) (fun h253 => absurd h253 (by omega))
          refine r_aload_n (q := 276) dX12_next_275 rfl rfl rfl ?_
          refine r_dup (q := 277) dX12_next_276 rfl rfl ?_
          refine r_geti (q := 280) ck12 dX12_next_277 rfl (k := 11) (by decide) wt1289 (Or.inl rfl) (hs.e (by decide)) ?_
          refine r_topi (y := nI k) hsp ?_
          refine r_iconst (q := 281) (nI 1) dX12_next_280 rfl (by decide) ?_
          refine r_iaddN (q := 282) dX12_next_281 rfl ?_
          refine r_puti (q := 285) ck12 dX12_next_282 rfl (k := 11) (by decide) wt1289 (Or.inl rfl) rfl (hs.e (by decide)) ?_
          refine r_aload_n (q := 286) dX12_next_285 rfl rfl rfl ?_
          refine r_dup (q := 287) dX12_next_286 rfl rfl ?_
          refine r_geti (q := 290) ck12 dX12_next_287 rfl (k := 4) (by decide) wt1282 (Or.inl rfl) (hs.e (by decide)) ?_
          refine r_topi (y := gI S 12 0 4) (by simp [gI_sI, gJ_sJ, gI_sJ, gJ_sI]) ?_
          refine r_topi (y := nI (p + k)) hx.2.2.2 ?_
          refine r_iconst (q := 291) (nI 1) dX12_next_290 rfl (by decide) ?_
          refine r_iaddN (q := 292) dX12_next_291 rfl ?_
          refine r_puti (q := 295) ck12 dX12_next_292 rfl (k := 4) (by decide) wt1282 (Or.inl rfl) rfl (hs.e (by decide)) ?_
          refine r_goto (q := 181) dX12_next_295 (by decide) ?_
          refine ih' (sI (sI S 12 0 11 (nI (k + 1))) 12 0 4 (nI ((p + k) + 1))) 0 (by rw [h1f]; rfl) hs ?_ ?_ ⟨fun z1 z2 => ?_, fun z1 z2 => ?_⟩ (fun S' f1 f2 f3 f4 f5 => K S' (Fr.tr (Fr.mono (((Fr.rf.i rfl).i rfl) : Fr tNx S _) (fun _ _ _ h => h)) f1) (f2.trans ?_) f3 f4 f5)
          · have := (hx.fr (S1 := sI S 12 0 11 (nI (k + 1))) (Fr.rf.i rfl)).p (q := p + k + 1); exact this
          · (repeat (first | rw [gI_sI, if_neg (by omega)] | rw [gI_sI, if_pos ⟨rfl, rfl, rfl⟩] | rw [gI_sJ]))
          · rw [List.length_append, List.length_singleton, hwl] at z2; omega
          · rw [List.length_append, List.length_singleton, hwl] at z2; omega
          · (repeat (first | rw [gI_sI, if_neg (by omega)] | rw [gI_sJ]))
        · skip
          refine r_aload_n (q := 232) dX12_next_231 rfl rfl rfl ?_
          refine r_aload_n (q := 233) dX12_next_232 rfl rfl rfl ?_
          refine r_getl (q := 236) ck12 dX12_next_233 rfl (k := 15) (by decide) wt1293 rfl (hs.e (by decide)) ?_
          refine r_bipush (q := 238) (nI 8) dX12_next_236 rfl (by decide) ?_
          refine r_lshl (q := 239) dX12_next_238 rfl ?_
          refine r_aload_n (q := 240) dX12_next_239 rfl rfl rfl ?_
          refine r_callV (Mc := mX12_peek) (q := 243) (As := []) (st := [zl ((gJ S 12 0 15) <<< ((nI 8).toInt64 &&& 63)), zr 12 0]) ck12 dX12_next_240 rfl rfl mkX12_peek wt1577 wt1579 wp71 rfl (Nat.le_of_ble_eq_true rfl) (Nat.le_of_ble_eq_true rfl) (by decide) (by decide) (by decide) (Or.inl rfl) (hs.e (by decide)) (ok_peek_in (S := S) hs hbl (hx.fr Fr.rf) (by omega)) (fun r240 S240 hp240 => ?_)
          obtain ⟨rfl, hq240⟩ := hp240
          rw [hq240]
          show Ok _ _ _ [zi (nI (bs.getD (p + k) 0)), zl ((gJ S 12 0 15) <<< ((nI 8).toInt64 &&& 63)), zr 12 0] _ _
          refine r_i2l (q := 244) dX12_next_243 rfl ?_
          refine r_topl (y := lN (bs.getD (p + k) 0)) (nI_l (by omega)) ?_
          refine r_lor (q := 245) dX12_next_244 rfl ?_
          refine r_putl (q := 248) ck12 dX12_next_245 rfl (k := 15) (by decide) wt1293 (Or.inl rfl) rfl (hs.e (by decide)) ?_
          refine r_aload_n (q := 249) dX12_next_248 rfl rfl rfl ?_
          refine r_geti (q := 252) ck12 dX12_next_249 rfl (k := 11) (by decide) wt1289 (Or.inl rfl) (hs.e (by decide)) ?_
          refine r_topi (y := gI S 12 0 11) (by simp [gI_sI, gJ_sJ, gI_sJ, gJ_sI]) ?_
          refine r_topi (y := nI k) hsp ?_
          refine r_iconst (q := 253) (nI 2) dX12_next_252 rfl (by decide) ?_
          refine r_icmp_geN (q := 256) (t := 275) (by omega) (by omega) dX12_next_253 (by decide) rfl (fun h253 => ?_) (fun h253 => ?_)
          · skip
            refine r_aload_n (q := 276) dX12_next_275 rfl rfl rfl ?_
            refine r_dup (q := 277) dX12_next_276 rfl rfl ?_
            refine r_geti (q := 280) ck12 dX12_next_277 rfl (k := 11) (by decide) wt1289 (Or.inl rfl) (hs.e (by decide)) ?_
            refine r_topi (y := gI S 12 0 11) (by simp [gI_sI, gJ_sJ, gI_sJ, gJ_sI]) ?_
            refine r_topi (y := nI k) hsp ?_
            refine r_iconst (q := 281) (nI 1) dX12_next_280 rfl (by decide) ?_
            refine r_iaddN (q := 282) dX12_next_281 rfl ?_
            refine r_puti (q := 285) ck12 dX12_next_282 rfl (k := 11) (by decide) wt1289 (Or.inl rfl) rfl (hs.e (by decide)) ?_
            refine r_aload_n (q := 286) dX12_next_285 rfl rfl rfl ?_
            refine r_dup (q := 287) dX12_next_286 rfl rfl ?_
            refine r_geti (q := 290) ck12 dX12_next_287 rfl (k := 4) (by decide) wt1282 (Or.inl rfl) (hs.e (by decide)) ?_
            refine r_topi (y := gI S 12 0 4) (by simp [gI_sI, gJ_sJ, gI_sJ, gJ_sI]) ?_
            refine r_topi (y := nI (p + k)) hx.2.2.2 ?_
            refine r_iconst (q := 291) (nI 1) dX12_next_290 rfl (by decide) ?_
            refine r_iaddN (q := 292) dX12_next_291 rfl ?_
            refine r_puti (q := 295) ck12 dX12_next_292 rfl (k := 4) (by decide) wt1282 (Or.inl rfl) rfl (hs.e (by decide)) ?_
            refine r_goto (q := 181) dX12_next_295 (by decide) ?_
            refine ih' (sI (sI (sJ S 12 0 15 (((gJ S 12 0 15) <<< ((nI 8).toInt64 &&& 63)) ||| (lN (bs.getD (p + k) 0)))) 12 0 11 (nI (k + 1))) 12 0 4 (nI ((p + k) + 1))) 0 (by rw [h1f]; rfl) hs ?_ ?_ ⟨fun z1 z2 => ?_, fun z1 z2 => ?_⟩ (fun S' f1 f2 f3 f4 f5 => K S' (Fr.tr (Fr.mono ((((Fr.rf.j rfl).i rfl).i rfl) : Fr tNx S _) (fun _ _ _ h => h)) f1) (f2.trans ?_) f3 f4 f5)
            · have := (hx.fr (S1 := sI (sJ S 12 0 15 (((gJ S 12 0 15) <<< ((nI 8).toInt64 &&& 63)) ||| (lN (bs.getD (p + k) 0)))) 12 0 11 (nI (k + 1))) ((Fr.rf.j rfl).i rfl)).p (q := p + k + 1); exact this
            · (repeat (first | rw [gI_sI, if_neg (by omega)] | rw [gI_sI, if_pos ⟨rfl, rfl, rfl⟩] | rw [gI_sJ]))
            · (repeat (first | rw [gJ_sI] | rw [gJ_sJ, if_pos ⟨rfl, rfl, rfl⟩])); exact wr_w hwr.1 hmem hlt z1 z2
            · rw [List.length_append, List.length_singleton, hwl] at z2; omega
            · (repeat (first | rw [gI_sI, if_neg (by omega)] | rw [gI_sJ]))
          · skip
            refine r_aload_n (q := 257) dX12_next_256 rfl rfl rfl ?_
            refine r_bipush (q := 259) (nI 10) dX12_next_257 rfl (by decide) ?_
            refine r_aload_n (q := 260) dX12_next_259 rfl rfl rfl ?_
            refine r_geti (q := 263) ck12 dX12_next_260 rfl (k := 12) (by decide) wt1290 (Or.inl rfl) (hs.e (by decide)) ?_
            refine r_topi (y := gI S 12 0 12) (by simp [gI_sI, gJ_sJ, gI_sJ, gJ_sI]) ?_
            refine r_imul (q := 264) dX12_next_263 rfl ?_
            refine r_aload_n (q := 265) dX12_next_264 rfl rfl rfl ?_
            refine r_callV (Mc := mX12_peek) (q := 268) (As := []) (st := [zi ((nI 10) * (gI S 12 0 12)), zr 12 0]) ck12 dX12_next_265 rfl rfl mkX12_peek wt1577 wt1579 wp71 rfl (Nat.le_of_ble_eq_true rfl) (Nat.le_of_ble_eq_true rfl) (by decide) (by decide) (by decide) (Or.inl rfl) (hs.e (by decide)) (ok_peek_in (S := sJ S 12 0 15 (((gJ S 12 0 15) <<< ((nI 8).toInt64 &&& 63)) ||| (lN (bs.getD (p + k) 0)))) hs hbl (hx.fr (Fr.rf.j rfl)) (by omega)) (fun r265 S265 hp265 => ?_)
            obtain ⟨rfl, hq265⟩ := hp265
            rw [hq265]
            show Ok _ _ _ [zi (nI (bs.getD (p + k) 0)), zi ((nI 10) * (gI S 12 0 12)), zr 12 0] _ _
            refine r_iadd (q := 269) dX12_next_268 rfl ?_
            refine r_bipush (q := 271) (nI 48) dX12_next_269 rfl (by decide) ?_
            refine r_isub (q := 272) dX12_next_271 rfl ?_
            refine r_puti (q := 275) ck12 dX12_next_272 rfl (k := 12) (by decide) wt1290 (Or.inl rfl) rfl (hs.e (by decide)) ?_
            refine r_aload_n (q := 276) dX12_next_275 rfl rfl rfl ?_
            refine r_dup (q := 277) dX12_next_276 rfl rfl ?_
            refine r_geti (q := 280) ck12 dX12_next_277 rfl (k := 11) (by decide) wt1289 (Or.inl rfl) (hs.e (by decide)) ?_
            refine r_topi (y := gI S 12 0 11) (by simp [gI_sI, gJ_sJ, gI_sJ, gJ_sI]) ?_
            refine r_topi (y := nI k) hsp ?_
            refine r_iconst (q := 281) (nI 1) dX12_next_280 rfl (by decide) ?_
            refine r_iaddN (q := 282) dX12_next_281 rfl ?_
            refine r_puti (q := 285) ck12 dX12_next_282 rfl (k := 11) (by decide) wt1289 (Or.inl rfl) rfl (hs.e (by decide)) ?_
            refine r_aload_n (q := 286) dX12_next_285 rfl rfl rfl ?_
            refine r_dup (q := 287) dX12_next_286 rfl rfl ?_
            refine r_geti (q := 290) ck12 dX12_next_287 rfl (k := 4) (by decide) wt1282 (Or.inl rfl) (hs.e (by decide)) ?_
            refine r_topi (y := gI S 12 0 4) (by simp [gI_sI, gJ_sJ, gI_sJ, gJ_sI]) ?_
            refine r_topi (y := nI (p + k)) hx.2.2.2 ?_
            refine r_iconst (q := 291) (nI 1) dX12_next_290 rfl (by decide) ?_
            refine r_iaddN (q := 292) dX12_next_291 rfl ?_
            refine r_puti (q := 295) ck12 dX12_next_292 rfl (k := 4) (by decide) wt1282 (Or.inl rfl) rfl (hs.e (by decide)) ?_
            refine r_goto (q := 181) dX12_next_295 (by decide) ?_
            refine ih' (sI (sI (sI (sJ S 12 0 15 (((gJ S 12 0 15) <<< ((nI 8).toInt64 &&& 63)) ||| (lN (bs.getD (p + k) 0)))) 12 0 12 ((((nI 10) * (gI S 12 0 12)) + (nI (bs.getD (p + k) 0))) - (nI 48))) 12 0 11 (nI (k + 1))) 12 0 4 (nI ((p + k) + 1))) 0 (by rw [h1f]; rfl) hs ?_ ?_ ⟨fun z1 z2 => ?_, fun z1 z2 => ?_⟩ (fun S' f1 f2 f3 f4 f5 => K S' (Fr.tr (Fr.mono (((((Fr.rf.j rfl).i rfl).i rfl).i rfl) : Fr tNx S _) (fun _ _ _ h => h)) f1) (f2.trans ?_) f3 f4 f5)
            · have := (hx.fr (S1 := sI (sI (sJ S 12 0 15 (((gJ S 12 0 15) <<< ((nI 8).toInt64 &&& 63)) ||| (lN (bs.getD (p + k) 0)))) 12 0 12 ((((nI 10) * (gI S 12 0 12)) + (nI (bs.getD (p + k) 0))) - (nI 48))) 12 0 11 (nI (k + 1))) (((Fr.rf.j rfl).i rfl).i rfl)).p (q := p + k + 1); exact this
            · (repeat (first | rw [gI_sI, if_neg (by omega)] | rw [gI_sI, if_pos ⟨rfl, rfl, rfl⟩] | rw [gI_sJ]))
            · (repeat (first | rw [gJ_sI] | rw [gJ_sJ, if_pos ⟨rfl, rfl, rfl⟩])); exact wr_w hwr.1 hmem hlt z1 z2
            · (repeat (first | rw [gI_sI, if_neg (by omega)] | rw [gI_sI, if_pos ⟨rfl, rfl, rfl⟩] | rw [gI_sJ])); exact wr_n hwr.2 z1 z2
            · (repeat (first | rw [gI_sI, if_neg (by omega)] | rw [gI_sJ]))

set_option maxRecDepth 100000 in
theorem lp_nw_0 {Po : Option zV → zS → Prop} {bs : List Nat} {lim p : Nat} {c0 : Int32} (hbl : bs.length ≤ 940) (hpl : p ≤ bs.length) : ∀ (d k : Nat) (S : zS) (al : Nat), k + d = arun (bs.drop p) → al = (if ((bs.drop p).take k).all dgt = true then 1 else 0) → Sd S → Tx2 S bs lim (p + k) → gI S 12 0 11 = nI k → Wr S ((bs.drop p).take k) → (∀ S', Fr tNx S S' → gI S' 12 0 10 = gI S 12 0 10 → Tx2 S' bs lim (p + arun (bs.drop p)) → gI S' 12 0 11 = nI (arun (bs.drop p)) → Wr S' ((bs.drop p).take (arun (bs.drop p))) → Ok mX12_next 298 [some (zr 12 0), some (zi c0), some (zi (nI 0)), some (zi (nI (if ((bs.drop p).take (arun (bs.drop p))).all dgt = true then 1 else 0)))] [] S' Po) → Ok mX12_next 181 [some (zr 12 0), some (zi c0), some (zi (nI 0)), some (zi (nI al))] [] S Po := by
  intro d
  have hal := arun_le (bs.drop p)
  rw [List.length_drop] at hal
  induction d with
  | zero =>
    intro k S al hk ha hs hx hsp hwr K
    obtain rfl : k = arun (bs.drop p) := by omega
    subst ha
    by_cases hend : p + arun (bs.drop p) < bs.length
    · have hn := arun_end (bs.drop p) (by rw [List.length_drop]; omega)
      rw [getD_drop] at hn
      have hlt := hx.1.lt (p + arun (bs.drop p))
      have n1 := aln_n (c := bs.getD (p + arun (bs.drop p)) 0) (by rw [hn]; decide)
      refine r_aload_n (q := 182) dX12_next_181 rfl rfl rfl ?_
      refine r_callV (Mc := mX12_peek) (q := 185) (As := []) (st := []) ck12 dX12_next_182 rfl rfl mkX12_peek wt1577 wt1579 wp71 rfl (Nat.le_of_ble_eq_true rfl) (Nat.le_of_ble_eq_true rfl) (by decide) (by decide) (by decide) (Or.inl rfl) (hs.e (by decide)) (ok_peek_in hs hbl hx hend) (fun r182 S182 hp182 => ?_)
      obtain ⟨rfl, hq182⟩ := hp182
      rw [hq182]
      show Ok _ _ _ [zi (nI (bs.getD (p + arun (bs.drop p)) 0))] _ _
      refine r_callS (Mc := mX12_isSmall) (q := 188) (As := [zi (nI (bs.getD (p + arun (bs.drop p)) 0))]) (st := []) dX12_next_185 rfl rfl mkX12_isSmall wt1581 wt1582 rfl (Nat.le_of_ble_eq_true rfl) (Nat.le_of_ble_eq_true rfl) (by decide) (by decide) (by decide) (Or.inl rfl) hs.some (ok_X12_isSmall hlt) (fun r185 S185 hp185 => ?_)
      obtain ⟨rfl, hq185⟩ := hp185
      rw [hq185]
      rw [if_neg (show ¬ sml (bs.getD (p + arun (bs.drop p)) 0) = true by rw [n1.1]; decide)]
      show Ok _ _ _ [zi (nI 0)] _ _
      refine r_if_neN (q := 191) (t := 201) (by omega) dX12_next_188 (by decide) rfl (fun h188 => absurd h188 (by omega)) (fun h188 => ?_)
      refine r_aload_n (q := 192) dX12_next_191 rfl rfl rfl ?_
      refine r_callV (Mc := mX12_peek) (q := 195) (As := []) (st := []) ck12 dX12_next_192 rfl rfl mkX12_peek wt1577 wt1579 wp71 rfl (Nat.le_of_ble_eq_true rfl) (Nat.le_of_ble_eq_true rfl) (by decide) (by decide) (by decide) (Or.inl rfl) (hs.e (by decide)) (ok_peek_in hs hbl hx hend) (fun r192 S192 hp192 => ?_)
      obtain ⟨rfl, hq192⟩ := hp192
      rw [hq192]
      show Ok _ _ _ [zi (nI (bs.getD (p + arun (bs.drop p)) 0))] _ _
      refine r_callS (Mc := mX12_isDigit) (q := 198) (As := [zi (nI (bs.getD (p + arun (bs.drop p)) 0))]) (st := []) dX12_next_195 rfl rfl mkX12_isDigit wt1584 wt1585 rfl (Nat.le_of_ble_eq_true rfl) (Nat.le_of_ble_eq_true rfl) (by decide) (by decide) (by decide) (Or.inl rfl) hs.some (ok_X12_isDigit hlt) (fun r195 S195 hp195 => ?_)
      obtain ⟨rfl, hq195⟩ := hp195
      rw [hq195]
      rw [if_neg (show ¬ dgt (bs.getD (p + arun (bs.drop p)) 0) = true by rw [n1.2]; decide)]
      show Ok _ _ _ [zi (nI 0)] _ _
      refine r_if_eqN (q := 201) (t := 298) (by omega) dX12_next_198 (by decide) rfl (fun h198 => ?_) (fun h198 => absurd h198 (by omega))
      exact K S Fr.rf rfl hx hsp hwr
    · skip
      refine r_aload_n (q := 182) dX12_next_181 rfl rfl rfl ?_
      refine r_callV (Mc := mX12_peek) (q := 185) (As := []) (st := []) ck12 dX12_next_182 rfl rfl mkX12_peek wt1577 wt1579 wp71 rfl (Nat.le_of_ble_eq_true rfl) (Nat.le_of_ble_eq_true rfl) (by decide) (by decide) (by decide) (Or.inl rfl) (hs.e (by decide)) (ok_peek_out hs hbl hx (by omega)) (fun r182 S182 hp182 => ?_)
      obtain ⟨rfl, hq182⟩ := hp182
      rw [hq182]
      show Ok _ _ _ [zi (-1 : Int32)] _ _
      refine r_callS (Mc := mX12_isSmall) (q := 188) (As := [zi (-1 : Int32)]) (st := []) dX12_next_185 rfl rfl mkX12_isSmall wt1581 wt1582 rfl (Nat.le_of_ble_eq_true rfl) (Nat.le_of_ble_eq_true rfl) (by decide) (by decide) (by decide) (Or.inl rfl) hs.some ok_X12_isSmall_m (fun r185 S185 hp185 => ?_)
      obtain ⟨rfl, hq185⟩ := hp185
      rw [hq185]
      show Ok _ _ _ [zi (nI 0)] _ _
      refine r_if_neN (q := 191) (t := 201) (by omega) dX12_next_188 (by decide) rfl (fun h188 => absurd h188 (by omega)) (fun h188 => ?_)
      refine r_aload_n (q := 192) dX12_next_191 rfl rfl rfl ?_
      refine r_callV (Mc := mX12_peek) (q := 195) (As := []) (st := []) ck12 dX12_next_192 rfl rfl mkX12_peek wt1577 wt1579 wp71 rfl (Nat.le_of_ble_eq_true rfl) (Nat.le_of_ble_eq_true rfl) (by decide) (by decide) (by decide) (Or.inl rfl) (hs.e (by decide)) (ok_peek_out hs hbl hx (by omega)) (fun r192 S192 hp192 => ?_)
      obtain ⟨rfl, hq192⟩ := hp192
      rw [hq192]
      show Ok _ _ _ [zi (-1 : Int32)] _ _
      refine r_callS (Mc := mX12_isDigit) (q := 198) (As := [zi (-1 : Int32)]) (st := []) dX12_next_195 rfl rfl mkX12_isDigit wt1584 wt1585 rfl (Nat.le_of_ble_eq_true rfl) (Nat.le_of_ble_eq_true rfl) (by decide) (by decide) (by decide) (Or.inl rfl) hs.some ok_X12_isDigit_m (fun r195 S195 hp195 => ?_)
      obtain ⟨rfl, hq195⟩ := hp195
      rw [hq195]
      show Ok _ _ _ [zi (nI 0)] _ _
      refine r_if_eqN (q := 201) (t := 298) (by omega) dX12_next_198 (by decide) rfl (fun h198 => ?_) (fun h198 => absurd h198 (by omega))
      exact K S Fr.rf rfl hx hsp hwr
  | succ d ih =>
    intro k S al hk ha hs hx hsp hwr K
    have hal1 := arun_in (bs.drop p) k (by omega)
    rw [getD_drop] at hal1
    have hlt := hx.1.lt (p + k)
    have hdl : k < (bs.drop p).length := by rw [List.length_drop]; omega
    have e0 : (bs.drop p).take (k + 1) = ((bs.drop p).take k) ++ [bs.getD (p + k) 0] := by rw [take_snoc hdl, getD_drop]
    have hwl : ((bs.drop p).take k).length = k := by rw [List.length_take, List.length_drop]; omega
    have hmem : ∀ x, x ∈ ((bs.drop p).take k) → x < 256 := fun x hx2 => hx.1.2 x (List.mem_of_mem_drop (List.mem_of_mem_take hx2))
    have ih' := fun S al => ih (k + 1) S al (by omega)
    rw [e0, all_snoc, show p + (k + 1) = p + k + 1 by omega] at ih'
    cases q : ((bs.drop p).take k).all dgt with
    | false =>
      rw [q] at ha ih'
      obtain rfl : al = 0 := ha
      by_cases h1 : sml (bs.getD (p + k) 0) = true
      · have h2 := sml_dgt h1
        refine r_aload_n (q := 182) dX12_next_181 rfl rfl rfl ?_
        refine r_callV (Mc := mX12_peek) (q := 185) (As := []) (st := []) ck12 dX12_next_182 rfl rfl mkX12_peek wt1577 wt1579 wp71 rfl (Nat.le_of_ble_eq_true rfl) (Nat.le_of_ble_eq_true rfl) (by decide) (by decide) (by decide) (Or.inl rfl) (hs.e (by decide)) (ok_peek_in (S := S) hs hbl (hx.fr Fr.rf) (by omega)) (fun r182 S182 hp182 => ?_)
        obtain ⟨rfl, hq182⟩ := hp182
        rw [hq182]
        show Ok _ _ _ [zi (nI (bs.getD (p + k) 0))] _ _
        refine r_callS (Mc := mX12_isSmall) (q := 188) (As := [zi (nI (bs.getD (p + k) 0))]) (st := []) dX12_next_185 rfl rfl mkX12_isSmall wt1581 wt1582 rfl (Nat.le_of_ble_eq_true rfl) (Nat.le_of_ble_eq_true rfl) (by decide) (by decide) (by decide) (Or.inl rfl) hs.some (ok_X12_isSmall hlt) (fun r185 S185 hp185 => ?_)
        obtain ⟨rfl, hq185⟩ := hp185
        rw [hq185]
        rw [if_pos h1]
        show Ok _ _ _ [zi (nI 1)] _ _
        refine r_if_neN (q := 191) (t := 201) (by omega) dX12_next_188 (by decide) rfl (fun h188 => ?_) (fun h188 => absurd h188 (by omega))
        refine r_iload_n (q := 202) dX12_next_201 rfl rfl rfl ?_
        refine r_if_eqN (q := 205) (t := 220) (by omega) dX12_next_202 (by decide) rfl (fun h202 => ?_) (fun h202 => absurd h202 (by omega))
        refine r_iconst (q := 221) (nI 0) dX12_next_220 rfl (by decide) ?_
        refine r_istore_n (q := 222) (L' := [some (zr 12 0), some (zi c0), some (zi (nI 0)), some (zi (nI 0))]) dX12_next_221 rfl rfl (by decide) rfl ?_
        refine r_aload_n (q := 223) dX12_next_222 rfl rfl rfl ?_
        refine r_geti (q := 226) ck12 dX12_next_223 rfl (k := 11) (by decide) wt1289 (Or.inl rfl) (hs.e (by decide)) ?_
        refine r_topi (y := nI k) hsp ?_
        refine r_bipush (q := 228) (nI 6) dX12_next_226 rfl (by decide) ?_
        refine r_icmp_geN (q := 231) (t := 248) (by omega) (by omega) dX12_next_228 (by decide) rfl (fun h228 => ?_) (fun h228 => ?_)
        · skip
          refine r_aload_n (q := 249) dX12_next_248 rfl rfl rfl ?_
          refine r_geti (q := 252) ck12 dX12_next_249 rfl (k := 11) (by decide) wt1289 (Or.inl rfl) (hs.e (by decide)) ?_
          refine r_topi (y := nI k) hsp ?_
          refine r_iconst (q := 253) (nI 2) dX12_next_252 rfl (by decide) ?_
          refine r_icmp_geN (q := 256) (t := 275) (by omega) (by omega) dX12_next_253 (by decide) rfl (fun h253 => ?_) (fun h253 => absurd h253 (by omega))
          refine r_aload_n (q := 276) dX12_next_275 rfl rfl rfl ?_
          refine r_dup (q := 277) dX12_next_276 rfl rfl ?_
          refine r_geti (q := 280) ck12 dX12_next_277 rfl (k := 11) (by decide) wt1289 (Or.inl rfl) (hs.e (by decide)) ?_
          refine r_topi (y := nI k) hsp ?_
          refine r_iconst (q := 281) (nI 1) dX12_next_280 rfl (by decide) ?_
          refine r_iaddN (q := 282) dX12_next_281 rfl ?_
          refine r_puti (q := 285) ck12 dX12_next_282 rfl (k := 11) (by decide) wt1289 (Or.inl rfl) rfl (hs.e (by decide)) ?_
          refine r_aload_n (q := 286) dX12_next_285 rfl rfl rfl ?_
          refine r_dup (q := 287) dX12_next_286 rfl rfl ?_
          refine r_geti (q := 290) ck12 dX12_next_287 rfl (k := 4) (by decide) wt1282 (Or.inl rfl) (hs.e (by decide)) ?_
          refine r_topi (y := gI S 12 0 4) (by simp [gI_sI, gJ_sJ, gI_sJ, gJ_sI]) ?_
          refine r_topi (y := nI (p + k)) hx.2.2.2 ?_
          refine r_iconst (q := 291) (nI 1) dX12_next_290 rfl (by decide) ?_
          refine r_iaddN (q := 292) dX12_next_291 rfl ?_
          refine r_puti (q := 295) ck12 dX12_next_292 rfl (k := 4) (by decide) wt1282 (Or.inl rfl) rfl (hs.e (by decide)) ?_
          refine r_goto (q := 181) dX12_next_295 (by decide) ?_
          refine ih' (sI (sI S 12 0 11 (nI (k + 1))) 12 0 4 (nI ((p + k) + 1))) 0 (by rw [h2]; rfl) hs ?_ ?_ ⟨fun z1 z2 => ?_, fun z1 z2 => ?_⟩ (fun S' f1 f2 f3 f4 f5 => K S' (Fr.tr (Fr.mono (((Fr.rf.i rfl).i rfl) : Fr tNx S _) (fun _ _ _ h => h)) f1) (f2.trans ?_) f3 f4 f5)
          · have := (hx.fr (S1 := sI S 12 0 11 (nI (k + 1))) (Fr.rf.i rfl)).p (q := p + k + 1); exact this
          · (repeat (first | rw [gI_sI, if_neg (by omega)] | rw [gI_sI, if_pos ⟨rfl, rfl, rfl⟩] | rw [gI_sJ]))
          · rw [List.length_append, List.length_singleton, hwl] at z2; omega
          · rw [List.length_append, List.length_singleton, hwl] at z2; omega
          · (repeat (first | rw [gI_sI, if_neg (by omega)] | rw [gI_sJ]))
        · skip
          refine r_aload_n (q := 232) dX12_next_231 rfl rfl rfl ?_
          refine r_aload_n (q := 233) dX12_next_232 rfl rfl rfl ?_
          refine r_getl (q := 236) ck12 dX12_next_233 rfl (k := 15) (by decide) wt1293 rfl (hs.e (by decide)) ?_
          refine r_bipush (q := 238) (nI 8) dX12_next_236 rfl (by decide) ?_
          refine r_lshl (q := 239) dX12_next_238 rfl ?_
          refine r_aload_n (q := 240) dX12_next_239 rfl rfl rfl ?_
          refine r_callV (Mc := mX12_peek) (q := 243) (As := []) (st := [zl ((gJ S 12 0 15) <<< ((nI 8).toInt64 &&& 63)), zr 12 0]) ck12 dX12_next_240 rfl rfl mkX12_peek wt1577 wt1579 wp71 rfl (Nat.le_of_ble_eq_true rfl) (Nat.le_of_ble_eq_true rfl) (by decide) (by decide) (by decide) (Or.inl rfl) (hs.e (by decide)) (ok_peek_in (S := S) hs hbl (hx.fr Fr.rf) (by omega)) (fun r240 S240 hp240 => ?_)
          obtain ⟨rfl, hq240⟩ := hp240
          rw [hq240]
          show Ok _ _ _ [zi (nI (bs.getD (p + k) 0)), zl ((gJ S 12 0 15) <<< ((nI 8).toInt64 &&& 63)), zr 12 0] _ _
          refine r_i2l (q := 244) dX12_next_243 rfl ?_
          refine r_topl (y := lN (bs.getD (p + k) 0)) (nI_l (by omega)) ?_
          refine r_lor (q := 245) dX12_next_244 rfl ?_
          refine r_putl (q := 248) ck12 dX12_next_245 rfl (k := 15) (by decide) wt1293 (Or.inl rfl) rfl (hs.e (by decide)) ?_
          refine r_aload_n (q := 249) dX12_next_248 rfl rfl rfl ?_
          refine r_geti (q := 252) ck12 dX12_next_249 rfl (k := 11) (by decide) wt1289 (Or.inl rfl) (hs.e (by decide)) ?_
          refine r_topi (y := gI S 12 0 11) (by simp [gI_sI, gJ_sJ, gI_sJ, gJ_sI]) ?_
          refine r_topi (y := nI k) hsp ?_
          refine r_iconst (q := 253) (nI 2) dX12_next_252 rfl (by decide) ?_
          refine r_icmp_geN (q := 256) (t := 275) (by omega) (by omega) dX12_next_253 (by decide) rfl (fun h253 => ?_) (fun h253 => ?_)
          · skip
            refine r_aload_n (q := 276) dX12_next_275 rfl rfl rfl ?_
            refine r_dup (q := 277) dX12_next_276 rfl rfl ?_
            refine r_geti (q := 280) ck12 dX12_next_277 rfl (k := 11) (by decide) wt1289 (Or.inl rfl) (hs.e (by decide)) ?_
            refine r_topi (y := gI S 12 0 11) (by simp [gI_sI, gJ_sJ, gI_sJ, gJ_sI]) ?_
            refine r_topi (y := nI k) hsp ?_
            refine r_iconst (q := 281) (nI 1) dX12_next_280 rfl (by decide) ?_
            refine r_iaddN (q := 282) dX12_next_281 rfl ?_
            refine r_puti (q := 285) ck12 dX12_next_282 rfl (k := 11) (by decide) wt1289 (Or.inl rfl) rfl (hs.e (by decide)) ?_
            refine r_aload_n (q := 286) dX12_next_285 rfl rfl rfl ?_
            refine r_dup (q := 287) dX12_next_286 rfl rfl ?_
            refine r_geti (q := 290) ck12 dX12_next_287 rfl (k := 4) (by decide) wt1282 (Or.inl rfl) (hs.e (by decide)) ?_
            refine r_topi (y := gI S 12 0 4) (by simp [gI_sI, gJ_sJ, gI_sJ, gJ_sI]) ?_
            refine r_topi (y := nI (p + k)) hx.2.2.2 ?_
            refine r_iconst (q := 291) (nI 1) dX12_next_290 rfl (by decide) ?_
            refine r_iaddN (q := 292) dX12_next_291 rfl ?_
            refine r_puti (q := 295) ck12 dX12_next_292 rfl (k := 4) (by decide) wt1282 (Or.inl rfl) rfl (hs.e (by decide)) ?_
            refine r_goto (q := 181) dX12_next_295 (by decide) ?_
            refine ih' (sI (sI (sJ S 12 0 15 (((gJ S 12 0 15) <<< ((nI 8).toInt64 &&& 63)) ||| (lN (bs.getD (p + k) 0)))) 12 0 11 (nI (k + 1))) 12 0 4 (nI ((p + k) + 1))) 0 (by rw [h2]; rfl) hs ?_ ?_ ⟨fun z1 z2 => ?_, fun z1 z2 => ?_⟩ (fun S' f1 f2 f3 f4 f5 => K S' (Fr.tr (Fr.mono ((((Fr.rf.j rfl).i rfl).i rfl) : Fr tNx S _) (fun _ _ _ h => h)) f1) (f2.trans ?_) f3 f4 f5)
            · have := (hx.fr (S1 := sI (sJ S 12 0 15 (((gJ S 12 0 15) <<< ((nI 8).toInt64 &&& 63)) ||| (lN (bs.getD (p + k) 0)))) 12 0 11 (nI (k + 1))) ((Fr.rf.j rfl).i rfl)).p (q := p + k + 1); exact this
            · (repeat (first | rw [gI_sI, if_neg (by omega)] | rw [gI_sI, if_pos ⟨rfl, rfl, rfl⟩] | rw [gI_sJ]))
            · (repeat (first | rw [gJ_sI] | rw [gJ_sJ, if_pos ⟨rfl, rfl, rfl⟩])); exact wr_w hwr.1 hmem hlt z1 z2
            · rw [List.length_append, List.length_singleton, hwl] at z2; omega
            · (repeat (first | rw [gI_sI, if_neg (by omega)] | rw [gI_sJ]))
          · skip
            refine r_aload_n (q := 257) dX12_next_256 rfl rfl rfl ?_
            refine r_bipush (q := 259) (nI 10) dX12_next_257 rfl (by decide) ?_
            refine r_aload_n (q := 260) dX12_next_259 rfl rfl rfl ?_
            refine r_geti (q := 263) ck12 dX12_next_260 rfl (k := 12) (by decide) wt1290 (Or.inl rfl) (hs.e (by decide)) ?_
            refine r_topi (y := gI S 12 0 12) (by simp [gI_sI, gJ_sJ, gI_sJ, gJ_sI]) ?_
            refine r_imul (q := 264) dX12_next_263 rfl ?_
            refine r_aload_n (q := 265) dX12_next_264 rfl rfl rfl ?_
            refine r_callV (Mc := mX12_peek) (q := 268) (As := []) (st := [zi ((nI 10) * (gI S 12 0 12)), zr 12 0]) ck12 dX12_next_265 rfl rfl mkX12_peek wt1577 wt1579 wp71 rfl (Nat.le_of_ble_eq_true rfl) (Nat.le_of_ble_eq_true rfl) (by decide) (by decide) (by decide) (Or.inl rfl) (hs.e (by decide)) (ok_peek_in (S := sJ S 12 0 15 (((gJ S 12 0 15) <<< ((nI 8).toInt64 &&& 63)) ||| (lN (bs.getD (p + k) 0)))) hs hbl (hx.fr (Fr.rf.j rfl)) (by omega)) (fun r265 S265 hp265 => ?_)
            obtain ⟨rfl, hq265⟩ := hp265
            rw [hq265]
            show Ok _ _ _ [zi (nI (bs.getD (p + k) 0)), zi ((nI 10) * (gI S 12 0 12)), zr 12 0] _ _
            refine r_iadd (q := 269) dX12_next_268 rfl ?_
            refine r_bipush (q := 271) (nI 48) dX12_next_269 rfl (by decide) ?_
            refine r_isub (q := 272) dX12_next_271 rfl ?_
            refine r_puti (q := 275) ck12 dX12_next_272 rfl (k := 12) (by decide) wt1290 (Or.inl rfl) rfl (hs.e (by decide)) ?_
            refine r_aload_n (q := 276) dX12_next_275 rfl rfl rfl ?_
            refine r_dup (q := 277) dX12_next_276 rfl rfl ?_
            refine r_geti (q := 280) ck12 dX12_next_277 rfl (k := 11) (by decide) wt1289 (Or.inl rfl) (hs.e (by decide)) ?_
            refine r_topi (y := gI S 12 0 11) (by simp [gI_sI, gJ_sJ, gI_sJ, gJ_sI]) ?_
            refine r_topi (y := nI k) hsp ?_
            refine r_iconst (q := 281) (nI 1) dX12_next_280 rfl (by decide) ?_
            refine r_iaddN (q := 282) dX12_next_281 rfl ?_
            refine r_puti (q := 285) ck12 dX12_next_282 rfl (k := 11) (by decide) wt1289 (Or.inl rfl) rfl (hs.e (by decide)) ?_
            refine r_aload_n (q := 286) dX12_next_285 rfl rfl rfl ?_
            refine r_dup (q := 287) dX12_next_286 rfl rfl ?_
            refine r_geti (q := 290) ck12 dX12_next_287 rfl (k := 4) (by decide) wt1282 (Or.inl rfl) (hs.e (by decide)) ?_
            refine r_topi (y := gI S 12 0 4) (by simp [gI_sI, gJ_sJ, gI_sJ, gJ_sI]) ?_
            refine r_topi (y := nI (p + k)) hx.2.2.2 ?_
            refine r_iconst (q := 291) (nI 1) dX12_next_290 rfl (by decide) ?_
            refine r_iaddN (q := 292) dX12_next_291 rfl ?_
            refine r_puti (q := 295) ck12 dX12_next_292 rfl (k := 4) (by decide) wt1282 (Or.inl rfl) rfl (hs.e (by decide)) ?_
            refine r_goto (q := 181) dX12_next_295 (by decide) ?_
            refine ih' (sI (sI (sI (sJ S 12 0 15 (((gJ S 12 0 15) <<< ((nI 8).toInt64 &&& 63)) ||| (lN (bs.getD (p + k) 0)))) 12 0 12 ((((nI 10) * (gI S 12 0 12)) + (nI (bs.getD (p + k) 0))) - (nI 48))) 12 0 11 (nI (k + 1))) 12 0 4 (nI ((p + k) + 1))) 0 (by rw [h2]; rfl) hs ?_ ?_ ⟨fun z1 z2 => ?_, fun z1 z2 => ?_⟩ (fun S' f1 f2 f3 f4 f5 => K S' (Fr.tr (Fr.mono (((((Fr.rf.j rfl).i rfl).i rfl).i rfl) : Fr tNx S _) (fun _ _ _ h => h)) f1) (f2.trans ?_) f3 f4 f5)
            · have := (hx.fr (S1 := sI (sI (sJ S 12 0 15 (((gJ S 12 0 15) <<< ((nI 8).toInt64 &&& 63)) ||| (lN (bs.getD (p + k) 0)))) 12 0 12 ((((nI 10) * (gI S 12 0 12)) + (nI (bs.getD (p + k) 0))) - (nI 48))) 12 0 11 (nI (k + 1))) (((Fr.rf.j rfl).i rfl).i rfl)).p (q := p + k + 1); exact this
            · (repeat (first | rw [gI_sI, if_neg (by omega)] | rw [gI_sI, if_pos ⟨rfl, rfl, rfl⟩] | rw [gI_sJ]))
            · (repeat (first | rw [gJ_sI] | rw [gJ_sJ, if_pos ⟨rfl, rfl, rfl⟩])); exact wr_w hwr.1 hmem hlt z1 z2
            · (repeat (first | rw [gI_sI, if_neg (by omega)] | rw [gI_sI, if_pos ⟨rfl, rfl, rfl⟩] | rw [gI_sJ])); exact wr_n hwr.2 z1 z2
            · (repeat (first | rw [gI_sI, if_neg (by omega)] | rw [gI_sJ]))
      · have h2 := aln_d hal1 h1
        have h1f : sml (bs.getD (p + k) 0) = false := by simpa using h1
        refine r_aload_n (q := 182) dX12_next_181 rfl rfl rfl ?_
        refine r_callV (Mc := mX12_peek) (q := 185) (As := []) (st := []) ck12 dX12_next_182 rfl rfl mkX12_peek wt1577 wt1579 wp71 rfl (Nat.le_of_ble_eq_true rfl) (Nat.le_of_ble_eq_true rfl) (by decide) (by decide) (by decide) (Or.inl rfl) (hs.e (by decide)) (ok_peek_in (S := S) hs hbl (hx.fr Fr.rf) (by omega)) (fun r182 S182 hp182 => ?_)
        obtain ⟨rfl, hq182⟩ := hp182
        rw [hq182]
        show Ok _ _ _ [zi (nI (bs.getD (p + k) 0))] _ _
        refine r_callS (Mc := mX12_isSmall) (q := 188) (As := [zi (nI (bs.getD (p + k) 0))]) (st := []) dX12_next_185 rfl rfl mkX12_isSmall wt1581 wt1582 rfl (Nat.le_of_ble_eq_true rfl) (Nat.le_of_ble_eq_true rfl) (by decide) (by decide) (by decide) (Or.inl rfl) hs.some (ok_X12_isSmall hlt) (fun r185 S185 hp185 => ?_)
        obtain ⟨rfl, hq185⟩ := hp185
        rw [hq185]
        rw [if_neg h1]
        show Ok _ _ _ [zi (nI 0)] _ _
        refine r_if_neN (q := 191) (t := 201) (by omega) dX12_next_188 (by decide) rfl (fun h188 => absurd h188 (by omega)) (fun h188 => ?_)
        refine r_aload_n (q := 192) dX12_next_191 rfl rfl rfl ?_
        refine r_callV (Mc := mX12_peek) (q := 195) (As := []) (st := []) ck12 dX12_next_192 rfl rfl mkX12_peek wt1577 wt1579 wp71 rfl (Nat.le_of_ble_eq_true rfl) (Nat.le_of_ble_eq_true rfl) (by decide) (by decide) (by decide) (Or.inl rfl) (hs.e (by decide)) (ok_peek_in (S := S) hs hbl (hx.fr Fr.rf) (by omega)) (fun r192 S192 hp192 => ?_)
        obtain ⟨rfl, hq192⟩ := hp192
        rw [hq192]
        show Ok _ _ _ [zi (nI (bs.getD (p + k) 0))] _ _
        refine r_callS (Mc := mX12_isDigit) (q := 198) (As := [zi (nI (bs.getD (p + k) 0))]) (st := []) dX12_next_195 rfl rfl mkX12_isDigit wt1584 wt1585 rfl (Nat.le_of_ble_eq_true rfl) (Nat.le_of_ble_eq_true rfl) (by decide) (by decide) (by decide) (Or.inl rfl) hs.some (ok_X12_isDigit hlt) (fun r195 S195 hp195 => ?_)
        obtain ⟨rfl, hq195⟩ := hp195
        rw [hq195]
        rw [if_pos h2]
        show Ok _ _ _ [zi (nI 1)] _ _
        refine r_if_eqN (q := 201) (t := 298) (by omega) dX12_next_198 (by decide) rfl (fun h198 => absurd h198 (by omega)) (fun h198 => ?_)
        refine r_iload_n (q := 202) dX12_next_201 rfl rfl rfl ?_
        refine r_if_eqN (q := 205) (t := 220) (by omega) dX12_next_202 (by decide) rfl (fun h202 => ?_) (fun h202 => absurd h202 (by omega))
        refine r_iconst (q := 221) (nI 0) dX12_next_220 rfl (by decide) ?_
        refine r_istore_n (q := 222) (L' := [some (zr 12 0), some (zi c0), some (zi (nI 0)), some (zi (nI 0))]) dX12_next_221 rfl rfl (by decide) rfl ?_
        refine r_aload_n (q := 223) dX12_next_222 rfl rfl rfl ?_
        refine r_geti (q := 226) ck12 dX12_next_223 rfl (k := 11) (by decide) wt1289 (Or.inl rfl) (hs.e (by decide)) ?_
        refine r_topi (y := nI k) hsp ?_
        refine r_bipush (q := 228) (nI 6) dX12_next_226 rfl (by decide) ?_
        refine r_icmp_geN (q := 231) (t := 248) (by omega) (by omega) dX12_next_228 (by decide) rfl (fun h228 => ?_) (fun h228 => ?_)
        · skip
          refine r_aload_n (q := 249) dX12_next_248 rfl rfl rfl ?_
          refine r_geti (q := 252) ck12 dX12_next_249 rfl (k := 11) (by decide) wt1289 (Or.inl rfl) (hs.e (by decide)) ?_
          refine r_topi (y := nI k) hsp ?_
          refine r_iconst (q := 253) (nI 2) dX12_next_252 rfl (by decide) ?_
          refine r_icmp_geN (q := 256) (t := 275) (by omega) (by omega) dX12_next_253 (by decide) rfl (fun h253 => ?_) (fun h253 => absurd h253 (by omega))
          refine r_aload_n (q := 276) dX12_next_275 rfl rfl rfl ?_
          refine r_dup (q := 277) dX12_next_276 rfl rfl ?_
          refine r_geti (q := 280) ck12 dX12_next_277 rfl (k := 11) (by decide) wt1289 (Or.inl rfl) (hs.e (by decide)) ?_
          refine r_topi (y := nI k) hsp ?_
          refine r_iconst (q := 281) (nI 1) dX12_next_280 rfl (by decide) ?_
          refine r_iaddN (q := 282) dX12_next_281 rfl ?_
          refine r_puti (q := 285) ck12 dX12_next_282 rfl (k := 11) (by decide) wt1289 (Or.inl rfl) rfl (hs.e (by decide)) ?_
          refine r_aload_n (q := 286) dX12_next_285 rfl rfl rfl ?_
          refine r_dup (q := 287) dX12_next_286 rfl rfl ?_
          refine r_geti (q := 290) ck12 dX12_next_287 rfl (k := 4) (by decide) wt1282 (Or.inl rfl) (hs.e (by decide)) ?_
          refine r_topi (y := gI S 12 0 4) (by simp [gI_sI, gJ_sJ, gI_sJ, gJ_sI]) ?_
          refine r_topi (y := nI (p + k)) hx.2.2.2 ?_
          refine r_iconst (q := 291) (nI 1) dX12_next_290 rfl (by decide) ?_
          refine r_iaddN (q := 292) dX12_next_291 rfl ?_
          refine r_puti (q := 295) ck12 dX12_next_292 rfl (k := 4) (by decide) wt1282 (Or.inl rfl) rfl (hs.e (by decide)) ?_
          refine r_goto (q := 181) dX12_next_295 (by decide) ?_
          refine ih' (sI (sI S 12 0 11 (nI (k + 1))) 12 0 4 (nI ((p + k) + 1))) 0 (by rw [h2]; rfl) hs ?_ ?_ ⟨fun z1 z2 => ?_, fun z1 z2 => ?_⟩ (fun S' f1 f2 f3 f4 f5 => K S' (Fr.tr (Fr.mono (((Fr.rf.i rfl).i rfl) : Fr tNx S _) (fun _ _ _ h => h)) f1) (f2.trans ?_) f3 f4 f5)
          · have := (hx.fr (S1 := sI S 12 0 11 (nI (k + 1))) (Fr.rf.i rfl)).p (q := p + k + 1); exact this
          · (repeat (first | rw [gI_sI, if_neg (by omega)] | rw [gI_sI, if_pos ⟨rfl, rfl, rfl⟩] | rw [gI_sJ]))
          · rw [List.length_append, List.length_singleton, hwl] at z2; omega
          · rw [List.length_append, List.length_singleton, hwl] at z2; omega
          · (repeat (first | rw [gI_sI, if_neg (by omega)] | rw [gI_sJ]))
        · skip
          refine r_aload_n (q := 232) dX12_next_231 rfl rfl rfl ?_
          refine r_aload_n (q := 233) dX12_next_232 rfl rfl rfl ?_
          refine r_getl (q := 236) ck12 dX12_next_233 rfl (k := 15) (by decide) wt1293 rfl (hs.e (by decide)) ?_
          refine r_bipush (q := 238) (nI 8) dX12_next_236 rfl (by decide) ?_
          refine r_lshl (q := 239) dX12_next_238 rfl ?_
          refine r_aload_n (q := 240) dX12_next_239 rfl rfl rfl ?_
          refine r_callV (Mc := mX12_peek) (q := 243) (As := []) (st := [zl ((gJ S 12 0 15) <<< ((nI 8).toInt64 &&& 63)), zr 12 0]) ck12 dX12_next_240 rfl rfl mkX12_peek wt1577 wt1579 wp71 rfl (Nat.le_of_ble_eq_true rfl) (Nat.le_of_ble_eq_true rfl) (by decide) (by decide) (by decide) (Or.inl rfl) (hs.e (by decide)) (ok_peek_in (S := S) hs hbl (hx.fr Fr.rf) (by omega)) (fun r240 S240 hp240 => ?_)
          obtain ⟨rfl, hq240⟩ := hp240
          rw [hq240]
          show Ok _ _ _ [zi (nI (bs.getD (p + k) 0)), zl ((gJ S 12 0 15) <<< ((nI 8).toInt64 &&& 63)), zr 12 0] _ _
          refine r_i2l (q := 244) dX12_next_243 rfl ?_
          refine r_topl (y := lN (bs.getD (p + k) 0)) (nI_l (by omega)) ?_
          refine r_lor (q := 245) dX12_next_244 rfl ?_
          refine r_putl (q := 248) ck12 dX12_next_245 rfl (k := 15) (by decide) wt1293 (Or.inl rfl) rfl (hs.e (by decide)) ?_
          refine r_aload_n (q := 249) dX12_next_248 rfl rfl rfl ?_
          refine r_geti (q := 252) ck12 dX12_next_249 rfl (k := 11) (by decide) wt1289 (Or.inl rfl) (hs.e (by decide)) ?_
          refine r_topi (y := gI S 12 0 11) (by simp [gI_sI, gJ_sJ, gI_sJ, gJ_sI]) ?_
          refine r_topi (y := nI k) hsp ?_
          refine r_iconst (q := 253) (nI 2) dX12_next_252 rfl (by decide) ?_
          refine r_icmp_geN (q := 256) (t := 275) (by omega) (by omega) dX12_next_253 (by decide) rfl (fun h253 => ?_) (fun h253 => ?_)
          · skip
            refine r_aload_n (q := 276) dX12_next_275 rfl rfl rfl ?_
            refine r_dup (q := 277) dX12_next_276 rfl rfl ?_
            refine r_geti (q := 280) ck12 dX12_next_277 rfl (k := 11) (by decide) wt1289 (Or.inl rfl) (hs.e (by decide)) ?_
            refine r_topi (y := gI S 12 0 11) (by simp [gI_sI, gJ_sJ, gI_sJ, gJ_sI]) ?_
            refine r_topi (y := nI k) hsp ?_
            refine r_iconst (q := 281) (nI 1) dX12_next_280 rfl (by decide) ?_
            refine r_iaddN (q := 282) dX12_next_281 rfl ?_
            refine r_puti (q := 285) ck12 dX12_next_282 rfl (k := 11) (by decide) wt1289 (Or.inl rfl) rfl (hs.e (by decide)) ?_
            refine r_aload_n (q := 286) dX12_next_285 rfl rfl rfl ?_
            refine r_dup (q := 287) dX12_next_286 rfl rfl ?_
            refine r_geti (q := 290) ck12 dX12_next_287 rfl (k := 4) (by decide) wt1282 (Or.inl rfl) (hs.e (by decide)) ?_
            refine r_topi (y := gI S 12 0 4) (by simp [gI_sI, gJ_sJ, gI_sJ, gJ_sI]) ?_
            refine r_topi (y := nI (p + k)) hx.2.2.2 ?_
            refine r_iconst (q := 291) (nI 1) dX12_next_290 rfl (by decide) ?_
            refine r_iaddN (q := 292) dX12_next_291 rfl ?_
            refine r_puti (q := 295) ck12 dX12_next_292 rfl (k := 4) (by decide) wt1282 (Or.inl rfl) rfl (hs.e (by decide)) ?_
            refine r_goto (q := 181) dX12_next_295 (by decide) ?_
            refine ih' (sI (sI (sJ S 12 0 15 (((gJ S 12 0 15) <<< ((nI 8).toInt64 &&& 63)) ||| (lN (bs.getD (p + k) 0)))) 12 0 11 (nI (k + 1))) 12 0 4 (nI ((p + k) + 1))) 0 (by rw [h2]; rfl) hs ?_ ?_ ⟨fun z1 z2 => ?_, fun z1 z2 => ?_⟩ (fun S' f1 f2 f3 f4 f5 => K S' (Fr.tr (Fr.mono ((((Fr.rf.j rfl).i rfl).i rfl) : Fr tNx S _) (fun _ _ _ h => h)) f1) (f2.trans ?_) f3 f4 f5)
            · have := (hx.fr (S1 := sI (sJ S 12 0 15 (((gJ S 12 0 15) <<< ((nI 8).toInt64 &&& 63)) ||| (lN (bs.getD (p + k) 0)))) 12 0 11 (nI (k + 1))) ((Fr.rf.j rfl).i rfl)).p (q := p + k + 1); exact this
            · (repeat (first | rw [gI_sI, if_neg (by omega)] | rw [gI_sI, if_pos ⟨rfl, rfl, rfl⟩] | rw [gI_sJ]))
            · (repeat (first | rw [gJ_sI] | rw [gJ_sJ, if_pos ⟨rfl, rfl, rfl⟩])); exact wr_w hwr.1 hmem hlt z1 z2
            · rw [List.length_append, List.length_singleton, hwl] at z2; omega
            · (repeat (first | rw [gI_sI, if_neg (by omega)] | rw [gI_sJ]))
          · skip
            refine r_aload_n (q := 257) dX12_next_256 rfl rfl rfl ?_
            refine r_bipush (q := 259) (nI 10) dX12_next_257 rfl (by decide) ?_
            refine r_aload_n (q := 260) dX12_next_259 rfl rfl rfl ?_
            refine r_geti (q := 263) ck12 dX12_next_260 rfl (k := 12) (by decide) wt1290 (Or.inl rfl) (hs.e (by decide)) ?_
            refine r_topi (y := gI S 12 0 12) (by simp [gI_sI, gJ_sJ, gI_sJ, gJ_sI]) ?_
            refine r_imul (q := 264) dX12_next_263 rfl ?_
            refine r_aload_n (q := 265) dX12_next_264 rfl rfl rfl ?_
            refine r_callV (Mc := mX12_peek) (q := 268) (As := []) (st := [zi ((nI 10) * (gI S 12 0 12)), zr 12 0]) ck12 dX12_next_265 rfl rfl mkX12_peek wt1577 wt1579 wp71 rfl (Nat.le_of_ble_eq_true rfl) (Nat.le_of_ble_eq_true rfl) (by decide) (by decide) (by decide) (Or.inl rfl) (hs.e (by decide)) (ok_peek_in (S := sJ S 12 0 15 (((gJ S 12 0 15) <<< ((nI 8).toInt64 &&& 63)) ||| (lN (bs.getD (p + k) 0)))) hs hbl (hx.fr (Fr.rf.j rfl)) (by omega)) (fun r265 S265 hp265 => ?_)
            obtain ⟨rfl, hq265⟩ := hp265
            rw [hq265]
            show Ok _ _ _ [zi (nI (bs.getD (p + k) 0)), zi ((nI 10) * (gI S 12 0 12)), zr 12 0] _ _
            refine r_iadd (q := 269) dX12_next_268 rfl ?_
            refine r_bipush (q := 271) (nI 48) dX12_next_269 rfl (by decide) ?_
            refine r_isub (q := 272) dX12_next_271 rfl ?_
            refine r_puti (q := 275) ck12 dX12_next_272 rfl (k := 12) (by decide) wt1290 (Or.inl rfl) rfl (hs.e (by decide)) ?_
            refine r_aload_n (q := 276) dX12_next_275 rfl rfl rfl ?_
            refine r_dup (q := 277) dX12_next_276 rfl rfl ?_
            refine r_geti (q := 280) ck12 dX12_next_277 rfl (k := 11) (by decide) wt1289 (Or.inl rfl) (hs.e (by decide)) ?_
            refine r_topi (y := gI S 12 0 11) (by simp [gI_sI, gJ_sJ, gI_sJ, gJ_sI]) ?_
            refine r_topi (y := nI k) hsp ?_
            refine r_iconst (q := 281) (nI 1) dX12_next_280 rfl (by decide) ?_
            refine r_iaddN (q := 282) dX12_next_281 rfl ?_
            refine r_puti (q := 285) ck12 dX12_next_282 rfl (k := 11) (by decide) wt1289 (Or.inl rfl) rfl (hs.e (by decide)) ?_
            refine r_aload_n (q := 286) dX12_next_285 rfl rfl rfl ?_
            refine r_dup (q := 287) dX12_next_286 rfl rfl ?_
            refine r_geti (q := 290) ck12 dX12_next_287 rfl (k := 4) (by decide) wt1282 (Or.inl rfl) (hs.e (by decide)) ?_
            refine r_topi (y := gI S 12 0 4) (by simp [gI_sI, gJ_sJ, gI_sJ, gJ_sI]) ?_
            refine r_topi (y := nI (p + k)) hx.2.2.2 ?_
            refine r_iconst (q := 291) (nI 1) dX12_next_290 rfl (by decide) ?_
            refine r_iaddN (q := 292) dX12_next_291 rfl ?_
            refine r_puti (q := 295) ck12 dX12_next_292 rfl (k := 4) (by decide) wt1282 (Or.inl rfl) rfl (hs.e (by decide)) ?_
            refine r_goto (q := 181) dX12_next_295 (by decide) ?_
            refine ih' (sI (sI (sI (sJ S 12 0 15 (((gJ S 12 0 15) <<< ((nI 8).toInt64 &&& 63)) ||| (lN (bs.getD (p + k) 0)))) 12 0 12 ((((nI 10) * (gI S 12 0 12)) + (nI (bs.getD (p + k) 0))) - (nI 48))) 12 0 11 (nI (k + 1))) 12 0 4 (nI ((p + k) + 1))) 0 (by rw [h2]; rfl) hs ?_ ?_ ⟨fun z1 z2 => ?_, fun z1 z2 => ?_⟩ (fun S' f1 f2 f3 f4 f5 => K S' (Fr.tr (Fr.mono (((((Fr.rf.j rfl).i rfl).i rfl).i rfl) : Fr tNx S _) (fun _ _ _ h => h)) f1) (f2.trans ?_) f3 f4 f5)
            · have := (hx.fr (S1 := sI (sI (sJ S 12 0 15 (((gJ S 12 0 15) <<< ((nI 8).toInt64 &&& 63)) ||| (lN (bs.getD (p + k) 0)))) 12 0 12 ((((nI 10) * (gI S 12 0 12)) + (nI (bs.getD (p + k) 0))) - (nI 48))) 12 0 11 (nI (k + 1))) (((Fr.rf.j rfl).i rfl).i rfl)).p (q := p + k + 1); exact this
            · (repeat (first | rw [gI_sI, if_neg (by omega)] | rw [gI_sI, if_pos ⟨rfl, rfl, rfl⟩] | rw [gI_sJ]))
            · (repeat (first | rw [gJ_sI] | rw [gJ_sJ, if_pos ⟨rfl, rfl, rfl⟩])); exact wr_w hwr.1 hmem hlt z1 z2
            · (repeat (first | rw [gI_sI, if_neg (by omega)] | rw [gI_sI, if_pos ⟨rfl, rfl, rfl⟩] | rw [gI_sJ])); exact wr_n hwr.2 z1 z2
            · (repeat (first | rw [gI_sI, if_neg (by omega)] | rw [gI_sJ]))
    | true =>
      rw [q] at ha ih'
      obtain rfl : al = 1 := ha
      by_cases h1 : sml (bs.getD (p + k) 0) = true
      · have h2 := sml_dgt h1
        refine r_aload_n (q := 182) dX12_next_181 rfl rfl rfl ?_
        refine r_callV (Mc := mX12_peek) (q := 185) (As := []) (st := []) ck12 dX12_next_182 rfl rfl mkX12_peek wt1577 wt1579 wp71 rfl (Nat.le_of_ble_eq_true rfl) (Nat.le_of_ble_eq_true rfl) (by decide) (by decide) (by decide) (Or.inl rfl) (hs.e (by decide)) (ok_peek_in (S := S) hs hbl (hx.fr Fr.rf) (by omega)) (fun r182 S182 hp182 => ?_)
        obtain ⟨rfl, hq182⟩ := hp182
        rw [hq182]
        show Ok _ _ _ [zi (nI (bs.getD (p + k) 0))] _ _
        refine r_callS (Mc := mX12_isSmall) (q := 188) (As := [zi (nI (bs.getD (p + k) 0))]) (st := []) dX12_next_185 rfl rfl mkX12_isSmall wt1581 wt1582 rfl (Nat.le_of_ble_eq_true rfl) (Nat.le_of_ble_eq_true rfl) (by decide) (by decide) (by decide) (Or.inl rfl) hs.some (ok_X12_isSmall hlt) (fun r185 S185 hp185 => ?_)
        obtain ⟨rfl, hq185⟩ := hp185
        rw [hq185]
        rw [if_pos h1]
        show Ok _ _ _ [zi (nI 1)] _ _
        refine r_if_neN (q := 191) (t := 201) (by omega) dX12_next_188 (by decide) rfl (fun h188 => ?_) (fun h188 => absurd h188 (by omega))
        refine r_iload_n (q := 202) dX12_next_201 rfl rfl rfl ?_
        refine r_if_eqN (q := 205) (t := 220) (by omega) dX12_next_202 (by decide) rfl (fun h202 => absurd h202 (by omega)) (fun h202 => ?_)
        refine r_aload_n (q := 206) dX12_next_205 rfl rfl rfl ?_
        refine r_callV (Mc := mX12_peek) (q := 209) (As := []) (st := []) ck12 dX12_next_206 rfl rfl mkX12_peek wt1577 wt1579 wp71 rfl (Nat.le_of_ble_eq_true rfl) (Nat.le_of_ble_eq_true rfl) (by decide) (by decide) (by decide) (Or.inl rfl) (hs.e (by decide)) (ok_peek_in (S := S) hs hbl (hx.fr Fr.rf) (by omega)) (fun r206 S206 hp206 => ?_)
        obtain ⟨rfl, hq206⟩ := hp206
        rw [hq206]
        show Ok _ _ _ [zi (nI (bs.getD (p + k) 0))] _ _
        refine r_callS (Mc := mX12_isSmall) (q := 212) (As := [zi (nI (bs.getD (p + k) 0))]) (st := []) dX12_next_209 rfl rfl mkX12_isSmall wt1581 wt1582 rfl (Nat.le_of_ble_eq_true rfl) (Nat.le_of_ble_eq_true rfl) (by decide) (by decide) (by decide) (Or.inl rfl) hs.some (ok_X12_isSmall hlt) (fun r209 S209 hp209 => ?_)
        obtain ⟨rfl, hq209⟩ := hp209
        rw [hq209]
        rw [if_pos h1]
        show Ok _ _ _ [zi (nI 1)] _ _
        refine r_iload_n (q := 213) dX12_next_212 rfl rfl rfl ?_
        refine r_icmp_neN (q := 216) (t := 220) (by omega) (by omega) dX12_next_213 (by decide) rfl (fun h213 => ?_) (fun h213 => absurd h213 (by omega))
        refine r_iconst (q := 221) (nI 0) dX12_next_220 rfl (by decide) ?_
        refine r_istore_n (q := 222) (L' := [some (zr 12 0), some (zi c0), some (zi (nI 0)), some (zi (nI 0))]) dX12_next_221 rfl rfl (by decide) rfl ?_
        refine r_aload_n (q := 223) dX12_next_222 rfl rfl rfl ?_
        refine r_geti (q := 226) ck12 dX12_next_223 rfl (k := 11) (by decide) wt1289 (Or.inl rfl) (hs.e (by decide)) ?_
        refine r_topi (y := nI k) hsp ?_
        refine r_bipush (q := 228) (nI 6) dX12_next_226 rfl (by decide) ?_
        refine r_icmp_geN (q := 231) (t := 248) (by omega) (by omega) dX12_next_228 (by decide) rfl (fun h228 => ?_) (fun h228 => ?_)
        · skip
          refine r_aload_n (q := 249) dX12_next_248 rfl rfl rfl ?_
          refine r_geti (q := 252) ck12 dX12_next_249 rfl (k := 11) (by decide) wt1289 (Or.inl rfl) (hs.e (by decide)) ?_
          refine r_topi (y := nI k) hsp ?_
          refine r_iconst (q := 253) (nI 2) dX12_next_252 rfl (by decide) ?_
          refine r_icmp_geN (q := 256) (t := 275) (by omega) (by omega) dX12_next_253 (by decide) rfl (fun h253 => ?_) (fun h253 => absurd h253 (by omega))
          refine r_aload_n (q := 276) dX12_next_275 rfl rfl rfl ?_
          refine r_dup (q := 277) dX12_next_276 rfl rfl ?_
          refine r_geti (q := 280) ck12 dX12_next_277 rfl (k := 11) (by decide) wt1289 (Or.inl rfl) (hs.e (by decide)) ?_
          refine r_topi (y := nI k) hsp ?_
          refine r_iconst (q := 281) (nI 1) dX12_next_280 rfl (by decide) ?_
          refine r_iaddN (q := 282) dX12_next_281 rfl ?_
          refine r_puti (q := 285) ck12 dX12_next_282 rfl (k := 11) (by decide) wt1289 (Or.inl rfl) rfl (hs.e (by decide)) ?_
          refine r_aload_n (q := 286) dX12_next_285 rfl rfl rfl ?_
          refine r_dup (q := 287) dX12_next_286 rfl rfl ?_
          refine r_geti (q := 290) ck12 dX12_next_287 rfl (k := 4) (by decide) wt1282 (Or.inl rfl) (hs.e (by decide)) ?_
          refine r_topi (y := gI S 12 0 4) (by simp [gI_sI, gJ_sJ, gI_sJ, gJ_sI]) ?_
          refine r_topi (y := nI (p + k)) hx.2.2.2 ?_
          refine r_iconst (q := 291) (nI 1) dX12_next_290 rfl (by decide) ?_
          refine r_iaddN (q := 292) dX12_next_291 rfl ?_
          refine r_puti (q := 295) ck12 dX12_next_292 rfl (k := 4) (by decide) wt1282 (Or.inl rfl) rfl (hs.e (by decide)) ?_
          refine r_goto (q := 181) dX12_next_295 (by decide) ?_
          refine ih' (sI (sI S 12 0 11 (nI (k + 1))) 12 0 4 (nI ((p + k) + 1))) 0 (by rw [h2]; rfl) hs ?_ ?_ ⟨fun z1 z2 => ?_, fun z1 z2 => ?_⟩ (fun S' f1 f2 f3 f4 f5 => K S' (Fr.tr (Fr.mono (((Fr.rf.i rfl).i rfl) : Fr tNx S _) (fun _ _ _ h => h)) f1) (f2.trans ?_) f3 f4 f5)
          · have := (hx.fr (S1 := sI S 12 0 11 (nI (k + 1))) (Fr.rf.i rfl)).p (q := p + k + 1); exact this
          · (repeat (first | rw [gI_sI, if_neg (by omega)] | rw [gI_sI, if_pos ⟨rfl, rfl, rfl⟩] | rw [gI_sJ]))
          · rw [List.length_append, List.length_singleton, hwl] at z2; omega
          · rw [List.length_append, List.length_singleton, hwl] at z2; omega
          · (repeat (first | rw [gI_sI, if_neg (by omega)] | rw [gI_sJ]))
        · skip
          refine r_aload_n (q := 232) dX12_next_231 rfl rfl rfl ?_
          refine r_aload_n (q := 233) dX12_next_232 rfl rfl rfl ?_
          refine r_getl (q := 236) ck12 dX12_next_233 rfl (k := 15) (by decide) wt1293 rfl (hs.e (by decide)) ?_
          refine r_bipush (q := 238) (nI 8) dX12_next_236 rfl (by decide) ?_
          refine r_lshl (q := 239) dX12_next_238 rfl ?_
          refine r_aload_n (q := 240) dX12_next_239 rfl rfl rfl ?_
          refine r_callV (Mc := mX12_peek) (q := 243) (As := []) (st := [zl ((gJ S 12 0 15) <<< ((nI 8).toInt64 &&& 63)), zr 12 0]) ck12 dX12_next_240 rfl rfl mkX12_peek wt1577 wt1579 wp71 rfl (Nat.le_of_ble_eq_true rfl) (Nat.le_of_ble_eq_true rfl) (by decide) (by decide) (by decide) (Or.inl rfl) (hs.e (by decide)) (ok_peek_in (S := S) hs hbl (hx.fr Fr.rf) (by omega)) (fun r240 S240 hp240 => ?_)
          obtain ⟨rfl, hq240⟩ := hp240
          rw [hq240]
          show Ok _ _ _ [zi (nI (bs.getD (p + k) 0)), zl ((gJ S 12 0 15) <<< ((nI 8).toInt64 &&& 63)), zr 12 0] _ _
          refine r_i2l (q := 244) dX12_next_243 rfl ?_
          refine r_topl (y := lN (bs.getD (p + k) 0)) (nI_l (by omega)) ?_
          refine r_lor (q := 245) dX12_next_244 rfl ?_
          refine r_putl (q := 248) ck12 dX12_next_245 rfl (k := 15) (by decide) wt1293 (Or.inl rfl) rfl (hs.e (by decide)) ?_
          refine r_aload_n (q := 249) dX12_next_248 rfl rfl rfl ?_
          refine r_geti (q := 252) ck12 dX12_next_249 rfl (k := 11) (by decide) wt1289 (Or.inl rfl) (hs.e (by decide)) ?_
          refine r_topi (y := gI S 12 0 11) (by simp [gI_sI, gJ_sJ, gI_sJ, gJ_sI]) ?_
          refine r_topi (y := nI k) hsp ?_
          refine r_iconst (q := 253) (nI 2) dX12_next_252 rfl (by decide) ?_
          refine r_icmp_geN (q := 256) (t := 275) (by omega) (by omega) dX12_next_253 (by decide) rfl (fun h253 => ?_) (fun h253 => ?_)
          · skip
            refine r_aload_n (q := 276) dX12_next_275 rfl rfl rfl ?_
            refine r_dup (q := 277) dX12_next_276 rfl rfl ?_
            refine r_geti (q := 280) ck12 dX12_next_277 rfl (k := 11) (by decide) wt1289 (Or.inl rfl) (hs.e (by decide)) ?_
            refine r_topi (y := gI S 12 0 11) (by simp [gI_sI, gJ_sJ, gI_sJ, gJ_sI]) ?_
            refine r_topi (y := nI k) hsp ?_
            refine r_iconst (q := 281) (nI 1) dX12_next_280 rfl (by decide) ?_
            refine r_iaddN (q := 282) dX12_next_281 rfl ?_
            refine r_puti (q := 285) ck12 dX12_next_282 rfl (k := 11) (by decide) wt1289 (Or.inl rfl) rfl (hs.e (by decide)) ?_
            refine r_aload_n (q := 286) dX12_next_285 rfl rfl rfl ?_
            refine r_dup (q := 287) dX12_next_286 rfl rfl ?_
            refine r_geti (q := 290) ck12 dX12_next_287 rfl (k := 4) (by decide) wt1282 (Or.inl rfl) (hs.e (by decide)) ?_
            refine r_topi (y := gI S 12 0 4) (by simp [gI_sI, gJ_sJ, gI_sJ, gJ_sI]) ?_
            refine r_topi (y := nI (p + k)) hx.2.2.2 ?_
            refine r_iconst (q := 291) (nI 1) dX12_next_290 rfl (by decide) ?_
            refine r_iaddN (q := 292) dX12_next_291 rfl ?_
            refine r_puti (q := 295) ck12 dX12_next_292 rfl (k := 4) (by decide) wt1282 (Or.inl rfl) rfl (hs.e (by decide)) ?_
            refine r_goto (q := 181) dX12_next_295 (by decide) ?_
            refine ih' (sI (sI (sJ S 12 0 15 (((gJ S 12 0 15) <<< ((nI 8).toInt64 &&& 63)) ||| (lN (bs.getD (p + k) 0)))) 12 0 11 (nI (k + 1))) 12 0 4 (nI ((p + k) + 1))) 0 (by rw [h2]; rfl) hs ?_ ?_ ⟨fun z1 z2 => ?_, fun z1 z2 => ?_⟩ (fun S' f1 f2 f3 f4 f5 => K S' (Fr.tr (Fr.mono ((((Fr.rf.j rfl).i rfl).i rfl) : Fr tNx S _) (fun _ _ _ h => h)) f1) (f2.trans ?_) f3 f4 f5)
            · have := (hx.fr (S1 := sI (sJ S 12 0 15 (((gJ S 12 0 15) <<< ((nI 8).toInt64 &&& 63)) ||| (lN (bs.getD (p + k) 0)))) 12 0 11 (nI (k + 1))) ((Fr.rf.j rfl).i rfl)).p (q := p + k + 1); exact this
            · (repeat (first | rw [gI_sI, if_neg (by omega)] | rw [gI_sI, if_pos ⟨rfl, rfl, rfl⟩] | rw [gI_sJ]))
            · (repeat (first | rw [gJ_sI] | rw [gJ_sJ, if_pos ⟨rfl, rfl, rfl⟩])); exact wr_w hwr.1 hmem hlt z1 z2
            · rw [List.length_append, List.length_singleton, hwl] at z2; omega
            · (repeat (first | rw [gI_sI, if_neg (by omega)] | rw [gI_sJ]))
          · skip
            refine r_aload_n (q := 257) dX12_next_256 rfl rfl rfl ?_
            refine r_bipush (q := 259) (nI 10) dX12_next_257 rfl (by decide) ?_
            refine r_aload_n (q := 260) dX12_next_259 rfl rfl rfl ?_
            refine r_geti (q := 263) ck12 dX12_next_260 rfl (k := 12) (by decide) wt1290 (Or.inl rfl) (hs.e (by decide)) ?_
            refine r_topi (y := gI S 12 0 12) (by simp [gI_sI, gJ_sJ, gI_sJ, gJ_sI]) ?_
            refine r_imul (q := 264) dX12_next_263 rfl ?_
            refine r_aload_n (q := 265) dX12_next_264 rfl rfl rfl ?_
            refine r_callV (Mc := mX12_peek) (q := 268) (As := []) (st := [zi ((nI 10) * (gI S 12 0 12)), zr 12 0]) ck12 dX12_next_265 rfl rfl mkX12_peek wt1577 wt1579 wp71 rfl (Nat.le_of_ble_eq_true rfl) (Nat.le_of_ble_eq_true rfl) (by decide) (by decide) (by decide) (Or.inl rfl) (hs.e (by decide)) (ok_peek_in (S := sJ S 12 0 15 (((gJ S 12 0 15) <<< ((nI 8).toInt64 &&& 63)) ||| (lN (bs.getD (p + k) 0)))) hs hbl (hx.fr (Fr.rf.j rfl)) (by omega)) (fun r265 S265 hp265 => ?_)
            obtain ⟨rfl, hq265⟩ := hp265
            rw [hq265]
            show Ok _ _ _ [zi (nI (bs.getD (p + k) 0)), zi ((nI 10) * (gI S 12 0 12)), zr 12 0] _ _
            refine r_iadd (q := 269) dX12_next_268 rfl ?_
            refine r_bipush (q := 271) (nI 48) dX12_next_269 rfl (by decide) ?_
            refine r_isub (q := 272) dX12_next_271 rfl ?_
            refine r_puti (q := 275) ck12 dX12_next_272 rfl (k := 12) (by decide) wt1290 (Or.inl rfl) rfl (hs.e (by decide)) ?_
            refine r_aload_n (q := 276) dX12_next_275 rfl rfl rfl ?_
            refine r_dup (q := 277) dX12_next_276 rfl rfl ?_
            refine r_geti (q := 280) ck12 dX12_next_277 rfl (k := 11) (by decide) wt1289 (Or.inl rfl) (hs.e (by decide)) ?_
            refine r_topi (y := gI S 12 0 11) (by simp [gI_sI, gJ_sJ, gI_sJ, gJ_sI]) ?_
            refine r_topi (y := nI k) hsp ?_
            refine r_iconst (q := 281) (nI 1) dX12_next_280 rfl (by decide) ?_
            refine r_iaddN (q := 282) dX12_next_281 rfl ?_
            refine r_puti (q := 285) ck12 dX12_next_282 rfl (k := 11) (by decide) wt1289 (Or.inl rfl) rfl (hs.e (by decide)) ?_
            refine r_aload_n (q := 286) dX12_next_285 rfl rfl rfl ?_
            refine r_dup (q := 287) dX12_next_286 rfl rfl ?_
            refine r_geti (q := 290) ck12 dX12_next_287 rfl (k := 4) (by decide) wt1282 (Or.inl rfl) (hs.e (by decide)) ?_
            refine r_topi (y := gI S 12 0 4) (by simp [gI_sI, gJ_sJ, gI_sJ, gJ_sI]) ?_
            refine r_topi (y := nI (p + k)) hx.2.2.2 ?_
            refine r_iconst (q := 291) (nI 1) dX12_next_290 rfl (by decide) ?_
            refine r_iaddN (q := 292) dX12_next_291 rfl ?_
            refine r_puti (q := 295) ck12 dX12_next_292 rfl (k := 4) (by decide) wt1282 (Or.inl rfl) rfl (hs.e (by decide)) ?_
            refine r_goto (q := 181) dX12_next_295 (by decide) ?_
            refine ih' (sI (sI (sI (sJ S 12 0 15 (((gJ S 12 0 15) <<< ((nI 8).toInt64 &&& 63)) ||| (lN (bs.getD (p + k) 0)))) 12 0 12 ((((nI 10) * (gI S 12 0 12)) + (nI (bs.getD (p + k) 0))) - (nI 48))) 12 0 11 (nI (k + 1))) 12 0 4 (nI ((p + k) + 1))) 0 (by rw [h2]; rfl) hs ?_ ?_ ⟨fun z1 z2 => ?_, fun z1 z2 => ?_⟩ (fun S' f1 f2 f3 f4 f5 => K S' (Fr.tr (Fr.mono (((((Fr.rf.j rfl).i rfl).i rfl).i rfl) : Fr tNx S _) (fun _ _ _ h => h)) f1) (f2.trans ?_) f3 f4 f5)
            · have := (hx.fr (S1 := sI (sI (sJ S 12 0 15 (((gJ S 12 0 15) <<< ((nI 8).toInt64 &&& 63)) ||| (lN (bs.getD (p + k) 0)))) 12 0 12 ((((nI 10) * (gI S 12 0 12)) + (nI (bs.getD (p + k) 0))) - (nI 48))) 12 0 11 (nI (k + 1))) (((Fr.rf.j rfl).i rfl).i rfl)).p (q := p + k + 1); exact this
            · (repeat (first | rw [gI_sI, if_neg (by omega)] | rw [gI_sI, if_pos ⟨rfl, rfl, rfl⟩] | rw [gI_sJ]))
            · (repeat (first | rw [gJ_sI] | rw [gJ_sJ, if_pos ⟨rfl, rfl, rfl⟩])); exact wr_w hwr.1 hmem hlt z1 z2
            · (repeat (first | rw [gI_sI, if_neg (by omega)] | rw [gI_sI, if_pos ⟨rfl, rfl, rfl⟩] | rw [gI_sJ])); exact wr_n hwr.2 z1 z2
            · (repeat (first | rw [gI_sI, if_neg (by omega)] | rw [gI_sJ]))
      · have h2 := aln_d hal1 h1
        have h1f : sml (bs.getD (p + k) 0) = false := by simpa using h1
        refine r_aload_n (q := 182) dX12_next_181 rfl rfl rfl ?_
        refine r_callV (Mc := mX12_peek) (q := 185) (As := []) (st := []) ck12 dX12_next_182 rfl rfl mkX12_peek wt1577 wt1579 wp71 rfl (Nat.le_of_ble_eq_true rfl) (Nat.le_of_ble_eq_true rfl) (by decide) (by decide) (by decide) (Or.inl rfl) (hs.e (by decide)) (ok_peek_in (S := S) hs hbl (hx.fr Fr.rf) (by omega)) (fun r182 S182 hp182 => ?_)
        obtain ⟨rfl, hq182⟩ := hp182
        rw [hq182]
        show Ok _ _ _ [zi (nI (bs.getD (p + k) 0))] _ _
        refine r_callS (Mc := mX12_isSmall) (q := 188) (As := [zi (nI (bs.getD (p + k) 0))]) (st := []) dX12_next_185 rfl rfl mkX12_isSmall wt1581 wt1582 rfl (Nat.le_of_ble_eq_true rfl) (Nat.le_of_ble_eq_true rfl) (by decide) (by decide) (by decide) (Or.inl rfl) hs.some (ok_X12_isSmall hlt) (fun r185 S185 hp185 => ?_)
        obtain ⟨rfl, hq185⟩ := hp185
        rw [hq185]
        rw [if_neg h1]
        show Ok _ _ _ [zi (nI 0)] _ _
        refine r_if_neN (q := 191) (t := 201) (by omega) dX12_next_188 (by decide) rfl (fun h188 => absurd h188 (by omega)) (fun h188 => ?_)
        refine r_aload_n (q := 192) dX12_next_191 rfl rfl rfl ?_
        refine r_callV (Mc := mX12_peek) (q := 195) (As := []) (st := []) ck12 dX12_next_192 rfl rfl mkX12_peek wt1577 wt1579 wp71 rfl (Nat.le_of_ble_eq_true rfl) (Nat.le_of_ble_eq_true rfl) (by decide) (by decide) (by decide) (Or.inl rfl) (hs.e (by decide)) (ok_peek_in (S := S) hs hbl (hx.fr Fr.rf) (by omega)) (fun r192 S192 hp192 => ?_)
        obtain ⟨rfl, hq192⟩ := hp192
        rw [hq192]
        show Ok _ _ _ [zi (nI (bs.getD (p + k) 0))] _ _
        refine r_callS (Mc := mX12_isDigit) (q := 198) (As := [zi (nI (bs.getD (p + k) 0))]) (st := []) dX12_next_195 rfl rfl mkX12_isDigit wt1584 wt1585 rfl (Nat.le_of_ble_eq_true rfl) (Nat.le_of_ble_eq_true rfl) (by decide) (by decide) (by decide) (Or.inl rfl) hs.some (ok_X12_isDigit hlt) (fun r195 S195 hp195 => ?_)
        obtain ⟨rfl, hq195⟩ := hp195
        rw [hq195]
        rw [if_pos h2]
        show Ok _ _ _ [zi (nI 1)] _ _
        refine r_if_eqN (q := 201) (t := 298) (by omega) dX12_next_198 (by decide) rfl (fun h198 => absurd h198 (by omega)) (fun h198 => ?_)
        refine r_iload_n (q := 202) dX12_next_201 rfl rfl rfl ?_
        refine r_if_eqN (q := 205) (t := 220) (by omega) dX12_next_202 (by decide) rfl (fun h202 => absurd h202 (by omega)) (fun h202 => ?_)
        refine r_aload_n (q := 206) dX12_next_205 rfl rfl rfl ?_
        refine r_callV (Mc := mX12_peek) (q := 209) (As := []) (st := []) ck12 dX12_next_206 rfl rfl mkX12_peek wt1577 wt1579 wp71 rfl (Nat.le_of_ble_eq_true rfl) (Nat.le_of_ble_eq_true rfl) (by decide) (by decide) (by decide) (Or.inl rfl) (hs.e (by decide)) (ok_peek_in (S := S) hs hbl (hx.fr Fr.rf) (by omega)) (fun r206 S206 hp206 => ?_)
        obtain ⟨rfl, hq206⟩ := hp206
        rw [hq206]
        show Ok _ _ _ [zi (nI (bs.getD (p + k) 0))] _ _
        refine r_callS (Mc := mX12_isSmall) (q := 212) (As := [zi (nI (bs.getD (p + k) 0))]) (st := []) dX12_next_209 rfl rfl mkX12_isSmall wt1581 wt1582 rfl (Nat.le_of_ble_eq_true rfl) (Nat.le_of_ble_eq_true rfl) (by decide) (by decide) (by decide) (Or.inl rfl) hs.some (ok_X12_isSmall hlt) (fun r209 S209 hp209 => ?_)
        obtain ⟨rfl, hq209⟩ := hp209
        rw [hq209]
        rw [if_neg h1]
        show Ok _ _ _ [zi (nI 0)] _ _
        refine r_iload_n (q := 213) dX12_next_212 rfl rfl rfl ?_
        refine r_icmp_neN (q := 216) (t := 220) (by omega) (by omega) dX12_next_213 (by decide) rfl (fun h213 => absurd h213 (by omega)) (fun h213 => ?_)
        refine r_iconst (q := 217) (nI 1) dX12_next_216 rfl (by decide) ?_
        refine r_goto (q := 221) dX12_next_217 (by decide) ?_
        refine r_istore_n (q := 222) (L' := [some (zr 12 0), some (zi c0), some (zi (nI 0)), some (zi (nI 1))]) dX12_next_221 rfl rfl (by decide) rfl ?_
        refine r_aload_n (q := 223) dX12_next_222 rfl rfl rfl ?_
        refine r_geti (q := 226) ck12 dX12_next_223 rfl (k := 11) (by decide) wt1289 (Or.inl rfl) (hs.e (by decide)) ?_
        refine r_topi (y := nI k) hsp ?_
        refine r_bipush (q := 228) (nI 6) dX12_next_226 rfl (by decide) ?_
        refine r_icmp_geN (q := 231) (t := 248) (by omega) (by omega) dX12_next_228 (by decide) rfl (fun h228 => ?_) (fun h228 => ?_)
        · skip
          refine r_aload_n (q := 249) dX12_next_248 rfl rfl rfl ?_
          refine r_geti (q := 252) ck12 dX12_next_249 rfl (k := 11) (by decide) wt1289 (Or.inl rfl) (hs.e (by decide)) ?_
          refine r_topi (y := nI k) hsp ?_
          refine r_iconst (q := 253) (nI 2) dX12_next_252 rfl (by decide) ?_
          refine r_icmp_geN (q := 256) (t := 275) (by omega) (by omega) dX12_next_253 (by decide) rfl (fun h253 => ?_) (fun h253 => absurd h253 (by omega))
          refine r_aload_n (q := 276) dX12_next_275 rfl rfl rfl ?_
          refine r_dup (q := 277) dX12_next_276 rfl rfl ?_
          refine r_geti (q := 280) ck12 dX12_next_277 rfl (k := 11) (by decide) wt1289 (Or.inl rfl) (hs.e (by decide)) ?_
          refine r_topi (y := nI k) hsp ?_
          refine r_iconst (q := 281) (nI 1) dX12_next_280 rfl (by decide) ?_
          refine r_iaddN (q := 282) dX12_next_281 rfl ?_
          refine r_puti (q := 285) ck12 dX12_next_282 rfl (k := 11) (by decide) wt1289 (Or.inl rfl) rfl (hs.e (by decide)) ?_
          refine r_aload_n (q := 286) dX12_next_285 rfl rfl rfl ?_
          refine r_dup (q := 287) dX12_next_286 rfl rfl ?_
          refine r_geti (q := 290) ck12 dX12_next_287 rfl (k := 4) (by decide) wt1282 (Or.inl rfl) (hs.e (by decide)) ?_
          refine r_topi (y := gI S 12 0 4) (by simp [gI_sI, gJ_sJ, gI_sJ, gJ_sI]) ?_
          refine r_topi (y := nI (p + k)) hx.2.2.2 ?_
          refine r_iconst (q := 291) (nI 1) dX12_next_290 rfl (by decide) ?_
          refine r_iaddN (q := 292) dX12_next_291 rfl ?_
          refine r_puti (q := 295) ck12 dX12_next_292 rfl (k := 4) (by decide) wt1282 (Or.inl rfl) rfl (hs.e (by decide)) ?_
          refine r_goto (q := 181) dX12_next_295 (by decide) ?_
          refine ih' (sI (sI S 12 0 11 (nI (k + 1))) 12 0 4 (nI ((p + k) + 1))) 1 (by rw [h2]; rfl) hs ?_ ?_ ⟨fun z1 z2 => ?_, fun z1 z2 => ?_⟩ (fun S' f1 f2 f3 f4 f5 => K S' (Fr.tr (Fr.mono (((Fr.rf.i rfl).i rfl) : Fr tNx S _) (fun _ _ _ h => h)) f1) (f2.trans ?_) f3 f4 f5)
          · have := (hx.fr (S1 := sI S 12 0 11 (nI (k + 1))) (Fr.rf.i rfl)).p (q := p + k + 1); exact this
          · (repeat (first | rw [gI_sI, if_neg (by omega)] | rw [gI_sI, if_pos ⟨rfl, rfl, rfl⟩] | rw [gI_sJ]))
          · rw [List.length_append, List.length_singleton, hwl] at z2; omega
          · rw [List.length_append, List.length_singleton, hwl] at z2; omega
          · (repeat (first | rw [gI_sI, if_neg (by omega)] | rw [gI_sJ]))
        · skip
          refine r_aload_n (q := 232) dX12_next_231 rfl rfl rfl ?_
          refine r_aload_n (q := 233) dX12_next_232 rfl rfl rfl ?_
          refine r_getl (q := 236) ck12 dX12_next_233 rfl (k := 15) (by decide) wt1293 rfl (hs.e (by decide)) ?_
          refine r_bipush (q := 238) (nI 8) dX12_next_236 rfl (by decide) ?_
          refine r_lshl (q := 239) dX12_next_238 rfl ?_
          refine r_aload_n (q := 240) dX12_next_239 rfl rfl rfl ?_
          refine r_callV (Mc := mX12_peek) (q := 243) (As := []) (st := [zl ((gJ S 12 0 15) <<< ((nI 8).toInt64 &&& 63)), zr 12 0]) ck12 dX12_next_240 rfl rfl mkX12_peek wt1577 wt1579 wp71 rfl (Nat.le_of_ble_eq_true rfl) (Nat.le_of_ble_eq_true rfl) (by decide) (by decide) (by decide) (Or.inl rfl) (hs.e (by decide)) (ok_peek_in (S := S) hs hbl (hx.fr Fr.rf) (by omega)) (fun r240 S240 hp240 => ?_)
          obtain ⟨rfl, hq240⟩ := hp240
          rw [hq240]
          show Ok _ _ _ [zi (nI (bs.getD (p + k) 0)), zl ((gJ S 12 0 15) <<< ((nI 8).toInt64 &&& 63)), zr 12 0] _ _
          refine r_i2l (q := 244) dX12_next_243 rfl ?_
          refine r_topl (y := lN (bs.getD (p + k) 0)) (nI_l (by omega)) ?_
          refine r_lor (q := 245) dX12_next_244 rfl ?_
          refine r_putl (q := 248) ck12 dX12_next_245 rfl (k := 15) (by decide) wt1293 (Or.inl rfl) rfl (hs.e (by decide)) ?_
          refine r_aload_n (q := 249) dX12_next_248 rfl rfl rfl ?_
          refine r_geti (q := 252) ck12 dX12_next_249 rfl (k := 11) (by decide) wt1289 (Or.inl rfl) (hs.e (by decide)) ?_
          refine r_topi (y := gI S 12 0 11) (by simp [gI_sI, gJ_sJ, gI_sJ, gJ_sI]) ?_
          refine r_topi (y := nI k) hsp ?_
          refine r_iconst (q := 253) (nI 2) dX12_next_252 rfl (by decide) ?_
          refine r_icmp_geN (q := 256) (t := 275) (by omega) (by omega) dX12_next_253 (by decide) rfl (fun h253 => ?_) (fun h253 => ?_)
          · skip
            refine r_aload_n (q := 276) dX12_next_275 rfl rfl rfl ?_
            refine r_dup (q := 277) dX12_next_276 rfl rfl ?_
            refine r_geti (q := 280) ck12 dX12_next_277 rfl (k := 11) (by decide) wt1289 (Or.inl rfl) (hs.e (by decide)) ?_
            refine r_topi (y := gI S 12 0 11) (by simp [gI_sI, gJ_sJ, gI_sJ, gJ_sI]) ?_
            refine r_topi (y := nI k) hsp ?_
            refine r_iconst (q := 281) (nI 1) dX12_next_280 rfl (by decide) ?_
            refine r_iaddN (q := 282) dX12_next_281 rfl ?_
            refine r_puti (q := 285) ck12 dX12_next_282 rfl (k := 11) (by decide) wt1289 (Or.inl rfl) rfl (hs.e (by decide)) ?_
            refine r_aload_n (q := 286) dX12_next_285 rfl rfl rfl ?_
            refine r_dup (q := 287) dX12_next_286 rfl rfl ?_
            refine r_geti (q := 290) ck12 dX12_next_287 rfl (k := 4) (by decide) wt1282 (Or.inl rfl) (hs.e (by decide)) ?_
            refine r_topi (y := gI S 12 0 4) (by simp [gI_sI, gJ_sJ, gI_sJ, gJ_sI]) ?_
            refine r_topi (y := nI (p + k)) hx.2.2.2 ?_
            refine r_iconst (q := 291) (nI 1) dX12_next_290 rfl (by decide) ?_
            refine r_iaddN (q := 292) dX12_next_291 rfl ?_
            refine r_puti (q := 295) ck12 dX12_next_292 rfl (k := 4) (by decide) wt1282 (Or.inl rfl) rfl (hs.e (by decide)) ?_
            refine r_goto (q := 181) dX12_next_295 (by decide) ?_
            refine ih' (sI (sI (sJ S 12 0 15 (((gJ S 12 0 15) <<< ((nI 8).toInt64 &&& 63)) ||| (lN (bs.getD (p + k) 0)))) 12 0 11 (nI (k + 1))) 12 0 4 (nI ((p + k) + 1))) 1 (by rw [h2]; rfl) hs ?_ ?_ ⟨fun z1 z2 => ?_, fun z1 z2 => ?_⟩ (fun S' f1 f2 f3 f4 f5 => K S' (Fr.tr (Fr.mono ((((Fr.rf.j rfl).i rfl).i rfl) : Fr tNx S _) (fun _ _ _ h => h)) f1) (f2.trans ?_) f3 f4 f5)
            · have := (hx.fr (S1 := sI (sJ S 12 0 15 (((gJ S 12 0 15) <<< ((nI 8).toInt64 &&& 63)) ||| (lN (bs.getD (p + k) 0)))) 12 0 11 (nI (k + 1))) ((Fr.rf.j rfl).i rfl)).p (q := p + k + 1); exact this
            · (repeat (first | rw [gI_sI, if_neg (by omega)] | rw [gI_sI, if_pos ⟨rfl, rfl, rfl⟩] | rw [gI_sJ]))
            · (repeat (first | rw [gJ_sI] | rw [gJ_sJ, if_pos ⟨rfl, rfl, rfl⟩])); exact wr_w hwr.1 hmem hlt z1 z2
            · rw [List.length_append, List.length_singleton, hwl] at z2; omega
            · (repeat (first | rw [gI_sI, if_neg (by omega)] | rw [gI_sJ]))
          · skip
            refine r_aload_n (q := 257) dX12_next_256 rfl rfl rfl ?_
            refine r_bipush (q := 259) (nI 10) dX12_next_257 rfl (by decide) ?_
            refine r_aload_n (q := 260) dX12_next_259 rfl rfl rfl ?_
            refine r_geti (q := 263) ck12 dX12_next_260 rfl (k := 12) (by decide) wt1290 (Or.inl rfl) (hs.e (by decide)) ?_
            refine r_topi (y := gI S 12 0 12) (by simp [gI_sI, gJ_sJ, gI_sJ, gJ_sI]) ?_
            refine r_imul (q := 264) dX12_next_263 rfl ?_
            refine r_aload_n (q := 265) dX12_next_264 rfl rfl rfl ?_
            refine r_callV (Mc := mX12_peek) (q := 268) (As := []) (st := [zi ((nI 10) * (gI S 12 0 12)), zr 12 0]) ck12 dX12_next_265 rfl rfl mkX12_peek wt1577 wt1579 wp71 rfl (Nat.le_of_ble_eq_true rfl) (Nat.le_of_ble_eq_true rfl) (by decide) (by decide) (by decide) (Or.inl rfl) (hs.e (by decide)) (ok_peek_in (S := sJ S 12 0 15 (((gJ S 12 0 15) <<< ((nI 8).toInt64 &&& 63)) ||| (lN (bs.getD (p + k) 0)))) hs hbl (hx.fr (Fr.rf.j rfl)) (by omega)) (fun r265 S265 hp265 => ?_)
            obtain ⟨rfl, hq265⟩ := hp265
            rw [hq265]
            show Ok _ _ _ [zi (nI (bs.getD (p + k) 0)), zi ((nI 10) * (gI S 12 0 12)), zr 12 0] _ _
            refine r_iadd (q := 269) dX12_next_268 rfl ?_
            refine r_bipush (q := 271) (nI 48) dX12_next_269 rfl (by decide) ?_
            refine r_isub (q := 272) dX12_next_271 rfl ?_
            refine r_puti (q := 275) ck12 dX12_next_272 rfl (k := 12) (by decide) wt1290 (Or.inl rfl) rfl (hs.e (by decide)) ?_
            refine r_aload_n (q := 276) dX12_next_275 rfl rfl rfl ?_
            refine r_dup (q := 277) dX12_next_276 rfl rfl ?_
            refine r_geti (q := 280) ck12 dX12_next_277 rfl (k := 11) (by decide) wt1289 (Or.inl rfl) (hs.e (by decide)) ?_
            refine r_topi (y := gI S 12 0 11) (by simp [gI_sI, gJ_sJ, gI_sJ, gJ_sI]) ?_
            refine r_topi (y := nI k) hsp ?_
            refine r_iconst (q := 281) (nI 1) dX12_next_280 rfl (by decide) ?_
            refine r_iaddN (q := 282) dX12_next_281 rfl ?_
            refine r_puti (q := 285) ck12 dX12_next_282 rfl (k := 11) (by decide) wt1289 (Or.inl rfl) rfl (hs.e (by decide)) ?_
            refine r_aload_n (q := 286) dX12_next_285 rfl rfl rfl ?_
            refine r_dup (q := 287) dX12_next_286 rfl rfl ?_
            refine r_geti (q := 290) ck12 dX12_next_287 rfl (k := 4) (by decide) wt1282 (Or.inl rfl) (hs.e (by decide)) ?_
            refine r_topi (y := gI S 12 0 4) (by simp [gI_sI, gJ_sJ, gI_sJ, gJ_sI]) ?_
            refine r_topi (y := nI (p + k)) hx.2.2.2 ?_
            refine r_iconst (q := 291) (nI 1) dX12_next_290 rfl (by decide) ?_
            refine r_iaddN (q := 292) dX12_next_291 rfl ?_
            refine r_puti (q := 295) ck12 dX12_next_292 rfl (k := 4) (by decide) wt1282 (Or.inl rfl) rfl (hs.e (by decide)) ?_
            refine r_goto (q := 181) dX12_next_295 (by decide) ?_
            refine ih' (sI (sI (sI (sJ S 12 0 15 (((gJ S 12 0 15) <<< ((nI 8).toInt64 &&& 63)) ||| (lN (bs.getD (p + k) 0)))) 12 0 12 ((((nI 10) * (gI S 12 0 12)) + (nI (bs.getD (p + k) 0))) - (nI 48))) 12 0 11 (nI (k + 1))) 12 0 4 (nI ((p + k) + 1))) 1 (by rw [h2]; rfl) hs ?_ ?_ ⟨fun z1 z2 => ?_, fun z1 z2 => ?_⟩ (fun S' f1 f2 f3 f4 f5 => K S' (Fr.tr (Fr.mono (((((Fr.rf.j rfl).i rfl).i rfl).i rfl) : Fr tNx S _) (fun _ _ _ h => h)) f1) (f2.trans ?_) f3 f4 f5)
            · have := (hx.fr (S1 := sI (sI (sJ S 12 0 15 (((gJ S 12 0 15) <<< ((nI 8).toInt64 &&& 63)) ||| (lN (bs.getD (p + k) 0)))) 12 0 12 ((((nI 10) * (gI S 12 0 12)) + (nI (bs.getD (p + k) 0))) - (nI 48))) 12 0 11 (nI (k + 1))) (((Fr.rf.j rfl).i rfl).i rfl)).p (q := p + k + 1); exact this
            · (repeat (first | rw [gI_sI, if_neg (by omega)] | rw [gI_sI, if_pos ⟨rfl, rfl, rfl⟩] | rw [gI_sJ]))
            · (repeat (first | rw [gJ_sI] | rw [gJ_sJ, if_pos ⟨rfl, rfl, rfl⟩])); exact wr_w hwr.1 hmem hlt z1 z2
            · (repeat (first | rw [gI_sI, if_neg (by omega)] | rw [gI_sI, if_pos ⟨rfl, rfl, rfl⟩] | rw [gI_sJ])); exact wr_n hwr.2 z1 z2
            · (repeat (first | rw [gI_sI, if_neg (by omega)] | rw [gI_sJ]))

theorem tkk_s {w : List Nat} (h : w.all sml = true) : tkk w = if w.length ≤ 6 then 2 else if w.all dgt = true ∧ w.length ≤ 2 then 3 else 4 := by
  unfold tkk
  by_cases h6 : w.length ≤ 6
  · rw [if_pos ⟨h, h6⟩, if_pos h6]
  · rw [if_neg (fun z => h6 z.2), if_neg h6]
theorem rkt_w {w : List Nat} (c : w.all sml = true ∧ w.length ≤ 6) : tkk w = 2 := by unfold tkk; rw [if_pos c]
theorem rkt_4 {w : List Nat} (c2 : ¬ (w.all sml = true ∧ w.length ≤ 6)) (c3 : ¬ (w.all dgt = true ∧ w.length ≤ 2)) : tkk w = 4 := by unfold tkk; rw [if_neg c2, if_neg c3]
theorem rkt_n {w : List Nat} (c2 : ¬ w.all sml = true) (c3 : w.all dgt = true ∧ w.length ≤ 2) : tkk w = 3 := by unfold tkk; rw [if_neg (fun z => c2 z.1), if_pos c3]
theorem all_hd {f : Nat → Bool} {w : List Nat} (hl : 0 < w.length) (h : w.all f = true) : f (w.getD 0 0) = true := List.all_eq_true.mp h _ (getD_mem hl)

theorem sgn_y {c : Nat} (h : c = 59 ∨ 40 ≤ c ∧ c ≤ 45 ∧ c ≠ 42 ∨ c = 61) : sgn c = true := by
  simp [sgn]
  omega
theorem sgn_n {c : Nat} (h : ¬ (c = 59 ∨ 40 ≤ c ∧ c ≤ 45 ∧ c ≠ 42 ∨ c = 61)) : sgn c = false := by
  simp [sgn]
  omega
theorem rkt_sg {c : Nat} (h : sgn c = true) : rkt c = 3 := by
  simp [sgn] at h
  unfold rkt
  rw [if_neg (by omega), if_neg (by omega), if_neg (by omega), if_neg (by omega)]

set_option maxRecDepth 100000 in
theorem lp_nx31 {S : zS} (hs : Sd S) {bs : List Nat} {lim p : Nat} (hbl : bs.length ≤ 940) (hlim : lim ≤ 940) (hpl : p ≤ bs.length) (hx : Tx2 S bs lim p) (hnb : p < bs.length → ¬ (bs.getD p 0 = 32 ∨ bs.getD p 0 = 10)) : Ok mX12_next 31 [some (zr 12 0), none, none, none] [] S (fun r S1 => r = none ∧ Fr tNx S S1 ∧ Tm S1 (hdT (lexA bs lim p)) ∧ ∃ q, q ≤ bs.length ∧ Tx2 S1 bs lim q ∧ lexA bs lim q = adv (lexA bs lim p)) := by
  by_cases hcut : lim < bs.length ∧ lim ≤ p
  · refine r_aload_n (q := 32) dX12_next_31 rfl rfl rfl ?_
    refine r_aload_n (q := 33) dX12_next_32 rfl rfl rfl ?_
    refine r_geti (q := 36) ck12 dX12_next_33 rfl (k := 4) (by decide) wt1282 (Or.inl rfl) (hs.e (by decide)) ?_
    refine r_topi (y := nI p) hx.2.2.2 ?_
    refine r_puti (q := 39) ck12 dX12_next_36 rfl (k := 10) (by decide) wt1288 (Or.inl rfl) rfl (hs.e (by decide)) ?_
    refine r_aload_n (q := 40) dX12_next_39 rfl rfl rfl ?_
    refine r_iconst (q := 41) (nI 0) dX12_next_40 rfl (by decide) ?_
    refine r_puti (q := 44) ck12 dX12_next_41 rfl (k := 11) (by decide) wt1289 (Or.inl rfl) rfl (hs.e (by decide)) ?_
    refine r_aload_n (q := 45) dX12_next_44 rfl rfl rfl ?_
    refine r_geti (q := 48) ck12 dX12_next_45 rfl (k := 3) (by decide) wt1281 (Or.inl rfl) (hs.e (by decide)) ?_
    refine r_topi (y := gI S 12 0 3) (by simp [gI_sI, gJ_sJ, gI_sJ, gJ_sI]) ?_
    refine r_topi (y := nI bs.length) hx.2.1 ?_
    refine r_aload_n (q := 49) dX12_next_48 rfl rfl rfl ?_
    refine r_geti (q := 52) ck12 dX12_next_49 rfl (k := 5) (by decide) wt1283 (Or.inl rfl) (hs.e (by decide)) ?_
    refine r_topi (y := gI S 12 0 5) (by simp [gI_sI, gJ_sJ, gI_sJ, gJ_sI]) ?_
    refine r_topi (y := nI lim) hx.2.2.1 ?_
    refine r_icmp_leN (q := 55) (t := 80) (by omega) (by omega) dX12_next_52 (by decide) rfl (fun h52 => absurd h52 (by omega)) (fun h52 => ?_)
    refine r_aload_n (q := 56) dX12_next_55 rfl rfl rfl ?_
    refine r_geti (q := 59) ck12 dX12_next_56 rfl (k := 4) (by decide) wt1282 (Or.inl rfl) (hs.e (by decide)) ?_
    refine r_topi (y := gI S 12 0 4) (by simp [gI_sI, gJ_sJ, gI_sJ, gJ_sI]) ?_
    refine r_topi (y := nI p) hx.2.2.2 ?_
    refine r_aload_n (q := 60) dX12_next_59 rfl rfl rfl ?_
    refine r_geti (q := 63) ck12 dX12_next_60 rfl (k := 5) (by decide) wt1283 (Or.inl rfl) (hs.e (by decide)) ?_
    refine r_topi (y := gI S 12 0 5) (by simp [gI_sI, gJ_sJ, gI_sJ, gJ_sI]) ?_
    refine r_topi (y := nI lim) hx.2.2.1 ?_
    refine r_icmp_ltN (q := 66) (t := 80) (by omega) (by omega) dX12_next_63 (by decide) rfl (fun h63 => absurd h63 (by omega)) (fun h63 => ?_)
    refine r_aload_n (q := 67) dX12_next_66 rfl rfl rfl ?_
    refine r_aload_n (q := 68) dX12_next_67 rfl rfl rfl ?_
    refine r_geti (q := 71) ck12 dX12_next_68 rfl (k := 5) (by decide) wt1283 (Or.inl rfl) (hs.e (by decide)) ?_
    refine r_topi (y := gI S 12 0 5) (by simp [gI_sI, gJ_sJ, gI_sJ, gJ_sI]) ?_
    refine r_topi (y := nI lim) hx.2.2.1 ?_
    refine r_puti (q := 74) ck12 dX12_next_71 rfl (k := 10) (by decide) wt1288 (Or.inl rfl) rfl (hs.e (by decide)) ?_
    refine r_aload_n (q := 75) dX12_next_74 rfl rfl rfl ?_
    refine r_iconst (q := 76) (nI 4) dX12_next_75 rfl (by decide) ?_
    refine r_puti (q := 79) ck12 dX12_next_76 rfl (k := 9) (by decide) wt1287 (Or.inl rfl) rfl (hs.e (by decide)) ?_
    refine r_return dX12_next_79 rfl ?_
    have e1 : lexA bs lim p = [(1, lim, 0)] := by rw [lexA_end (by omega), tend, if_pos hcut.1, show min bs.length lim = lim by omega]
    have f : Fr tNy S (sI (sI (sI (sI S 12 0 10 (nI p)) 12 0 11 (nI 0)) 12 0 10 (nI lim)) 12 0 9 (nI 4)) := ((((Fr.rf.i rfl).i rfl).i rfl).i rfl)
    rw [e1]
    refine ⟨rfl, f.mono tNx_y, ⟨?_, ?_, fun z => ?_, fun z => ?_, fun z => ?_⟩, p, hpl, hx.fr f, e1⟩
    · (repeat (first | rw [gI_sI, if_neg (by omega)] | rw [gI_sI, if_pos ⟨rfl, rfl, rfl⟩])); first | done | rfl | (exfalso; omega)
    · (repeat (first | rw [gI_sI, if_neg (by omega)] | rw [gI_sI, if_pos ⟨rfl, rfl, rfl⟩])); first | done | rfl | (exfalso; omega)
    · exact absurd z (by show ¬ _; simp [hdT])
    · exact absurd z (by show ¬ _; simp [hdT])
    · exact absurd z (by show ¬ _; simp [hdT])
  · by_cases hend : p = bs.length
    · skip
      by_cases hll : lim < bs.length
      · refine r_aload_n (q := 32) dX12_next_31 rfl rfl rfl ?_
        refine r_aload_n (q := 33) dX12_next_32 rfl rfl rfl ?_
        refine r_geti (q := 36) ck12 dX12_next_33 rfl (k := 4) (by decide) wt1282 (Or.inl rfl) (hs.e (by decide)) ?_
        refine r_topi (y := nI p) hx.2.2.2 ?_
        refine r_puti (q := 39) ck12 dX12_next_36 rfl (k := 10) (by decide) wt1288 (Or.inl rfl) rfl (hs.e (by decide)) ?_
        refine r_aload_n (q := 40) dX12_next_39 rfl rfl rfl ?_
        refine r_iconst (q := 41) (nI 0) dX12_next_40 rfl (by decide) ?_
        refine r_puti (q := 44) ck12 dX12_next_41 rfl (k := 11) (by decide) wt1289 (Or.inl rfl) rfl (hs.e (by decide)) ?_
        refine r_aload_n (q := 45) dX12_next_44 rfl rfl rfl ?_
        refine r_geti (q := 48) ck12 dX12_next_45 rfl (k := 3) (by decide) wt1281 (Or.inl rfl) (hs.e (by decide)) ?_
        refine r_topi (y := gI S 12 0 3) (by simp [gI_sI, gJ_sJ, gI_sJ, gJ_sI]) ?_
        refine r_topi (y := nI bs.length) hx.2.1 ?_
        refine r_aload_n (q := 49) dX12_next_48 rfl rfl rfl ?_
        refine r_geti (q := 52) ck12 dX12_next_49 rfl (k := 5) (by decide) wt1283 (Or.inl rfl) (hs.e (by decide)) ?_
        refine r_topi (y := gI S 12 0 5) (by simp [gI_sI, gJ_sJ, gI_sJ, gJ_sI]) ?_
        refine r_topi (y := nI lim) hx.2.2.1 ?_
        refine r_icmp_leN (q := 55) (t := 80) (by omega) (by omega) dX12_next_52 (by decide) rfl (fun h52 => absurd h52 (by omega)) (fun h52 => ?_)
        refine r_aload_n (q := 56) dX12_next_55 rfl rfl rfl ?_
        refine r_geti (q := 59) ck12 dX12_next_56 rfl (k := 4) (by decide) wt1282 (Or.inl rfl) (hs.e (by decide)) ?_
        refine r_topi (y := gI S 12 0 4) (by simp [gI_sI, gJ_sJ, gI_sJ, gJ_sI]) ?_
        refine r_topi (y := nI p) hx.2.2.2 ?_
        refine r_aload_n (q := 60) dX12_next_59 rfl rfl rfl ?_
        refine r_geti (q := 63) ck12 dX12_next_60 rfl (k := 5) (by decide) wt1283 (Or.inl rfl) (hs.e (by decide)) ?_
        refine r_topi (y := gI S 12 0 5) (by simp [gI_sI, gJ_sJ, gI_sJ, gJ_sI]) ?_
        refine r_topi (y := nI lim) hx.2.2.1 ?_
        refine r_icmp_ltN (q := 66) (t := 80) (by omega) (by omega) dX12_next_63 (by decide) rfl (fun h63 => ?_) (fun h63 => absurd h63 (by omega))
        refine r_aload_n (q := 81) dX12_next_80 rfl rfl rfl ?_
        refine r_callV (Mc := mX12_peek) (q := 84) (As := []) (st := []) ck12 dX12_next_81 rfl rfl mkX12_peek wt1577 wt1579 wp71 rfl (Nat.le_of_ble_eq_true rfl) (Nat.le_of_ble_eq_true rfl) (by decide) (by decide) (by decide) (Or.inl rfl) (hs.e (by decide)) (ok_peek_out (S := sI (sI S 12 0 10 (nI p)) 12 0 11 (nI 0)) hs hbl (hx.fr ((Fr.rf.i rfl).i rfl)) hend) (fun r81 S81 hp81 => ?_)
        obtain ⟨rfl, hq81⟩ := hp81
        rw [hq81]
        show Ok _ _ _ [zi (-1 : Int32)] _ _
        refine r_istore_n (q := 85) (L' := [some (zr 12 0), some (zi (-1 : Int32)), none, none]) dX12_next_84 rfl rfl (by decide) rfl ?_
        refine r_iload_n (q := 86) dX12_next_85 rfl rfl rfl ?_
        refine r_if_ge (q := 89) (t := 95) dX12_next_86 (by decide) rfl (fun h86 => absurd h86 (by decide)) (fun h86 => ?_)
        refine r_aload_n (q := 90) dX12_next_89 rfl rfl rfl ?_
        refine r_iconst (q := 91) (nI 0) dX12_next_90 rfl (by decide) ?_
        refine r_puti (q := 94) ck12 dX12_next_91 rfl (k := 9) (by decide) wt1287 (Or.inl rfl) rfl (hs.e (by decide)) ?_
        refine r_return dX12_next_94 rfl ?_
        have e1 : lexA bs lim p = [(0, p, 0)] := by rw [lexA_end (by omega), tend, if_neg (by omega), show min bs.length lim = p by omega]
        have f : Fr tNy S (sI (sI (sI S 12 0 10 (nI p)) 12 0 11 (nI 0)) 12 0 9 (nI 0)) := (((Fr.rf.i rfl).i rfl).i rfl)
        rw [e1]
        refine ⟨rfl, f.mono tNx_y, ⟨?_, ?_, fun z => ?_, fun z => ?_, fun z => ?_⟩, p, hpl, hx.fr f, e1⟩
        · (repeat (first | rw [gI_sI, if_neg (by omega)] | rw [gI_sI, if_pos ⟨rfl, rfl, rfl⟩])); first | done | rfl | (exfalso; omega)
        · (repeat (first | rw [gI_sI, if_neg (by omega)] | rw [gI_sI, if_pos ⟨rfl, rfl, rfl⟩])); first | done | rfl | (exfalso; omega)
        · exact absurd z (by show ¬ _; simp [hdT])
        · exact absurd z (by show ¬ _; simp [hdT])
        · exact absurd z (by show ¬ _; simp [hdT])
      · refine r_aload_n (q := 32) dX12_next_31 rfl rfl rfl ?_
        refine r_aload_n (q := 33) dX12_next_32 rfl rfl rfl ?_
        refine r_geti (q := 36) ck12 dX12_next_33 rfl (k := 4) (by decide) wt1282 (Or.inl rfl) (hs.e (by decide)) ?_
        refine r_topi (y := nI p) hx.2.2.2 ?_
        refine r_puti (q := 39) ck12 dX12_next_36 rfl (k := 10) (by decide) wt1288 (Or.inl rfl) rfl (hs.e (by decide)) ?_
        refine r_aload_n (q := 40) dX12_next_39 rfl rfl rfl ?_
        refine r_iconst (q := 41) (nI 0) dX12_next_40 rfl (by decide) ?_
        refine r_puti (q := 44) ck12 dX12_next_41 rfl (k := 11) (by decide) wt1289 (Or.inl rfl) rfl (hs.e (by decide)) ?_
        refine r_aload_n (q := 45) dX12_next_44 rfl rfl rfl ?_
        refine r_geti (q := 48) ck12 dX12_next_45 rfl (k := 3) (by decide) wt1281 (Or.inl rfl) (hs.e (by decide)) ?_
        refine r_topi (y := gI S 12 0 3) (by simp [gI_sI, gJ_sJ, gI_sJ, gJ_sI]) ?_
        refine r_topi (y := nI bs.length) hx.2.1 ?_
        refine r_aload_n (q := 49) dX12_next_48 rfl rfl rfl ?_
        refine r_geti (q := 52) ck12 dX12_next_49 rfl (k := 5) (by decide) wt1283 (Or.inl rfl) (hs.e (by decide)) ?_
        refine r_topi (y := gI S 12 0 5) (by simp [gI_sI, gJ_sJ, gI_sJ, gJ_sI]) ?_
        refine r_topi (y := nI lim) hx.2.2.1 ?_
        refine r_icmp_leN (q := 55) (t := 80) (by omega) (by omega) dX12_next_52 (by decide) rfl (fun h52 => ?_) (fun h52 => absurd h52 (by omega))
        refine r_aload_n (q := 81) dX12_next_80 rfl rfl rfl ?_
        refine r_callV (Mc := mX12_peek) (q := 84) (As := []) (st := []) ck12 dX12_next_81 rfl rfl mkX12_peek wt1577 wt1579 wp71 rfl (Nat.le_of_ble_eq_true rfl) (Nat.le_of_ble_eq_true rfl) (by decide) (by decide) (by decide) (Or.inl rfl) (hs.e (by decide)) (ok_peek_out (S := sI (sI S 12 0 10 (nI p)) 12 0 11 (nI 0)) hs hbl (hx.fr ((Fr.rf.i rfl).i rfl)) hend) (fun r81 S81 hp81 => ?_)
        obtain ⟨rfl, hq81⟩ := hp81
        rw [hq81]
        show Ok _ _ _ [zi (-1 : Int32)] _ _
        refine r_istore_n (q := 85) (L' := [some (zr 12 0), some (zi (-1 : Int32)), none, none]) dX12_next_84 rfl rfl (by decide) rfl ?_
        refine r_iload_n (q := 86) dX12_next_85 rfl rfl rfl ?_
        refine r_if_ge (q := 89) (t := 95) dX12_next_86 (by decide) rfl (fun h86 => absurd h86 (by decide)) (fun h86 => ?_)
        refine r_aload_n (q := 90) dX12_next_89 rfl rfl rfl ?_
        refine r_iconst (q := 91) (nI 0) dX12_next_90 rfl (by decide) ?_
        refine r_puti (q := 94) ck12 dX12_next_91 rfl (k := 9) (by decide) wt1287 (Or.inl rfl) rfl (hs.e (by decide)) ?_
        refine r_return dX12_next_94 rfl ?_
        have e1 : lexA bs lim p = [(0, p, 0)] := by rw [lexA_end (by omega), tend, if_neg (by omega), show min bs.length lim = p by omega]
        have f : Fr tNy S (sI (sI (sI S 12 0 10 (nI p)) 12 0 11 (nI 0)) 12 0 9 (nI 0)) := (((Fr.rf.i rfl).i rfl).i rfl)
        rw [e1]
        refine ⟨rfl, f.mono tNx_y, ⟨?_, ?_, fun z => ?_, fun z => ?_, fun z => ?_⟩, p, hpl, hx.fr f, e1⟩
        · (repeat (first | rw [gI_sI, if_neg (by omega)] | rw [gI_sI, if_pos ⟨rfl, rfl, rfl⟩])); first | done | rfl | (exfalso; omega)
        · (repeat (first | rw [gI_sI, if_neg (by omega)] | rw [gI_sI, if_pos ⟨rfl, rfl, rfl⟩])); first | done | rfl | (exfalso; omega)
        · exact absurd z (by show ¬ _; simp [hdT])
        · exact absurd z (by show ¬ _; simp [hdT])
        · exact absurd z (by show ¬ _; simp [hdT])
    · have hps : p < min bs.length lim := by omega
      have hlt := hx.1.lt p
      have hnb' := hnb (by omega)
      by_cases ha : aln (bs.getD p 0) = true
      · have hr1 := arun_pos (p := p) (by omega) ha
        have hal := arun_le (bs.drop p)
        rw [List.length_drop] at hal
        rw [lexA_tok hps ha]
        have hwl : ((bs.drop p).take (arun (bs.drop p))).length = arun (bs.drop p) := by rw [List.length_take, List.length_drop]; omega
        have hw0 : ((bs.drop p).take (arun (bs.drop p))).getD 0 0 = bs.getD p 0 := by rw [getD_take (by omega), getD_drop, Nat.add_zero]
        by_cases h1 : sml (bs.getD p 0) = true
        · skip
          by_cases hll : lim < bs.length
          · refine r_aload_n (q := 32) dX12_next_31 rfl rfl rfl ?_
            refine r_aload_n (q := 33) dX12_next_32 rfl rfl rfl ?_
            refine r_geti (q := 36) ck12 dX12_next_33 rfl (k := 4) (by decide) wt1282 (Or.inl rfl) (hs.e (by decide)) ?_
            refine r_topi (y := nI p) hx.2.2.2 ?_
            refine r_puti (q := 39) ck12 dX12_next_36 rfl (k := 10) (by decide) wt1288 (Or.inl rfl) rfl (hs.e (by decide)) ?_
            refine r_aload_n (q := 40) dX12_next_39 rfl rfl rfl ?_
            refine r_iconst (q := 41) (nI 0) dX12_next_40 rfl (by decide) ?_
            refine r_puti (q := 44) ck12 dX12_next_41 rfl (k := 11) (by decide) wt1289 (Or.inl rfl) rfl (hs.e (by decide)) ?_
            refine r_aload_n (q := 45) dX12_next_44 rfl rfl rfl ?_
            refine r_geti (q := 48) ck12 dX12_next_45 rfl (k := 3) (by decide) wt1281 (Or.inl rfl) (hs.e (by decide)) ?_
            refine r_topi (y := gI S 12 0 3) (by simp [gI_sI, gJ_sJ, gI_sJ, gJ_sI]) ?_
            refine r_topi (y := nI bs.length) hx.2.1 ?_
            refine r_aload_n (q := 49) dX12_next_48 rfl rfl rfl ?_
            refine r_geti (q := 52) ck12 dX12_next_49 rfl (k := 5) (by decide) wt1283 (Or.inl rfl) (hs.e (by decide)) ?_
            refine r_topi (y := gI S 12 0 5) (by simp [gI_sI, gJ_sJ, gI_sJ, gJ_sI]) ?_
            refine r_topi (y := nI lim) hx.2.2.1 ?_
            refine r_icmp_leN (q := 55) (t := 80) (by omega) (by omega) dX12_next_52 (by decide) rfl (fun h52 => absurd h52 (by omega)) (fun h52 => ?_)
            refine r_aload_n (q := 56) dX12_next_55 rfl rfl rfl ?_
            refine r_geti (q := 59) ck12 dX12_next_56 rfl (k := 4) (by decide) wt1282 (Or.inl rfl) (hs.e (by decide)) ?_
            refine r_topi (y := gI S 12 0 4) (by simp [gI_sI, gJ_sJ, gI_sJ, gJ_sI]) ?_
            refine r_topi (y := nI p) hx.2.2.2 ?_
            refine r_aload_n (q := 60) dX12_next_59 rfl rfl rfl ?_
            refine r_geti (q := 63) ck12 dX12_next_60 rfl (k := 5) (by decide) wt1283 (Or.inl rfl) (hs.e (by decide)) ?_
            refine r_topi (y := gI S 12 0 5) (by simp [gI_sI, gJ_sJ, gI_sJ, gJ_sI]) ?_
            refine r_topi (y := nI lim) hx.2.2.1 ?_
            refine r_icmp_ltN (q := 66) (t := 80) (by omega) (by omega) dX12_next_63 (by decide) rfl (fun h63 => ?_) (fun h63 => absurd h63 (by omega))
            refine r_aload_n (q := 81) dX12_next_80 rfl rfl rfl ?_
            refine r_callV (Mc := mX12_peek) (q := 84) (As := []) (st := []) ck12 dX12_next_81 rfl rfl mkX12_peek wt1577 wt1579 wp71 rfl (Nat.le_of_ble_eq_true rfl) (Nat.le_of_ble_eq_true rfl) (by decide) (by decide) (by decide) (Or.inl rfl) (hs.e (by decide)) (ok_peek_in (S := sI (sI S 12 0 10 (nI p)) 12 0 11 (nI 0)) hs hbl (hx.fr ((Fr.rf.i rfl).i rfl)) (by omega)) (fun r81 S81 hp81 => ?_)
            obtain ⟨rfl, hq81⟩ := hp81
            rw [hq81]
            show Ok _ _ _ [zi (nI (bs.getD p 0))] _ _
            refine r_istore_n (q := 85) (L' := [some (zr 12 0), some (zi (nI (bs.getD p 0))), none, none]) dX12_next_84 rfl rfl (by decide) rfl ?_
            refine r_iload_n (q := 86) dX12_next_85 rfl rfl rfl ?_
            refine r_if_geN (q := 89) (t := 95) (by omega) dX12_next_86 (by decide) rfl ?_
            refine r_iload_n (q := 96) dX12_next_95 rfl rfl rfl ?_
            refine r_callS (Mc := mX12_isSmall) (q := 99) (As := [zi (nI (bs.getD p 0))]) (st := []) dX12_next_96 rfl rfl mkX12_isSmall wt1581 wt1582 rfl (Nat.le_of_ble_eq_true rfl) (Nat.le_of_ble_eq_true rfl) (by decide) (by decide) (by decide) (Or.inl rfl) hs.some (ok_X12_isSmall hlt) (fun r96 S96 hp96 => ?_)
            obtain ⟨rfl, hq96⟩ := hp96
            rw [hq96]
            rw [if_pos h1]
            show Ok _ _ _ [zi (nI 1)] _ _
            refine r_if_neN (q := 102) (t := 164) (by omega) dX12_next_99 (by decide) rfl (fun h99 => ?_) (fun h99 => absurd h99 (by omega))
            refine r_iload_n (q := 165) dX12_next_164 rfl rfl rfl ?_
            refine r_callS (Mc := mX12_isSmall) (q := 168) (As := [zi (nI (bs.getD p 0))]) (st := []) dX12_next_165 rfl rfl mkX12_isSmall wt1581 wt1582 rfl (Nat.le_of_ble_eq_true rfl) (Nat.le_of_ble_eq_true rfl) (by decide) (by decide) (by decide) (Or.inl rfl) hs.some (ok_X12_isSmall hlt) (fun r165 S165 hp165 => ?_)
            obtain ⟨rfl, hq165⟩ := hp165
            rw [hq165]
            rw [if_pos h1]
            show Ok _ _ _ [zi (nI 1)] _ _
            refine r_istore_n (q := 169) (L' := [some (zr 12 0), some (zi (nI (bs.getD p 0))), some (zi (nI 1)), none]) dX12_next_168 rfl rfl (by decide) rfl ?_
            refine r_iconst (q := 170) (nI 1) dX12_next_169 rfl (by decide) ?_
            refine r_istore_n (q := 171) (L' := [some (zr 12 0), some (zi (nI (bs.getD p 0))), some (zi (nI 1)), some (zi (nI 1))]) dX12_next_170 rfl rfl (by decide) rfl ?_
            refine r_aload_n (q := 172) dX12_next_171 rfl rfl rfl ?_
            refine r_lconst (q := 173) (0 : Int64) dX12_next_172 rfl rfl ?_
            refine r_topl (y := lN 0) rfl ?_
            refine r_putl (q := 176) ck12 dX12_next_173 rfl (k := 15) (by decide) wt1293 (Or.inl rfl) rfl (hs.e (by decide)) ?_
            refine r_aload_n (q := 177) dX12_next_176 rfl rfl rfl ?_
            refine r_iconst (q := 178) (nI 0) dX12_next_177 rfl (by decide) ?_
            refine r_puti (q := 181) ck12 dX12_next_178 rfl (k := 12) (by decide) wt1290 (Or.inl rfl) rfl (hs.e (by decide)) ?_
            have f0 : Fr tNy S (sI (sJ (sI (sI S 12 0 10 (nI p)) 12 0 11 (nI 0)) 12 0 15 (lN 0)) 12 0 12 (nI 0)) := ((((Fr.rf.i rfl).i rfl).j rfl).i rfl)
            refine lp_nw_1 hbl (by omega) (arun (bs.drop p)) 0 (sI (sJ (sI (sI S 12 0 10 (nI p)) 12 0 11 (nI 0)) 12 0 15 (lN 0)) 12 0 12 (nI 0)) 1 (by omega) (by simp) hs (hx.fr f0) (by (repeat (first | rw [gI_sI, if_neg (by omega)] | rw [gI_sI, if_pos ⟨rfl, rfl, rfl⟩] | rw [gI_sJ]))) ⟨fun _ _ => (by (repeat (first | rw [gJ_sI] | rw [gJ_sJ, if_pos ⟨rfl, rfl, rfl⟩])); first | done | rfl | (exfalso; omega)), fun _ _ => (by (repeat (first | rw [gI_sI, if_neg (by omega)] | rw [gI_sI, if_pos ⟨rfl, rfl, rfl⟩] | rw [gI_sJ])); first | done | rfl | (exfalso; omega))⟩ (fun S' f1 f2 f3 f4 f5 => ?_)
            have hs' : Sd S' := Sd.fr hs ((f0.mono tNx_y).tr f1)
            have hat : gI S' 12 0 10 = nI p := f2.trans (by (repeat (first | rw [gI_sI, if_neg (by omega)] | rw [gI_sI, if_pos ⟨rfl, rfl, rfl⟩] | rw [gI_sJ])))
            by_cases hall : ((bs.drop p).take (arun (bs.drop p))).all sml = true
            · rw [if_pos hall]
              refine r_aload_n (q := 299) dX12_next_298 rfl rfl rfl ?_
              refine r_iload_n (q := 300) dX12_next_299 rfl rfl rfl ?_
              refine r_if_eqN (q := 303) (t := 320) (by omega) dX12_next_300 (by decide) rfl (fun h300 => absurd h300 (by omega)) (fun h300 => ?_)
              refine r_aload_n (q := 304) dX12_next_303 rfl rfl rfl ?_
              refine r_geti (q := 307) ck12 dX12_next_304 rfl (k := 11) (by decide) wt1289 (Or.inl rfl) (hs'.e (by decide)) ?_
              refine r_topi (y := nI (arun (bs.drop p))) f4 ?_
              refine r_iload_n (q := 308) dX12_next_307 rfl rfl rfl ?_
              refine r_if_eqN (q := 311) (t := 316) (by omega) dX12_next_308 (by decide) rfl (fun h308 => absurd h308 (by omega)) (fun h308 => ?_)
              refine r_bipush (q := 313) (nI 6) dX12_next_311 rfl (by decide) ?_
              refine r_goto (q := 317) dX12_next_313 (by decide) ?_
              refine r_icmp_leN (q := 320) (t := 324) (by omega) (by omega) dX12_next_317 (by decide) rfl (fun h317 => ?_) (fun h317 => ?_)
              · skip
                refine r_iload_n (q := 325) dX12_next_324 rfl rfl rfl ?_
                refine r_if_eqN (q := 328) (t := 332) (by omega) dX12_next_325 (by decide) rfl (fun h325 => absurd h325 (by omega)) (fun h325 => ?_)
                refine r_iconst (q := 329) (nI 1) dX12_next_328 rfl (by decide) ?_
                refine r_goto (q := 333) dX12_next_329 (by decide) ?_
                refine r_puti (q := 336) ck12 dX12_next_333 rfl (k := 9) (by decide) wt1287 (Or.inl rfl) rfl (hs'.e (by decide)) ?_
                refine r_return dX12_next_336 rfl ?_
                have ek : tkk ((bs.drop p).take (arun (bs.drop p))) = 2 := rkt_w ⟨hall, by omega⟩
                refine ⟨rfl, ((f0.mono tNx_y).tr f1).i rfl, ⟨?_, ?_, fun z => ?_, fun z => ?_, fun z => ?_⟩, p + arun (bs.drop p), by omega, f3.fr (Fr.rf.i rfl), ?_⟩
                · show _ = nI (rkt (tkk _)); rw [ek, gI_sI, if_pos ⟨rfl, rfl, rfl⟩]; rfl
                · rw [gI_sI, if_neg (by omega)]; exact hat
                · have z : tkk ((bs.drop p).take (arun (bs.drop p))) = 2 := z; show _ = lN (tkv _); unfold tkv; rw [if_pos hall]; exact f5.1 hall (by omega)
                · have z : tkk ((bs.drop p).take (arun (bs.drop p))) = 3 := z; rw [ek] at z; exact absurd z (by decide)
                · have z : 5 ≤ tkk ((bs.drop p).take (arun (bs.drop p))) := z; rw [ek] at z; exact absurd z (by decide)
                · have hne := lexA_ne (bs := bs) (lim := lim) (p := p + arun (bs.drop p)); cases q : lexA bs lim (p + arun (bs.drop p)) with | nil => exact absurd q hne | cons x r => rfl
              · skip
                refine r_iconst (q := 321) (nI 4) dX12_next_320 rfl (by decide) ?_
                refine r_goto (q := 333) dX12_next_321 (by decide) ?_
                refine r_puti (q := 336) ck12 dX12_next_333 rfl (k := 9) (by decide) wt1287 (Or.inl rfl) rfl (hs'.e (by decide)) ?_
                refine r_return dX12_next_336 rfl ?_
                have ek : tkk ((bs.drop p).take (arun (bs.drop p))) = 4 := rkt_4 (fun z => by omega) (fun z => by have := all_hd (by omega) z.1; rw [hw0, sml_dgt h1] at this; cases this)
                refine ⟨rfl, ((f0.mono tNx_y).tr f1).i rfl, ⟨?_, ?_, fun z => ?_, fun z => ?_, fun z => ?_⟩, p + arun (bs.drop p), by omega, f3.fr (Fr.rf.i rfl), ?_⟩
                · show _ = nI (rkt (tkk _)); rw [ek, gI_sI, if_pos ⟨rfl, rfl, rfl⟩]; rfl
                · rw [gI_sI, if_neg (by omega)]; exact hat
                · have z : tkk ((bs.drop p).take (arun (bs.drop p))) = 2 := z; rw [ek] at z; exact absurd z (by decide)
                · have z : tkk ((bs.drop p).take (arun (bs.drop p))) = 3 := z; rw [ek] at z; exact absurd z (by decide)
                · have z : 5 ≤ tkk ((bs.drop p).take (arun (bs.drop p))) := z; rw [ek] at z; exact absurd z (by decide)
                · have hne := lexA_ne (bs := bs) (lim := lim) (p := p + arun (bs.drop p)); cases q : lexA bs lim (p + arun (bs.drop p)) with | nil => exact absurd q hne | cons x r => rfl
            · rw [if_neg hall]
              refine r_aload_n (q := 299) dX12_next_298 rfl rfl rfl ?_
              refine r_iload_n (q := 300) dX12_next_299 rfl rfl rfl ?_
              refine r_if_eqN (q := 303) (t := 320) (by omega) dX12_next_300 (by decide) rfl (fun h300 => ?_) (fun h300 => absurd h300 (by omega))
              refine r_iconst (q := 321) (nI 4) dX12_next_320 rfl (by decide) ?_
              refine r_goto (q := 333) dX12_next_321 (by decide) ?_
              refine r_puti (q := 336) ck12 dX12_next_333 rfl (k := 9) (by decide) wt1287 (Or.inl rfl) rfl (hs'.e (by decide)) ?_
              refine r_return dX12_next_336 rfl ?_
              have ek : tkk ((bs.drop p).take (arun (bs.drop p))) = 4 := rkt_4 (fun z => hall z.1) (fun z => by have := all_hd (by omega) z.1; rw [hw0, sml_dgt h1] at this; cases this)
              refine ⟨rfl, ((f0.mono tNx_y).tr f1).i rfl, ⟨?_, ?_, fun z => ?_, fun z => ?_, fun z => ?_⟩, p + arun (bs.drop p), by omega, f3.fr (Fr.rf.i rfl), ?_⟩
              · show _ = nI (rkt (tkk _)); rw [ek, gI_sI, if_pos ⟨rfl, rfl, rfl⟩]; rfl
              · rw [gI_sI, if_neg (by omega)]; exact hat
              · have z : tkk ((bs.drop p).take (arun (bs.drop p))) = 2 := z; rw [ek] at z; exact absurd z (by decide)
              · have z : tkk ((bs.drop p).take (arun (bs.drop p))) = 3 := z; rw [ek] at z; exact absurd z (by decide)
              · have z : 5 ≤ tkk ((bs.drop p).take (arun (bs.drop p))) := z; rw [ek] at z; exact absurd z (by decide)
              · have hne := lexA_ne (bs := bs) (lim := lim) (p := p + arun (bs.drop p)); cases q : lexA bs lim (p + arun (bs.drop p)) with | nil => exact absurd q hne | cons x r => rfl
          · refine r_aload_n (q := 32) dX12_next_31 rfl rfl rfl ?_
            refine r_aload_n (q := 33) dX12_next_32 rfl rfl rfl ?_
            refine r_geti (q := 36) ck12 dX12_next_33 rfl (k := 4) (by decide) wt1282 (Or.inl rfl) (hs.e (by decide)) ?_
            refine r_topi (y := nI p) hx.2.2.2 ?_
            refine r_puti (q := 39) ck12 dX12_next_36 rfl (k := 10) (by decide) wt1288 (Or.inl rfl) rfl (hs.e (by decide)) ?_
            refine r_aload_n (q := 40) dX12_next_39 rfl rfl rfl ?_
            refine r_iconst (q := 41) (nI 0) dX12_next_40 rfl (by decide) ?_
            refine r_puti (q := 44) ck12 dX12_next_41 rfl (k := 11) (by decide) wt1289 (Or.inl rfl) rfl (hs.e (by decide)) ?_
            refine r_aload_n (q := 45) dX12_next_44 rfl rfl rfl ?_
            refine r_geti (q := 48) ck12 dX12_next_45 rfl (k := 3) (by decide) wt1281 (Or.inl rfl) (hs.e (by decide)) ?_
            refine r_topi (y := gI S 12 0 3) (by simp [gI_sI, gJ_sJ, gI_sJ, gJ_sI]) ?_
            refine r_topi (y := nI bs.length) hx.2.1 ?_
            refine r_aload_n (q := 49) dX12_next_48 rfl rfl rfl ?_
            refine r_geti (q := 52) ck12 dX12_next_49 rfl (k := 5) (by decide) wt1283 (Or.inl rfl) (hs.e (by decide)) ?_
            refine r_topi (y := gI S 12 0 5) (by simp [gI_sI, gJ_sJ, gI_sJ, gJ_sI]) ?_
            refine r_topi (y := nI lim) hx.2.2.1 ?_
            refine r_icmp_leN (q := 55) (t := 80) (by omega) (by omega) dX12_next_52 (by decide) rfl (fun h52 => ?_) (fun h52 => absurd h52 (by omega))
            refine r_aload_n (q := 81) dX12_next_80 rfl rfl rfl ?_
            refine r_callV (Mc := mX12_peek) (q := 84) (As := []) (st := []) ck12 dX12_next_81 rfl rfl mkX12_peek wt1577 wt1579 wp71 rfl (Nat.le_of_ble_eq_true rfl) (Nat.le_of_ble_eq_true rfl) (by decide) (by decide) (by decide) (Or.inl rfl) (hs.e (by decide)) (ok_peek_in (S := sI (sI S 12 0 10 (nI p)) 12 0 11 (nI 0)) hs hbl (hx.fr ((Fr.rf.i rfl).i rfl)) (by omega)) (fun r81 S81 hp81 => ?_)
            obtain ⟨rfl, hq81⟩ := hp81
            rw [hq81]
            show Ok _ _ _ [zi (nI (bs.getD p 0))] _ _
            refine r_istore_n (q := 85) (L' := [some (zr 12 0), some (zi (nI (bs.getD p 0))), none, none]) dX12_next_84 rfl rfl (by decide) rfl ?_
            refine r_iload_n (q := 86) dX12_next_85 rfl rfl rfl ?_
            refine r_if_geN (q := 89) (t := 95) (by omega) dX12_next_86 (by decide) rfl ?_
            refine r_iload_n (q := 96) dX12_next_95 rfl rfl rfl ?_
            refine r_callS (Mc := mX12_isSmall) (q := 99) (As := [zi (nI (bs.getD p 0))]) (st := []) dX12_next_96 rfl rfl mkX12_isSmall wt1581 wt1582 rfl (Nat.le_of_ble_eq_true rfl) (Nat.le_of_ble_eq_true rfl) (by decide) (by decide) (by decide) (Or.inl rfl) hs.some (ok_X12_isSmall hlt) (fun r96 S96 hp96 => ?_)
            obtain ⟨rfl, hq96⟩ := hp96
            rw [hq96]
            rw [if_pos h1]
            show Ok _ _ _ [zi (nI 1)] _ _
            refine r_if_neN (q := 102) (t := 164) (by omega) dX12_next_99 (by decide) rfl (fun h99 => ?_) (fun h99 => absurd h99 (by omega))
            refine r_iload_n (q := 165) dX12_next_164 rfl rfl rfl ?_
            refine r_callS (Mc := mX12_isSmall) (q := 168) (As := [zi (nI (bs.getD p 0))]) (st := []) dX12_next_165 rfl rfl mkX12_isSmall wt1581 wt1582 rfl (Nat.le_of_ble_eq_true rfl) (Nat.le_of_ble_eq_true rfl) (by decide) (by decide) (by decide) (Or.inl rfl) hs.some (ok_X12_isSmall hlt) (fun r165 S165 hp165 => ?_)
            obtain ⟨rfl, hq165⟩ := hp165
            rw [hq165]
            rw [if_pos h1]
            show Ok _ _ _ [zi (nI 1)] _ _
            refine r_istore_n (q := 169) (L' := [some (zr 12 0), some (zi (nI (bs.getD p 0))), some (zi (nI 1)), none]) dX12_next_168 rfl rfl (by decide) rfl ?_
            refine r_iconst (q := 170) (nI 1) dX12_next_169 rfl (by decide) ?_
            refine r_istore_n (q := 171) (L' := [some (zr 12 0), some (zi (nI (bs.getD p 0))), some (zi (nI 1)), some (zi (nI 1))]) dX12_next_170 rfl rfl (by decide) rfl ?_
            refine r_aload_n (q := 172) dX12_next_171 rfl rfl rfl ?_
            refine r_lconst (q := 173) (0 : Int64) dX12_next_172 rfl rfl ?_
            refine r_topl (y := lN 0) rfl ?_
            refine r_putl (q := 176) ck12 dX12_next_173 rfl (k := 15) (by decide) wt1293 (Or.inl rfl) rfl (hs.e (by decide)) ?_
            refine r_aload_n (q := 177) dX12_next_176 rfl rfl rfl ?_
            refine r_iconst (q := 178) (nI 0) dX12_next_177 rfl (by decide) ?_
            refine r_puti (q := 181) ck12 dX12_next_178 rfl (k := 12) (by decide) wt1290 (Or.inl rfl) rfl (hs.e (by decide)) ?_
            have f0 : Fr tNy S (sI (sJ (sI (sI S 12 0 10 (nI p)) 12 0 11 (nI 0)) 12 0 15 (lN 0)) 12 0 12 (nI 0)) := ((((Fr.rf.i rfl).i rfl).j rfl).i rfl)
            refine lp_nw_1 hbl (by omega) (arun (bs.drop p)) 0 (sI (sJ (sI (sI S 12 0 10 (nI p)) 12 0 11 (nI 0)) 12 0 15 (lN 0)) 12 0 12 (nI 0)) 1 (by omega) (by simp) hs (hx.fr f0) (by (repeat (first | rw [gI_sI, if_neg (by omega)] | rw [gI_sI, if_pos ⟨rfl, rfl, rfl⟩] | rw [gI_sJ]))) ⟨fun _ _ => (by (repeat (first | rw [gJ_sI] | rw [gJ_sJ, if_pos ⟨rfl, rfl, rfl⟩])); first | done | rfl | (exfalso; omega)), fun _ _ => (by (repeat (first | rw [gI_sI, if_neg (by omega)] | rw [gI_sI, if_pos ⟨rfl, rfl, rfl⟩] | rw [gI_sJ])); first | done | rfl | (exfalso; omega))⟩ (fun S' f1 f2 f3 f4 f5 => ?_)
            have hs' : Sd S' := Sd.fr hs ((f0.mono tNx_y).tr f1)
            have hat : gI S' 12 0 10 = nI p := f2.trans (by (repeat (first | rw [gI_sI, if_neg (by omega)] | rw [gI_sI, if_pos ⟨rfl, rfl, rfl⟩] | rw [gI_sJ])))
            by_cases hall : ((bs.drop p).take (arun (bs.drop p))).all sml = true
            · rw [if_pos hall]
              refine r_aload_n (q := 299) dX12_next_298 rfl rfl rfl ?_
              refine r_iload_n (q := 300) dX12_next_299 rfl rfl rfl ?_
              refine r_if_eqN (q := 303) (t := 320) (by omega) dX12_next_300 (by decide) rfl (fun h300 => absurd h300 (by omega)) (fun h300 => ?_)
              refine r_aload_n (q := 304) dX12_next_303 rfl rfl rfl ?_
              refine r_geti (q := 307) ck12 dX12_next_304 rfl (k := 11) (by decide) wt1289 (Or.inl rfl) (hs'.e (by decide)) ?_
              refine r_topi (y := nI (arun (bs.drop p))) f4 ?_
              refine r_iload_n (q := 308) dX12_next_307 rfl rfl rfl ?_
              refine r_if_eqN (q := 311) (t := 316) (by omega) dX12_next_308 (by decide) rfl (fun h308 => absurd h308 (by omega)) (fun h308 => ?_)
              refine r_bipush (q := 313) (nI 6) dX12_next_311 rfl (by decide) ?_
              refine r_goto (q := 317) dX12_next_313 (by decide) ?_
              refine r_icmp_leN (q := 320) (t := 324) (by omega) (by omega) dX12_next_317 (by decide) rfl (fun h317 => ?_) (fun h317 => ?_)
              · skip
                refine r_iload_n (q := 325) dX12_next_324 rfl rfl rfl ?_
                refine r_if_eqN (q := 328) (t := 332) (by omega) dX12_next_325 (by decide) rfl (fun h325 => absurd h325 (by omega)) (fun h325 => ?_)
                refine r_iconst (q := 329) (nI 1) dX12_next_328 rfl (by decide) ?_
                refine r_goto (q := 333) dX12_next_329 (by decide) ?_
                refine r_puti (q := 336) ck12 dX12_next_333 rfl (k := 9) (by decide) wt1287 (Or.inl rfl) rfl (hs'.e (by decide)) ?_
                refine r_return dX12_next_336 rfl ?_
                have ek : tkk ((bs.drop p).take (arun (bs.drop p))) = 2 := rkt_w ⟨hall, by omega⟩
                refine ⟨rfl, ((f0.mono tNx_y).tr f1).i rfl, ⟨?_, ?_, fun z => ?_, fun z => ?_, fun z => ?_⟩, p + arun (bs.drop p), by omega, f3.fr (Fr.rf.i rfl), ?_⟩
                · show _ = nI (rkt (tkk _)); rw [ek, gI_sI, if_pos ⟨rfl, rfl, rfl⟩]; rfl
                · rw [gI_sI, if_neg (by omega)]; exact hat
                · have z : tkk ((bs.drop p).take (arun (bs.drop p))) = 2 := z; show _ = lN (tkv _); unfold tkv; rw [if_pos hall]; exact f5.1 hall (by omega)
                · have z : tkk ((bs.drop p).take (arun (bs.drop p))) = 3 := z; rw [ek] at z; exact absurd z (by decide)
                · have z : 5 ≤ tkk ((bs.drop p).take (arun (bs.drop p))) := z; rw [ek] at z; exact absurd z (by decide)
                · have hne := lexA_ne (bs := bs) (lim := lim) (p := p + arun (bs.drop p)); cases q : lexA bs lim (p + arun (bs.drop p)) with | nil => exact absurd q hne | cons x r => rfl
              · skip
                refine r_iconst (q := 321) (nI 4) dX12_next_320 rfl (by decide) ?_
                refine r_goto (q := 333) dX12_next_321 (by decide) ?_
                refine r_puti (q := 336) ck12 dX12_next_333 rfl (k := 9) (by decide) wt1287 (Or.inl rfl) rfl (hs'.e (by decide)) ?_
                refine r_return dX12_next_336 rfl ?_
                have ek : tkk ((bs.drop p).take (arun (bs.drop p))) = 4 := rkt_4 (fun z => by omega) (fun z => by have := all_hd (by omega) z.1; rw [hw0, sml_dgt h1] at this; cases this)
                refine ⟨rfl, ((f0.mono tNx_y).tr f1).i rfl, ⟨?_, ?_, fun z => ?_, fun z => ?_, fun z => ?_⟩, p + arun (bs.drop p), by omega, f3.fr (Fr.rf.i rfl), ?_⟩
                · show _ = nI (rkt (tkk _)); rw [ek, gI_sI, if_pos ⟨rfl, rfl, rfl⟩]; rfl
                · rw [gI_sI, if_neg (by omega)]; exact hat
                · have z : tkk ((bs.drop p).take (arun (bs.drop p))) = 2 := z; rw [ek] at z; exact absurd z (by decide)
                · have z : tkk ((bs.drop p).take (arun (bs.drop p))) = 3 := z; rw [ek] at z; exact absurd z (by decide)
                · have z : 5 ≤ tkk ((bs.drop p).take (arun (bs.drop p))) := z; rw [ek] at z; exact absurd z (by decide)
                · have hne := lexA_ne (bs := bs) (lim := lim) (p := p + arun (bs.drop p)); cases q : lexA bs lim (p + arun (bs.drop p)) with | nil => exact absurd q hne | cons x r => rfl
            · rw [if_neg hall]
              refine r_aload_n (q := 299) dX12_next_298 rfl rfl rfl ?_
              refine r_iload_n (q := 300) dX12_next_299 rfl rfl rfl ?_
              refine r_if_eqN (q := 303) (t := 320) (by omega) dX12_next_300 (by decide) rfl (fun h300 => ?_) (fun h300 => absurd h300 (by omega))
              refine r_iconst (q := 321) (nI 4) dX12_next_320 rfl (by decide) ?_
              refine r_goto (q := 333) dX12_next_321 (by decide) ?_
              refine r_puti (q := 336) ck12 dX12_next_333 rfl (k := 9) (by decide) wt1287 (Or.inl rfl) rfl (hs'.e (by decide)) ?_
              refine r_return dX12_next_336 rfl ?_
              have ek : tkk ((bs.drop p).take (arun (bs.drop p))) = 4 := rkt_4 (fun z => hall z.1) (fun z => by have := all_hd (by omega) z.1; rw [hw0, sml_dgt h1] at this; cases this)
              refine ⟨rfl, ((f0.mono tNx_y).tr f1).i rfl, ⟨?_, ?_, fun z => ?_, fun z => ?_, fun z => ?_⟩, p + arun (bs.drop p), by omega, f3.fr (Fr.rf.i rfl), ?_⟩
              · show _ = nI (rkt (tkk _)); rw [ek, gI_sI, if_pos ⟨rfl, rfl, rfl⟩]; rfl
              · rw [gI_sI, if_neg (by omega)]; exact hat
              · have z : tkk ((bs.drop p).take (arun (bs.drop p))) = 2 := z; rw [ek] at z; exact absurd z (by decide)
              · have z : tkk ((bs.drop p).take (arun (bs.drop p))) = 3 := z; rw [ek] at z; exact absurd z (by decide)
              · have z : 5 ≤ tkk ((bs.drop p).take (arun (bs.drop p))) := z; rw [ek] at z; exact absurd z (by decide)
              · have hne := lexA_ne (bs := bs) (lim := lim) (p := p + arun (bs.drop p)); cases q : lexA bs lim (p + arun (bs.drop p)) with | nil => exact absurd q hne | cons x r => rfl
        · have h2 := aln_d ha h1
          by_cases hll : lim < bs.length
          · refine r_aload_n (q := 32) dX12_next_31 rfl rfl rfl ?_
            refine r_aload_n (q := 33) dX12_next_32 rfl rfl rfl ?_
            refine r_geti (q := 36) ck12 dX12_next_33 rfl (k := 4) (by decide) wt1282 (Or.inl rfl) (hs.e (by decide)) ?_
            refine r_topi (y := nI p) hx.2.2.2 ?_
            refine r_puti (q := 39) ck12 dX12_next_36 rfl (k := 10) (by decide) wt1288 (Or.inl rfl) rfl (hs.e (by decide)) ?_
            refine r_aload_n (q := 40) dX12_next_39 rfl rfl rfl ?_
            refine r_iconst (q := 41) (nI 0) dX12_next_40 rfl (by decide) ?_
            refine r_puti (q := 44) ck12 dX12_next_41 rfl (k := 11) (by decide) wt1289 (Or.inl rfl) rfl (hs.e (by decide)) ?_
            refine r_aload_n (q := 45) dX12_next_44 rfl rfl rfl ?_
            refine r_geti (q := 48) ck12 dX12_next_45 rfl (k := 3) (by decide) wt1281 (Or.inl rfl) (hs.e (by decide)) ?_
            refine r_topi (y := gI S 12 0 3) (by simp [gI_sI, gJ_sJ, gI_sJ, gJ_sI]) ?_
            refine r_topi (y := nI bs.length) hx.2.1 ?_
            refine r_aload_n (q := 49) dX12_next_48 rfl rfl rfl ?_
            refine r_geti (q := 52) ck12 dX12_next_49 rfl (k := 5) (by decide) wt1283 (Or.inl rfl) (hs.e (by decide)) ?_
            refine r_topi (y := gI S 12 0 5) (by simp [gI_sI, gJ_sJ, gI_sJ, gJ_sI]) ?_
            refine r_topi (y := nI lim) hx.2.2.1 ?_
            refine r_icmp_leN (q := 55) (t := 80) (by omega) (by omega) dX12_next_52 (by decide) rfl (fun h52 => absurd h52 (by omega)) (fun h52 => ?_)
            refine r_aload_n (q := 56) dX12_next_55 rfl rfl rfl ?_
            refine r_geti (q := 59) ck12 dX12_next_56 rfl (k := 4) (by decide) wt1282 (Or.inl rfl) (hs.e (by decide)) ?_
            refine r_topi (y := gI S 12 0 4) (by simp [gI_sI, gJ_sJ, gI_sJ, gJ_sI]) ?_
            refine r_topi (y := nI p) hx.2.2.2 ?_
            refine r_aload_n (q := 60) dX12_next_59 rfl rfl rfl ?_
            refine r_geti (q := 63) ck12 dX12_next_60 rfl (k := 5) (by decide) wt1283 (Or.inl rfl) (hs.e (by decide)) ?_
            refine r_topi (y := gI S 12 0 5) (by simp [gI_sI, gJ_sJ, gI_sJ, gJ_sI]) ?_
            refine r_topi (y := nI lim) hx.2.2.1 ?_
            refine r_icmp_ltN (q := 66) (t := 80) (by omega) (by omega) dX12_next_63 (by decide) rfl (fun h63 => ?_) (fun h63 => absurd h63 (by omega))
            refine r_aload_n (q := 81) dX12_next_80 rfl rfl rfl ?_
            refine r_callV (Mc := mX12_peek) (q := 84) (As := []) (st := []) ck12 dX12_next_81 rfl rfl mkX12_peek wt1577 wt1579 wp71 rfl (Nat.le_of_ble_eq_true rfl) (Nat.le_of_ble_eq_true rfl) (by decide) (by decide) (by decide) (Or.inl rfl) (hs.e (by decide)) (ok_peek_in (S := sI (sI S 12 0 10 (nI p)) 12 0 11 (nI 0)) hs hbl (hx.fr ((Fr.rf.i rfl).i rfl)) (by omega)) (fun r81 S81 hp81 => ?_)
            obtain ⟨rfl, hq81⟩ := hp81
            rw [hq81]
            show Ok _ _ _ [zi (nI (bs.getD p 0))] _ _
            refine r_istore_n (q := 85) (L' := [some (zr 12 0), some (zi (nI (bs.getD p 0))), none, none]) dX12_next_84 rfl rfl (by decide) rfl ?_
            refine r_iload_n (q := 86) dX12_next_85 rfl rfl rfl ?_
            refine r_if_geN (q := 89) (t := 95) (by omega) dX12_next_86 (by decide) rfl ?_
            refine r_iload_n (q := 96) dX12_next_95 rfl rfl rfl ?_
            refine r_callS (Mc := mX12_isSmall) (q := 99) (As := [zi (nI (bs.getD p 0))]) (st := []) dX12_next_96 rfl rfl mkX12_isSmall wt1581 wt1582 rfl (Nat.le_of_ble_eq_true rfl) (Nat.le_of_ble_eq_true rfl) (by decide) (by decide) (by decide) (Or.inl rfl) hs.some (ok_X12_isSmall hlt) (fun r96 S96 hp96 => ?_)
            obtain ⟨rfl, hq96⟩ := hp96
            rw [hq96]
            rw [if_neg h1]
            show Ok _ _ _ [zi (nI 0)] _ _
            refine r_if_neN (q := 102) (t := 164) (by omega) dX12_next_99 (by decide) rfl (fun h99 => absurd h99 (by omega)) (fun h99 => ?_)
            refine r_iload_n (q := 103) dX12_next_102 rfl rfl rfl ?_
            refine r_callS (Mc := mX12_isDigit) (q := 106) (As := [zi (nI (bs.getD p 0))]) (st := []) dX12_next_103 rfl rfl mkX12_isDigit wt1584 wt1585 rfl (Nat.le_of_ble_eq_true rfl) (Nat.le_of_ble_eq_true rfl) (by decide) (by decide) (by decide) (Or.inl rfl) hs.some (ok_X12_isDigit hlt) (fun r103 S103 hp103 => ?_)
            obtain ⟨rfl, hq103⟩ := hp103
            rw [hq103]
            rw [if_pos h2]
            show Ok _ _ _ [zi (nI 1)] _ _
            refine r_if_neN (q := 109) (t := 164) (by omega) dX12_next_106 (by decide) rfl (fun h106 => ?_) (fun h106 => absurd h106 (by omega))
            refine r_iload_n (q := 165) dX12_next_164 rfl rfl rfl ?_
            refine r_callS (Mc := mX12_isSmall) (q := 168) (As := [zi (nI (bs.getD p 0))]) (st := []) dX12_next_165 rfl rfl mkX12_isSmall wt1581 wt1582 rfl (Nat.le_of_ble_eq_true rfl) (Nat.le_of_ble_eq_true rfl) (by decide) (by decide) (by decide) (Or.inl rfl) hs.some (ok_X12_isSmall hlt) (fun r165 S165 hp165 => ?_)
            obtain ⟨rfl, hq165⟩ := hp165
            rw [hq165]
            rw [if_neg h1]
            show Ok _ _ _ [zi (nI 0)] _ _
            refine r_istore_n (q := 169) (L' := [some (zr 12 0), some (zi (nI (bs.getD p 0))), some (zi (nI 0)), none]) dX12_next_168 rfl rfl (by decide) rfl ?_
            refine r_iconst (q := 170) (nI 1) dX12_next_169 rfl (by decide) ?_
            refine r_istore_n (q := 171) (L' := [some (zr 12 0), some (zi (nI (bs.getD p 0))), some (zi (nI 0)), some (zi (nI 1))]) dX12_next_170 rfl rfl (by decide) rfl ?_
            refine r_aload_n (q := 172) dX12_next_171 rfl rfl rfl ?_
            refine r_lconst (q := 173) (0 : Int64) dX12_next_172 rfl rfl ?_
            refine r_topl (y := lN 0) rfl ?_
            refine r_putl (q := 176) ck12 dX12_next_173 rfl (k := 15) (by decide) wt1293 (Or.inl rfl) rfl (hs.e (by decide)) ?_
            refine r_aload_n (q := 177) dX12_next_176 rfl rfl rfl ?_
            refine r_iconst (q := 178) (nI 0) dX12_next_177 rfl (by decide) ?_
            refine r_puti (q := 181) ck12 dX12_next_178 rfl (k := 12) (by decide) wt1290 (Or.inl rfl) rfl (hs.e (by decide)) ?_
            have f0 : Fr tNy S (sI (sJ (sI (sI S 12 0 10 (nI p)) 12 0 11 (nI 0)) 12 0 15 (lN 0)) 12 0 12 (nI 0)) := ((((Fr.rf.i rfl).i rfl).j rfl).i rfl)
            refine lp_nw_0 hbl (by omega) (arun (bs.drop p)) 0 (sI (sJ (sI (sI S 12 0 10 (nI p)) 12 0 11 (nI 0)) 12 0 15 (lN 0)) 12 0 12 (nI 0)) 1 (by omega) (by simp) hs (hx.fr f0) (by (repeat (first | rw [gI_sI, if_neg (by omega)] | rw [gI_sI, if_pos ⟨rfl, rfl, rfl⟩] | rw [gI_sJ]))) ⟨fun _ _ => (by (repeat (first | rw [gJ_sI] | rw [gJ_sJ, if_pos ⟨rfl, rfl, rfl⟩])); first | done | rfl | (exfalso; omega)), fun _ _ => (by (repeat (first | rw [gI_sI, if_neg (by omega)] | rw [gI_sI, if_pos ⟨rfl, rfl, rfl⟩] | rw [gI_sJ])); first | done | rfl | (exfalso; omega))⟩ (fun S' f1 f2 f3 f4 f5 => ?_)
            have hs' : Sd S' := Sd.fr hs ((f0.mono tNx_y).tr f1)
            have hat : gI S' 12 0 10 = nI p := f2.trans (by (repeat (first | rw [gI_sI, if_neg (by omega)] | rw [gI_sI, if_pos ⟨rfl, rfl, rfl⟩] | rw [gI_sJ])))
            by_cases hall : ((bs.drop p).take (arun (bs.drop p))).all dgt = true
            · rw [if_pos hall]
              refine r_aload_n (q := 299) dX12_next_298 rfl rfl rfl ?_
              refine r_iload_n (q := 300) dX12_next_299 rfl rfl rfl ?_
              refine r_if_eqN (q := 303) (t := 320) (by omega) dX12_next_300 (by decide) rfl (fun h300 => absurd h300 (by omega)) (fun h300 => ?_)
              refine r_aload_n (q := 304) dX12_next_303 rfl rfl rfl ?_
              refine r_geti (q := 307) ck12 dX12_next_304 rfl (k := 11) (by decide) wt1289 (Or.inl rfl) (hs'.e (by decide)) ?_
              refine r_topi (y := nI (arun (bs.drop p))) f4 ?_
              refine r_iload_n (q := 308) dX12_next_307 rfl rfl rfl ?_
              refine r_if_eqN (q := 311) (t := 316) (by omega) dX12_next_308 (by decide) rfl (fun h308 => ?_) (fun h308 => absurd h308 (by omega))
              refine r_iconst (q := 317) (nI 2) dX12_next_316 rfl (by decide) ?_
              refine r_icmp_leN (q := 320) (t := 324) (by omega) (by omega) dX12_next_317 (by decide) rfl (fun h317 => ?_) (fun h317 => ?_)
              · skip
                refine r_iload_n (q := 325) dX12_next_324 rfl rfl rfl ?_
                refine r_if_eqN (q := 328) (t := 332) (by omega) dX12_next_325 (by decide) rfl (fun h325 => ?_) (fun h325 => absurd h325 (by omega))
                refine r_iconst (q := 333) (nI 2) dX12_next_332 rfl (by decide) ?_
                refine r_puti (q := 336) ck12 dX12_next_333 rfl (k := 9) (by decide) wt1287 (Or.inl rfl) rfl (hs'.e (by decide)) ?_
                refine r_return dX12_next_336 rfl ?_
                have ek : tkk ((bs.drop p).take (arun (bs.drop p))) = 3 := rkt_n (fun z => by have := all_hd (by omega) z; rw [hw0] at this; exact h1 this) ⟨hall, by omega⟩
                refine ⟨rfl, ((f0.mono tNx_y).tr f1).i rfl, ⟨?_, ?_, fun z => ?_, fun z => ?_, fun z => ?_⟩, p + arun (bs.drop p), by omega, f3.fr (Fr.rf.i rfl), ?_⟩
                · show _ = nI (rkt (tkk _)); rw [ek, gI_sI, if_pos ⟨rfl, rfl, rfl⟩]; rfl
                · rw [gI_sI, if_neg (by omega)]; exact hat
                · have z : tkk ((bs.drop p).take (arun (bs.drop p))) = 2 := z; rw [ek] at z; exact absurd z (by decide)
                · have z : tkk ((bs.drop p).take (arun (bs.drop p))) = 3 := z; show _ = nI (tkv _); unfold tkv; rw [if_neg (fun y => by have := all_hd (by omega) y; rw [hw0] at this; exact h1 this), gI_sI, if_neg (by omega)]; exact f5.2 hall (by omega)
                · have z : 5 ≤ tkk ((bs.drop p).take (arun (bs.drop p))) := z; rw [ek] at z; exact absurd z (by decide)
                · have hne := lexA_ne (bs := bs) (lim := lim) (p := p + arun (bs.drop p)); cases q : lexA bs lim (p + arun (bs.drop p)) with | nil => exact absurd q hne | cons x r => rfl
              · skip
                refine r_iconst (q := 321) (nI 4) dX12_next_320 rfl (by decide) ?_
                refine r_goto (q := 333) dX12_next_321 (by decide) ?_
                refine r_puti (q := 336) ck12 dX12_next_333 rfl (k := 9) (by decide) wt1287 (Or.inl rfl) rfl (hs'.e (by decide)) ?_
                refine r_return dX12_next_336 rfl ?_
                have ek : tkk ((bs.drop p).take (arun (bs.drop p))) = 4 := rkt_4 (fun z => by have := all_hd (by omega) z.1; rw [hw0] at this; exact h1 this) (fun z => by omega)
                refine ⟨rfl, ((f0.mono tNx_y).tr f1).i rfl, ⟨?_, ?_, fun z => ?_, fun z => ?_, fun z => ?_⟩, p + arun (bs.drop p), by omega, f3.fr (Fr.rf.i rfl), ?_⟩
                · show _ = nI (rkt (tkk _)); rw [ek, gI_sI, if_pos ⟨rfl, rfl, rfl⟩]; rfl
                · rw [gI_sI, if_neg (by omega)]; exact hat
                · have z : tkk ((bs.drop p).take (arun (bs.drop p))) = 2 := z; rw [ek] at z; exact absurd z (by decide)
                · have z : tkk ((bs.drop p).take (arun (bs.drop p))) = 3 := z; rw [ek] at z; exact absurd z (by decide)
                · have z : 5 ≤ tkk ((bs.drop p).take (arun (bs.drop p))) := z; rw [ek] at z; exact absurd z (by decide)
                · have hne := lexA_ne (bs := bs) (lim := lim) (p := p + arun (bs.drop p)); cases q : lexA bs lim (p + arun (bs.drop p)) with | nil => exact absurd q hne | cons x r => rfl
            · rw [if_neg hall]
              refine r_aload_n (q := 299) dX12_next_298 rfl rfl rfl ?_
              refine r_iload_n (q := 300) dX12_next_299 rfl rfl rfl ?_
              refine r_if_eqN (q := 303) (t := 320) (by omega) dX12_next_300 (by decide) rfl (fun h300 => ?_) (fun h300 => absurd h300 (by omega))
              refine r_iconst (q := 321) (nI 4) dX12_next_320 rfl (by decide) ?_
              refine r_goto (q := 333) dX12_next_321 (by decide) ?_
              refine r_puti (q := 336) ck12 dX12_next_333 rfl (k := 9) (by decide) wt1287 (Or.inl rfl) rfl (hs'.e (by decide)) ?_
              refine r_return dX12_next_336 rfl ?_
              have ek : tkk ((bs.drop p).take (arun (bs.drop p))) = 4 := rkt_4 (fun z => by have := all_hd (by omega) z.1; rw [hw0] at this; exact h1 this) (fun z => hall z.1)
              refine ⟨rfl, ((f0.mono tNx_y).tr f1).i rfl, ⟨?_, ?_, fun z => ?_, fun z => ?_, fun z => ?_⟩, p + arun (bs.drop p), by omega, f3.fr (Fr.rf.i rfl), ?_⟩
              · show _ = nI (rkt (tkk _)); rw [ek, gI_sI, if_pos ⟨rfl, rfl, rfl⟩]; rfl
              · rw [gI_sI, if_neg (by omega)]; exact hat
              · have z : tkk ((bs.drop p).take (arun (bs.drop p))) = 2 := z; rw [ek] at z; exact absurd z (by decide)
              · have z : tkk ((bs.drop p).take (arun (bs.drop p))) = 3 := z; rw [ek] at z; exact absurd z (by decide)
              · have z : 5 ≤ tkk ((bs.drop p).take (arun (bs.drop p))) := z; rw [ek] at z; exact absurd z (by decide)
              · have hne := lexA_ne (bs := bs) (lim := lim) (p := p + arun (bs.drop p)); cases q : lexA bs lim (p + arun (bs.drop p)) with | nil => exact absurd q hne | cons x r => rfl
          · refine r_aload_n (q := 32) dX12_next_31 rfl rfl rfl ?_
            refine r_aload_n (q := 33) dX12_next_32 rfl rfl rfl ?_
            refine r_geti (q := 36) ck12 dX12_next_33 rfl (k := 4) (by decide) wt1282 (Or.inl rfl) (hs.e (by decide)) ?_
            refine r_topi (y := nI p) hx.2.2.2 ?_
            refine r_puti (q := 39) ck12 dX12_next_36 rfl (k := 10) (by decide) wt1288 (Or.inl rfl) rfl (hs.e (by decide)) ?_
            refine r_aload_n (q := 40) dX12_next_39 rfl rfl rfl ?_
            refine r_iconst (q := 41) (nI 0) dX12_next_40 rfl (by decide) ?_
            refine r_puti (q := 44) ck12 dX12_next_41 rfl (k := 11) (by decide) wt1289 (Or.inl rfl) rfl (hs.e (by decide)) ?_
            refine r_aload_n (q := 45) dX12_next_44 rfl rfl rfl ?_
            refine r_geti (q := 48) ck12 dX12_next_45 rfl (k := 3) (by decide) wt1281 (Or.inl rfl) (hs.e (by decide)) ?_
            refine r_topi (y := gI S 12 0 3) (by simp [gI_sI, gJ_sJ, gI_sJ, gJ_sI]) ?_
            refine r_topi (y := nI bs.length) hx.2.1 ?_
            refine r_aload_n (q := 49) dX12_next_48 rfl rfl rfl ?_
            refine r_geti (q := 52) ck12 dX12_next_49 rfl (k := 5) (by decide) wt1283 (Or.inl rfl) (hs.e (by decide)) ?_
            refine r_topi (y := gI S 12 0 5) (by simp [gI_sI, gJ_sJ, gI_sJ, gJ_sI]) ?_
            refine r_topi (y := nI lim) hx.2.2.1 ?_
            refine r_icmp_leN (q := 55) (t := 80) (by omega) (by omega) dX12_next_52 (by decide) rfl (fun h52 => ?_) (fun h52 => absurd h52 (by omega))
            refine r_aload_n (q := 81) dX12_next_80 rfl rfl rfl ?_
            refine r_callV (Mc := mX12_peek) (q := 84) (As := []) (st := []) ck12 dX12_next_81 rfl rfl mkX12_peek wt1577 wt1579 wp71 rfl (Nat.le_of_ble_eq_true rfl) (Nat.le_of_ble_eq_true rfl) (by decide) (by decide) (by decide) (Or.inl rfl) (hs.e (by decide)) (ok_peek_in (S := sI (sI S 12 0 10 (nI p)) 12 0 11 (nI 0)) hs hbl (hx.fr ((Fr.rf.i rfl).i rfl)) (by omega)) (fun r81 S81 hp81 => ?_)
            obtain ⟨rfl, hq81⟩ := hp81
            rw [hq81]
            show Ok _ _ _ [zi (nI (bs.getD p 0))] _ _
            refine r_istore_n (q := 85) (L' := [some (zr 12 0), some (zi (nI (bs.getD p 0))), none, none]) dX12_next_84 rfl rfl (by decide) rfl ?_
            refine r_iload_n (q := 86) dX12_next_85 rfl rfl rfl ?_
            refine r_if_geN (q := 89) (t := 95) (by omega) dX12_next_86 (by decide) rfl ?_
            refine r_iload_n (q := 96) dX12_next_95 rfl rfl rfl ?_
            refine r_callS (Mc := mX12_isSmall) (q := 99) (As := [zi (nI (bs.getD p 0))]) (st := []) dX12_next_96 rfl rfl mkX12_isSmall wt1581 wt1582 rfl (Nat.le_of_ble_eq_true rfl) (Nat.le_of_ble_eq_true rfl) (by decide) (by decide) (by decide) (Or.inl rfl) hs.some (ok_X12_isSmall hlt) (fun r96 S96 hp96 => ?_)
            obtain ⟨rfl, hq96⟩ := hp96
            rw [hq96]
            rw [if_neg h1]
            show Ok _ _ _ [zi (nI 0)] _ _
            refine r_if_neN (q := 102) (t := 164) (by omega) dX12_next_99 (by decide) rfl (fun h99 => absurd h99 (by omega)) (fun h99 => ?_)
            refine r_iload_n (q := 103) dX12_next_102 rfl rfl rfl ?_
            refine r_callS (Mc := mX12_isDigit) (q := 106) (As := [zi (nI (bs.getD p 0))]) (st := []) dX12_next_103 rfl rfl mkX12_isDigit wt1584 wt1585 rfl (Nat.le_of_ble_eq_true rfl) (Nat.le_of_ble_eq_true rfl) (by decide) (by decide) (by decide) (Or.inl rfl) hs.some (ok_X12_isDigit hlt) (fun r103 S103 hp103 => ?_)
            obtain ⟨rfl, hq103⟩ := hp103
            rw [hq103]
            rw [if_pos h2]
            show Ok _ _ _ [zi (nI 1)] _ _
            refine r_if_neN (q := 109) (t := 164) (by omega) dX12_next_106 (by decide) rfl (fun h106 => ?_) (fun h106 => absurd h106 (by omega))
            refine r_iload_n (q := 165) dX12_next_164 rfl rfl rfl ?_
            refine r_callS (Mc := mX12_isSmall) (q := 168) (As := [zi (nI (bs.getD p 0))]) (st := []) dX12_next_165 rfl rfl mkX12_isSmall wt1581 wt1582 rfl (Nat.le_of_ble_eq_true rfl) (Nat.le_of_ble_eq_true rfl) (by decide) (by decide) (by decide) (Or.inl rfl) hs.some (ok_X12_isSmall hlt) (fun r165 S165 hp165 => ?_)
            obtain ⟨rfl, hq165⟩ := hp165
            rw [hq165]
            rw [if_neg h1]
            show Ok _ _ _ [zi (nI 0)] _ _
            refine r_istore_n (q := 169) (L' := [some (zr 12 0), some (zi (nI (bs.getD p 0))), some (zi (nI 0)), none]) dX12_next_168 rfl rfl (by decide) rfl ?_
            refine r_iconst (q := 170) (nI 1) dX12_next_169 rfl (by decide) ?_
            refine r_istore_n (q := 171) (L' := [some (zr 12 0), some (zi (nI (bs.getD p 0))), some (zi (nI 0)), some (zi (nI 1))]) dX12_next_170 rfl rfl (by decide) rfl ?_
            refine r_aload_n (q := 172) dX12_next_171 rfl rfl rfl ?_
            refine r_lconst (q := 173) (0 : Int64) dX12_next_172 rfl rfl ?_
            refine r_topl (y := lN 0) rfl ?_
            refine r_putl (q := 176) ck12 dX12_next_173 rfl (k := 15) (by decide) wt1293 (Or.inl rfl) rfl (hs.e (by decide)) ?_
            refine r_aload_n (q := 177) dX12_next_176 rfl rfl rfl ?_
            refine r_iconst (q := 178) (nI 0) dX12_next_177 rfl (by decide) ?_
            refine r_puti (q := 181) ck12 dX12_next_178 rfl (k := 12) (by decide) wt1290 (Or.inl rfl) rfl (hs.e (by decide)) ?_
            have f0 : Fr tNy S (sI (sJ (sI (sI S 12 0 10 (nI p)) 12 0 11 (nI 0)) 12 0 15 (lN 0)) 12 0 12 (nI 0)) := ((((Fr.rf.i rfl).i rfl).j rfl).i rfl)
            refine lp_nw_0 hbl (by omega) (arun (bs.drop p)) 0 (sI (sJ (sI (sI S 12 0 10 (nI p)) 12 0 11 (nI 0)) 12 0 15 (lN 0)) 12 0 12 (nI 0)) 1 (by omega) (by simp) hs (hx.fr f0) (by (repeat (first | rw [gI_sI, if_neg (by omega)] | rw [gI_sI, if_pos ⟨rfl, rfl, rfl⟩] | rw [gI_sJ]))) ⟨fun _ _ => (by (repeat (first | rw [gJ_sI] | rw [gJ_sJ, if_pos ⟨rfl, rfl, rfl⟩])); first | done | rfl | (exfalso; omega)), fun _ _ => (by (repeat (first | rw [gI_sI, if_neg (by omega)] | rw [gI_sI, if_pos ⟨rfl, rfl, rfl⟩] | rw [gI_sJ])); first | done | rfl | (exfalso; omega))⟩ (fun S' f1 f2 f3 f4 f5 => ?_)
            have hs' : Sd S' := Sd.fr hs ((f0.mono tNx_y).tr f1)
            have hat : gI S' 12 0 10 = nI p := f2.trans (by (repeat (first | rw [gI_sI, if_neg (by omega)] | rw [gI_sI, if_pos ⟨rfl, rfl, rfl⟩] | rw [gI_sJ])))
            by_cases hall : ((bs.drop p).take (arun (bs.drop p))).all dgt = true
            · rw [if_pos hall]
              refine r_aload_n (q := 299) dX12_next_298 rfl rfl rfl ?_
              refine r_iload_n (q := 300) dX12_next_299 rfl rfl rfl ?_
              refine r_if_eqN (q := 303) (t := 320) (by omega) dX12_next_300 (by decide) rfl (fun h300 => absurd h300 (by omega)) (fun h300 => ?_)
              refine r_aload_n (q := 304) dX12_next_303 rfl rfl rfl ?_
              refine r_geti (q := 307) ck12 dX12_next_304 rfl (k := 11) (by decide) wt1289 (Or.inl rfl) (hs'.e (by decide)) ?_
              refine r_topi (y := nI (arun (bs.drop p))) f4 ?_
              refine r_iload_n (q := 308) dX12_next_307 rfl rfl rfl ?_
              refine r_if_eqN (q := 311) (t := 316) (by omega) dX12_next_308 (by decide) rfl (fun h308 => ?_) (fun h308 => absurd h308 (by omega))
              refine r_iconst (q := 317) (nI 2) dX12_next_316 rfl (by decide) ?_
              refine r_icmp_leN (q := 320) (t := 324) (by omega) (by omega) dX12_next_317 (by decide) rfl (fun h317 => ?_) (fun h317 => ?_)
              · skip
                refine r_iload_n (q := 325) dX12_next_324 rfl rfl rfl ?_
                refine r_if_eqN (q := 328) (t := 332) (by omega) dX12_next_325 (by decide) rfl (fun h325 => ?_) (fun h325 => absurd h325 (by omega))
                refine r_iconst (q := 333) (nI 2) dX12_next_332 rfl (by decide) ?_
                refine r_puti (q := 336) ck12 dX12_next_333 rfl (k := 9) (by decide) wt1287 (Or.inl rfl) rfl (hs'.e (by decide)) ?_
                refine r_return dX12_next_336 rfl ?_
                have ek : tkk ((bs.drop p).take (arun (bs.drop p))) = 3 := rkt_n (fun z => by have := all_hd (by omega) z; rw [hw0] at this; exact h1 this) ⟨hall, by omega⟩
                refine ⟨rfl, ((f0.mono tNx_y).tr f1).i rfl, ⟨?_, ?_, fun z => ?_, fun z => ?_, fun z => ?_⟩, p + arun (bs.drop p), by omega, f3.fr (Fr.rf.i rfl), ?_⟩
                · show _ = nI (rkt (tkk _)); rw [ek, gI_sI, if_pos ⟨rfl, rfl, rfl⟩]; rfl
                · rw [gI_sI, if_neg (by omega)]; exact hat
                · have z : tkk ((bs.drop p).take (arun (bs.drop p))) = 2 := z; rw [ek] at z; exact absurd z (by decide)
                · have z : tkk ((bs.drop p).take (arun (bs.drop p))) = 3 := z; show _ = nI (tkv _); unfold tkv; rw [if_neg (fun y => by have := all_hd (by omega) y; rw [hw0] at this; exact h1 this), gI_sI, if_neg (by omega)]; exact f5.2 hall (by omega)
                · have z : 5 ≤ tkk ((bs.drop p).take (arun (bs.drop p))) := z; rw [ek] at z; exact absurd z (by decide)
                · have hne := lexA_ne (bs := bs) (lim := lim) (p := p + arun (bs.drop p)); cases q : lexA bs lim (p + arun (bs.drop p)) with | nil => exact absurd q hne | cons x r => rfl
              · skip
                refine r_iconst (q := 321) (nI 4) dX12_next_320 rfl (by decide) ?_
                refine r_goto (q := 333) dX12_next_321 (by decide) ?_
                refine r_puti (q := 336) ck12 dX12_next_333 rfl (k := 9) (by decide) wt1287 (Or.inl rfl) rfl (hs'.e (by decide)) ?_
                refine r_return dX12_next_336 rfl ?_
                have ek : tkk ((bs.drop p).take (arun (bs.drop p))) = 4 := rkt_4 (fun z => by have := all_hd (by omega) z.1; rw [hw0] at this; exact h1 this) (fun z => by omega)
                refine ⟨rfl, ((f0.mono tNx_y).tr f1).i rfl, ⟨?_, ?_, fun z => ?_, fun z => ?_, fun z => ?_⟩, p + arun (bs.drop p), by omega, f3.fr (Fr.rf.i rfl), ?_⟩
                · show _ = nI (rkt (tkk _)); rw [ek, gI_sI, if_pos ⟨rfl, rfl, rfl⟩]; rfl
                · rw [gI_sI, if_neg (by omega)]; exact hat
                · have z : tkk ((bs.drop p).take (arun (bs.drop p))) = 2 := z; rw [ek] at z; exact absurd z (by decide)
                · have z : tkk ((bs.drop p).take (arun (bs.drop p))) = 3 := z; rw [ek] at z; exact absurd z (by decide)
                · have z : 5 ≤ tkk ((bs.drop p).take (arun (bs.drop p))) := z; rw [ek] at z; exact absurd z (by decide)
                · have hne := lexA_ne (bs := bs) (lim := lim) (p := p + arun (bs.drop p)); cases q : lexA bs lim (p + arun (bs.drop p)) with | nil => exact absurd q hne | cons x r => rfl
            · rw [if_neg hall]
              refine r_aload_n (q := 299) dX12_next_298 rfl rfl rfl ?_
              refine r_iload_n (q := 300) dX12_next_299 rfl rfl rfl ?_
              refine r_if_eqN (q := 303) (t := 320) (by omega) dX12_next_300 (by decide) rfl (fun h300 => ?_) (fun h300 => absurd h300 (by omega))
              refine r_iconst (q := 321) (nI 4) dX12_next_320 rfl (by decide) ?_
              refine r_goto (q := 333) dX12_next_321 (by decide) ?_
              refine r_puti (q := 336) ck12 dX12_next_333 rfl (k := 9) (by decide) wt1287 (Or.inl rfl) rfl (hs'.e (by decide)) ?_
              refine r_return dX12_next_336 rfl ?_
              have ek : tkk ((bs.drop p).take (arun (bs.drop p))) = 4 := rkt_4 (fun z => by have := all_hd (by omega) z.1; rw [hw0] at this; exact h1 this) (fun z => hall z.1)
              refine ⟨rfl, ((f0.mono tNx_y).tr f1).i rfl, ⟨?_, ?_, fun z => ?_, fun z => ?_, fun z => ?_⟩, p + arun (bs.drop p), by omega, f3.fr (Fr.rf.i rfl), ?_⟩
              · show _ = nI (rkt (tkk _)); rw [ek, gI_sI, if_pos ⟨rfl, rfl, rfl⟩]; rfl
              · rw [gI_sI, if_neg (by omega)]; exact hat
              · have z : tkk ((bs.drop p).take (arun (bs.drop p))) = 2 := z; rw [ek] at z; exact absurd z (by decide)
              · have z : tkk ((bs.drop p).take (arun (bs.drop p))) = 3 := z; rw [ek] at z; exact absurd z (by decide)
              · have z : 5 ≤ tkk ((bs.drop p).take (arun (bs.drop p))) := z; rw [ek] at z; exact absurd z (by decide)
              · have hne := lexA_ne (bs := bs) (lim := lim) (p := p + arun (bs.drop p)); cases q : lexA bs lim (p + arun (bs.drop p)) with | nil => exact absurd q hne | cons x r => rfl
      · have n1 := aln_n ha
        rw [lexA_sg hps ha hnb']
        by_cases hll : lim < bs.length
        · refine r_aload_n (q := 32) dX12_next_31 rfl rfl rfl ?_
          refine r_aload_n (q := 33) dX12_next_32 rfl rfl rfl ?_
          refine r_geti (q := 36) ck12 dX12_next_33 rfl (k := 4) (by decide) wt1282 (Or.inl rfl) (hs.e (by decide)) ?_
          refine r_topi (y := nI p) hx.2.2.2 ?_
          refine r_puti (q := 39) ck12 dX12_next_36 rfl (k := 10) (by decide) wt1288 (Or.inl rfl) rfl (hs.e (by decide)) ?_
          refine r_aload_n (q := 40) dX12_next_39 rfl rfl rfl ?_
          refine r_iconst (q := 41) (nI 0) dX12_next_40 rfl (by decide) ?_
          refine r_puti (q := 44) ck12 dX12_next_41 rfl (k := 11) (by decide) wt1289 (Or.inl rfl) rfl (hs.e (by decide)) ?_
          refine r_aload_n (q := 45) dX12_next_44 rfl rfl rfl ?_
          refine r_geti (q := 48) ck12 dX12_next_45 rfl (k := 3) (by decide) wt1281 (Or.inl rfl) (hs.e (by decide)) ?_
          refine r_topi (y := gI S 12 0 3) (by simp [gI_sI, gJ_sJ, gI_sJ, gJ_sI]) ?_
          refine r_topi (y := nI bs.length) hx.2.1 ?_
          refine r_aload_n (q := 49) dX12_next_48 rfl rfl rfl ?_
          refine r_geti (q := 52) ck12 dX12_next_49 rfl (k := 5) (by decide) wt1283 (Or.inl rfl) (hs.e (by decide)) ?_
          refine r_topi (y := gI S 12 0 5) (by simp [gI_sI, gJ_sJ, gI_sJ, gJ_sI]) ?_
          refine r_topi (y := nI lim) hx.2.2.1 ?_
          refine r_icmp_leN (q := 55) (t := 80) (by omega) (by omega) dX12_next_52 (by decide) rfl (fun h52 => absurd h52 (by omega)) (fun h52 => ?_)
          refine r_aload_n (q := 56) dX12_next_55 rfl rfl rfl ?_
          refine r_geti (q := 59) ck12 dX12_next_56 rfl (k := 4) (by decide) wt1282 (Or.inl rfl) (hs.e (by decide)) ?_
          refine r_topi (y := gI S 12 0 4) (by simp [gI_sI, gJ_sJ, gI_sJ, gJ_sI]) ?_
          refine r_topi (y := nI p) hx.2.2.2 ?_
          refine r_aload_n (q := 60) dX12_next_59 rfl rfl rfl ?_
          refine r_geti (q := 63) ck12 dX12_next_60 rfl (k := 5) (by decide) wt1283 (Or.inl rfl) (hs.e (by decide)) ?_
          refine r_topi (y := gI S 12 0 5) (by simp [gI_sI, gJ_sJ, gI_sJ, gJ_sI]) ?_
          refine r_topi (y := nI lim) hx.2.2.1 ?_
          refine r_icmp_ltN (q := 66) (t := 80) (by omega) (by omega) dX12_next_63 (by decide) rfl (fun h63 => ?_) (fun h63 => absurd h63 (by omega))
          refine r_aload_n (q := 81) dX12_next_80 rfl rfl rfl ?_
          refine r_callV (Mc := mX12_peek) (q := 84) (As := []) (st := []) ck12 dX12_next_81 rfl rfl mkX12_peek wt1577 wt1579 wp71 rfl (Nat.le_of_ble_eq_true rfl) (Nat.le_of_ble_eq_true rfl) (by decide) (by decide) (by decide) (Or.inl rfl) (hs.e (by decide)) (ok_peek_in (S := sI (sI S 12 0 10 (nI p)) 12 0 11 (nI 0)) hs hbl (hx.fr ((Fr.rf.i rfl).i rfl)) (by omega)) (fun r81 S81 hp81 => ?_)
          obtain ⟨rfl, hq81⟩ := hp81
          rw [hq81]
          show Ok _ _ _ [zi (nI (bs.getD p 0))] _ _
          refine r_istore_n (q := 85) (L' := [some (zr 12 0), some (zi (nI (bs.getD p 0))), none, none]) dX12_next_84 rfl rfl (by decide) rfl ?_
          refine r_iload_n (q := 86) dX12_next_85 rfl rfl rfl ?_
          refine r_if_geN (q := 89) (t := 95) (by omega) dX12_next_86 (by decide) rfl ?_
          refine r_iload_n (q := 96) dX12_next_95 rfl rfl rfl ?_
          refine r_callS (Mc := mX12_isSmall) (q := 99) (As := [zi (nI (bs.getD p 0))]) (st := []) dX12_next_96 rfl rfl mkX12_isSmall wt1581 wt1582 rfl (Nat.le_of_ble_eq_true rfl) (Nat.le_of_ble_eq_true rfl) (by decide) (by decide) (by decide) (Or.inl rfl) hs.some (ok_X12_isSmall hlt) (fun r96 S96 hp96 => ?_)
          obtain ⟨rfl, hq96⟩ := hp96
          rw [hq96]
          rw [if_neg (show ¬ sml (bs.getD p 0) = true by rw [n1.1]; decide)]
          show Ok _ _ _ [zi (nI 0)] _ _
          refine r_if_neN (q := 102) (t := 164) (by omega) dX12_next_99 (by decide) rfl (fun h99 => absurd h99 (by omega)) (fun h99 => ?_)
          refine r_iload_n (q := 103) dX12_next_102 rfl rfl rfl ?_
          refine r_callS (Mc := mX12_isDigit) (q := 106) (As := [zi (nI (bs.getD p 0))]) (st := []) dX12_next_103 rfl rfl mkX12_isDigit wt1584 wt1585 rfl (Nat.le_of_ble_eq_true rfl) (Nat.le_of_ble_eq_true rfl) (by decide) (by decide) (by decide) (Or.inl rfl) hs.some (ok_X12_isDigit hlt) (fun r103 S103 hp103 => ?_)
          obtain ⟨rfl, hq103⟩ := hp103
          rw [hq103]
          rw [if_neg (show ¬ dgt (bs.getD p 0) = true by rw [n1.2]; decide)]
          show Ok _ _ _ [zi (nI 0)] _ _
          refine r_if_neN (q := 109) (t := 164) (by omega) dX12_next_106 (by decide) rfl (fun h106 => absurd h106 (by omega)) (fun h106 => ?_)
          refine r_aload_n (q := 110) dX12_next_109 rfl rfl rfl ?_
          refine r_iload_n (q := 111) dX12_next_110 rfl rfl rfl ?_
          refine r_bipush (q := 113) (nI 59) dX12_next_111 rfl (by decide) ?_
          refine r_icmp_eqN (q := 116) (t := 140) (by omega) (by omega) dX12_next_113 (by decide) rfl (fun h113 => ?_) (fun h113 => ?_)
          · skip
            refine r_iconst (q := 141) (nI 3) dX12_next_140 rfl (by decide) ?_
            refine r_goto (q := 145) dX12_next_141 (by decide) ?_
            refine r_puti (q := 148) ck12 dX12_next_145 rfl (k := 9) (by decide) wt1287 (Or.inl rfl) rfl (hs.e (by decide)) ?_
            refine r_aload_n (q := 149) dX12_next_148 rfl rfl rfl ?_
            refine r_iload_n (q := 150) dX12_next_149 rfl rfl rfl ?_
            refine r_puti (q := 153) ck12 dX12_next_150 rfl (k := 12) (by decide) wt1290 (Or.inl rfl) rfl (hs.e (by decide)) ?_
            refine r_aload_n (q := 154) dX12_next_153 rfl rfl rfl ?_
            refine r_dup (q := 155) dX12_next_154 rfl rfl ?_
            refine r_geti (q := 158) ck12 dX12_next_155 rfl (k := 4) (by decide) wt1282 (Or.inl rfl) (hs.e (by decide)) ?_
            refine r_topi (y := gI S 12 0 4) (by simp [gI_sI, gJ_sJ, gI_sJ, gJ_sI]) ?_
            refine r_topi (y := nI p) hx.2.2.2 ?_
            refine r_iconst (q := 159) (nI 1) dX12_next_158 rfl (by decide) ?_
            refine r_iaddN (q := 160) dX12_next_159 rfl ?_
            refine r_puti (q := 163) ck12 dX12_next_160 rfl (k := 4) (by decide) wt1282 (Or.inl rfl) rfl (hs.e (by decide)) ?_
            refine r_return dX12_next_163 rfl ?_
            have f : Fr tNy S (sI (sI (sI (sI S 12 0 10 (nI p)) 12 0 11 (nI 0)) 12 0 9 (nI 3)) 12 0 12 (nI (bs.getD p 0))) := ((((Fr.rf.i rfl).i rfl).i rfl).i rfl)
            have hsg : sgn (bs.getD p 0) = true := sgn_y (by omega)
            rw [hsg]
            refine ⟨rfl, (f.mono tNx_y).i rfl, ⟨?_, ?_, fun z => ?_, fun z => ?_, fun z => ?_⟩, p + 1, by omega, (hx.fr f).p, ?_⟩
            · show _ = nI (rkt (bs.getD p 0)); have : rkt (bs.getD p 0) = 3 := rkt_sg hsg; rw [this]; (repeat (first | rw [gI_sI, if_neg (by omega)] | rw [gI_sI, if_pos ⟨rfl, rfl, rfl⟩])); first | done | rfl | (exfalso; omega)
            · (repeat (first | rw [gI_sI, if_neg (by omega)] | rw [gI_sI, if_pos ⟨rfl, rfl, rfl⟩])); first | done | rfl | (exfalso; omega)
            · have z : bs.getD p 0 = 2 := z; rw [z] at hsg; exact absurd hsg (by decide)
            · have z : bs.getD p 0 = 3 := z; rw [z] at hsg; exact absurd hsg (by decide)
            · (repeat (first | rw [gI_sI, if_neg (by omega)] | rw [gI_sI, if_pos ⟨rfl, rfl, rfl⟩])); first | done | rfl | (exfalso; omega)
            · have hne := lexA_ne (bs := bs) (lim := lim) (p := p + 1); cases q : lexA bs lim (p + 1) with | nil => exact absurd q hne | cons x r => rfl
          · skip
            refine r_iload_n (q := 117) dX12_next_116 rfl rfl rfl ?_
            refine r_bipush (q := 119) (nI 40) dX12_next_117 rfl (by decide) ?_
            refine r_icmp_ltN (q := 122) (t := 134) (by omega) (by omega) dX12_next_119 (by decide) rfl (fun h119 => ?_) (fun h119 => ?_)
            · skip
              refine r_iload_n (q := 135) dX12_next_134 rfl rfl rfl ?_
              refine r_bipush (q := 137) (nI 61) dX12_next_135 rfl (by decide) ?_
              refine r_icmp_neN (q := 140) (t := 144) (by omega) (by omega) dX12_next_137 (by decide) rfl (fun h137 => ?_) (fun h137 => ?_)
              · skip
                refine r_iconst (q := 145) (nI 4) dX12_next_144 rfl (by decide) ?_
                refine r_puti (q := 148) ck12 dX12_next_145 rfl (k := 9) (by decide) wt1287 (Or.inl rfl) rfl (hs.e (by decide)) ?_
                refine r_aload_n (q := 149) dX12_next_148 rfl rfl rfl ?_
                refine r_iload_n (q := 150) dX12_next_149 rfl rfl rfl ?_
                refine r_puti (q := 153) ck12 dX12_next_150 rfl (k := 12) (by decide) wt1290 (Or.inl rfl) rfl (hs.e (by decide)) ?_
                refine r_aload_n (q := 154) dX12_next_153 rfl rfl rfl ?_
                refine r_dup (q := 155) dX12_next_154 rfl rfl ?_
                refine r_geti (q := 158) ck12 dX12_next_155 rfl (k := 4) (by decide) wt1282 (Or.inl rfl) (hs.e (by decide)) ?_
                refine r_topi (y := gI S 12 0 4) (by simp [gI_sI, gJ_sJ, gI_sJ, gJ_sI]) ?_
                refine r_topi (y := nI p) hx.2.2.2 ?_
                refine r_iconst (q := 159) (nI 1) dX12_next_158 rfl (by decide) ?_
                refine r_iaddN (q := 160) dX12_next_159 rfl ?_
                refine r_puti (q := 163) ck12 dX12_next_160 rfl (k := 4) (by decide) wt1282 (Or.inl rfl) rfl (hs.e (by decide)) ?_
                refine r_return dX12_next_163 rfl ?_
                have f : Fr tNy S (sI (sI (sI (sI S 12 0 10 (nI p)) 12 0 11 (nI 0)) 12 0 9 (nI 4)) 12 0 12 (nI (bs.getD p 0))) := ((((Fr.rf.i rfl).i rfl).i rfl).i rfl)
                have hsg : sgn (bs.getD p 0) = false := sgn_n (by omega)
                rw [hsg]
                refine ⟨rfl, (f.mono tNx_y).i rfl, ⟨?_, ?_, fun z => ?_, fun z => ?_, fun z => ?_⟩, p + 1, by omega, (hx.fr f).p, ?_⟩
                · (repeat (first | rw [gI_sI, if_neg (by omega)] | rw [gI_sI, if_pos ⟨rfl, rfl, rfl⟩])); first | done | rfl | (exfalso; omega)
                · (repeat (first | rw [gI_sI, if_neg (by omega)] | rw [gI_sI, if_pos ⟨rfl, rfl, rfl⟩])); first | done | rfl | (exfalso; omega)
                · have z : (4 : Nat) = 2 := z; omega
                · have z : (4 : Nat) = 3 := z; omega
                · have z : 5 ≤ (4 : Nat) := z; omega
                · have hne := lexA_ne (bs := bs) (lim := lim) (p := p + 1); cases q : lexA bs lim (p + 1) with | nil => exact absurd q hne | cons x r => rfl
              · skip
                refine r_iconst (q := 141) (nI 3) dX12_next_140 rfl (by decide) ?_
                refine r_goto (q := 145) dX12_next_141 (by decide) ?_
                refine r_puti (q := 148) ck12 dX12_next_145 rfl (k := 9) (by decide) wt1287 (Or.inl rfl) rfl (hs.e (by decide)) ?_
                refine r_aload_n (q := 149) dX12_next_148 rfl rfl rfl ?_
                refine r_iload_n (q := 150) dX12_next_149 rfl rfl rfl ?_
                refine r_puti (q := 153) ck12 dX12_next_150 rfl (k := 12) (by decide) wt1290 (Or.inl rfl) rfl (hs.e (by decide)) ?_
                refine r_aload_n (q := 154) dX12_next_153 rfl rfl rfl ?_
                refine r_dup (q := 155) dX12_next_154 rfl rfl ?_
                refine r_geti (q := 158) ck12 dX12_next_155 rfl (k := 4) (by decide) wt1282 (Or.inl rfl) (hs.e (by decide)) ?_
                refine r_topi (y := gI S 12 0 4) (by simp [gI_sI, gJ_sJ, gI_sJ, gJ_sI]) ?_
                refine r_topi (y := nI p) hx.2.2.2 ?_
                refine r_iconst (q := 159) (nI 1) dX12_next_158 rfl (by decide) ?_
                refine r_iaddN (q := 160) dX12_next_159 rfl ?_
                refine r_puti (q := 163) ck12 dX12_next_160 rfl (k := 4) (by decide) wt1282 (Or.inl rfl) rfl (hs.e (by decide)) ?_
                refine r_return dX12_next_163 rfl ?_
                have f : Fr tNy S (sI (sI (sI (sI S 12 0 10 (nI p)) 12 0 11 (nI 0)) 12 0 9 (nI 3)) 12 0 12 (nI (bs.getD p 0))) := ((((Fr.rf.i rfl).i rfl).i rfl).i rfl)
                have hsg : sgn (bs.getD p 0) = true := sgn_y (by omega)
                rw [hsg]
                refine ⟨rfl, (f.mono tNx_y).i rfl, ⟨?_, ?_, fun z => ?_, fun z => ?_, fun z => ?_⟩, p + 1, by omega, (hx.fr f).p, ?_⟩
                · show _ = nI (rkt (bs.getD p 0)); have : rkt (bs.getD p 0) = 3 := rkt_sg hsg; rw [this]; (repeat (first | rw [gI_sI, if_neg (by omega)] | rw [gI_sI, if_pos ⟨rfl, rfl, rfl⟩])); first | done | rfl | (exfalso; omega)
                · (repeat (first | rw [gI_sI, if_neg (by omega)] | rw [gI_sI, if_pos ⟨rfl, rfl, rfl⟩])); first | done | rfl | (exfalso; omega)
                · have z : bs.getD p 0 = 2 := z; rw [z] at hsg; exact absurd hsg (by decide)
                · have z : bs.getD p 0 = 3 := z; rw [z] at hsg; exact absurd hsg (by decide)
                · (repeat (first | rw [gI_sI, if_neg (by omega)] | rw [gI_sI, if_pos ⟨rfl, rfl, rfl⟩])); first | done | rfl | (exfalso; omega)
                · have hne := lexA_ne (bs := bs) (lim := lim) (p := p + 1); cases q : lexA bs lim (p + 1) with | nil => exact absurd q hne | cons x r => rfl
            · skip
              refine r_iload_n (q := 123) dX12_next_122 rfl rfl rfl ?_
              refine r_bipush (q := 125) (nI 45) dX12_next_123 rfl (by decide) ?_
              refine r_icmp_gtN (q := 128) (t := 134) (by omega) (by omega) dX12_next_125 (by decide) rfl (fun h125 => ?_) (fun h125 => ?_)
              · skip
                refine r_iload_n (q := 135) dX12_next_134 rfl rfl rfl ?_
                refine r_bipush (q := 137) (nI 61) dX12_next_135 rfl (by decide) ?_
                refine r_icmp_neN (q := 140) (t := 144) (by omega) (by omega) dX12_next_137 (by decide) rfl (fun h137 => ?_) (fun h137 => ?_)
                · skip
                  refine r_iconst (q := 145) (nI 4) dX12_next_144 rfl (by decide) ?_
                  refine r_puti (q := 148) ck12 dX12_next_145 rfl (k := 9) (by decide) wt1287 (Or.inl rfl) rfl (hs.e (by decide)) ?_
                  refine r_aload_n (q := 149) dX12_next_148 rfl rfl rfl ?_
                  refine r_iload_n (q := 150) dX12_next_149 rfl rfl rfl ?_
                  refine r_puti (q := 153) ck12 dX12_next_150 rfl (k := 12) (by decide) wt1290 (Or.inl rfl) rfl (hs.e (by decide)) ?_
                  refine r_aload_n (q := 154) dX12_next_153 rfl rfl rfl ?_
                  refine r_dup (q := 155) dX12_next_154 rfl rfl ?_
                  refine r_geti (q := 158) ck12 dX12_next_155 rfl (k := 4) (by decide) wt1282 (Or.inl rfl) (hs.e (by decide)) ?_
                  refine r_topi (y := gI S 12 0 4) (by simp [gI_sI, gJ_sJ, gI_sJ, gJ_sI]) ?_
                  refine r_topi (y := nI p) hx.2.2.2 ?_
                  refine r_iconst (q := 159) (nI 1) dX12_next_158 rfl (by decide) ?_
                  refine r_iaddN (q := 160) dX12_next_159 rfl ?_
                  refine r_puti (q := 163) ck12 dX12_next_160 rfl (k := 4) (by decide) wt1282 (Or.inl rfl) rfl (hs.e (by decide)) ?_
                  refine r_return dX12_next_163 rfl ?_
                  have f : Fr tNy S (sI (sI (sI (sI S 12 0 10 (nI p)) 12 0 11 (nI 0)) 12 0 9 (nI 4)) 12 0 12 (nI (bs.getD p 0))) := ((((Fr.rf.i rfl).i rfl).i rfl).i rfl)
                  have hsg : sgn (bs.getD p 0) = false := sgn_n (by omega)
                  rw [hsg]
                  refine ⟨rfl, (f.mono tNx_y).i rfl, ⟨?_, ?_, fun z => ?_, fun z => ?_, fun z => ?_⟩, p + 1, by omega, (hx.fr f).p, ?_⟩
                  · (repeat (first | rw [gI_sI, if_neg (by omega)] | rw [gI_sI, if_pos ⟨rfl, rfl, rfl⟩])); first | done | rfl | (exfalso; omega)
                  · (repeat (first | rw [gI_sI, if_neg (by omega)] | rw [gI_sI, if_pos ⟨rfl, rfl, rfl⟩])); first | done | rfl | (exfalso; omega)
                  · have z : (4 : Nat) = 2 := z; omega
                  · have z : (4 : Nat) = 3 := z; omega
                  · have z : 5 ≤ (4 : Nat) := z; omega
                  · have hne := lexA_ne (bs := bs) (lim := lim) (p := p + 1); cases q : lexA bs lim (p + 1) with | nil => exact absurd q hne | cons x r => rfl
                · skip
                  refine r_iconst (q := 141) (nI 3) dX12_next_140 rfl (by decide) ?_
                  refine r_goto (q := 145) dX12_next_141 (by decide) ?_
                  refine r_puti (q := 148) ck12 dX12_next_145 rfl (k := 9) (by decide) wt1287 (Or.inl rfl) rfl (hs.e (by decide)) ?_
                  refine r_aload_n (q := 149) dX12_next_148 rfl rfl rfl ?_
                  refine r_iload_n (q := 150) dX12_next_149 rfl rfl rfl ?_
                  refine r_puti (q := 153) ck12 dX12_next_150 rfl (k := 12) (by decide) wt1290 (Or.inl rfl) rfl (hs.e (by decide)) ?_
                  refine r_aload_n (q := 154) dX12_next_153 rfl rfl rfl ?_
                  refine r_dup (q := 155) dX12_next_154 rfl rfl ?_
                  refine r_geti (q := 158) ck12 dX12_next_155 rfl (k := 4) (by decide) wt1282 (Or.inl rfl) (hs.e (by decide)) ?_
                  refine r_topi (y := gI S 12 0 4) (by simp [gI_sI, gJ_sJ, gI_sJ, gJ_sI]) ?_
                  refine r_topi (y := nI p) hx.2.2.2 ?_
                  refine r_iconst (q := 159) (nI 1) dX12_next_158 rfl (by decide) ?_
                  refine r_iaddN (q := 160) dX12_next_159 rfl ?_
                  refine r_puti (q := 163) ck12 dX12_next_160 rfl (k := 4) (by decide) wt1282 (Or.inl rfl) rfl (hs.e (by decide)) ?_
                  refine r_return dX12_next_163 rfl ?_
                  have f : Fr tNy S (sI (sI (sI (sI S 12 0 10 (nI p)) 12 0 11 (nI 0)) 12 0 9 (nI 3)) 12 0 12 (nI (bs.getD p 0))) := ((((Fr.rf.i rfl).i rfl).i rfl).i rfl)
                  have hsg : sgn (bs.getD p 0) = true := sgn_y (by omega)
                  rw [hsg]
                  refine ⟨rfl, (f.mono tNx_y).i rfl, ⟨?_, ?_, fun z => ?_, fun z => ?_, fun z => ?_⟩, p + 1, by omega, (hx.fr f).p, ?_⟩
                  · show _ = nI (rkt (bs.getD p 0)); have : rkt (bs.getD p 0) = 3 := rkt_sg hsg; rw [this]; (repeat (first | rw [gI_sI, if_neg (by omega)] | rw [gI_sI, if_pos ⟨rfl, rfl, rfl⟩])); first | done | rfl | (exfalso; omega)
                  · (repeat (first | rw [gI_sI, if_neg (by omega)] | rw [gI_sI, if_pos ⟨rfl, rfl, rfl⟩])); first | done | rfl | (exfalso; omega)
                  · have z : bs.getD p 0 = 2 := z; rw [z] at hsg; exact absurd hsg (by decide)
                  · have z : bs.getD p 0 = 3 := z; rw [z] at hsg; exact absurd hsg (by decide)
                  · (repeat (first | rw [gI_sI, if_neg (by omega)] | rw [gI_sI, if_pos ⟨rfl, rfl, rfl⟩])); first | done | rfl | (exfalso; omega)
                  · have hne := lexA_ne (bs := bs) (lim := lim) (p := p + 1); cases q : lexA bs lim (p + 1) with | nil => exact absurd q hne | cons x r => rfl
              · skip
                refine r_iload_n (q := 129) dX12_next_128 rfl rfl rfl ?_
                refine r_bipush (q := 131) (nI 42) dX12_next_129 rfl (by decide) ?_
                refine r_icmp_neN (q := 134) (t := 140) (by omega) (by omega) dX12_next_131 (by decide) rfl (fun h131 => ?_) (fun h131 => ?_)
                · skip
                  refine r_iconst (q := 141) (nI 3) dX12_next_140 rfl (by decide) ?_
                  refine r_goto (q := 145) dX12_next_141 (by decide) ?_
                  refine r_puti (q := 148) ck12 dX12_next_145 rfl (k := 9) (by decide) wt1287 (Or.inl rfl) rfl (hs.e (by decide)) ?_
                  refine r_aload_n (q := 149) dX12_next_148 rfl rfl rfl ?_
                  refine r_iload_n (q := 150) dX12_next_149 rfl rfl rfl ?_
                  refine r_puti (q := 153) ck12 dX12_next_150 rfl (k := 12) (by decide) wt1290 (Or.inl rfl) rfl (hs.e (by decide)) ?_
                  refine r_aload_n (q := 154) dX12_next_153 rfl rfl rfl ?_
                  refine r_dup (q := 155) dX12_next_154 rfl rfl ?_
                  refine r_geti (q := 158) ck12 dX12_next_155 rfl (k := 4) (by decide) wt1282 (Or.inl rfl) (hs.e (by decide)) ?_
                  refine r_topi (y := gI S 12 0 4) (by simp [gI_sI, gJ_sJ, gI_sJ, gJ_sI]) ?_
                  refine r_topi (y := nI p) hx.2.2.2 ?_
                  refine r_iconst (q := 159) (nI 1) dX12_next_158 rfl (by decide) ?_
                  refine r_iaddN (q := 160) dX12_next_159 rfl ?_
                  refine r_puti (q := 163) ck12 dX12_next_160 rfl (k := 4) (by decide) wt1282 (Or.inl rfl) rfl (hs.e (by decide)) ?_
                  refine r_return dX12_next_163 rfl ?_
                  have f : Fr tNy S (sI (sI (sI (sI S 12 0 10 (nI p)) 12 0 11 (nI 0)) 12 0 9 (nI 3)) 12 0 12 (nI (bs.getD p 0))) := ((((Fr.rf.i rfl).i rfl).i rfl).i rfl)
                  have hsg : sgn (bs.getD p 0) = true := sgn_y (by omega)
                  rw [hsg]
                  refine ⟨rfl, (f.mono tNx_y).i rfl, ⟨?_, ?_, fun z => ?_, fun z => ?_, fun z => ?_⟩, p + 1, by omega, (hx.fr f).p, ?_⟩
                  · show _ = nI (rkt (bs.getD p 0)); have : rkt (bs.getD p 0) = 3 := rkt_sg hsg; rw [this]; (repeat (first | rw [gI_sI, if_neg (by omega)] | rw [gI_sI, if_pos ⟨rfl, rfl, rfl⟩])); first | done | rfl | (exfalso; omega)
                  · (repeat (first | rw [gI_sI, if_neg (by omega)] | rw [gI_sI, if_pos ⟨rfl, rfl, rfl⟩])); first | done | rfl | (exfalso; omega)
                  · have z : bs.getD p 0 = 2 := z; rw [z] at hsg; exact absurd hsg (by decide)
                  · have z : bs.getD p 0 = 3 := z; rw [z] at hsg; exact absurd hsg (by decide)
                  · (repeat (first | rw [gI_sI, if_neg (by omega)] | rw [gI_sI, if_pos ⟨rfl, rfl, rfl⟩])); first | done | rfl | (exfalso; omega)
                  · have hne := lexA_ne (bs := bs) (lim := lim) (p := p + 1); cases q : lexA bs lim (p + 1) with | nil => exact absurd q hne | cons x r => rfl
                · skip
                  refine r_iload_n (q := 135) dX12_next_134 rfl rfl rfl ?_
                  refine r_bipush (q := 137) (nI 61) dX12_next_135 rfl (by decide) ?_
                  refine r_icmp_neN (q := 140) (t := 144) (by omega) (by omega) dX12_next_137 (by decide) rfl (fun h137 => ?_) (fun h137 => ?_)
                  · skip
                    refine r_iconst (q := 145) (nI 4) dX12_next_144 rfl (by decide) ?_
                    refine r_puti (q := 148) ck12 dX12_next_145 rfl (k := 9) (by decide) wt1287 (Or.inl rfl) rfl (hs.e (by decide)) ?_
                    refine r_aload_n (q := 149) dX12_next_148 rfl rfl rfl ?_
                    refine r_iload_n (q := 150) dX12_next_149 rfl rfl rfl ?_
                    refine r_puti (q := 153) ck12 dX12_next_150 rfl (k := 12) (by decide) wt1290 (Or.inl rfl) rfl (hs.e (by decide)) ?_
                    refine r_aload_n (q := 154) dX12_next_153 rfl rfl rfl ?_
                    refine r_dup (q := 155) dX12_next_154 rfl rfl ?_
                    refine r_geti (q := 158) ck12 dX12_next_155 rfl (k := 4) (by decide) wt1282 (Or.inl rfl) (hs.e (by decide)) ?_
                    refine r_topi (y := gI S 12 0 4) (by simp [gI_sI, gJ_sJ, gI_sJ, gJ_sI]) ?_
                    refine r_topi (y := nI p) hx.2.2.2 ?_
                    refine r_iconst (q := 159) (nI 1) dX12_next_158 rfl (by decide) ?_
                    refine r_iaddN (q := 160) dX12_next_159 rfl ?_
                    refine r_puti (q := 163) ck12 dX12_next_160 rfl (k := 4) (by decide) wt1282 (Or.inl rfl) rfl (hs.e (by decide)) ?_
                    refine r_return dX12_next_163 rfl ?_
                    have f : Fr tNy S (sI (sI (sI (sI S 12 0 10 (nI p)) 12 0 11 (nI 0)) 12 0 9 (nI 4)) 12 0 12 (nI (bs.getD p 0))) := ((((Fr.rf.i rfl).i rfl).i rfl).i rfl)
                    have hsg : sgn (bs.getD p 0) = false := sgn_n (by omega)
                    rw [hsg]
                    refine ⟨rfl, (f.mono tNx_y).i rfl, ⟨?_, ?_, fun z => ?_, fun z => ?_, fun z => ?_⟩, p + 1, by omega, (hx.fr f).p, ?_⟩
                    · (repeat (first | rw [gI_sI, if_neg (by omega)] | rw [gI_sI, if_pos ⟨rfl, rfl, rfl⟩])); first | done | rfl | (exfalso; omega)
                    · (repeat (first | rw [gI_sI, if_neg (by omega)] | rw [gI_sI, if_pos ⟨rfl, rfl, rfl⟩])); first | done | rfl | (exfalso; omega)
                    · have z : (4 : Nat) = 2 := z; omega
                    · have z : (4 : Nat) = 3 := z; omega
                    · have z : 5 ≤ (4 : Nat) := z; omega
                    · have hne := lexA_ne (bs := bs) (lim := lim) (p := p + 1); cases q : lexA bs lim (p + 1) with | nil => exact absurd q hne | cons x r => rfl
                  · skip
                    refine r_iconst (q := 141) (nI 3) dX12_next_140 rfl (by decide) ?_
                    refine r_goto (q := 145) dX12_next_141 (by decide) ?_
                    refine r_puti (q := 148) ck12 dX12_next_145 rfl (k := 9) (by decide) wt1287 (Or.inl rfl) rfl (hs.e (by decide)) ?_
                    refine r_aload_n (q := 149) dX12_next_148 rfl rfl rfl ?_
                    refine r_iload_n (q := 150) dX12_next_149 rfl rfl rfl ?_
                    refine r_puti (q := 153) ck12 dX12_next_150 rfl (k := 12) (by decide) wt1290 (Or.inl rfl) rfl (hs.e (by decide)) ?_
                    refine r_aload_n (q := 154) dX12_next_153 rfl rfl rfl ?_
                    refine r_dup (q := 155) dX12_next_154 rfl rfl ?_
                    refine r_geti (q := 158) ck12 dX12_next_155 rfl (k := 4) (by decide) wt1282 (Or.inl rfl) (hs.e (by decide)) ?_
                    refine r_topi (y := gI S 12 0 4) (by simp [gI_sI, gJ_sJ, gI_sJ, gJ_sI]) ?_
                    refine r_topi (y := nI p) hx.2.2.2 ?_
                    refine r_iconst (q := 159) (nI 1) dX12_next_158 rfl (by decide) ?_
                    refine r_iaddN (q := 160) dX12_next_159 rfl ?_
                    refine r_puti (q := 163) ck12 dX12_next_160 rfl (k := 4) (by decide) wt1282 (Or.inl rfl) rfl (hs.e (by decide)) ?_
                    refine r_return dX12_next_163 rfl ?_
                    have f : Fr tNy S (sI (sI (sI (sI S 12 0 10 (nI p)) 12 0 11 (nI 0)) 12 0 9 (nI 3)) 12 0 12 (nI (bs.getD p 0))) := ((((Fr.rf.i rfl).i rfl).i rfl).i rfl)
                    have hsg : sgn (bs.getD p 0) = true := sgn_y (by omega)
                    rw [hsg]
                    refine ⟨rfl, (f.mono tNx_y).i rfl, ⟨?_, ?_, fun z => ?_, fun z => ?_, fun z => ?_⟩, p + 1, by omega, (hx.fr f).p, ?_⟩
                    · show _ = nI (rkt (bs.getD p 0)); have : rkt (bs.getD p 0) = 3 := rkt_sg hsg; rw [this]; (repeat (first | rw [gI_sI, if_neg (by omega)] | rw [gI_sI, if_pos ⟨rfl, rfl, rfl⟩])); first | done | rfl | (exfalso; omega)
                    · (repeat (first | rw [gI_sI, if_neg (by omega)] | rw [gI_sI, if_pos ⟨rfl, rfl, rfl⟩])); first | done | rfl | (exfalso; omega)
                    · have z : bs.getD p 0 = 2 := z; rw [z] at hsg; exact absurd hsg (by decide)
                    · have z : bs.getD p 0 = 3 := z; rw [z] at hsg; exact absurd hsg (by decide)
                    · (repeat (first | rw [gI_sI, if_neg (by omega)] | rw [gI_sI, if_pos ⟨rfl, rfl, rfl⟩])); first | done | rfl | (exfalso; omega)
                    · have hne := lexA_ne (bs := bs) (lim := lim) (p := p + 1); cases q : lexA bs lim (p + 1) with | nil => exact absurd q hne | cons x r => rfl
        · refine r_aload_n (q := 32) dX12_next_31 rfl rfl rfl ?_
          refine r_aload_n (q := 33) dX12_next_32 rfl rfl rfl ?_
          refine r_geti (q := 36) ck12 dX12_next_33 rfl (k := 4) (by decide) wt1282 (Or.inl rfl) (hs.e (by decide)) ?_
          refine r_topi (y := nI p) hx.2.2.2 ?_
          refine r_puti (q := 39) ck12 dX12_next_36 rfl (k := 10) (by decide) wt1288 (Or.inl rfl) rfl (hs.e (by decide)) ?_
          refine r_aload_n (q := 40) dX12_next_39 rfl rfl rfl ?_
          refine r_iconst (q := 41) (nI 0) dX12_next_40 rfl (by decide) ?_
          refine r_puti (q := 44) ck12 dX12_next_41 rfl (k := 11) (by decide) wt1289 (Or.inl rfl) rfl (hs.e (by decide)) ?_
          refine r_aload_n (q := 45) dX12_next_44 rfl rfl rfl ?_
          refine r_geti (q := 48) ck12 dX12_next_45 rfl (k := 3) (by decide) wt1281 (Or.inl rfl) (hs.e (by decide)) ?_
          refine r_topi (y := gI S 12 0 3) (by simp [gI_sI, gJ_sJ, gI_sJ, gJ_sI]) ?_
          refine r_topi (y := nI bs.length) hx.2.1 ?_
          refine r_aload_n (q := 49) dX12_next_48 rfl rfl rfl ?_
          refine r_geti (q := 52) ck12 dX12_next_49 rfl (k := 5) (by decide) wt1283 (Or.inl rfl) (hs.e (by decide)) ?_
          refine r_topi (y := gI S 12 0 5) (by simp [gI_sI, gJ_sJ, gI_sJ, gJ_sI]) ?_
          refine r_topi (y := nI lim) hx.2.2.1 ?_
          refine r_icmp_leN (q := 55) (t := 80) (by omega) (by omega) dX12_next_52 (by decide) rfl (fun h52 => ?_) (fun h52 => absurd h52 (by omega))
          refine r_aload_n (q := 81) dX12_next_80 rfl rfl rfl ?_
          refine r_callV (Mc := mX12_peek) (q := 84) (As := []) (st := []) ck12 dX12_next_81 rfl rfl mkX12_peek wt1577 wt1579 wp71 rfl (Nat.le_of_ble_eq_true rfl) (Nat.le_of_ble_eq_true rfl) (by decide) (by decide) (by decide) (Or.inl rfl) (hs.e (by decide)) (ok_peek_in (S := sI (sI S 12 0 10 (nI p)) 12 0 11 (nI 0)) hs hbl (hx.fr ((Fr.rf.i rfl).i rfl)) (by omega)) (fun r81 S81 hp81 => ?_)
          obtain ⟨rfl, hq81⟩ := hp81
          rw [hq81]
          show Ok _ _ _ [zi (nI (bs.getD p 0))] _ _
          refine r_istore_n (q := 85) (L' := [some (zr 12 0), some (zi (nI (bs.getD p 0))), none, none]) dX12_next_84 rfl rfl (by decide) rfl ?_
          refine r_iload_n (q := 86) dX12_next_85 rfl rfl rfl ?_
          refine r_if_geN (q := 89) (t := 95) (by omega) dX12_next_86 (by decide) rfl ?_
          refine r_iload_n (q := 96) dX12_next_95 rfl rfl rfl ?_
          refine r_callS (Mc := mX12_isSmall) (q := 99) (As := [zi (nI (bs.getD p 0))]) (st := []) dX12_next_96 rfl rfl mkX12_isSmall wt1581 wt1582 rfl (Nat.le_of_ble_eq_true rfl) (Nat.le_of_ble_eq_true rfl) (by decide) (by decide) (by decide) (Or.inl rfl) hs.some (ok_X12_isSmall hlt) (fun r96 S96 hp96 => ?_)
          obtain ⟨rfl, hq96⟩ := hp96
          rw [hq96]
          rw [if_neg (show ¬ sml (bs.getD p 0) = true by rw [n1.1]; decide)]
          show Ok _ _ _ [zi (nI 0)] _ _
          refine r_if_neN (q := 102) (t := 164) (by omega) dX12_next_99 (by decide) rfl (fun h99 => absurd h99 (by omega)) (fun h99 => ?_)
          refine r_iload_n (q := 103) dX12_next_102 rfl rfl rfl ?_
          refine r_callS (Mc := mX12_isDigit) (q := 106) (As := [zi (nI (bs.getD p 0))]) (st := []) dX12_next_103 rfl rfl mkX12_isDigit wt1584 wt1585 rfl (Nat.le_of_ble_eq_true rfl) (Nat.le_of_ble_eq_true rfl) (by decide) (by decide) (by decide) (Or.inl rfl) hs.some (ok_X12_isDigit hlt) (fun r103 S103 hp103 => ?_)
          obtain ⟨rfl, hq103⟩ := hp103
          rw [hq103]
          rw [if_neg (show ¬ dgt (bs.getD p 0) = true by rw [n1.2]; decide)]
          show Ok _ _ _ [zi (nI 0)] _ _
          refine r_if_neN (q := 109) (t := 164) (by omega) dX12_next_106 (by decide) rfl (fun h106 => absurd h106 (by omega)) (fun h106 => ?_)
          refine r_aload_n (q := 110) dX12_next_109 rfl rfl rfl ?_
          refine r_iload_n (q := 111) dX12_next_110 rfl rfl rfl ?_
          refine r_bipush (q := 113) (nI 59) dX12_next_111 rfl (by decide) ?_
          refine r_icmp_eqN (q := 116) (t := 140) (by omega) (by omega) dX12_next_113 (by decide) rfl (fun h113 => ?_) (fun h113 => ?_)
          · skip
            refine r_iconst (q := 141) (nI 3) dX12_next_140 rfl (by decide) ?_
            refine r_goto (q := 145) dX12_next_141 (by decide) ?_
            refine r_puti (q := 148) ck12 dX12_next_145 rfl (k := 9) (by decide) wt1287 (Or.inl rfl) rfl (hs.e (by decide)) ?_
            refine r_aload_n (q := 149) dX12_next_148 rfl rfl rfl ?_
            refine r_iload_n (q := 150) dX12_next_149 rfl rfl rfl ?_
            refine r_puti (q := 153) ck12 dX12_next_150 rfl (k := 12) (by decide) wt1290 (Or.inl rfl) rfl (hs.e (by decide)) ?_
            refine r_aload_n (q := 154) dX12_next_153 rfl rfl rfl ?_
            refine r_dup (q := 155) dX12_next_154 rfl rfl ?_
            refine r_geti (q := 158) ck12 dX12_next_155 rfl (k := 4) (by decide) wt1282 (Or.inl rfl) (hs.e (by decide)) ?_
            refine r_topi (y := gI S 12 0 4) (by simp [gI_sI, gJ_sJ, gI_sJ, gJ_sI]) ?_
            refine r_topi (y := nI p) hx.2.2.2 ?_
            refine r_iconst (q := 159) (nI 1) dX12_next_158 rfl (by decide) ?_
            refine r_iaddN (q := 160) dX12_next_159 rfl ?_
            refine r_puti (q := 163) ck12 dX12_next_160 rfl (k := 4) (by decide) wt1282 (Or.inl rfl) rfl (hs.e (by decide)) ?_
            refine r_return dX12_next_163 rfl ?_
            have f : Fr tNy S (sI (sI (sI (sI S 12 0 10 (nI p)) 12 0 11 (nI 0)) 12 0 9 (nI 3)) 12 0 12 (nI (bs.getD p 0))) := ((((Fr.rf.i rfl).i rfl).i rfl).i rfl)
            have hsg : sgn (bs.getD p 0) = true := sgn_y (by omega)
            rw [hsg]
            refine ⟨rfl, (f.mono tNx_y).i rfl, ⟨?_, ?_, fun z => ?_, fun z => ?_, fun z => ?_⟩, p + 1, by omega, (hx.fr f).p, ?_⟩
            · show _ = nI (rkt (bs.getD p 0)); have : rkt (bs.getD p 0) = 3 := rkt_sg hsg; rw [this]; (repeat (first | rw [gI_sI, if_neg (by omega)] | rw [gI_sI, if_pos ⟨rfl, rfl, rfl⟩])); first | done | rfl | (exfalso; omega)
            · (repeat (first | rw [gI_sI, if_neg (by omega)] | rw [gI_sI, if_pos ⟨rfl, rfl, rfl⟩])); first | done | rfl | (exfalso; omega)
            · have z : bs.getD p 0 = 2 := z; rw [z] at hsg; exact absurd hsg (by decide)
            · have z : bs.getD p 0 = 3 := z; rw [z] at hsg; exact absurd hsg (by decide)
            · (repeat (first | rw [gI_sI, if_neg (by omega)] | rw [gI_sI, if_pos ⟨rfl, rfl, rfl⟩])); first | done | rfl | (exfalso; omega)
            · have hne := lexA_ne (bs := bs) (lim := lim) (p := p + 1); cases q : lexA bs lim (p + 1) with | nil => exact absurd q hne | cons x r => rfl
          · skip
            refine r_iload_n (q := 117) dX12_next_116 rfl rfl rfl ?_
            refine r_bipush (q := 119) (nI 40) dX12_next_117 rfl (by decide) ?_
            refine r_icmp_ltN (q := 122) (t := 134) (by omega) (by omega) dX12_next_119 (by decide) rfl (fun h119 => ?_) (fun h119 => ?_)
            · skip
              refine r_iload_n (q := 135) dX12_next_134 rfl rfl rfl ?_
              refine r_bipush (q := 137) (nI 61) dX12_next_135 rfl (by decide) ?_
              refine r_icmp_neN (q := 140) (t := 144) (by omega) (by omega) dX12_next_137 (by decide) rfl (fun h137 => ?_) (fun h137 => ?_)
              · skip
                refine r_iconst (q := 145) (nI 4) dX12_next_144 rfl (by decide) ?_
                refine r_puti (q := 148) ck12 dX12_next_145 rfl (k := 9) (by decide) wt1287 (Or.inl rfl) rfl (hs.e (by decide)) ?_
                refine r_aload_n (q := 149) dX12_next_148 rfl rfl rfl ?_
                refine r_iload_n (q := 150) dX12_next_149 rfl rfl rfl ?_
                refine r_puti (q := 153) ck12 dX12_next_150 rfl (k := 12) (by decide) wt1290 (Or.inl rfl) rfl (hs.e (by decide)) ?_
                refine r_aload_n (q := 154) dX12_next_153 rfl rfl rfl ?_
                refine r_dup (q := 155) dX12_next_154 rfl rfl ?_
                refine r_geti (q := 158) ck12 dX12_next_155 rfl (k := 4) (by decide) wt1282 (Or.inl rfl) (hs.e (by decide)) ?_
                refine r_topi (y := gI S 12 0 4) (by simp [gI_sI, gJ_sJ, gI_sJ, gJ_sI]) ?_
                refine r_topi (y := nI p) hx.2.2.2 ?_
                refine r_iconst (q := 159) (nI 1) dX12_next_158 rfl (by decide) ?_
                refine r_iaddN (q := 160) dX12_next_159 rfl ?_
                refine r_puti (q := 163) ck12 dX12_next_160 rfl (k := 4) (by decide) wt1282 (Or.inl rfl) rfl (hs.e (by decide)) ?_
                refine r_return dX12_next_163 rfl ?_
                have f : Fr tNy S (sI (sI (sI (sI S 12 0 10 (nI p)) 12 0 11 (nI 0)) 12 0 9 (nI 4)) 12 0 12 (nI (bs.getD p 0))) := ((((Fr.rf.i rfl).i rfl).i rfl).i rfl)
                have hsg : sgn (bs.getD p 0) = false := sgn_n (by omega)
                rw [hsg]
                refine ⟨rfl, (f.mono tNx_y).i rfl, ⟨?_, ?_, fun z => ?_, fun z => ?_, fun z => ?_⟩, p + 1, by omega, (hx.fr f).p, ?_⟩
                · (repeat (first | rw [gI_sI, if_neg (by omega)] | rw [gI_sI, if_pos ⟨rfl, rfl, rfl⟩])); first | done | rfl | (exfalso; omega)
                · (repeat (first | rw [gI_sI, if_neg (by omega)] | rw [gI_sI, if_pos ⟨rfl, rfl, rfl⟩])); first | done | rfl | (exfalso; omega)
                · have z : (4 : Nat) = 2 := z; omega
                · have z : (4 : Nat) = 3 := z; omega
                · have z : 5 ≤ (4 : Nat) := z; omega
                · have hne := lexA_ne (bs := bs) (lim := lim) (p := p + 1); cases q : lexA bs lim (p + 1) with | nil => exact absurd q hne | cons x r => rfl
              · skip
                refine r_iconst (q := 141) (nI 3) dX12_next_140 rfl (by decide) ?_
                refine r_goto (q := 145) dX12_next_141 (by decide) ?_
                refine r_puti (q := 148) ck12 dX12_next_145 rfl (k := 9) (by decide) wt1287 (Or.inl rfl) rfl (hs.e (by decide)) ?_
                refine r_aload_n (q := 149) dX12_next_148 rfl rfl rfl ?_
                refine r_iload_n (q := 150) dX12_next_149 rfl rfl rfl ?_
                refine r_puti (q := 153) ck12 dX12_next_150 rfl (k := 12) (by decide) wt1290 (Or.inl rfl) rfl (hs.e (by decide)) ?_
                refine r_aload_n (q := 154) dX12_next_153 rfl rfl rfl ?_
                refine r_dup (q := 155) dX12_next_154 rfl rfl ?_
                refine r_geti (q := 158) ck12 dX12_next_155 rfl (k := 4) (by decide) wt1282 (Or.inl rfl) (hs.e (by decide)) ?_
                refine r_topi (y := gI S 12 0 4) (by simp [gI_sI, gJ_sJ, gI_sJ, gJ_sI]) ?_
                refine r_topi (y := nI p) hx.2.2.2 ?_
                refine r_iconst (q := 159) (nI 1) dX12_next_158 rfl (by decide) ?_
                refine r_iaddN (q := 160) dX12_next_159 rfl ?_
                refine r_puti (q := 163) ck12 dX12_next_160 rfl (k := 4) (by decide) wt1282 (Or.inl rfl) rfl (hs.e (by decide)) ?_
                refine r_return dX12_next_163 rfl ?_
                have f : Fr tNy S (sI (sI (sI (sI S 12 0 10 (nI p)) 12 0 11 (nI 0)) 12 0 9 (nI 3)) 12 0 12 (nI (bs.getD p 0))) := ((((Fr.rf.i rfl).i rfl).i rfl).i rfl)
                have hsg : sgn (bs.getD p 0) = true := sgn_y (by omega)
                rw [hsg]
                refine ⟨rfl, (f.mono tNx_y).i rfl, ⟨?_, ?_, fun z => ?_, fun z => ?_, fun z => ?_⟩, p + 1, by omega, (hx.fr f).p, ?_⟩
                · show _ = nI (rkt (bs.getD p 0)); have : rkt (bs.getD p 0) = 3 := rkt_sg hsg; rw [this]; (repeat (first | rw [gI_sI, if_neg (by omega)] | rw [gI_sI, if_pos ⟨rfl, rfl, rfl⟩])); first | done | rfl | (exfalso; omega)
                · (repeat (first | rw [gI_sI, if_neg (by omega)] | rw [gI_sI, if_pos ⟨rfl, rfl, rfl⟩])); first | done | rfl | (exfalso; omega)
                · have z : bs.getD p 0 = 2 := z; rw [z] at hsg; exact absurd hsg (by decide)
                · have z : bs.getD p 0 = 3 := z; rw [z] at hsg; exact absurd hsg (by decide)
                · (repeat (first | rw [gI_sI, if_neg (by omega)] | rw [gI_sI, if_pos ⟨rfl, rfl, rfl⟩])); first | done | rfl | (exfalso; omega)
                · have hne := lexA_ne (bs := bs) (lim := lim) (p := p + 1); cases q : lexA bs lim (p + 1) with | nil => exact absurd q hne | cons x r => rfl
            · skip
              refine r_iload_n (q := 123) dX12_next_122 rfl rfl rfl ?_
              refine r_bipush (q := 125) (nI 45) dX12_next_123 rfl (by decide) ?_
              refine r_icmp_gtN (q := 128) (t := 134) (by omega) (by omega) dX12_next_125 (by decide) rfl (fun h125 => ?_) (fun h125 => ?_)
              · skip
                refine r_iload_n (q := 135) dX12_next_134 rfl rfl rfl ?_
                refine r_bipush (q := 137) (nI 61) dX12_next_135 rfl (by decide) ?_
                refine r_icmp_neN (q := 140) (t := 144) (by omega) (by omega) dX12_next_137 (by decide) rfl (fun h137 => ?_) (fun h137 => ?_)
                · skip
                  refine r_iconst (q := 145) (nI 4) dX12_next_144 rfl (by decide) ?_
                  refine r_puti (q := 148) ck12 dX12_next_145 rfl (k := 9) (by decide) wt1287 (Or.inl rfl) rfl (hs.e (by decide)) ?_
                  refine r_aload_n (q := 149) dX12_next_148 rfl rfl rfl ?_
                  refine r_iload_n (q := 150) dX12_next_149 rfl rfl rfl ?_
                  refine r_puti (q := 153) ck12 dX12_next_150 rfl (k := 12) (by decide) wt1290 (Or.inl rfl) rfl (hs.e (by decide)) ?_
                  refine r_aload_n (q := 154) dX12_next_153 rfl rfl rfl ?_
                  refine r_dup (q := 155) dX12_next_154 rfl rfl ?_
                  refine r_geti (q := 158) ck12 dX12_next_155 rfl (k := 4) (by decide) wt1282 (Or.inl rfl) (hs.e (by decide)) ?_
                  refine r_topi (y := gI S 12 0 4) (by simp [gI_sI, gJ_sJ, gI_sJ, gJ_sI]) ?_
                  refine r_topi (y := nI p) hx.2.2.2 ?_
                  refine r_iconst (q := 159) (nI 1) dX12_next_158 rfl (by decide) ?_
                  refine r_iaddN (q := 160) dX12_next_159 rfl ?_
                  refine r_puti (q := 163) ck12 dX12_next_160 rfl (k := 4) (by decide) wt1282 (Or.inl rfl) rfl (hs.e (by decide)) ?_
                  refine r_return dX12_next_163 rfl ?_
                  have f : Fr tNy S (sI (sI (sI (sI S 12 0 10 (nI p)) 12 0 11 (nI 0)) 12 0 9 (nI 4)) 12 0 12 (nI (bs.getD p 0))) := ((((Fr.rf.i rfl).i rfl).i rfl).i rfl)
                  have hsg : sgn (bs.getD p 0) = false := sgn_n (by omega)
                  rw [hsg]
                  refine ⟨rfl, (f.mono tNx_y).i rfl, ⟨?_, ?_, fun z => ?_, fun z => ?_, fun z => ?_⟩, p + 1, by omega, (hx.fr f).p, ?_⟩
                  · (repeat (first | rw [gI_sI, if_neg (by omega)] | rw [gI_sI, if_pos ⟨rfl, rfl, rfl⟩])); first | done | rfl | (exfalso; omega)
                  · (repeat (first | rw [gI_sI, if_neg (by omega)] | rw [gI_sI, if_pos ⟨rfl, rfl, rfl⟩])); first | done | rfl | (exfalso; omega)
                  · have z : (4 : Nat) = 2 := z; omega
                  · have z : (4 : Nat) = 3 := z; omega
                  · have z : 5 ≤ (4 : Nat) := z; omega
                  · have hne := lexA_ne (bs := bs) (lim := lim) (p := p + 1); cases q : lexA bs lim (p + 1) with | nil => exact absurd q hne | cons x r => rfl
                · skip
                  refine r_iconst (q := 141) (nI 3) dX12_next_140 rfl (by decide) ?_
                  refine r_goto (q := 145) dX12_next_141 (by decide) ?_
                  refine r_puti (q := 148) ck12 dX12_next_145 rfl (k := 9) (by decide) wt1287 (Or.inl rfl) rfl (hs.e (by decide)) ?_
                  refine r_aload_n (q := 149) dX12_next_148 rfl rfl rfl ?_
                  refine r_iload_n (q := 150) dX12_next_149 rfl rfl rfl ?_
                  refine r_puti (q := 153) ck12 dX12_next_150 rfl (k := 12) (by decide) wt1290 (Or.inl rfl) rfl (hs.e (by decide)) ?_
                  refine r_aload_n (q := 154) dX12_next_153 rfl rfl rfl ?_
                  refine r_dup (q := 155) dX12_next_154 rfl rfl ?_
                  refine r_geti (q := 158) ck12 dX12_next_155 rfl (k := 4) (by decide) wt1282 (Or.inl rfl) (hs.e (by decide)) ?_
                  refine r_topi (y := gI S 12 0 4) (by simp [gI_sI, gJ_sJ, gI_sJ, gJ_sI]) ?_
                  refine r_topi (y := nI p) hx.2.2.2 ?_
                  refine r_iconst (q := 159) (nI 1) dX12_next_158 rfl (by decide) ?_
                  refine r_iaddN (q := 160) dX12_next_159 rfl ?_
                  refine r_puti (q := 163) ck12 dX12_next_160 rfl (k := 4) (by decide) wt1282 (Or.inl rfl) rfl (hs.e (by decide)) ?_
                  refine r_return dX12_next_163 rfl ?_
                  have f : Fr tNy S (sI (sI (sI (sI S 12 0 10 (nI p)) 12 0 11 (nI 0)) 12 0 9 (nI 3)) 12 0 12 (nI (bs.getD p 0))) := ((((Fr.rf.i rfl).i rfl).i rfl).i rfl)
                  have hsg : sgn (bs.getD p 0) = true := sgn_y (by omega)
                  rw [hsg]
                  refine ⟨rfl, (f.mono tNx_y).i rfl, ⟨?_, ?_, fun z => ?_, fun z => ?_, fun z => ?_⟩, p + 1, by omega, (hx.fr f).p, ?_⟩
                  · show _ = nI (rkt (bs.getD p 0)); have : rkt (bs.getD p 0) = 3 := rkt_sg hsg; rw [this]; (repeat (first | rw [gI_sI, if_neg (by omega)] | rw [gI_sI, if_pos ⟨rfl, rfl, rfl⟩])); first | done | rfl | (exfalso; omega)
                  · (repeat (first | rw [gI_sI, if_neg (by omega)] | rw [gI_sI, if_pos ⟨rfl, rfl, rfl⟩])); first | done | rfl | (exfalso; omega)
                  · have z : bs.getD p 0 = 2 := z; rw [z] at hsg; exact absurd hsg (by decide)
                  · have z : bs.getD p 0 = 3 := z; rw [z] at hsg; exact absurd hsg (by decide)
                  · (repeat (first | rw [gI_sI, if_neg (by omega)] | rw [gI_sI, if_pos ⟨rfl, rfl, rfl⟩])); first | done | rfl | (exfalso; omega)
                  · have hne := lexA_ne (bs := bs) (lim := lim) (p := p + 1); cases q : lexA bs lim (p + 1) with | nil => exact absurd q hne | cons x r => rfl
              · skip
                refine r_iload_n (q := 129) dX12_next_128 rfl rfl rfl ?_
                refine r_bipush (q := 131) (nI 42) dX12_next_129 rfl (by decide) ?_
                refine r_icmp_neN (q := 134) (t := 140) (by omega) (by omega) dX12_next_131 (by decide) rfl (fun h131 => ?_) (fun h131 => ?_)
                · skip
                  refine r_iconst (q := 141) (nI 3) dX12_next_140 rfl (by decide) ?_
                  refine r_goto (q := 145) dX12_next_141 (by decide) ?_
                  refine r_puti (q := 148) ck12 dX12_next_145 rfl (k := 9) (by decide) wt1287 (Or.inl rfl) rfl (hs.e (by decide)) ?_
                  refine r_aload_n (q := 149) dX12_next_148 rfl rfl rfl ?_
                  refine r_iload_n (q := 150) dX12_next_149 rfl rfl rfl ?_
                  refine r_puti (q := 153) ck12 dX12_next_150 rfl (k := 12) (by decide) wt1290 (Or.inl rfl) rfl (hs.e (by decide)) ?_
                  refine r_aload_n (q := 154) dX12_next_153 rfl rfl rfl ?_
                  refine r_dup (q := 155) dX12_next_154 rfl rfl ?_
                  refine r_geti (q := 158) ck12 dX12_next_155 rfl (k := 4) (by decide) wt1282 (Or.inl rfl) (hs.e (by decide)) ?_
                  refine r_topi (y := gI S 12 0 4) (by simp [gI_sI, gJ_sJ, gI_sJ, gJ_sI]) ?_
                  refine r_topi (y := nI p) hx.2.2.2 ?_
                  refine r_iconst (q := 159) (nI 1) dX12_next_158 rfl (by decide) ?_
                  refine r_iaddN (q := 160) dX12_next_159 rfl ?_
                  refine r_puti (q := 163) ck12 dX12_next_160 rfl (k := 4) (by decide) wt1282 (Or.inl rfl) rfl (hs.e (by decide)) ?_
                  refine r_return dX12_next_163 rfl ?_
                  have f : Fr tNy S (sI (sI (sI (sI S 12 0 10 (nI p)) 12 0 11 (nI 0)) 12 0 9 (nI 3)) 12 0 12 (nI (bs.getD p 0))) := ((((Fr.rf.i rfl).i rfl).i rfl).i rfl)
                  have hsg : sgn (bs.getD p 0) = true := sgn_y (by omega)
                  rw [hsg]
                  refine ⟨rfl, (f.mono tNx_y).i rfl, ⟨?_, ?_, fun z => ?_, fun z => ?_, fun z => ?_⟩, p + 1, by omega, (hx.fr f).p, ?_⟩
                  · show _ = nI (rkt (bs.getD p 0)); have : rkt (bs.getD p 0) = 3 := rkt_sg hsg; rw [this]; (repeat (first | rw [gI_sI, if_neg (by omega)] | rw [gI_sI, if_pos ⟨rfl, rfl, rfl⟩])); first | done | rfl | (exfalso; omega)
                  · (repeat (first | rw [gI_sI, if_neg (by omega)] | rw [gI_sI, if_pos ⟨rfl, rfl, rfl⟩])); first | done | rfl | (exfalso; omega)
                  · have z : bs.getD p 0 = 2 := z; rw [z] at hsg; exact absurd hsg (by decide)
                  · have z : bs.getD p 0 = 3 := z; rw [z] at hsg; exact absurd hsg (by decide)
                  · (repeat (first | rw [gI_sI, if_neg (by omega)] | rw [gI_sI, if_pos ⟨rfl, rfl, rfl⟩])); first | done | rfl | (exfalso; omega)
                  · have hne := lexA_ne (bs := bs) (lim := lim) (p := p + 1); cases q : lexA bs lim (p + 1) with | nil => exact absurd q hne | cons x r => rfl
                · skip
                  refine r_iload_n (q := 135) dX12_next_134 rfl rfl rfl ?_
                  refine r_bipush (q := 137) (nI 61) dX12_next_135 rfl (by decide) ?_
                  refine r_icmp_neN (q := 140) (t := 144) (by omega) (by omega) dX12_next_137 (by decide) rfl (fun h137 => ?_) (fun h137 => ?_)
                  · skip
                    refine r_iconst (q := 145) (nI 4) dX12_next_144 rfl (by decide) ?_
                    refine r_puti (q := 148) ck12 dX12_next_145 rfl (k := 9) (by decide) wt1287 (Or.inl rfl) rfl (hs.e (by decide)) ?_
                    refine r_aload_n (q := 149) dX12_next_148 rfl rfl rfl ?_
                    refine r_iload_n (q := 150) dX12_next_149 rfl rfl rfl ?_
                    refine r_puti (q := 153) ck12 dX12_next_150 rfl (k := 12) (by decide) wt1290 (Or.inl rfl) rfl (hs.e (by decide)) ?_
                    refine r_aload_n (q := 154) dX12_next_153 rfl rfl rfl ?_
                    refine r_dup (q := 155) dX12_next_154 rfl rfl ?_
                    refine r_geti (q := 158) ck12 dX12_next_155 rfl (k := 4) (by decide) wt1282 (Or.inl rfl) (hs.e (by decide)) ?_
                    refine r_topi (y := gI S 12 0 4) (by simp [gI_sI, gJ_sJ, gI_sJ, gJ_sI]) ?_
                    refine r_topi (y := nI p) hx.2.2.2 ?_
                    refine r_iconst (q := 159) (nI 1) dX12_next_158 rfl (by decide) ?_
                    refine r_iaddN (q := 160) dX12_next_159 rfl ?_
                    refine r_puti (q := 163) ck12 dX12_next_160 rfl (k := 4) (by decide) wt1282 (Or.inl rfl) rfl (hs.e (by decide)) ?_
                    refine r_return dX12_next_163 rfl ?_
                    have f : Fr tNy S (sI (sI (sI (sI S 12 0 10 (nI p)) 12 0 11 (nI 0)) 12 0 9 (nI 4)) 12 0 12 (nI (bs.getD p 0))) := ((((Fr.rf.i rfl).i rfl).i rfl).i rfl)
                    have hsg : sgn (bs.getD p 0) = false := sgn_n (by omega)
                    rw [hsg]
                    refine ⟨rfl, (f.mono tNx_y).i rfl, ⟨?_, ?_, fun z => ?_, fun z => ?_, fun z => ?_⟩, p + 1, by omega, (hx.fr f).p, ?_⟩
                    · (repeat (first | rw [gI_sI, if_neg (by omega)] | rw [gI_sI, if_pos ⟨rfl, rfl, rfl⟩])); first | done | rfl | (exfalso; omega)
                    · (repeat (first | rw [gI_sI, if_neg (by omega)] | rw [gI_sI, if_pos ⟨rfl, rfl, rfl⟩])); first | done | rfl | (exfalso; omega)
                    · have z : (4 : Nat) = 2 := z; omega
                    · have z : (4 : Nat) = 3 := z; omega
                    · have z : 5 ≤ (4 : Nat) := z; omega
                    · have hne := lexA_ne (bs := bs) (lim := lim) (p := p + 1); cases q : lexA bs lim (p + 1) with | nil => exact absurd q hne | cons x r => rfl
                  · skip
                    refine r_iconst (q := 141) (nI 3) dX12_next_140 rfl (by decide) ?_
                    refine r_goto (q := 145) dX12_next_141 (by decide) ?_
                    refine r_puti (q := 148) ck12 dX12_next_145 rfl (k := 9) (by decide) wt1287 (Or.inl rfl) rfl (hs.e (by decide)) ?_
                    refine r_aload_n (q := 149) dX12_next_148 rfl rfl rfl ?_
                    refine r_iload_n (q := 150) dX12_next_149 rfl rfl rfl ?_
                    refine r_puti (q := 153) ck12 dX12_next_150 rfl (k := 12) (by decide) wt1290 (Or.inl rfl) rfl (hs.e (by decide)) ?_
                    refine r_aload_n (q := 154) dX12_next_153 rfl rfl rfl ?_
                    refine r_dup (q := 155) dX12_next_154 rfl rfl ?_
                    refine r_geti (q := 158) ck12 dX12_next_155 rfl (k := 4) (by decide) wt1282 (Or.inl rfl) (hs.e (by decide)) ?_
                    refine r_topi (y := gI S 12 0 4) (by simp [gI_sI, gJ_sJ, gI_sJ, gJ_sI]) ?_
                    refine r_topi (y := nI p) hx.2.2.2 ?_
                    refine r_iconst (q := 159) (nI 1) dX12_next_158 rfl (by decide) ?_
                    refine r_iaddN (q := 160) dX12_next_159 rfl ?_
                    refine r_puti (q := 163) ck12 dX12_next_160 rfl (k := 4) (by decide) wt1282 (Or.inl rfl) rfl (hs.e (by decide)) ?_
                    refine r_return dX12_next_163 rfl ?_
                    have f : Fr tNy S (sI (sI (sI (sI S 12 0 10 (nI p)) 12 0 11 (nI 0)) 12 0 9 (nI 3)) 12 0 12 (nI (bs.getD p 0))) := ((((Fr.rf.i rfl).i rfl).i rfl).i rfl)
                    have hsg : sgn (bs.getD p 0) = true := sgn_y (by omega)
                    rw [hsg]
                    refine ⟨rfl, (f.mono tNx_y).i rfl, ⟨?_, ?_, fun z => ?_, fun z => ?_, fun z => ?_⟩, p + 1, by omega, (hx.fr f).p, ?_⟩
                    · show _ = nI (rkt (bs.getD p 0)); have : rkt (bs.getD p 0) = 3 := rkt_sg hsg; rw [this]; (repeat (first | rw [gI_sI, if_neg (by omega)] | rw [gI_sI, if_pos ⟨rfl, rfl, rfl⟩])); first | done | rfl | (exfalso; omega)
                    · (repeat (first | rw [gI_sI, if_neg (by omega)] | rw [gI_sI, if_pos ⟨rfl, rfl, rfl⟩])); first | done | rfl | (exfalso; omega)
                    · have z : bs.getD p 0 = 2 := z; rw [z] at hsg; exact absurd hsg (by decide)
                    · have z : bs.getD p 0 = 3 := z; rw [z] at hsg; exact absurd hsg (by decide)
                    · (repeat (first | rw [gI_sI, if_neg (by omega)] | rw [gI_sI, if_pos ⟨rfl, rfl, rfl⟩])); first | done | rfl | (exfalso; omega)
                    · have hne := lexA_ne (bs := bs) (lim := lim) (p := p + 1); cases q : lexA bs lim (p + 1) with | nil => exact absurd q hne | cons x r => rfl

set_option maxRecDepth 100000 in
theorem ok_X12_next {S : zS} (hs : Sd S) {bs : List Nat} {lim p : Nat} (hbl : bs.length ≤ 940) (hx : Tx2 S bs lim p) (hlim : lim ≤ 940) (hpl : p ≤ bs.length) : Ok mX12_next 0 (ent 4 [zr 12 0]) [] S (fun r S1 => r = none ∧ Fr tNx S S1 ∧ Tm S1 (hdT (lexA bs lim p)) ∧ ∃ q, q ≤ bs.length ∧ Tx2 S1 bs lim q ∧ lexA bs lim q = adv (lexA bs lim p)) := by
  show Ok mX12_next 0 [some (zr 12 0), none, none, none] [] S _
  refine lp_nx0 hbl (bs.length - p) p S (by omega) hs hx (fun S' p' f1 f2 f3 f4 f5 => ?_)
  refine Ok.mono (lp_nx31 (hs.fr f1) hbl hlim f2 f3 f5) (fun r S1 z => ⟨z.1, f1.tr z.2.1, ?_⟩)
  rw [← f4]
  exact z.2.2

