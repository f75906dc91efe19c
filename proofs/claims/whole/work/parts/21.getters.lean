theorem i0 : (0 : Int32).toInt = 0 := rfl
/-- a number of the language within 0 .. n - 1 -/
theorem zz_of {a : Int32} {n : Nat} (h : 0 ≤ a ∧ a < nI n) (hn : n < 2147483648) : ∃ m, m < n ∧ a = nI m := by
  have h0 := Int32.le_iff_toInt_le.mp h.1
  have h1 := Int32.lt_iff_toInt_lt.mp h.2
  rw [nI_toInt hn] at h1
  rw [i0] at h0
  refine ⟨a.toInt.toNat, by omega, ?_⟩
  apply Int32.toInt_inj.mp
  rw [nI_toInt (by omega)]
  omega
theorem zz_le {a : Int32} {n : Nat} (h : 0 ≤ a ∧ a ≤ nI n) (hn : n < 2147483647) : ∃ m, m ≤ n ∧ a = nI m := by
  obtain ⟨m, h1, h2⟩ := zz_of (a := a) (n := n + 1) ⟨h.1, by
    have h1 := Int32.le_iff_toInt_le.mp h.2
    rw [nI_toInt (by omega)] at h1
    apply Int32.lt_iff_toInt_lt.mpr
    rw [nI_toInt (by omega)]
    omega⟩ (by omega)
  exact ⟨m, by omega, h2⟩
theorem in_lt {m n : Nat} (h : m < n) (hn : n < 2147483648) : 0 ≤ nI m ∧ nI m < nI n := by
  refine ⟨Int32.le_iff_toInt_le.mpr ?_, Int32.lt_iff_toInt_lt.mpr ?_⟩
  · rw [nI_toInt (by omega), i0]; omega
  · rw [nI_toInt (by omega), nI_toInt hn]; omega
theorem le_pred {a : Int32} {n : Nat} (hn : n < 1073741824) : a ≤ nI n - nI 1 ↔ a < nI n := by
  rw [Int32.le_iff_toInt_le, Int32.lt_iff_toInt_lt, pk_sub_toInt (by omega) (by omega), nI_toInt (by omega)]
  omega
/-- both tapes alike up to their length -/
def Tp (S : zS) (t : Nat) : Prop := t ≤ 940 ∧ gI S 11 0 1 = nI t ∧ gI S 12 0 2 = nI t ∧ ∀ k, k < t → gI S 1200 0 k = gI S 1301 0 k
def tTape (a b k : Nat) : Bool := a == 1200 && b == 0 || a == 1301 && b == 0 || a == 11 && b == 0 && k == 1 || a == 12 && b == 0 && (k == 0 || k == 2)
set_option maxRecDepth 100000 in
theorem ok_X11_end_in {S : zS} (hs : Sd S) {t m : Nat} (ht : gI S 11 0 1 = nI t) (h9 : t ≤ 940) (hm : m ≤ t) : Ok mX11_end 0 (ent 2 [zr 11 0, zi (nI m)]) [] S (fun r S1 => r = some (zi (nI 1)) ∧ S1 = sI S 11 0 1 (nI m)) := by
  show Ok mX11_end 0 [some (zr 11 0), some (zi (nI m))] [] S _
  refine r_iload_n (q := 1) dX11_end_0 rfl rfl rfl ?_
  refine r_if_ltN (q := 4) (t := 12) (by omega) dX11_end_1 (by decide) rfl ?_
  refine r_iload_n (q := 5) dX11_end_4 rfl rfl rfl ?_
  refine r_aload_n (q := 6) dX11_end_5 rfl rfl rfl ?_
  refine r_geti (q := 9) ck11 dX11_end_6 rfl (k := 1) (by decide) wt423 (Or.inl rfl) (hs.e (by decide)) ?_
  refine r_topi (y := nI t) ht ?_
  refine r_icmp_leN (q := 12) (t := 14) (by omega) (by omega) dX11_end_9 (by decide) rfl (fun h9 => ?_) (fun h9 => absurd h9 (by omega))
  refine r_aload_n (q := 15) dX11_end_14 rfl rfl rfl ?_
  refine r_iload_n (q := 16) dX11_end_15 rfl rfl rfl ?_
  refine r_puti (q := 19) ck11 dX11_end_16 rfl (k := 1) (by decide) wt423 (Or.inl rfl) rfl (hs.e (by decide)) ?_
  refine r_iconst (q := 20) (nI 1) dX11_end_19 rfl (by decide) ?_
  refine r_zreturn (by decide) dX11_end_20 rfl ?_
  exact ⟨rfl, rfl⟩

set_option maxRecDepth 100000 in
theorem ok_X11_end_out {S : zS} (hs : Sd S) {t : Nat} {a : Int32} (ht : gI S 11 0 1 = nI t) (h9 : t ≤ 940) (ha : ¬ (0 ≤ a ∧ a ≤ nI t)) : Ok mX11_end 0 (ent 2 [zr 11 0, zi a]) [] S (fun r S1 => r = some (zi (nI 0)) ∧ S1 = S) := by
  show Ok mX11_end 0 [some (zr 11 0), some (zi a)] [] S _
  refine r_iload_n (q := 1) dX11_end_0 rfl rfl rfl ?_
  refine r_if_lt (q := 4) (t := 12) dX11_end_1 (by decide) rfl (fun h1 => ?_) (fun h1 => ?_)
  · skip
    refine r_iconst (q := 13) (nI 0) dX11_end_12 rfl (by decide) ?_
    refine r_zreturn (by decide) dX11_end_13 rfl ?_
    exact ⟨rfl, rfl⟩
  · skip
    refine r_iload_n (q := 5) dX11_end_4 rfl rfl rfl ?_
    refine r_aload_n (q := 6) dX11_end_5 rfl rfl rfl ?_
    refine r_geti (q := 9) ck11 dX11_end_6 rfl (k := 1) (by decide) wt423 (Or.inl rfl) (hs.e (by decide)) ?_
    refine r_topi (y := nI t) ht ?_
    refine r_icmp_le (q := 12) (t := 14) dX11_end_9 (by decide) rfl (fun h9 => ?_) (fun h9 => ?_)
    · skip
      refine r_aload_n (q := 15) dX11_end_14 rfl rfl rfl ?_
      refine r_iload_n (q := 16) dX11_end_15 rfl rfl rfl ?_
      refine r_puti (q := 19) ck11 dX11_end_16 rfl (k := 1) (by decide) wt423 (Or.inl rfl) rfl (hs.e (by decide)) ?_
      refine r_iconst (q := 20) (nI 1) dX11_end_19 rfl (by decide) ?_
      refine r_zreturn (by decide) dX11_end_20 rfl ?_
      exact absurd ⟨Int32.not_lt.mp h1, h9⟩ ha
    · skip
      refine r_iconst (q := 13) (nI 0) dX11_end_12 rfl (by decide) ?_
      refine r_zreturn (by decide) dX11_end_13 rfl ?_
      exact ⟨rfl, rfl⟩

set_option maxRecDepth 100000 in
theorem ok_X12_end_in {S : zS} (hs : Sd S) {t m : Nat} (ht : gI S 12 0 2 = nI t) (h9 : t ≤ 940) (hm : m ≤ t) : Ok mX12_end 0 (ent 2 [zr 12 0, zi (nI m)]) [] S (fun r S1 => r = some (zi (nI 1)) ∧ S1 = sI (sI S 12 0 0 (nI 0)) 12 0 2 (nI m)) := by
  show Ok mX12_end 0 [some (zr 12 0), some (zi (nI m))] [] S _
  refine r_aload_n (q := 1) dX12_end_0 rfl rfl rfl ?_
  refine r_iconst (q := 2) (nI 0) dX12_end_1 rfl (by decide) ?_
  refine r_puti (q := 5) ck12 dX12_end_2 rfl (k := 0) (by decide) wt1278 (Or.inl rfl) rfl (hs.e (by decide)) ?_
  refine r_iload_n (q := 6) dX12_end_5 rfl rfl rfl ?_
  refine r_if_ltN (q := 9) (t := 17) (by omega) dX12_end_6 (by decide) rfl ?_
  refine r_iload_n (q := 10) dX12_end_9 rfl rfl rfl ?_
  refine r_aload_n (q := 11) dX12_end_10 rfl rfl rfl ?_
  refine r_geti (q := 14) ck12 dX12_end_11 rfl (k := 2) (by decide) wt1280 (Or.inl rfl) (hs.e (by decide)) ?_
  refine r_topi (y := gI S 12 0 2) (by simp [gI_sI, gJ_sJ, gI_sJ, gJ_sI]) ?_
  refine r_topi (y := nI t) ht ?_
  refine r_icmp_leN (q := 17) (t := 19) (by omega) (by omega) dX12_end_14 (by decide) rfl (fun h14 => ?_) (fun h14 => absurd h14 (by omega))
  refine r_aload_n (q := 20) dX12_end_19 rfl rfl rfl ?_
  refine r_iload_n (q := 21) dX12_end_20 rfl rfl rfl ?_
  refine r_puti (q := 24) ck12 dX12_end_21 rfl (k := 2) (by decide) wt1280 (Or.inl rfl) rfl (hs.e (by decide)) ?_
  refine r_iconst (q := 25) (nI 1) dX12_end_24 rfl (by decide) ?_
  refine r_zreturn (by decide) dX12_end_25 rfl ?_
  exact ⟨rfl, rfl⟩

set_option maxRecDepth 100000 in
theorem ok_X12_end_out {S : zS} (hs : Sd S) {t : Nat} {a : Int32} (ht : gI S 12 0 2 = nI t) (h9 : t ≤ 940) (ha : ¬ (0 ≤ a ∧ a ≤ nI t)) : Ok mX12_end 0 (ent 2 [zr 12 0, zi a]) [] S (fun r S1 => r = some (zi (nI 0)) ∧ S1 = (sI S 12 0 0 (nI 0))) := by
  show Ok mX12_end 0 [some (zr 12 0), some (zi a)] [] S _
  refine r_aload_n (q := 1) dX12_end_0 rfl rfl rfl ?_
  refine r_iconst (q := 2) (nI 0) dX12_end_1 rfl (by decide) ?_
  refine r_puti (q := 5) ck12 dX12_end_2 rfl (k := 0) (by decide) wt1278 (Or.inl rfl) rfl (hs.e (by decide)) ?_
  refine r_iload_n (q := 6) dX12_end_5 rfl rfl rfl ?_
  refine r_if_lt (q := 9) (t := 17) dX12_end_6 (by decide) rfl (fun h6 => ?_) (fun h6 => ?_)
  · skip
    refine r_iconst (q := 18) (nI 0) dX12_end_17 rfl (by decide) ?_
    refine r_zreturn (by decide) dX12_end_18 rfl ?_
    exact ⟨rfl, rfl⟩
  · skip
    refine r_iload_n (q := 10) dX12_end_9 rfl rfl rfl ?_
    refine r_aload_n (q := 11) dX12_end_10 rfl rfl rfl ?_
    refine r_geti (q := 14) ck12 dX12_end_11 rfl (k := 2) (by decide) wt1280 (Or.inl rfl) (hs.e (by decide)) ?_
    refine r_topi (y := gI S 12 0 2) (by simp [gI_sI, gJ_sJ, gI_sJ, gJ_sI]) ?_
    refine r_topi (y := nI t) ht ?_
    refine r_icmp_le (q := 17) (t := 19) dX12_end_14 (by decide) rfl (fun h14 => ?_) (fun h14 => ?_)
    · skip
      refine r_aload_n (q := 20) dX12_end_19 rfl rfl rfl ?_
      refine r_iload_n (q := 21) dX12_end_20 rfl rfl rfl ?_
      refine r_puti (q := 24) ck12 dX12_end_21 rfl (k := 2) (by decide) wt1280 (Or.inl rfl) rfl (hs.e (by decide)) ?_
      refine r_iconst (q := 25) (nI 1) dX12_end_24 rfl (by decide) ?_
      refine r_zreturn (by decide) dX12_end_25 rfl ?_
      exact absurd ⟨Int32.not_lt.mp h6, h14⟩ ha
    · skip
      refine r_iconst (q := 18) (nI 0) dX12_end_17 rfl (by decide) ?_
      refine r_zreturn (by decide) dX12_end_18 rfl ?_
      exact ⟨rfl, rfl⟩

set_option maxRecDepth 100000 in
theorem ok_X11_fault {S : zS} (hs : Sd S) : Ok mX11_fault 0 (ent 1 [zr 11 0]) [] S (fun r S1 => r = some (zi (gI S 4 0 14)) ∧ S1 = S) := by
  show Ok mX11_fault 0 [some (zr 11 0)] [] S _
  refine r_aload_n (q := 1) dX11_fault_0 rfl rfl rfl ?_
  refine r_getr (q := 4) (some (4, 0)) ck11 dX11_fault_1 rfl (k := 14) (by decide) wt436 rfl (hs.e (by decide)) (hs.r (by decide) (by decide)) ?_
  refine r_geti (q := 7) ck4 dX11_fault_4 rfl (k := 14) (by decide) wt137 (Or.inl rfl) (hs.e (by decide)) ?_
  refine r_ireturn dX11_fault_7 rfl ?_
  exact ⟨rfl, rfl⟩

set_option maxRecDepth 100000 in
theorem ok_X12_fault {S : zS} (hs : Sd S) : Ok mX12_fault 0 (ent 1 [zr 12 0]) [] S (fun r S1 => r = some (zi (gI S 12 0 13)) ∧ S1 = (sI S 12 0 0 (nI 0))) := by
  show Ok mX12_fault 0 [some (zr 12 0)] [] S _
  refine r_aload_n (q := 1) dX12_fault_0 rfl rfl rfl ?_
  refine r_iconst (q := 2) (nI 0) dX12_fault_1 rfl (by decide) ?_
  refine r_puti (q := 5) ck12 dX12_fault_2 rfl (k := 0) (by decide) wt1278 (Or.inl rfl) rfl (hs.e (by decide)) ?_
  refine r_aload_n (q := 6) dX12_fault_5 rfl rfl rfl ?_
  refine r_geti (q := 9) ck12 dX12_fault_6 rfl (k := 13) (by decide) wt1291 (Or.inl rfl) (hs.e (by decide)) ?_
  refine r_topi (y := gI S 12 0 13) (by simp [gI_sI, gJ_sJ, gI_sJ, gJ_sI]) ?_
  refine r_ireturn dX12_fault_9 rfl ?_
  exact ⟨rfl, rfl⟩

set_option maxRecDepth 100000 in
theorem ok_X11_leaves {S : zS} (hs : Sd S) : Ok mX11_leaves 0 (ent 1 [zr 11 0]) [] S (fun r S1 => r = some (zi (gI S 8 0 0)) ∧ S1 = S) := by
  show Ok mX11_leaves 0 [some (zr 11 0)] [] S _
  refine r_aload_n (q := 1) dX11_leaves_0 rfl rfl rfl ?_
  refine r_getr (q := 4) (some (8, 0)) ck11 dX11_leaves_1 rfl (k := 7) (by decide) wt429 rfl (hs.e (by decide)) (hs.r (by decide) (by decide)) ?_
  refine r_geti (q := 7) ck8 dX11_leaves_4 rfl (k := 0) (by decide) wt60 (Or.inl rfl) (hs.e (by decide)) ?_
  refine r_ireturn dX11_leaves_7 rfl ?_
  exact ⟨rfl, rfl⟩

set_option maxRecDepth 100000 in
theorem ok_X12_leaves {S : zS} (hs : Sd S) : Ok mX12_leaves 0 (ent 1 [zr 12 0]) [] S (fun r S1 => r = some (zi (gI S 1306 0 1173)) ∧ S1 = (sI S 12 0 0 (nI 0))) := by
  show Ok mX12_leaves 0 [some (zr 12 0)] [] S _
  refine r_aload_n (q := 1) dX12_leaves_0 rfl rfl rfl ?_
  refine r_iconst (q := 2) (nI 0) dX12_leaves_1 rfl (by decide) ?_
  refine r_puti (q := 5) ck12 dX12_leaves_2 rfl (k := 0) (by decide) wt1278 (Or.inl rfl) rfl (hs.e (by decide)) ?_
  refine r_aload_n (q := 6) dX12_leaves_5 rfl rfl rfl ?_
  refine r_getr (q := 9) (some (1306, 0)) ck12 dX12_leaves_6 rfl (k := 6) (by decide) wt1284 rfl (hs.e (by decide)) (hs.r (by decide) (by decide)) ?_
  refine r_sipush (q := 12) (nI 1173) dX12_leaves_9 rfl (by decide) ?_
  refine r_ialdN (q := 13) 3775 (by decide) rfl dX12_leaves_12 rfl (hs.e (by decide)) (hs.n rfl (by decide)) (by omega) (by decide) ?_
  refine r_topi (y := gI S 1306 0 1173) (by simp [gI_sI, gJ_sJ, gI_sJ, gJ_sI]) ?_
  refine r_ireturn dX12_leaves_13 rfl ?_
  exact ⟨rfl, rfl⟩

set_option maxRecDepth 100000 in
theorem ok_X11_broken {S : zS} (hs : Sd S) : Ok mX11_broken 0 (ent 1 [zr 11 0]) [] S (fun r S1 => r = some (zi (gI S 3 0 1)) ∧ S1 = S) := by
  show Ok mX11_broken 0 [some (zr 11 0)] [] S _
  refine r_aload_n (q := 1) dX11_broken_0 rfl rfl rfl ?_
  refine r_getr (q := 4) (some (3, 0)) ck11 dX11_broken_1 rfl (k := 16) (by decide) wt438 rfl (hs.e (by decide)) (hs.r (by decide) (by decide)) ?_
  refine r_geti (q := 7) ck3 dX11_broken_4 rfl (k := 1) (by decide) wt204 (Or.inl rfl) (hs.e (by decide)) ?_
  refine r_ireturn dX11_broken_7 rfl ?_
  exact ⟨rfl, rfl⟩

set_option maxRecDepth 100000 in
theorem ok_X12_broken {S : zS} (hs : Sd S) : Ok mX12_broken 0 (ent 1 [zr 12 0]) [] S (fun r S1 => r = some (zi (gI S 12 0 82)) ∧ S1 = (sI S 12 0 0 (nI 0))) := by
  show Ok mX12_broken 0 [some (zr 12 0)] [] S _
  refine r_aload_n (q := 1) dX12_broken_0 rfl rfl rfl ?_
  refine r_iconst (q := 2) (nI 0) dX12_broken_1 rfl (by decide) ?_
  refine r_puti (q := 5) ck12 dX12_broken_2 rfl (k := 0) (by decide) wt1278 (Or.inl rfl) rfl (hs.e (by decide)) ?_
  refine r_aload_n (q := 6) dX12_broken_5 rfl rfl rfl ?_
  refine r_geti (q := 9) ck12 dX12_broken_6 rfl (k := 82) (by decide) wt1360 (Or.inl rfl) (hs.e (by decide)) ?_
  refine r_topi (y := gI S 12 0 82) (by simp [gI_sI, gJ_sJ, gI_sJ, gJ_sI]) ?_
  refine r_ireturn dX12_broken_9 rfl ?_
  exact ⟨rfl, rfl⟩

set_option maxRecDepth 100000 in
theorem ok_X11_worldHere {S : zS} (hs : Sd S) {c : Nat} (hc : gI S 11 0 3 = nI c) (hc4 : c < 4) : Ok mX11_worldHere 0 (ent 1 [zr 11 0]) [] S (fun r S1 => r = some (zr 9 c) ∧ S1 = S) := by
  show Ok mX11_worldHere 0 [some (zr 11 0)] [] S _
  refine r_aload_n (q := 1) dX11_worldHere_0 rfl rfl rfl ?_
  refine r_getr (q := 4) (some (1202, 0)) ck11 dX11_worldHere_1 rfl (k := 2) (by decide) wt424 rfl (hs.e (by decide)) (hs.r (by decide) (by decide)) ?_
  refine r_aload_n (q := 5) dX11_worldHere_4 rfl rfl rfl ?_
  refine r_geti (q := 8) ck11 dX11_worldHere_5 rfl (k := 3) (by decide) wt425 (Or.inl rfl) (hs.e (by decide)) ?_
  refine r_topi (y := nI c) hc ?_
  refine r_aaldN (q := 9) (some (0, c)) 4 (by decide) (by decide) (by decide) dX11_worldHere_8 rfl (hs.e (by decide)) (hs.n rfl (by decide)) (show c < 4 by omega) (by decide) ((hs.r (by decide) (show c < 4 by omega)).trans (if_pos (show c < 4 by omega))) ?_
  refine r_getr (q := 12) (some (9, c)) ck0 dX11_worldHere_9 rfl (k := 0) (by decide) wt377 rfl (hs.e (show c < 4 by omega)) (hs.r (show c < 4 by omega) (by decide)) ?_
  refine r_areturn dX11_worldHere_12 rfl (Or.inl ⟨_, rfl⟩) ?_
  exact ⟨rfl, rfl⟩

set_option maxRecDepth 100000 in
theorem ok_X9_hasAct_in {S : zS} (hs : Sd S) {c A m : Nat} (hc4 : c < 4) (hA : gI S 9 c 1 = nI A) (hAm : A ≤ 3) (hm : m < A) : Ok mX9_hasAct 0 (ent 2 [zr 9 c, zi (nI m)]) [] S (fun r S1 => r = some (zi (nI 1)) ∧ S1 = S) := by
  show Ok mX9_hasAct 0 [some (zr 9 c), some (zi (nI m))] [] S _
  refine r_iload_n (q := 1) dX9_hasAct_0 rfl rfl rfl ?_
  refine r_if_ltN (q := 4) (t := 16) (by omega) dX9_hasAct_1 (by decide) rfl ?_
  refine r_iload_n (q := 5) dX9_hasAct_4 rfl rfl rfl ?_
  refine r_aload_n (q := 6) dX9_hasAct_5 rfl rfl rfl ?_
  refine r_geti (q := 9) ck9 dX9_hasAct_6 rfl (k := 1) (by decide) wt296 (Or.inl rfl) (hs.e (show c < 4 by omega)) ?_
  refine r_topi (y := nI A) hA ?_
  refine r_icmp_geN (q := 12) (t := 16) (by omega) (by omega) dX9_hasAct_9 (by decide) rfl (fun h9 => absurd h9 (by omega)) (fun h9 => ?_)
  refine r_iconst (q := 13) (nI 1) dX9_hasAct_12 rfl (by decide) ?_
  refine r_goto (q := 17) dX9_hasAct_13 (by decide) ?_
  refine r_zreturn (by decide) dX9_hasAct_17 rfl ?_
  exact ⟨rfl, rfl⟩

set_option maxRecDepth 100000 in
theorem ok_X9_hasAct_out {S : zS} (hs : Sd S) {c A : Nat} {a : Int32} (hc4 : c < 4) (hA : gI S 9 c 1 = nI A) (hAm : A ≤ 3) (ha : ¬ (0 ≤ a ∧ a < nI A)) : Ok mX9_hasAct 0 (ent 2 [zr 9 c, zi a]) [] S (fun r S1 => r = some (zi (nI 0)) ∧ S1 = S) := by
  show Ok mX9_hasAct 0 [some (zr 9 c), some (zi a)] [] S _
  refine r_iload_n (q := 1) dX9_hasAct_0 rfl rfl rfl ?_
  refine r_if_lt (q := 4) (t := 16) dX9_hasAct_1 (by decide) rfl (fun h1 => ?_) (fun h1 => ?_)
  · skip
    refine r_iconst (q := 17) (nI 0) dX9_hasAct_16 rfl (by decide) ?_
    refine r_zreturn (by decide) dX9_hasAct_17 rfl ?_
    exact ⟨rfl, rfl⟩
  · skip
    refine r_iload_n (q := 5) dX9_hasAct_4 rfl rfl rfl ?_
    refine r_aload_n (q := 6) dX9_hasAct_5 rfl rfl rfl ?_
    refine r_geti (q := 9) ck9 dX9_hasAct_6 rfl (k := 1) (by decide) wt296 (Or.inl rfl) (hs.e (show c < 4 by omega)) ?_
    refine r_topi (y := nI A) hA ?_
    refine r_icmp_ge (q := 12) (t := 16) dX9_hasAct_9 (by decide) rfl (fun h9 => ?_) (fun h9 => ?_)
    · skip
      refine r_iconst (q := 17) (nI 0) dX9_hasAct_16 rfl (by decide) ?_
      refine r_zreturn (by decide) dX9_hasAct_17 rfl ?_
      exact ⟨rfl, rfl⟩
    · skip
      refine r_iconst (q := 13) (nI 1) dX9_hasAct_12 rfl (by decide) ?_
      refine r_goto (q := 17) dX9_hasAct_13 (by decide) ?_
      refine r_zreturn (by decide) dX9_hasAct_17 rfl ?_
      exact absurd ⟨Int32.not_lt.mp h1, Int32.not_le.mp h9⟩ ha

set_option maxRecDepth 100000 in
theorem ok_X9_hasLaw_in {S : zS} (hs : Sd S) {c W m : Nat} (hc4 : c < 4) (hW : gI S 9 c 4 = nI W) (hWm : W ≤ 18) (hm : m < W) : Ok mX9_hasLaw 0 (ent 2 [zr 9 c, zi (nI m)]) [] S (fun r S1 => r = some (zi (nI 1)) ∧ S1 = S) := by
  show Ok mX9_hasLaw 0 [some (zr 9 c), some (zi (nI m))] [] S _
  refine r_iload_n (q := 1) dX9_hasLaw_0 rfl rfl rfl ?_
  refine r_if_ltN (q := 4) (t := 16) (by omega) dX9_hasLaw_1 (by decide) rfl ?_
  refine r_iload_n (q := 5) dX9_hasLaw_4 rfl rfl rfl ?_
  refine r_aload_n (q := 6) dX9_hasLaw_5 rfl rfl rfl ?_
  refine r_geti (q := 9) ck9 dX9_hasLaw_6 rfl (k := 4) (by decide) wt312 (Or.inl rfl) (hs.e (show c < 4 by omega)) ?_
  refine r_topi (y := nI W) hW ?_
  refine r_icmp_geN (q := 12) (t := 16) (by omega) (by omega) dX9_hasLaw_9 (by decide) rfl (fun h9 => absurd h9 (by omega)) (fun h9 => ?_)
  refine r_iconst (q := 13) (nI 1) dX9_hasLaw_12 rfl (by decide) ?_
  refine r_goto (q := 17) dX9_hasLaw_13 (by decide) ?_
  refine r_zreturn (by decide) dX9_hasLaw_17 rfl ?_
  exact ⟨rfl, rfl⟩

set_option maxRecDepth 100000 in
theorem ok_X9_hasLaw_out {S : zS} (hs : Sd S) {c W : Nat} {a : Int32} (hc4 : c < 4) (hW : gI S 9 c 4 = nI W) (hWm : W ≤ 18) (ha : ¬ (0 ≤ a ∧ a < nI W)) : Ok mX9_hasLaw 0 (ent 2 [zr 9 c, zi a]) [] S (fun r S1 => r = some (zi (nI 0)) ∧ S1 = S) := by
  show Ok mX9_hasLaw 0 [some (zr 9 c), some (zi a)] [] S _
  refine r_iload_n (q := 1) dX9_hasLaw_0 rfl rfl rfl ?_
  refine r_if_lt (q := 4) (t := 16) dX9_hasLaw_1 (by decide) rfl (fun h1 => ?_) (fun h1 => ?_)
  · skip
    refine r_iconst (q := 17) (nI 0) dX9_hasLaw_16 rfl (by decide) ?_
    refine r_zreturn (by decide) dX9_hasLaw_17 rfl ?_
    exact ⟨rfl, rfl⟩
  · skip
    refine r_iload_n (q := 5) dX9_hasLaw_4 rfl rfl rfl ?_
    refine r_aload_n (q := 6) dX9_hasLaw_5 rfl rfl rfl ?_
    refine r_geti (q := 9) ck9 dX9_hasLaw_6 rfl (k := 4) (by decide) wt312 (Or.inl rfl) (hs.e (show c < 4 by omega)) ?_
    refine r_topi (y := nI W) hW ?_
    refine r_icmp_ge (q := 12) (t := 16) dX9_hasLaw_9 (by decide) rfl (fun h9 => ?_) (fun h9 => ?_)
    · skip
      refine r_iconst (q := 17) (nI 0) dX9_hasLaw_16 rfl (by decide) ?_
      refine r_zreturn (by decide) dX9_hasLaw_17 rfl ?_
      exact ⟨rfl, rfl⟩
    · skip
      refine r_iconst (q := 13) (nI 1) dX9_hasLaw_12 rfl (by decide) ?_
      refine r_goto (q := 17) dX9_hasLaw_13 (by decide) ?_
      refine r_zreturn (by decide) dX9_hasLaw_17 rfl ?_
      exact absurd ⟨Int32.not_lt.mp h1, Int32.not_le.mp h9⟩ ha

set_option maxRecDepth 100000 in
theorem ok_X12_isIn_in {S : zS} {m lo hi : Nat} (h1 : lo ≤ m) (h2 : m ≤ hi) (h3 : hi < 2147483648) : Ok mX12_isIn 0 (ent 3 [zi (nI m), zi (nI lo), zi (nI hi)]) [] S (fun r S1 => r = some (zi (nI 1)) ∧ S1 = S) := by
  show Ok mX12_isIn 0 [some (zi (nI m)), some (zi (nI lo)), some (zi (nI hi))] [] S _
  refine r_iload_n (q := 1) dX12_isIn_0 rfl rfl rfl ?_
  refine r_iload_n (q := 2) dX12_isIn_1 rfl rfl rfl ?_
  refine r_icmp_ltN (q := 5) (t := 14) (by omega) (by omega) dX12_isIn_2 (by decide) rfl (fun h2 => absurd h2 (by omega)) (fun h2 => ?_)
  refine r_iload_n (q := 6) dX12_isIn_5 rfl rfl rfl ?_
  refine r_iload_n (q := 7) dX12_isIn_6 rfl rfl rfl ?_
  refine r_icmp_gtN (q := 10) (t := 14) (by omega) (by omega) dX12_isIn_7 (by decide) rfl (fun h7 => absurd h7 (by omega)) (fun h7 => ?_)
  refine r_iconst (q := 11) (nI 1) dX12_isIn_10 rfl (by decide) ?_
  refine r_goto (q := 15) dX12_isIn_11 (by decide) ?_
  refine r_zreturn (by decide) dX12_isIn_15 rfl ?_
  exact ⟨rfl, rfl⟩

set_option maxRecDepth 100000 in
theorem ok_X12_isIn_out {S : zS} {a lo hi : Int32} (ha : ¬ (lo ≤ a ∧ a ≤ hi)) : Ok mX12_isIn 0 (ent 3 [zi a, zi lo, zi hi]) [] S (fun r S1 => r = some (zi (nI 0)) ∧ S1 = S) := by
  show Ok mX12_isIn 0 [some (zi a), some (zi lo), some (zi hi)] [] S _
  refine r_iload_n (q := 1) dX12_isIn_0 rfl rfl rfl ?_
  refine r_iload_n (q := 2) dX12_isIn_1 rfl rfl rfl ?_
  refine r_icmp_lt (q := 5) (t := 14) dX12_isIn_2 (by decide) rfl (fun h2 => ?_) (fun h2 => ?_)
  · skip
    refine r_iconst (q := 15) (nI 0) dX12_isIn_14 rfl (by decide) ?_
    refine r_zreturn (by decide) dX12_isIn_15 rfl ?_
    exact ⟨rfl, rfl⟩
  · skip
    refine r_iload_n (q := 6) dX12_isIn_5 rfl rfl rfl ?_
    refine r_iload_n (q := 7) dX12_isIn_6 rfl rfl rfl ?_
    refine r_icmp_gt (q := 10) (t := 14) dX12_isIn_7 (by decide) rfl (fun h7 => ?_) (fun h7 => ?_)
    · skip
      refine r_iconst (q := 15) (nI 0) dX12_isIn_14 rfl (by decide) ?_
      refine r_zreturn (by decide) dX12_isIn_15 rfl ?_
      exact ⟨rfl, rfl⟩
    · skip
      refine r_iconst (q := 11) (nI 1) dX12_isIn_10 rfl (by decide) ?_
      refine r_goto (q := 15) dX12_isIn_11 (by decide) ?_
      refine r_zreturn (by decide) dX12_isIn_15 rfl ?_
      exact absurd ⟨Int32.not_lt.mp h2, Int32.not_lt.mp h7⟩ ha

set_option maxRecDepth 100000 in
theorem ok_X12_isAct_in {S : zS} (hs : Sd S) {A m : Nat} (hA : gI S 1306 0 1 = nI A) (hAm : A ≤ 3) (hm : m < A) : Ok mX12_isAct 0 (ent 2 [zr 12 0, zi (nI m)]) [] S (fun r S1 => r = some (zi (nI 1)) ∧ S1 = S) := by
  show Ok mX12_isAct 0 [some (zr 12 0), some (zi (nI m))] [] S _
  refine r_iload_n (q := 1) dX12_isAct_0 rfl rfl rfl ?_
  refine r_iconst (q := 2) (nI 0) dX12_isAct_1 rfl (by decide) ?_
  refine r_aload_n (q := 3) dX12_isAct_2 rfl rfl rfl ?_
  refine r_getr (q := 6) (some (1306, 0)) ck12 dX12_isAct_3 rfl (k := 6) (by decide) wt1284 rfl (hs.e (by decide)) (hs.r (by decide) (by decide)) ?_
  refine r_iconst (q := 7) (nI 1) dX12_isAct_6 rfl (by decide) ?_
  refine r_ialdN (q := 8) 3775 (by decide) rfl dX12_isAct_7 rfl (hs.e (by decide)) (hs.n rfl (by decide)) (by omega) (by decide) ?_
  refine r_topi (y := nI A) hA ?_
  refine r_iconst (q := 9) (nI 1) dX12_isAct_8 rfl (by decide) ?_
  refine r_isubN (q := 10) (by omega) dX12_isAct_9 rfl ?_
  refine r_callS (Mc := mX12_isIn) (q := 13) (As := [zi (nI m), zi (nI 0), zi (nI (A - 1))]) (st := []) dX12_isAct_10 rfl rfl mkX12_isIn wt1614 wt1615 rfl (Nat.le_of_ble_eq_true rfl) (Nat.le_of_ble_eq_true rfl) (by decide) (by decide) (by decide) (Or.inl rfl) hs.some (ok_X12_isIn_in (S := S) (by omega) (by omega) (by omega)) (fun r10 S10 hp10 => ?_)
  obtain ⟨rfl, hq10⟩ := hp10
  rw [hq10]
  show Ok _ _ _ [zi (nI 1)] _ _
  refine r_zreturn (by decide) dX12_isAct_13 rfl ?_
  exact ⟨rfl, rfl⟩

set_option maxRecDepth 100000 in
theorem ok_X12_isAct_out {S : zS} (hs : Sd S) {A : Nat} {a : Int32} (hA : gI S 1306 0 1 = nI A) (hAm : A ≤ 3) (ha : ¬ (0 ≤ a ∧ a < nI A)) : Ok mX12_isAct 0 (ent 2 [zr 12 0, zi a]) [] S (fun r S1 => r = some (zi (nI 0)) ∧ S1 = S) := by
  show Ok mX12_isAct 0 [some (zr 12 0), some (zi a)] [] S _
  refine r_iload_n (q := 1) dX12_isAct_0 rfl rfl rfl ?_
  refine r_iconst (q := 2) (nI 0) dX12_isAct_1 rfl (by decide) ?_
  refine r_aload_n (q := 3) dX12_isAct_2 rfl rfl rfl ?_
  refine r_getr (q := 6) (some (1306, 0)) ck12 dX12_isAct_3 rfl (k := 6) (by decide) wt1284 rfl (hs.e (by decide)) (hs.r (by decide) (by decide)) ?_
  refine r_iconst (q := 7) (nI 1) dX12_isAct_6 rfl (by decide) ?_
  refine r_ialdN (q := 8) 3775 (by decide) rfl dX12_isAct_7 rfl (hs.e (by decide)) (hs.n rfl (by decide)) (by omega) (by decide) ?_
  refine r_topi (y := nI A) hA ?_
  refine r_iconst (q := 9) (nI 1) dX12_isAct_8 rfl (by decide) ?_
  refine r_isub (q := 10) dX12_isAct_9 rfl ?_
  refine r_callS (Mc := mX12_isIn) (q := 13) (As := [zi a, zi (nI 0), zi ((nI A) - (nI 1))]) (st := []) dX12_isAct_10 rfl rfl mkX12_isIn wt1614 wt1615 rfl (Nat.le_of_ble_eq_true rfl) (Nat.le_of_ble_eq_true rfl) (by decide) (by decide) (by decide) (Or.inl rfl) hs.some (ok_X12_isIn_out (S := S) (fun z => ha ⟨z.1, (le_pred (by omega)).mp z.2⟩)) (fun r10 S10 hp10 => ?_)
  obtain ⟨rfl, hq10⟩ := hp10
  rw [hq10]
  show Ok _ _ _ [zi (nI 0)] _ _
  refine r_zreturn (by decide) dX12_isAct_13 rfl ?_
  exact ⟨rfl, rfl⟩

set_option maxRecDepth 100000 in
theorem ok_X12_isLaw_in {S : zS} (hs : Sd S) {W m : Nat} (hW : gI S 1306 0 2 = nI W) (hWm : W ≤ 18) (hm : m < W) : Ok mX12_isLaw 0 (ent 2 [zr 12 0, zi (nI m)]) [] S (fun r S1 => r = some (zi (nI 1)) ∧ S1 = S) := by
  show Ok mX12_isLaw 0 [some (zr 12 0), some (zi (nI m))] [] S _
  refine r_iload_n (q := 1) dX12_isLaw_0 rfl rfl rfl ?_
  refine r_iconst (q := 2) (nI 0) dX12_isLaw_1 rfl (by decide) ?_
  refine r_aload_n (q := 3) dX12_isLaw_2 rfl rfl rfl ?_
  refine r_getr (q := 6) (some (1306, 0)) ck12 dX12_isLaw_3 rfl (k := 6) (by decide) wt1284 rfl (hs.e (by decide)) (hs.r (by decide) (by decide)) ?_
  refine r_iconst (q := 7) (nI 2) dX12_isLaw_6 rfl (by decide) ?_
  refine r_ialdN (q := 8) 3775 (by decide) rfl dX12_isLaw_7 rfl (hs.e (by decide)) (hs.n rfl (by decide)) (by omega) (by decide) ?_
  refine r_topi (y := nI W) hW ?_
  refine r_iconst (q := 9) (nI 1) dX12_isLaw_8 rfl (by decide) ?_
  refine r_isubN (q := 10) (by omega) dX12_isLaw_9 rfl ?_
  refine r_callS (Mc := mX12_isIn) (q := 13) (As := [zi (nI m), zi (nI 0), zi (nI (W - 1))]) (st := []) dX12_isLaw_10 rfl rfl mkX12_isIn wt1614 wt1615 rfl (Nat.le_of_ble_eq_true rfl) (Nat.le_of_ble_eq_true rfl) (by decide) (by decide) (by decide) (Or.inl rfl) hs.some (ok_X12_isIn_in (S := S) (by omega) (by omega) (by omega)) (fun r10 S10 hp10 => ?_)
  obtain ⟨rfl, hq10⟩ := hp10
  rw [hq10]
  show Ok _ _ _ [zi (nI 1)] _ _
  refine r_zreturn (by decide) dX12_isLaw_13 rfl ?_
  exact ⟨rfl, rfl⟩

set_option maxRecDepth 100000 in
theorem ok_X12_isLaw_out {S : zS} (hs : Sd S) {W : Nat} {a : Int32} (hW : gI S 1306 0 2 = nI W) (hWm : W ≤ 18) (ha : ¬ (0 ≤ a ∧ a < nI W)) : Ok mX12_isLaw 0 (ent 2 [zr 12 0, zi a]) [] S (fun r S1 => r = some (zi (nI 0)) ∧ S1 = S) := by
  show Ok mX12_isLaw 0 [some (zr 12 0), some (zi a)] [] S _
  refine r_iload_n (q := 1) dX12_isLaw_0 rfl rfl rfl ?_
  refine r_iconst (q := 2) (nI 0) dX12_isLaw_1 rfl (by decide) ?_
  refine r_aload_n (q := 3) dX12_isLaw_2 rfl rfl rfl ?_
  refine r_getr (q := 6) (some (1306, 0)) ck12 dX12_isLaw_3 rfl (k := 6) (by decide) wt1284 rfl (hs.e (by decide)) (hs.r (by decide) (by decide)) ?_
  refine r_iconst (q := 7) (nI 2) dX12_isLaw_6 rfl (by decide) ?_
  refine r_ialdN (q := 8) 3775 (by decide) rfl dX12_isLaw_7 rfl (hs.e (by decide)) (hs.n rfl (by decide)) (by omega) (by decide) ?_
  refine r_topi (y := nI W) hW ?_
  refine r_iconst (q := 9) (nI 1) dX12_isLaw_8 rfl (by decide) ?_
  refine r_isub (q := 10) dX12_isLaw_9 rfl ?_
  refine r_callS (Mc := mX12_isIn) (q := 13) (As := [zi a, zi (nI 0), zi ((nI W) - (nI 1))]) (st := []) dX12_isLaw_10 rfl rfl mkX12_isIn wt1614 wt1615 rfl (Nat.le_of_ble_eq_true rfl) (Nat.le_of_ble_eq_true rfl) (by decide) (by decide) (by decide) (Or.inl rfl) hs.some (ok_X12_isIn_out (S := S) (fun z => ha ⟨z.1, (le_pred (by omega)).mp z.2⟩)) (fun r10 S10 hp10 => ?_)
  obtain ⟨rfl, hq10⟩ := hp10
  rw [hq10]
  show Ok _ _ _ [zi (nI 0)] _ _
  refine r_zreturn (by decide) dX12_isLaw_13 rfl ?_
  exact ⟨rfl, rfl⟩

set_option maxRecDepth 100000 in
theorem ok_X11_act_in {S : zS} (hs : Sd S) {c A m : Nat} (hc : gI S 11 0 3 = nI c) (hc4 : c < 4) (hA : gI S 9 c 1 = nI A) (hAm : A ≤ 3) (hm : m < A) : Ok mX11_act 0 (ent 3 [zr 11 0, zi (nI m)]) [] S (fun r S1 => r = some (zi (gI S 1003 c m)) ∧ S1 = S) := by
  show Ok mX11_act 0 [some (zr 11 0), some (zi (nI m)), none] [] S _
  refine r_aload_n (q := 1) dX11_act_0 rfl rfl rfl ?_
  refine r_callV (Mc := mX11_worldHere) (q := 4) (As := []) (st := []) ck11 dX11_act_1 rfl rfl mkX11_worldHere wt678 wt680 wp20 rfl (Nat.le_of_ble_eq_true rfl) (Nat.le_of_ble_eq_true rfl) (by decide) (by decide) (by decide) (Or.inl rfl) (hs.e (by decide)) (ok_X11_worldHere (S := S) hs hc hc4) (fun r1 S1 hp1 => ?_)
  obtain ⟨rfl, hq1⟩ := hp1
  rw [hq1]
  show Ok _ _ _ [zr 9 c] _ _
  refine r_astore_n (q := 5) (L' := [some (zr 11 0), some (zi (nI m)), some (zr 9 c)]) dX11_act_4 rfl rfl (by decide) rfl ?_
  refine r_aload_n (q := 6) dX11_act_5 rfl rfl rfl ?_
  refine r_iload_n (q := 7) dX11_act_6 rfl rfl rfl ?_
  refine r_callV (Mc := mX9_hasAct) (q := 10) (As := [zi (nI m)]) (st := []) ck9 dX11_act_7 rfl rfl mkX9_hasAct wt682 wt683 wt684 rfl (Nat.le_of_ble_eq_true rfl) (Nat.le_of_ble_eq_true rfl) (by decide) (by decide) (by decide) (Or.inl rfl) (hs.e (show c < 4 by omega)) (ok_X9_hasAct_in (S := S) hs hc4 hA hAm hm) (fun r7 S7 hp7 => ?_)
  obtain ⟨rfl, hq7⟩ := hp7
  rw [hq7]
  show Ok _ _ _ [zi (nI 1)] _ _
  refine r_if_eqN (q := 13) (t := 22) (by omega) dX11_act_10 (by decide) rfl (fun h10 => absurd h10 (by omega)) (fun h10 => ?_)
  refine r_aload_n (q := 14) dX11_act_13 rfl rfl rfl ?_
  refine r_getr (q := 17) (some (1003, c)) ck9 dX11_act_14 rfl (k := 3) (by decide) wt309 rfl (hs.e (show c < 4 by omega)) (hs.r (show c < 4 by omega) (by decide)) ?_
  refine r_iload_n (q := 18) dX11_act_17 rfl rfl rfl ?_
  refine r_ialdN (q := 19) 3 (by decide) rfl dX11_act_18 rfl (hs.e (show c < 4 by omega)) (hs.n rfl (show c < 4 by omega)) (by omega) (by decide) ?_
  refine r_goto (q := 23) dX11_act_19 (by decide) ?_
  refine r_ireturn dX11_act_23 rfl ?_
  exact ⟨rfl, rfl⟩

set_option maxRecDepth 100000 in
theorem ok_X11_act_out {S : zS} (hs : Sd S) {c A : Nat} {a : Int32} (hc : gI S 11 0 3 = nI c) (hc4 : c < 4) (hA : gI S 9 c 1 = nI A) (hAm : A ≤ 3) (ha : ¬ (0 ≤ a ∧ a < nI A)) : Ok mX11_act 0 (ent 3 [zr 11 0, zi a]) [] S (fun r S1 => r = some (zi (-1)) ∧ S1 = S) := by
  show Ok mX11_act 0 [some (zr 11 0), some (zi a), none] [] S _
  refine r_aload_n (q := 1) dX11_act_0 rfl rfl rfl ?_
  refine r_callV (Mc := mX11_worldHere) (q := 4) (As := []) (st := []) ck11 dX11_act_1 rfl rfl mkX11_worldHere wt678 wt680 wp20 rfl (Nat.le_of_ble_eq_true rfl) (Nat.le_of_ble_eq_true rfl) (by decide) (by decide) (by decide) (Or.inl rfl) (hs.e (by decide)) (ok_X11_worldHere (S := S) hs hc hc4) (fun r1 S1 hp1 => ?_)
  obtain ⟨rfl, hq1⟩ := hp1
  rw [hq1]
  show Ok _ _ _ [zr 9 c] _ _
  refine r_astore_n (q := 5) (L' := [some (zr 11 0), some (zi a), some (zr 9 c)]) dX11_act_4 rfl rfl (by decide) rfl ?_
  refine r_aload_n (q := 6) dX11_act_5 rfl rfl rfl ?_
  refine r_iload_n (q := 7) dX11_act_6 rfl rfl rfl ?_
  refine r_callV (Mc := mX9_hasAct) (q := 10) (As := [zi a]) (st := []) ck9 dX11_act_7 rfl rfl mkX9_hasAct wt682 wt683 wt684 rfl (Nat.le_of_ble_eq_true rfl) (Nat.le_of_ble_eq_true rfl) (by decide) (by decide) (by decide) (Or.inl rfl) (hs.e (show c < 4 by omega)) (ok_X9_hasAct_out (S := S) hs hc4 hA hAm ha) (fun r7 S7 hp7 => ?_)
  obtain ⟨rfl, hq7⟩ := hp7
  rw [hq7]
  show Ok _ _ _ [zi (nI 0)] _ _
  refine r_if_eqN (q := 13) (t := 22) (by omega) dX11_act_10 (by decide) rfl (fun h10 => ?_) (fun h10 => absurd h10 (by omega))
  refine r_iconst (q := 23) ((-1 : Int32)) dX11_act_22 rfl (by decide) ?_
  refine r_ireturn dX11_act_23 rfl ?_
  exact ⟨rfl, rfl⟩

set_option maxRecDepth 100000 in
theorem ok_X12_act_in {S : zS} (hs : Sd S) {A m : Nat} (hA : gI S 1306 0 1 = nI A) (hAm : A ≤ 3) (hm : m < A) : Ok mX12_act 0 (ent 2 [zr 12 0, zi (nI m)]) [] S (fun r S1 => r = some (zi (gI S 1306 0 (4 + m))) ∧ S1 = sI S 12 0 0 (nI 0)) := by
  show Ok mX12_act 0 [some (zr 12 0), some (zi (nI m))] [] S _
  refine r_aload_n (q := 1) dX12_act_0 rfl rfl rfl ?_
  refine r_iconst (q := 2) (nI 0) dX12_act_1 rfl (by decide) ?_
  refine r_puti (q := 5) ck12 dX12_act_2 rfl (k := 0) (by decide) wt1278 (Or.inl rfl) rfl (hs.e (by decide)) ?_
  refine r_aload_n (q := 6) dX12_act_5 rfl rfl rfl ?_
  refine r_iload_n (q := 7) dX12_act_6 rfl rfl rfl ?_
  refine r_callV (Mc := mX12_isAct) (q := 10) (As := [zi (nI m)]) (st := []) ck12 dX12_act_7 rfl rfl mkX12_isAct wt1669 wt1671 wp88 rfl (Nat.le_of_ble_eq_true rfl) (Nat.le_of_ble_eq_true rfl) (by decide) (by decide) (by decide) (Or.inl rfl) (hs.e (by decide)) (ok_X12_isAct_in (S := sI S 12 0 0 (nI 0)) hs hA hAm hm) (fun r7 S7 hp7 => ?_)
  obtain ⟨rfl, hq7⟩ := hp7
  rw [hq7]
  show Ok _ _ _ [zi (nI 1)] _ _
  refine r_if_eqN (q := 13) (t := 24) (by omega) dX12_act_10 (by decide) rfl (fun h10 => absurd h10 (by omega)) (fun h10 => ?_)
  refine r_aload_n (q := 14) dX12_act_13 rfl rfl rfl ?_
  refine r_getr (q := 17) (some (1306, 0)) ck12 dX12_act_14 rfl (k := 6) (by decide) wt1284 rfl (hs.e (by decide)) (hs.r (by decide) (by decide)) ?_
  refine r_iconst (q := 18) (nI 4) dX12_act_17 rfl (by decide) ?_
  refine r_iload_n (q := 19) dX12_act_18 rfl rfl rfl ?_
  refine r_iaddN (q := 20) dX12_act_19 rfl ?_
  refine r_ialdN (q := 21) 3775 (by decide) rfl dX12_act_20 rfl (hs.e (by decide)) (hs.n rfl (by decide)) (by omega) (by decide) ?_
  refine r_topi (y := gI S 1306 0 (4 + m)) (by simp [gI_sI, gJ_sJ, gI_sJ, gJ_sI]) ?_
  refine r_goto (q := 25) dX12_act_21 (by decide) ?_
  refine r_ireturn dX12_act_25 rfl ?_
  exact ⟨rfl, rfl⟩

set_option maxRecDepth 100000 in
theorem ok_X12_act_out {S : zS} (hs : Sd S) {A : Nat} {a : Int32} (hA : gI S 1306 0 1 = nI A) (hAm : A ≤ 3) (ha : ¬ (0 ≤ a ∧ a < nI A)) : Ok mX12_act 0 (ent 2 [zr 12 0, zi a]) [] S (fun r S1 => r = some (zi (-1)) ∧ S1 = sI S 12 0 0 (nI 0)) := by
  show Ok mX12_act 0 [some (zr 12 0), some (zi a)] [] S _
  refine r_aload_n (q := 1) dX12_act_0 rfl rfl rfl ?_
  refine r_iconst (q := 2) (nI 0) dX12_act_1 rfl (by decide) ?_
  refine r_puti (q := 5) ck12 dX12_act_2 rfl (k := 0) (by decide) wt1278 (Or.inl rfl) rfl (hs.e (by decide)) ?_
  refine r_aload_n (q := 6) dX12_act_5 rfl rfl rfl ?_
  refine r_iload_n (q := 7) dX12_act_6 rfl rfl rfl ?_
  refine r_callV (Mc := mX12_isAct) (q := 10) (As := [zi a]) (st := []) ck12 dX12_act_7 rfl rfl mkX12_isAct wt1669 wt1671 wp88 rfl (Nat.le_of_ble_eq_true rfl) (Nat.le_of_ble_eq_true rfl) (by decide) (by decide) (by decide) (Or.inl rfl) (hs.e (by decide)) (ok_X12_isAct_out (S := sI S 12 0 0 (nI 0)) hs hA hAm ha) (fun r7 S7 hp7 => ?_)
  obtain ⟨rfl, hq7⟩ := hp7
  rw [hq7]
  show Ok _ _ _ [zi (nI 0)] _ _
  refine r_if_eqN (q := 13) (t := 24) (by omega) dX12_act_10 (by decide) rfl (fun h10 => ?_) (fun h10 => absurd h10 (by omega))
  refine r_iconst (q := 25) ((-1 : Int32)) dX12_act_24 rfl (by decide) ?_
  refine r_ireturn dX12_act_25 rfl ?_
  exact ⟨rfl, rfl⟩

theorem w01 {w : Int32} (h0 : ¬ w = 0) (h1 : ¬ w = nI 1) : ¬ (nI 0 ≤ w ∧ w ≤ nI 1) := fun z => by
  obtain ⟨m, hm, rfl⟩ := zz_le (n := 1) z (by omega)
  match m, hm with
  | 0, _ => exact h0 rfl
  | 1, _ => exact h1 rfl
set_option maxRecDepth 100000 in
theorem ok_X11_law_0 {S : zS} (hs : Sd S) {c W m : Nat} (hc : gI S 11 0 3 = nI c) (hc4 : c < 4) (hW : gI S 9 c 4 = nI W) (hWm : W ≤ 18) (hm : m < W) : Ok mX11_law 0 (ent 4 [zr 11 0, zi (nI m), zi (nI 0)]) [] S (fun r S1 => r = some (zi (gI S 1005 c m)) ∧ S1 = S) := by
  show Ok mX11_law 0 [some (zr 11 0), some (zi (nI m)), some (zi (nI 0)), none] [] S _
  refine r_aload_n (q := 1) dX11_law_0 rfl rfl rfl ?_
  refine r_callV (Mc := mX11_worldHere) (q := 4) (As := []) (st := []) ck11 dX11_law_1 rfl rfl mkX11_worldHere wt678 wt680 wp20 rfl (Nat.le_of_ble_eq_true rfl) (Nat.le_of_ble_eq_true rfl) (by decide) (by decide) (by decide) (Or.inl rfl) (hs.e (by decide)) (ok_X11_worldHere (S := S) hs hc hc4) (fun r1 S1 hp1 => ?_)
  obtain ⟨rfl, hq1⟩ := hp1
  rw [hq1]
  show Ok _ _ _ [zr 9 c] _ _
  refine r_astore_n (q := 5) (L' := [some (zr 11 0), some (zi (nI m)), some (zi (nI 0)), some (zr 9 c)]) dX11_law_4 rfl rfl (by decide) rfl ?_
  refine r_aload_n (q := 6) dX11_law_5 rfl rfl rfl ?_
  refine r_iload_n (q := 7) dX11_law_6 rfl rfl rfl ?_
  refine r_callV (Mc := mX9_hasLaw) (q := 10) (As := [zi (nI m)]) (st := []) ck9 dX11_law_7 rfl rfl mkX9_hasLaw wt690 wt691 wt692 rfl (Nat.le_of_ble_eq_true rfl) (Nat.le_of_ble_eq_true rfl) (by decide) (by decide) (by decide) (Or.inl rfl) (hs.e (show c < 4 by omega)) (ok_X9_hasLaw_in (S := S) hs hc4 hW hWm hm) (fun r7 S7 hp7 => ?_)
  obtain ⟨rfl, hq7⟩ := hp7
  rw [hq7]
  show Ok _ _ _ [zi (nI 1)] _ _
  refine r_if_neN (q := 13) (t := 15) (by omega) dX11_law_10 (by decide) rfl (fun h10 => ?_) (fun h10 => absurd h10 (by omega))
  refine r_iload_n (q := 16) dX11_law_15 rfl rfl rfl ?_
  refine r_if_neN (q := 19) (t := 26) (by omega) dX11_law_16 (by decide) rfl (fun h16 => absurd h16 (by omega)) (fun h16 => ?_)
  refine r_aload_n (q := 20) dX11_law_19 rfl rfl rfl ?_
  refine r_getr (q := 23) (some (1005, c)) ck9 dX11_law_20 rfl (k := 5) (by decide) wt320 rfl (hs.e (show c < 4 by omega)) (hs.r (show c < 4 by omega) (by decide)) ?_
  refine r_iload_n (q := 24) dX11_law_23 rfl rfl rfl ?_
  refine r_ialdN (q := 25) 18 (by decide) rfl dX11_law_24 rfl (hs.e (show c < 4 by omega)) (hs.n rfl (show c < 4 by omega)) (by omega) (by decide) ?_
  refine r_ireturn dX11_law_25 rfl ?_
  exact ⟨rfl, rfl⟩

set_option maxRecDepth 100000 in
theorem ok_X12_law_0 {S : zS} (hs : Sd S) {W m : Nat} (hW : gI S 1306 0 2 = nI W) (hWm : W ≤ 18) (hm : m < W) : Ok mX12_law 0 (ent 3 [zr 12 0, zi (nI m), zi (nI 0)]) [] S (fun r S1 => r = some (zi (gI S 1306 0 (7 + m))) ∧ S1 = sI S 12 0 0 (nI 0)) := by
  show Ok mX12_law 0 [some (zr 12 0), some (zi (nI m)), some (zi (nI 0))] [] S _
  refine r_aload_n (q := 1) dX12_law_0 rfl rfl rfl ?_
  refine r_iconst (q := 2) (nI 0) dX12_law_1 rfl (by decide) ?_
  refine r_puti (q := 5) ck12 dX12_law_2 rfl (k := 0) (by decide) wt1278 (Or.inl rfl) rfl (hs.e (by decide)) ?_
  refine r_aload_n (q := 6) dX12_law_5 rfl rfl rfl ?_
  refine r_iload_n (q := 7) dX12_law_6 rfl rfl rfl ?_
  refine r_callV (Mc := mX12_isLaw) (q := 10) (As := [zi (nI m)]) (st := []) ck12 dX12_law_7 rfl rfl mkX12_isLaw wt1677 wt1679 wp89 rfl (Nat.le_of_ble_eq_true rfl) (Nat.le_of_ble_eq_true rfl) (by decide) (by decide) (by decide) (Or.inl rfl) (hs.e (by decide)) (ok_X12_isLaw_in (S := sI S 12 0 0 (nI 0)) hs hW hWm hm) (fun r7 S7 hp7 => ?_)
  obtain ⟨rfl, hq7⟩ := hp7
  rw [hq7]
  show Ok _ _ _ [zi (nI 1)] _ _
  refine r_if_eqN (q := 13) (t := 22) (by omega) dX12_law_10 (by decide) rfl (fun h10 => absurd h10 (by omega)) (fun h10 => ?_)
  refine r_iload_n (q := 14) dX12_law_13 rfl rfl rfl ?_
  refine r_iconst (q := 15) (nI 0) dX12_law_14 rfl (by decide) ?_
  refine r_iconst (q := 16) (nI 1) dX12_law_15 rfl (by decide) ?_
  refine r_callS (Mc := mX12_isIn) (q := 19) (As := [zi (nI 0), zi (nI 0), zi (nI 1)]) (st := []) dX12_law_16 rfl rfl mkX12_isIn wt1614 wt1615 rfl (Nat.le_of_ble_eq_true rfl) (Nat.le_of_ble_eq_true rfl) (by decide) (by decide) (by decide) (Or.inl rfl) hs.some (ok_X12_isIn_in (by omega) (by omega) (by omega)) (fun r16 S16 hp16 => ?_)
  obtain ⟨rfl, hq16⟩ := hp16
  rw [hq16]
  show Ok _ _ _ [zi (nI 1)] _ _
  refine r_if_neN (q := 22) (t := 26) (by omega) dX12_law_19 (by decide) rfl (fun h19 => ?_) (fun h19 => absurd h19 (by omega))
  refine r_iload_n (q := 27) dX12_law_26 rfl rfl rfl ?_
  refine r_if_neN (q := 30) (t := 42) (by omega) dX12_law_27 (by decide) rfl (fun h27 => absurd h27 (by omega)) (fun h27 => ?_)
  refine r_aload_n (q := 31) dX12_law_30 rfl rfl rfl ?_
  refine r_getr (q := 34) (some (1306, 0)) ck12 dX12_law_31 rfl (k := 6) (by decide) wt1284 rfl (hs.e (by decide)) (hs.r (by decide) (by decide)) ?_
  refine r_bipush (q := 36) (nI 7) dX12_law_34 rfl (by decide) ?_
  refine r_iload_n (q := 37) dX12_law_36 rfl rfl rfl ?_
  refine r_iaddN (q := 38) dX12_law_37 rfl ?_
  refine r_ialdN (q := 39) 3775 (by decide) rfl dX12_law_38 rfl (hs.e (by decide)) (hs.n rfl (by decide)) (by omega) (by decide) ?_
  refine r_topi (y := gI S 1306 0 (7 + m)) (by simp [gI_sI, gJ_sJ, gI_sJ, gJ_sI]) ?_
  refine r_goto (q := 63) dX12_law_39 (by decide) ?_
  refine r_ireturn dX12_law_63 rfl ?_
  exact ⟨rfl, rfl⟩

set_option maxRecDepth 100000 in
theorem ok_X11_law_1 {S : zS} (hs : Sd S) {c W m : Nat} (hc : gI S 11 0 3 = nI c) (hc4 : c < 4) (hW : gI S 9 c 4 = nI W) (hWm : W ≤ 18) (hm : m < W) : Ok mX11_law 0 (ent 4 [zr 11 0, zi (nI m), zi (nI 1)]) [] S (fun r S1 => r = some (zi (gI S 1006 c (m + 1) - gI S 1006 c m)) ∧ S1 = S) := by
  show Ok mX11_law 0 [some (zr 11 0), some (zi (nI m)), some (zi (nI 1)), none] [] S _
  refine r_aload_n (q := 1) dX11_law_0 rfl rfl rfl ?_
  refine r_callV (Mc := mX11_worldHere) (q := 4) (As := []) (st := []) ck11 dX11_law_1 rfl rfl mkX11_worldHere wt678 wt680 wp20 rfl (Nat.le_of_ble_eq_true rfl) (Nat.le_of_ble_eq_true rfl) (by decide) (by decide) (by decide) (Or.inl rfl) (hs.e (by decide)) (ok_X11_worldHere (S := S) hs hc hc4) (fun r1 S1 hp1 => ?_)
  obtain ⟨rfl, hq1⟩ := hp1
  rw [hq1]
  show Ok _ _ _ [zr 9 c] _ _
  refine r_astore_n (q := 5) (L' := [some (zr 11 0), some (zi (nI m)), some (zi (nI 1)), some (zr 9 c)]) dX11_law_4 rfl rfl (by decide) rfl ?_
  refine r_aload_n (q := 6) dX11_law_5 rfl rfl rfl ?_
  refine r_iload_n (q := 7) dX11_law_6 rfl rfl rfl ?_
  refine r_callV (Mc := mX9_hasLaw) (q := 10) (As := [zi (nI m)]) (st := []) ck9 dX11_law_7 rfl rfl mkX9_hasLaw wt690 wt691 wt692 rfl (Nat.le_of_ble_eq_true rfl) (Nat.le_of_ble_eq_true rfl) (by decide) (by decide) (by decide) (Or.inl rfl) (hs.e (show c < 4 by omega)) (ok_X9_hasLaw_in (S := S) hs hc4 hW hWm hm) (fun r7 S7 hp7 => ?_)
  obtain ⟨rfl, hq7⟩ := hp7
  rw [hq7]
  show Ok _ _ _ [zi (nI 1)] _ _
  refine r_if_neN (q := 13) (t := 15) (by omega) dX11_law_10 (by decide) rfl (fun h10 => ?_) (fun h10 => absurd h10 (by omega))
  refine r_iload_n (q := 16) dX11_law_15 rfl rfl rfl ?_
  refine r_if_neN (q := 19) (t := 26) (by omega) dX11_law_16 (by decide) rfl (fun h16 => ?_) (fun h16 => absurd h16 (by omega))
  refine r_iload_n (q := 27) dX11_law_26 rfl rfl rfl ?_
  refine r_iconst (q := 28) (nI 1) dX11_law_27 rfl (by decide) ?_
  refine r_icmp_neN (q := 31) (t := 49) (by omega) (by omega) dX11_law_28 (by decide) rfl (fun h28 => absurd h28 (by omega)) (fun h28 => ?_)
  refine r_aload_n (q := 32) dX11_law_31 rfl rfl rfl ?_
  refine r_getr (q := 35) (some (1006, c)) ck9 dX11_law_32 rfl (k := 6) (by decide) wt326 rfl (hs.e (show c < 4 by omega)) (hs.r (show c < 4 by omega) (by decide)) ?_
  refine r_iload_n (q := 36) dX11_law_35 rfl rfl rfl ?_
  refine r_iconst (q := 37) (nI 1) dX11_law_36 rfl (by decide) ?_
  refine r_iaddN (q := 38) dX11_law_37 rfl ?_
  refine r_ialdN (q := 39) 19 (by decide) rfl dX11_law_38 rfl (hs.e (show c < 4 by omega)) (hs.n rfl (show c < 4 by omega)) (by omega) (by decide) ?_
  refine r_aload_n (q := 40) dX11_law_39 rfl rfl rfl ?_
  refine r_getr (q := 43) (some (1006, c)) ck9 dX11_law_40 rfl (k := 6) (by decide) wt326 rfl (hs.e (show c < 4 by omega)) (hs.r (show c < 4 by omega) (by decide)) ?_
  refine r_iload_n (q := 44) dX11_law_43 rfl rfl rfl ?_
  refine r_ialdN (q := 45) 19 (by decide) rfl dX11_law_44 rfl (hs.e (show c < 4 by omega)) (hs.n rfl (show c < 4 by omega)) (by omega) (by decide) ?_
  refine r_isub (q := 46) dX11_law_45 rfl ?_
  refine r_goto (q := 50) dX11_law_46 (by decide) ?_
  refine r_ireturn dX11_law_50 rfl ?_
  exact ⟨rfl, rfl⟩

set_option maxRecDepth 100000 in
theorem ok_X12_law_1 {S : zS} (hs : Sd S) {W m : Nat} (hW : gI S 1306 0 2 = nI W) (hWm : W ≤ 18) (hm : m < W) : Ok mX12_law 0 (ent 3 [zr 12 0, zi (nI m), zi (nI 1)]) [] S (fun r S1 => r = some (zi (gI S 1306 0 (25 + m + 1) - gI S 1306 0 (25 + m))) ∧ S1 = sI S 12 0 0 (nI 0)) := by
  show Ok mX12_law 0 [some (zr 12 0), some (zi (nI m)), some (zi (nI 1))] [] S _
  refine r_aload_n (q := 1) dX12_law_0 rfl rfl rfl ?_
  refine r_iconst (q := 2) (nI 0) dX12_law_1 rfl (by decide) ?_
  refine r_puti (q := 5) ck12 dX12_law_2 rfl (k := 0) (by decide) wt1278 (Or.inl rfl) rfl (hs.e (by decide)) ?_
  refine r_aload_n (q := 6) dX12_law_5 rfl rfl rfl ?_
  refine r_iload_n (q := 7) dX12_law_6 rfl rfl rfl ?_
  refine r_callV (Mc := mX12_isLaw) (q := 10) (As := [zi (nI m)]) (st := []) ck12 dX12_law_7 rfl rfl mkX12_isLaw wt1677 wt1679 wp89 rfl (Nat.le_of_ble_eq_true rfl) (Nat.le_of_ble_eq_true rfl) (by decide) (by decide) (by decide) (Or.inl rfl) (hs.e (by decide)) (ok_X12_isLaw_in (S := sI S 12 0 0 (nI 0)) hs hW hWm hm) (fun r7 S7 hp7 => ?_)
  obtain ⟨rfl, hq7⟩ := hp7
  rw [hq7]
  show Ok _ _ _ [zi (nI 1)] _ _
  refine r_if_eqN (q := 13) (t := 22) (by omega) dX12_law_10 (by decide) rfl (fun h10 => absurd h10 (by omega)) (fun h10 => ?_)
  refine r_iload_n (q := 14) dX12_law_13 rfl rfl rfl ?_
  refine r_iconst (q := 15) (nI 0) dX12_law_14 rfl (by decide) ?_
  refine r_iconst (q := 16) (nI 1) dX12_law_15 rfl (by decide) ?_
  refine r_callS (Mc := mX12_isIn) (q := 19) (As := [zi (nI 1), zi (nI 0), zi (nI 1)]) (st := []) dX12_law_16 rfl rfl mkX12_isIn wt1614 wt1615 rfl (Nat.le_of_ble_eq_true rfl) (Nat.le_of_ble_eq_true rfl) (by decide) (by decide) (by decide) (Or.inl rfl) hs.some (ok_X12_isIn_in (by omega) (by omega) (by omega)) (fun r16 S16 hp16 => ?_)
  obtain ⟨rfl, hq16⟩ := hp16
  rw [hq16]
  show Ok _ _ _ [zi (nI 1)] _ _
  refine r_if_neN (q := 22) (t := 26) (by omega) dX12_law_19 (by decide) rfl (fun h19 => ?_) (fun h19 => absurd h19 (by omega))
  refine r_iload_n (q := 27) dX12_law_26 rfl rfl rfl ?_
  refine r_if_neN (q := 30) (t := 42) (by omega) dX12_law_27 (by decide) rfl (fun h27 => ?_) (fun h27 => absurd h27 (by omega))
  refine r_aload_n (q := 43) dX12_law_42 rfl rfl rfl ?_
  refine r_getr (q := 46) (some (1306, 0)) ck12 dX12_law_43 rfl (k := 6) (by decide) wt1284 rfl (hs.e (by decide)) (hs.r (by decide) (by decide)) ?_
  refine r_bipush (q := 48) (nI 25) dX12_law_46 rfl (by decide) ?_
  refine r_iload_n (q := 49) dX12_law_48 rfl rfl rfl ?_
  refine r_iaddN (q := 50) dX12_law_49 rfl ?_
  refine r_iconst (q := 51) (nI 1) dX12_law_50 rfl (by decide) ?_
  refine r_iaddN (q := 52) dX12_law_51 rfl ?_
  refine r_ialdN (q := 53) 3775 (by decide) rfl dX12_law_52 rfl (hs.e (by decide)) (hs.n rfl (by decide)) (by omega) (by decide) ?_
  refine r_topi (y := gI S 1306 0 ((25 + m) + 1)) (by simp [gI_sI, gJ_sJ, gI_sJ, gJ_sI]) ?_
  refine r_aload_n (q := 54) dX12_law_53 rfl rfl rfl ?_
  refine r_getr (q := 57) (some (1306, 0)) ck12 dX12_law_54 rfl (k := 6) (by decide) wt1284 rfl (hs.e (by decide)) (hs.r (by decide) (by decide)) ?_
  refine r_bipush (q := 59) (nI 25) dX12_law_57 rfl (by decide) ?_
  refine r_iload_n (q := 60) dX12_law_59 rfl rfl rfl ?_
  refine r_iaddN (q := 61) dX12_law_60 rfl ?_
  refine r_ialdN (q := 62) 3775 (by decide) rfl dX12_law_61 rfl (hs.e (by decide)) (hs.n rfl (by decide)) (by omega) (by decide) ?_
  refine r_topi (y := gI S 1306 0 (25 + m)) (by simp [gI_sI, gJ_sJ, gI_sJ, gJ_sI]) ?_
  refine r_isub (q := 63) dX12_law_62 rfl ?_
  refine r_ireturn dX12_law_63 rfl ?_
  exact ⟨rfl, rfl⟩

set_option maxRecDepth 100000 in
theorem ok_X11_law_x {S : zS} (hs : Sd S) {c W m : Nat} (hc : gI S 11 0 3 = nI c) (hc4 : c < 4) (hW : gI S 9 c 4 = nI W) (hWm : W ≤ 18) (hm : m < W) {w : Int32} (hw0 : ¬ w = 0) (hw1 : ¬ w = nI 1) : Ok mX11_law 0 (ent 4 [zr 11 0, zi (nI m), zi w]) [] S (fun r S1 => r = some (zi (-1)) ∧ S1 = S) := by
  show Ok mX11_law 0 [some (zr 11 0), some (zi (nI m)), some (zi w), none] [] S _
  refine r_aload_n (q := 1) dX11_law_0 rfl rfl rfl ?_
  refine r_callV (Mc := mX11_worldHere) (q := 4) (As := []) (st := []) ck11 dX11_law_1 rfl rfl mkX11_worldHere wt678 wt680 wp20 rfl (Nat.le_of_ble_eq_true rfl) (Nat.le_of_ble_eq_true rfl) (by decide) (by decide) (by decide) (Or.inl rfl) (hs.e (by decide)) (ok_X11_worldHere (S := S) hs hc hc4) (fun r1 S1 hp1 => ?_)
  obtain ⟨rfl, hq1⟩ := hp1
  rw [hq1]
  show Ok _ _ _ [zr 9 c] _ _
  refine r_astore_n (q := 5) (L' := [some (zr 11 0), some (zi (nI m)), some (zi w), some (zr 9 c)]) dX11_law_4 rfl rfl (by decide) rfl ?_
  refine r_aload_n (q := 6) dX11_law_5 rfl rfl rfl ?_
  refine r_iload_n (q := 7) dX11_law_6 rfl rfl rfl ?_
  refine r_callV (Mc := mX9_hasLaw) (q := 10) (As := [zi (nI m)]) (st := []) ck9 dX11_law_7 rfl rfl mkX9_hasLaw wt690 wt691 wt692 rfl (Nat.le_of_ble_eq_true rfl) (Nat.le_of_ble_eq_true rfl) (by decide) (by decide) (by decide) (Or.inl rfl) (hs.e (show c < 4 by omega)) (ok_X9_hasLaw_in (S := S) hs hc4 hW hWm hm) (fun r7 S7 hp7 => ?_)
  obtain ⟨rfl, hq7⟩ := hp7
  rw [hq7]
  show Ok _ _ _ [zi (nI 1)] _ _
  refine r_if_neN (q := 13) (t := 15) (by omega) dX11_law_10 (by decide) rfl (fun h10 => ?_) (fun h10 => absurd h10 (by omega))
  refine r_iload_n (q := 16) dX11_law_15 rfl rfl rfl ?_
  refine r_if_ne (q := 19) (t := 26) dX11_law_16 (by decide) rfl (fun h16 => ?_) (fun h16 => absurd h16 (by first | exact hw0 | exact fun z => z hw0))
  refine r_iload_n (q := 27) dX11_law_26 rfl rfl rfl ?_
  refine r_iconst (q := 28) (nI 1) dX11_law_27 rfl (by decide) ?_
  refine r_icmp_ne (q := 31) (t := 49) dX11_law_28 (by decide) rfl (fun h28 => ?_) (fun h28 => absurd h28 (by first | exact hw1 | exact fun z => z hw1))
  refine r_iconst (q := 50) ((-1 : Int32)) dX11_law_49 rfl (by decide) ?_
  refine r_ireturn dX11_law_50 rfl ?_
  exact ⟨rfl, rfl⟩

set_option maxRecDepth 100000 in
theorem ok_X12_law_x {S : zS} (hs : Sd S) {W m : Nat} (hW : gI S 1306 0 2 = nI W) (hWm : W ≤ 18) (hm : m < W) {w : Int32} (hw0 : ¬ w = 0) (hw1 : ¬ w = nI 1) : Ok mX12_law 0 (ent 3 [zr 12 0, zi (nI m), zi w]) [] S (fun r S1 => r = some (zi (-1)) ∧ S1 = sI S 12 0 0 (nI 0)) := by
  show Ok mX12_law 0 [some (zr 12 0), some (zi (nI m)), some (zi w)] [] S _
  refine r_aload_n (q := 1) dX12_law_0 rfl rfl rfl ?_
  refine r_iconst (q := 2) (nI 0) dX12_law_1 rfl (by decide) ?_
  refine r_puti (q := 5) ck12 dX12_law_2 rfl (k := 0) (by decide) wt1278 (Or.inl rfl) rfl (hs.e (by decide)) ?_
  refine r_aload_n (q := 6) dX12_law_5 rfl rfl rfl ?_
  refine r_iload_n (q := 7) dX12_law_6 rfl rfl rfl ?_
  refine r_callV (Mc := mX12_isLaw) (q := 10) (As := [zi (nI m)]) (st := []) ck12 dX12_law_7 rfl rfl mkX12_isLaw wt1677 wt1679 wp89 rfl (Nat.le_of_ble_eq_true rfl) (Nat.le_of_ble_eq_true rfl) (by decide) (by decide) (by decide) (Or.inl rfl) (hs.e (by decide)) (ok_X12_isLaw_in (S := sI S 12 0 0 (nI 0)) hs hW hWm hm) (fun r7 S7 hp7 => ?_)
  obtain ⟨rfl, hq7⟩ := hp7
  rw [hq7]
  show Ok _ _ _ [zi (nI 1)] _ _
  refine r_if_eqN (q := 13) (t := 22) (by omega) dX12_law_10 (by decide) rfl (fun h10 => absurd h10 (by omega)) (fun h10 => ?_)
  refine r_iload_n (q := 14) dX12_law_13 rfl rfl rfl ?_
  refine r_iconst (q := 15) (nI 0) dX12_law_14 rfl (by decide) ?_
  refine r_iconst (q := 16) (nI 1) dX12_law_15 rfl (by decide) ?_
  refine r_callS (Mc := mX12_isIn) (q := 19) (As := [zi w, zi (nI 0), zi (nI 1)]) (st := []) dX12_law_16 rfl rfl mkX12_isIn wt1614 wt1615 rfl (Nat.le_of_ble_eq_true rfl) (Nat.le_of_ble_eq_true rfl) (by decide) (by decide) (by decide) (Or.inl rfl) hs.some (ok_X12_isIn_out (w01 hw0 hw1)) (fun r16 S16 hp16 => ?_)
  obtain ⟨rfl, hq16⟩ := hp16
  rw [hq16]
  show Ok _ _ _ [zi (nI 0)] _ _
  refine r_if_neN (q := 22) (t := 26) (by omega) dX12_law_19 (by decide) rfl (fun h19 => absurd h19 (by omega)) (fun h19 => ?_)
  refine r_iconst (q := 23) ((-1 : Int32)) dX12_law_22 rfl (by decide) ?_
  refine r_goto (q := 63) dX12_law_23 (by decide) ?_
  refine r_ireturn dX12_law_63 rfl ?_
  exact ⟨rfl, rfl⟩

set_option maxRecDepth 100000 in
theorem ok_X11_law_out {S : zS} (hs : Sd S) {c W : Nat} (hc : gI S 11 0 3 = nI c) (hc4 : c < 4) (hW : gI S 9 c 4 = nI W) (hWm : W ≤ 18) {a : Int32} (ha : ¬ (0 ≤ a ∧ a < nI W)) (w : Int32) : Ok mX11_law 0 (ent 4 [zr 11 0, zi a, zi w]) [] S (fun r S1 => r = some (zi (-1)) ∧ S1 = S) := by
  show Ok mX11_law 0 [some (zr 11 0), some (zi a), some (zi w), none] [] S _
  refine r_aload_n (q := 1) dX11_law_0 rfl rfl rfl ?_
  refine r_callV (Mc := mX11_worldHere) (q := 4) (As := []) (st := []) ck11 dX11_law_1 rfl rfl mkX11_worldHere wt678 wt680 wp20 rfl (Nat.le_of_ble_eq_true rfl) (Nat.le_of_ble_eq_true rfl) (by decide) (by decide) (by decide) (Or.inl rfl) (hs.e (by decide)) (ok_X11_worldHere (S := S) hs hc hc4) (fun r1 S1 hp1 => ?_)
  obtain ⟨rfl, hq1⟩ := hp1
  rw [hq1]
  show Ok _ _ _ [zr 9 c] _ _
  refine r_astore_n (q := 5) (L' := [some (zr 11 0), some (zi a), some (zi w), some (zr 9 c)]) dX11_law_4 rfl rfl (by decide) rfl ?_
  refine r_aload_n (q := 6) dX11_law_5 rfl rfl rfl ?_
  refine r_iload_n (q := 7) dX11_law_6 rfl rfl rfl ?_
  refine r_callV (Mc := mX9_hasLaw) (q := 10) (As := [zi a]) (st := []) ck9 dX11_law_7 rfl rfl mkX9_hasLaw wt690 wt691 wt692 rfl (Nat.le_of_ble_eq_true rfl) (Nat.le_of_ble_eq_true rfl) (by decide) (by decide) (by decide) (Or.inl rfl) (hs.e (show c < 4 by omega)) (ok_X9_hasLaw_out (S := S) hs hc4 hW hWm ha) (fun r7 S7 hp7 => ?_)
  obtain ⟨rfl, hq7⟩ := hp7
  rw [hq7]
  show Ok _ _ _ [zi (nI 0)] _ _
  refine r_if_neN (q := 13) (t := 15) (by omega) dX11_law_10 (by decide) rfl (fun h10 => absurd h10 (by omega)) (fun h10 => ?_)
  refine r_iconst (q := 14) ((-1 : Int32)) dX11_law_13 rfl (by decide) ?_
  refine r_ireturn dX11_law_14 rfl ?_
  exact ⟨rfl, rfl⟩

set_option maxRecDepth 100000 in
theorem ok_X12_law_out {S : zS} (hs : Sd S) {W : Nat} (hW : gI S 1306 0 2 = nI W) (hWm : W ≤ 18) {a : Int32} (ha : ¬ (0 ≤ a ∧ a < nI W)) (w : Int32) : Ok mX12_law 0 (ent 3 [zr 12 0, zi a, zi w]) [] S (fun r S1 => r = some (zi (-1)) ∧ S1 = sI S 12 0 0 (nI 0)) := by
  show Ok mX12_law 0 [some (zr 12 0), some (zi a), some (zi w)] [] S _
  refine r_aload_n (q := 1) dX12_law_0 rfl rfl rfl ?_
  refine r_iconst (q := 2) (nI 0) dX12_law_1 rfl (by decide) ?_
  refine r_puti (q := 5) ck12 dX12_law_2 rfl (k := 0) (by decide) wt1278 (Or.inl rfl) rfl (hs.e (by decide)) ?_
  refine r_aload_n (q := 6) dX12_law_5 rfl rfl rfl ?_
  refine r_iload_n (q := 7) dX12_law_6 rfl rfl rfl ?_
  refine r_callV (Mc := mX12_isLaw) (q := 10) (As := [zi a]) (st := []) ck12 dX12_law_7 rfl rfl mkX12_isLaw wt1677 wt1679 wp89 rfl (Nat.le_of_ble_eq_true rfl) (Nat.le_of_ble_eq_true rfl) (by decide) (by decide) (by decide) (Or.inl rfl) (hs.e (by decide)) (ok_X12_isLaw_out (S := sI S 12 0 0 (nI 0)) hs hW hWm ha) (fun r7 S7 hp7 => ?_)
  obtain ⟨rfl, hq7⟩ := hp7
  rw [hq7]
  show Ok _ _ _ [zi (nI 0)] _ _
  refine r_if_eqN (q := 13) (t := 22) (by omega) dX12_law_10 (by decide) rfl (fun h10 => ?_) (fun h10 => absurd h10 (by omega))
  refine r_iconst (q := 23) ((-1 : Int32)) dX12_law_22 rfl (by decide) ?_
  refine r_goto (q := 63) dX12_law_23 (by decide) ?_
  refine r_ireturn dX12_law_63 rfl ?_
  exact ⟨rfl, rfl⟩

theorem cn_out {a : Int32} (ha : ¬ (0 ≤ a ∧ a < nI 6)) : a.toInt < 0 ∨ 5 < a.toInt := by
  rw [Int32.le_iff_toInt_le, Int32.lt_iff_toInt_lt, nI_toInt (by omega), i0] at ha
  omega
set_option maxRecDepth 100000 in
theorem ok_X11_count_0 {S : zS} (hs : Sd S) {c : Nat} (hc : gI S 11 0 3 = nI c) (hc4 : c < 4) : Ok mX11_count 0 (ent 2 [zr 11 0, zi (nI 0)]) [] S (fun r S1 => r = some (zi (gI S 9 c 0)) ∧ S1 = S) := by
  show Ok mX11_count 0 [some (zr 11 0), some (zi (nI 0))] [] S _
  refine r_iload_n (q := 1) dX11_count_0 rfl rfl rfl ?_
  refine r_tabIn (q := 40) (off := 39) dX11_count_1 (by decide) (by decide) (by decide) (by decide) ?_
  refine r_aload_n (q := 41) dX11_count_40 rfl rfl rfl ?_
  refine r_callV (Mc := mX11_worldHere) (q := 44) (As := []) (st := []) ck11 dX11_count_41 rfl rfl mkX11_worldHere wt678 wt680 wp20 rfl (Nat.le_of_ble_eq_true rfl) (Nat.le_of_ble_eq_true rfl) (by decide) (by decide) (by decide) (Or.inl rfl) (hs.e (by decide)) (ok_X11_worldHere (S := S) hs hc hc4) (fun r41 S41 hp41 => ?_)
  obtain ⟨rfl, hq41⟩ := hp41
  rw [hq41]
  show Ok _ _ _ [zr 9 c] _ _
  refine r_geti (q := 47) ck9 dX11_count_44 rfl (k := 0) (by decide) wt295 (Or.inl rfl) (hs.e (show c < 4 by omega)) ?_
  refine r_ireturn dX11_count_47 rfl ?_
  exact ⟨rfl, rfl⟩

set_option maxRecDepth 100000 in
theorem ok_X12_count_0 {S : zS} (hs : Sd S) : Ok mX12_count 0 (ent 2 [zr 12 0, zi (nI 0)]) [] S (fun r S1 => r = some (zi (gI S 1306 0 0)) ∧ S1 = sI S 12 0 0 (nI 0)) := by
  show Ok mX12_count 0 [some (zr 12 0), some (zi (nI 0))] [] S _
  refine r_aload_n (q := 1) dX12_count_0 rfl rfl rfl ?_
  refine r_iconst (q := 2) (nI 0) dX12_count_1 rfl (by decide) ?_
  refine r_puti (q := 5) ck12 dX12_count_2 rfl (k := 0) (by decide) wt1278 (Or.inl rfl) rfl (hs.e (by decide)) ?_
  refine r_iload_n (q := 6) dX12_count_5 rfl rfl rfl ?_
  refine r_tabIn (q := 44) (off := 38) dX12_count_6 (by decide) (by decide) (by decide) (by decide) ?_
  refine r_aload_n (q := 45) dX12_count_44 rfl rfl rfl ?_
  refine r_getr (q := 48) (some (1306, 0)) ck12 dX12_count_45 rfl (k := 6) (by decide) wt1284 rfl (hs.e (by decide)) (hs.r (by decide) (by decide)) ?_
  refine r_iconst (q := 49) (nI 0) dX12_count_48 rfl (by decide) ?_
  refine r_ialdN (q := 50) 3775 (by decide) rfl dX12_count_49 rfl (hs.e (by decide)) (hs.n rfl (by decide)) (by omega) (by decide) ?_
  refine r_topi (y := gI S 1306 0 0) (by simp [gI_sI, gJ_sJ, gI_sJ, gJ_sI]) ?_
  refine r_ireturn dX12_count_50 rfl ?_
  exact ⟨rfl, rfl⟩

set_option maxRecDepth 100000 in
theorem ok_X11_count_1 {S : zS} (hs : Sd S) {c : Nat} (hc : gI S 11 0 3 = nI c) (hc4 : c < 4) : Ok mX11_count 0 (ent 2 [zr 11 0, zi (nI 1)]) [] S (fun r S1 => r = some (zi (gI S 9 c 1)) ∧ S1 = S) := by
  show Ok mX11_count 0 [some (zr 11 0), some (zi (nI 1))] [] S _
  refine r_iload_n (q := 1) dX11_count_0 rfl rfl rfl ?_
  refine r_tabIn (q := 48) (off := 47) dX11_count_1 (by decide) (by decide) (by decide) (by decide) ?_
  refine r_aload_n (q := 49) dX11_count_48 rfl rfl rfl ?_
  refine r_callV (Mc := mX11_worldHere) (q := 52) (As := []) (st := []) ck11 dX11_count_49 rfl rfl mkX11_worldHere wt678 wt680 wp20 rfl (Nat.le_of_ble_eq_true rfl) (Nat.le_of_ble_eq_true rfl) (by decide) (by decide) (by decide) (Or.inl rfl) (hs.e (by decide)) (ok_X11_worldHere (S := S) hs hc hc4) (fun r49 S49 hp49 => ?_)
  obtain ⟨rfl, hq49⟩ := hp49
  rw [hq49]
  show Ok _ _ _ [zr 9 c] _ _
  refine r_geti (q := 55) ck9 dX11_count_52 rfl (k := 1) (by decide) wt300 (Or.inl rfl) (hs.e (show c < 4 by omega)) ?_
  refine r_ireturn dX11_count_55 rfl ?_
  exact ⟨rfl, rfl⟩

set_option maxRecDepth 100000 in
theorem ok_X12_count_1 {S : zS} (hs : Sd S) : Ok mX12_count 0 (ent 2 [zr 12 0, zi (nI 1)]) [] S (fun r S1 => r = some (zi (gI S 1306 0 1)) ∧ S1 = sI S 12 0 0 (nI 0)) := by
  show Ok mX12_count 0 [some (zr 12 0), some (zi (nI 1))] [] S _
  refine r_aload_n (q := 1) dX12_count_0 rfl rfl rfl ?_
  refine r_iconst (q := 2) (nI 0) dX12_count_1 rfl (by decide) ?_
  refine r_puti (q := 5) ck12 dX12_count_2 rfl (k := 0) (by decide) wt1278 (Or.inl rfl) rfl (hs.e (by decide)) ?_
  refine r_iload_n (q := 6) dX12_count_5 rfl rfl rfl ?_
  refine r_tabIn (q := 51) (off := 45) dX12_count_6 (by decide) (by decide) (by decide) (by decide) ?_
  refine r_aload_n (q := 52) dX12_count_51 rfl rfl rfl ?_
  refine r_getr (q := 55) (some (1306, 0)) ck12 dX12_count_52 rfl (k := 6) (by decide) wt1284 rfl (hs.e (by decide)) (hs.r (by decide) (by decide)) ?_
  refine r_iconst (q := 56) (nI 1) dX12_count_55 rfl (by decide) ?_
  refine r_ialdN (q := 57) 3775 (by decide) rfl dX12_count_56 rfl (hs.e (by decide)) (hs.n rfl (by decide)) (by omega) (by decide) ?_
  refine r_topi (y := gI S 1306 0 1) (by simp [gI_sI, gJ_sJ, gI_sJ, gJ_sI]) ?_
  refine r_ireturn dX12_count_57 rfl ?_
  exact ⟨rfl, rfl⟩

set_option maxRecDepth 100000 in
theorem ok_X11_count_2 {S : zS} (hs : Sd S) {c : Nat} (hc : gI S 11 0 3 = nI c) (hc4 : c < 4) : Ok mX11_count 0 (ent 2 [zr 11 0, zi (nI 2)]) [] S (fun r S1 => r = some (zi (gI S 9 c 4)) ∧ S1 = S) := by
  show Ok mX11_count 0 [some (zr 11 0), some (zi (nI 2))] [] S _
  refine r_iload_n (q := 1) dX11_count_0 rfl rfl rfl ?_
  refine r_tabIn (q := 56) (off := 55) dX11_count_1 (by decide) (by decide) (by decide) (by decide) ?_
  refine r_aload_n (q := 57) dX11_count_56 rfl rfl rfl ?_
  refine r_callV (Mc := mX11_worldHere) (q := 60) (As := []) (st := []) ck11 dX11_count_57 rfl rfl mkX11_worldHere wt678 wt680 wp20 rfl (Nat.le_of_ble_eq_true rfl) (Nat.le_of_ble_eq_true rfl) (by decide) (by decide) (by decide) (Or.inl rfl) (hs.e (by decide)) (ok_X11_worldHere (S := S) hs hc hc4) (fun r57 S57 hp57 => ?_)
  obtain ⟨rfl, hq57⟩ := hp57
  rw [hq57]
  show Ok _ _ _ [zr 9 c] _ _
  refine r_geti (q := 63) ck9 dX11_count_60 rfl (k := 4) (by decide) wt316 (Or.inl rfl) (hs.e (show c < 4 by omega)) ?_
  refine r_ireturn dX11_count_63 rfl ?_
  exact ⟨rfl, rfl⟩

set_option maxRecDepth 100000 in
theorem ok_X12_count_2 {S : zS} (hs : Sd S) : Ok mX12_count 0 (ent 2 [zr 12 0, zi (nI 2)]) [] S (fun r S1 => r = some (zi (gI S 1306 0 2)) ∧ S1 = sI S 12 0 0 (nI 0)) := by
  show Ok mX12_count 0 [some (zr 12 0), some (zi (nI 2))] [] S _
  refine r_aload_n (q := 1) dX12_count_0 rfl rfl rfl ?_
  refine r_iconst (q := 2) (nI 0) dX12_count_1 rfl (by decide) ?_
  refine r_puti (q := 5) ck12 dX12_count_2 rfl (k := 0) (by decide) wt1278 (Or.inl rfl) rfl (hs.e (by decide)) ?_
  refine r_iload_n (q := 6) dX12_count_5 rfl rfl rfl ?_
  refine r_tabIn (q := 58) (off := 52) dX12_count_6 (by decide) (by decide) (by decide) (by decide) ?_
  refine r_aload_n (q := 59) dX12_count_58 rfl rfl rfl ?_
  refine r_getr (q := 62) (some (1306, 0)) ck12 dX12_count_59 rfl (k := 6) (by decide) wt1284 rfl (hs.e (by decide)) (hs.r (by decide) (by decide)) ?_
  refine r_iconst (q := 63) (nI 2) dX12_count_62 rfl (by decide) ?_
  refine r_ialdN (q := 64) 3775 (by decide) rfl dX12_count_63 rfl (hs.e (by decide)) (hs.n rfl (by decide)) (by omega) (by decide) ?_
  refine r_topi (y := gI S 1306 0 2) (by simp [gI_sI, gJ_sJ, gI_sJ, gJ_sI]) ?_
  refine r_ireturn dX12_count_64 rfl ?_
  exact ⟨rfl, rfl⟩

set_option maxRecDepth 100000 in
theorem ok_X11_count_3 {S : zS} (hs : Sd S) {c : Nat} (hc : gI S 11 0 3 = nI c) (hc4 : c < 4) : Ok mX11_count 0 (ent 2 [zr 11 0, zi (nI 3)]) [] S (fun r S1 => r = some (zi (gI S 8 0 1)) ∧ S1 = S) := by
  show Ok mX11_count 0 [some (zr 11 0), some (zi (nI 3))] [] S _
  refine r_iload_n (q := 1) dX11_count_0 rfl rfl rfl ?_
  refine r_tabIn (q := 64) (off := 63) dX11_count_1 (by decide) (by decide) (by decide) (by decide) ?_
  refine r_aload_n (q := 65) dX11_count_64 rfl rfl rfl ?_
  refine r_getr (q := 68) (some (8, 0)) ck11 dX11_count_65 rfl (k := 7) (by decide) wt429 rfl (hs.e (by decide)) (hs.r (by decide) (by decide)) ?_
  refine r_geti (q := 71) ck8 dX11_count_68 rfl (k := 1) (by decide) wt67 (Or.inl rfl) (hs.e (by decide)) ?_
  refine r_ireturn dX11_count_71 rfl ?_
  exact ⟨rfl, rfl⟩

set_option maxRecDepth 100000 in
theorem ok_X12_count_3 {S : zS} (hs : Sd S) : Ok mX12_count 0 (ent 2 [zr 12 0, zi (nI 3)]) [] S (fun r S1 => r = some (zi (gI S 1306 0 1174)) ∧ S1 = sI S 12 0 0 (nI 0)) := by
  show Ok mX12_count 0 [some (zr 12 0), some (zi (nI 3))] [] S _
  refine r_aload_n (q := 1) dX12_count_0 rfl rfl rfl ?_
  refine r_iconst (q := 2) (nI 0) dX12_count_1 rfl (by decide) ?_
  refine r_puti (q := 5) ck12 dX12_count_2 rfl (k := 0) (by decide) wt1278 (Or.inl rfl) rfl (hs.e (by decide)) ?_
  refine r_iload_n (q := 6) dX12_count_5 rfl rfl rfl ?_
  refine r_tabIn (q := 65) (off := 59) dX12_count_6 (by decide) (by decide) (by decide) (by decide) ?_
  refine r_aload_n (q := 66) dX12_count_65 rfl rfl rfl ?_
  refine r_getr (q := 69) (some (1306, 0)) ck12 dX12_count_66 rfl (k := 6) (by decide) wt1284 rfl (hs.e (by decide)) (hs.r (by decide) (by decide)) ?_
  refine r_sipush (q := 72) (nI 1174) dX12_count_69 rfl (by decide) ?_
  refine r_ialdN (q := 73) 3775 (by decide) rfl dX12_count_72 rfl (hs.e (by decide)) (hs.n rfl (by decide)) (by omega) (by decide) ?_
  refine r_topi (y := gI S 1306 0 1174) (by simp [gI_sI, gJ_sJ, gI_sJ, gJ_sI]) ?_
  refine r_ireturn dX12_count_73 rfl ?_
  exact ⟨rfl, rfl⟩

set_option maxRecDepth 100000 in
theorem ok_X11_count_4 {S : zS} (hs : Sd S) {c : Nat} (hc : gI S 11 0 3 = nI c) (hc4 : c < 4) : Ok mX11_count 0 (ent 2 [zr 11 0, zi (nI 4)]) [] S (fun r S1 => r = some (zi (gI S 7 0 0)) ∧ S1 = S) := by
  show Ok mX11_count 0 [some (zr 11 0), some (zi (nI 4))] [] S _
  refine r_iload_n (q := 1) dX11_count_0 rfl rfl rfl ?_
  refine r_tabIn (q := 72) (off := 71) dX11_count_1 (by decide) (by decide) (by decide) (by decide) ?_
  refine r_aload_n (q := 73) dX11_count_72 rfl rfl rfl ?_
  refine r_getr (q := 76) (some (7, 0)) ck11 dX11_count_73 rfl (k := 5) (by decide) wt427 rfl (hs.e (by decide)) (hs.r (by decide) (by decide)) ?_
  refine r_geti (q := 79) ck7 dX11_count_76 rfl (k := 0) (by decide) wt39 (Or.inl rfl) (hs.e (by decide)) ?_
  refine r_ireturn dX11_count_79 rfl ?_
  exact ⟨rfl, rfl⟩

set_option maxRecDepth 100000 in
theorem ok_X12_count_4 {S : zS} (hs : Sd S) : Ok mX12_count 0 (ent 2 [zr 12 0, zi (nI 4)]) [] S (fun r S1 => r = some (zi (gI S 1306 0 3)) ∧ S1 = sI S 12 0 0 (nI 0)) := by
  show Ok mX12_count 0 [some (zr 12 0), some (zi (nI 4))] [] S _
  refine r_aload_n (q := 1) dX12_count_0 rfl rfl rfl ?_
  refine r_iconst (q := 2) (nI 0) dX12_count_1 rfl (by decide) ?_
  refine r_puti (q := 5) ck12 dX12_count_2 rfl (k := 0) (by decide) wt1278 (Or.inl rfl) rfl (hs.e (by decide)) ?_
  refine r_iload_n (q := 6) dX12_count_5 rfl rfl rfl ?_
  refine r_tabIn (q := 74) (off := 68) dX12_count_6 (by decide) (by decide) (by decide) (by decide) ?_
  refine r_aload_n (q := 75) dX12_count_74 rfl rfl rfl ?_
  refine r_getr (q := 78) (some (1306, 0)) ck12 dX12_count_75 rfl (k := 6) (by decide) wt1284 rfl (hs.e (by decide)) (hs.r (by decide) (by decide)) ?_
  refine r_iconst (q := 79) (nI 3) dX12_count_78 rfl (by decide) ?_
  refine r_ialdN (q := 80) 3775 (by decide) rfl dX12_count_79 rfl (hs.e (by decide)) (hs.n rfl (by decide)) (by omega) (by decide) ?_
  refine r_topi (y := gI S 1306 0 3) (by simp [gI_sI, gJ_sJ, gI_sJ, gJ_sI]) ?_
  refine r_ireturn dX12_count_80 rfl ?_
  exact ⟨rfl, rfl⟩

set_option maxRecDepth 100000 in
theorem ok_X11_count_5 {S : zS} (hs : Sd S) {c : Nat} (hc : gI S 11 0 3 = nI c) (hc4 : c < 4) : Ok mX11_count 0 (ent 2 [zr 11 0, zi (nI 5)]) [] S (fun r S1 => r = some (zi (gI S 11 0 1)) ∧ S1 = S) := by
  show Ok mX11_count 0 [some (zr 11 0), some (zi (nI 5))] [] S _
  refine r_iload_n (q := 1) dX11_count_0 rfl rfl rfl ?_
  refine r_tabIn (q := 80) (off := 79) dX11_count_1 (by decide) (by decide) (by decide) (by decide) ?_
  refine r_aload_n (q := 81) dX11_count_80 rfl rfl rfl ?_
  refine r_geti (q := 84) ck11 dX11_count_81 rfl (k := 1) (by decide) wt423 (Or.inl rfl) (hs.e (by decide)) ?_
  refine r_ireturn dX11_count_84 rfl ?_
  exact ⟨rfl, rfl⟩

set_option maxRecDepth 100000 in
theorem ok_X12_count_5 {S : zS} (hs : Sd S) : Ok mX12_count 0 (ent 2 [zr 12 0, zi (nI 5)]) [] S (fun r S1 => r = some (zi (gI S 12 0 2)) ∧ S1 = sI S 12 0 0 (nI 0)) := by
  show Ok mX12_count 0 [some (zr 12 0), some (zi (nI 5))] [] S _
  refine r_aload_n (q := 1) dX12_count_0 rfl rfl rfl ?_
  refine r_iconst (q := 2) (nI 0) dX12_count_1 rfl (by decide) ?_
  refine r_puti (q := 5) ck12 dX12_count_2 rfl (k := 0) (by decide) wt1278 (Or.inl rfl) rfl (hs.e (by decide)) ?_
  refine r_iload_n (q := 6) dX12_count_5 rfl rfl rfl ?_
  refine r_tabIn (q := 81) (off := 75) dX12_count_6 (by decide) (by decide) (by decide) (by decide) ?_
  refine r_aload_n (q := 82) dX12_count_81 rfl rfl rfl ?_
  refine r_geti (q := 85) ck12 dX12_count_82 rfl (k := 2) (by decide) wt1280 (Or.inl rfl) (hs.e (by decide)) ?_
  refine r_topi (y := gI S 12 0 2) (by simp [gI_sI, gJ_sJ, gI_sJ, gJ_sI]) ?_
  refine r_ireturn dX12_count_85 rfl ?_
  exact ⟨rfl, rfl⟩

set_option maxRecDepth 100000 in
theorem ok_X11_count_out {S : zS} {a : Int32} (ha : ¬ (0 ≤ a ∧ a < nI 6)) : Ok mX11_count 0 (ent 2 [zr 11 0, zi a]) [] S (fun r S1 => r = some (zi (-1)) ∧ S1 = S) := by
  show Ok mX11_count 0 [some (zr 11 0), some (zi a)] [] S _
  refine r_iload_n (q := 1) dX11_count_0 rfl rfl rfl ?_
  refine r_tabOut (q := 85) dX11_count_1 (cn_out ha) (by decide) ?_
  refine r_iconst (q := 86) ((-1 : Int32)) dX11_count_85 rfl (by decide) ?_
  refine r_ireturn dX11_count_86 rfl ?_
  exact ⟨rfl, rfl⟩

set_option maxRecDepth 100000 in
theorem ok_X12_count_out {S : zS} (hs : Sd S) {a : Int32} (ha : ¬ (0 ≤ a ∧ a < nI 6)) : Ok mX12_count 0 (ent 2 [zr 12 0, zi a]) [] S (fun r S1 => r = some (zi (-1)) ∧ S1 = sI S 12 0 0 (nI 0)) := by
  show Ok mX12_count 0 [some (zr 12 0), some (zi a)] [] S _
  refine r_aload_n (q := 1) dX12_count_0 rfl rfl rfl ?_
  refine r_iconst (q := 2) (nI 0) dX12_count_1 rfl (by decide) ?_
  refine r_puti (q := 5) ck12 dX12_count_2 rfl (k := 0) (by decide) wt1278 (Or.inl rfl) rfl (hs.e (by decide)) ?_
  refine r_iload_n (q := 6) dX12_count_5 rfl rfl rfl ?_
  refine r_tabOut (q := 86) dX12_count_6 (cn_out ha) (by decide) ?_
  refine r_iconst (q := 87) ((-1 : Int32)) dX12_count_86 rfl (by decide) ?_
  refine r_ireturn dX12_count_87 rfl ?_
  exact ⟨rfl, rfl⟩

/-! PAIRS: the class's method, then the reference's, with one answer -/
def Pg (M1 : mD) (n1 : Nat) (A1 : List zV) (M2 : mD) (n2 : Nat) (A2 : List zV) (S : zS) (Q : zS → Prop) : Prop := Ok M1 0 (ent n1 A1) [] S (fun r S1 => ∃ v : Int32, r = some (zi v) ∧ Sd S1 ∧ Ok M2 0 (ent n2 A2) [] S1 (fun r2 S2 => r2 = some (zi v) ∧ Q S2))
theorem Pg.mono {M1 M2 : mD} {n1 n2 : Nat} {A1 A2 : List zV} {S : zS} {Q Q' : zS → Prop} (h : Pg M1 n1 A1 M2 n2 A2 S Q) (hq : ∀ S2, Q S2 → Q' S2) : Pg M1 n1 A1 M2 n2 A2 S Q' := Ok.mono h fun _ _ ⟨v, h1, h2, h3⟩ => ⟨v, h1, h2, Ok.mono h3 fun _ _ z => ⟨z.1, hq _ z.2⟩⟩
theorem pg_get {M1 M2 : mD} {n1 n2 : Nat} {A1 A2 : List zV} {S : zS} {x y : Int32} (hs : Sd S) (h1 : Ok M1 0 (ent n1 A1) [] S (fun r S1 => r = some (zi x) ∧ S1 = S)) (h2 : Ok M2 0 (ent n2 A2) [] S (fun r S1 => r = some (zi y) ∧ S1 = sI S 12 0 0 (nI 0))) (e : x = y) : Pg M1 n1 A1 M2 n2 A2 S (fun S2 => S2 = sI S 12 0 0 (nI 0)) := by
  subst e
  refine Ok.mono h1 fun r S1 z => ⟨x, z.1, ?_, ?_⟩
  · rw [z.2]; exact hs
  · rw [z.2]; exact h2
theorem pg_put {M1 M2 : mD} {n1 n2 : Nat} {A1 A2 : List zV} {S S1 S2 : zS} {x y : Int32} (hs : Sd S1) (h1 : Ok M1 0 (ent n1 A1) [] S (fun r T => r = some (zi x) ∧ T = S1)) (h2 : Ok M2 0 (ent n2 A2) [] S1 (fun r T => r = some (zi y) ∧ T = S2)) (e : x = y) : Pg M1 n1 A1 M2 n2 A2 S (fun T => T = S2) := by
  subst e
  refine Ok.mono h1 fun r T z => ⟨x, z.1, ?_, ?_⟩
  · rw [z.2]; exact hs
  · rw [z.2]; exact h2
theorem pg_fault {S : zS} (hs : Sd S) (h : gI S 4 0 14 = gI S 12 0 13) : Pg mX11_fault 1 [zr 11 0] mX12_fault 1 [zr 12 0] S (fun S2 => S2 = sI S 12 0 0 (nI 0)) := pg_get hs (ok_X11_fault hs) (ok_X12_fault hs) h
theorem pg_leaves {S : zS} (hs : Sd S) (h : gI S 8 0 0 = gI S 1306 0 1173) : Pg mX11_leaves 1 [zr 11 0] mX12_leaves 1 [zr 12 0] S (fun S2 => S2 = sI S 12 0 0 (nI 0)) := pg_get hs (ok_X11_leaves hs) (ok_X12_leaves hs) h
theorem pg_broken {S : zS} (hs : Sd S) (h : gI S 3 0 1 = gI S 12 0 82) : Pg mX11_broken 1 [zr 11 0] mX12_broken 1 [zr 12 0] S (fun S2 => S2 = sI S 12 0 0 (nI 0)) := pg_get hs (ok_X11_broken hs) (ok_X12_broken hs) h
theorem pg_act {S : zS} (hs : Sd S) {c A : Nat} (hc : gI S 11 0 3 = nI c) (hc4 : c < 4) (hA : gI S 9 c 1 = nI A) (hA2 : gI S 1306 0 1 = nI A) (hAm : A ≤ 3) (h : ∀ a, a < A → gI S 1003 c a = gI S 1306 0 (4 + a)) (a : Int32) : Pg mX11_act 3 [zr 11 0, zi a] mX12_act 2 [zr 12 0, zi a] S (fun S2 => S2 = sI S 12 0 0 (nI 0)) := by
  by_cases ha : 0 ≤ a ∧ a < nI A
  · obtain ⟨m, hm, rfl⟩ := zz_of ha (by omega)
    exact pg_get hs (ok_X11_act_in hs hc hc4 hA hAm hm) (ok_X12_act_in hs hA2 hAm hm) (h m hm)
  · exact pg_get hs (ok_X11_act_out hs hc hc4 hA hAm ha) (ok_X12_act_out hs hA2 hAm ha) rfl
theorem pg_law {S : zS} (hs : Sd S) {c W : Nat} (hc : gI S 11 0 3 = nI c) (hc4 : c < 4) (hW : gI S 9 c 4 = nI W) (hW2 : gI S 1306 0 2 = nI W) (hWm : W ≤ 18) (h0 : ∀ l, l < W → gI S 1005 c l = gI S 1306 0 (7 + l)) (h1 : ∀ l, l ≤ W → gI S 1006 c l = gI S 1306 0 (25 + l)) (a w : Int32) : Pg mX11_law 4 [zr 11 0, zi a, zi w] mX12_law 3 [zr 12 0, zi a, zi w] S (fun S2 => S2 = sI S 12 0 0 (nI 0)) := by
  by_cases ha : 0 ≤ a ∧ a < nI W
  · obtain ⟨m, hm, rfl⟩ := zz_of ha (by omega)
    by_cases e0 : w = 0
    · subst e0
      exact pg_get hs (ok_X11_law_0 hs hc hc4 hW hWm hm) (ok_X12_law_0 hs hW2 hWm hm) (h0 m hm)
    · by_cases e1 : w = nI 1
      · subst e1
        exact pg_get hs (ok_X11_law_1 hs hc hc4 hW hWm hm) (ok_X12_law_1 hs hW2 hWm hm) (by rw [h1 (m + 1) hm, h1 m (by omega)]; rfl)
      · exact pg_get hs (ok_X11_law_x hs hc hc4 hW hWm hm e0 e1) (ok_X12_law_x hs hW2 hWm hm e0 e1) rfl
  · exact pg_get hs (ok_X11_law_out hs hc hc4 hW hWm ha w) (ok_X12_law_out hs hW2 hWm ha w) rfl
theorem pg_count {S : zS} (hs : Sd S) {c : Nat} (hc : gI S 11 0 3 = nI c) (hc4 : c < 4) (h0 : gI S 9 c 0 = gI S 1306 0 0) (h1 : gI S 9 c 1 = gI S 1306 0 1) (h2 : gI S 9 c 4 = gI S 1306 0 2) (h3 : gI S 8 0 1 = gI S 1306 0 1174) (h4 : gI S 7 0 0 = gI S 1306 0 3) (h5 : gI S 11 0 1 = gI S 12 0 2) (a : Int32) : Pg mX11_count 2 [zr 11 0, zi a] mX12_count 2 [zr 12 0, zi a] S (fun S2 => S2 = sI S 12 0 0 (nI 0)) := by
  by_cases ha : 0 ≤ a ∧ a < nI 6
  · obtain ⟨m, hm, rfl⟩ := zz_of ha (by omega)
    match m, hm with
    | 0, _ => exact pg_get hs (ok_X11_count_0 hs hc hc4) (ok_X12_count_0 hs) h0
    | 1, _ => exact pg_get hs (ok_X11_count_1 hs hc hc4) (ok_X12_count_1 hs) h1
    | 2, _ => exact pg_get hs (ok_X11_count_2 hs hc hc4) (ok_X12_count_2 hs) h2
    | 3, _ => exact pg_get hs (ok_X11_count_3 hs hc hc4) (ok_X12_count_3 hs) h3
    | 4, _ => exact pg_get hs (ok_X11_count_4 hs hc hc4) (ok_X12_count_4 hs) h4
    | 5, _ => exact pg_get hs (ok_X11_count_5 hs hc hc4) (ok_X12_count_5 hs) h5
  · exact pg_get hs (ok_X11_count_out ha) (ok_X12_count_out hs ha) rfl
theorem pg_end {S : zS} (hs : Sd S) {t : Nat} (h : Tp S t) (a : Int32) : Pg mX11_end 2 [zr 11 0, zi a] mX12_end 2 [zr 12 0, zi a] S (fun S2 => (∃ t2, Tp S2 t2) ∧ Fr tTape S S2) := by
  obtain ⟨h9, h1, h2, h3⟩ := h
  by_cases ha : 0 ≤ a ∧ a ≤ nI t
  · obtain ⟨m, hm, rfl⟩ := zz_le ha (by omega)
    refine Pg.mono (pg_put (S1 := sI S 11 0 1 (nI m)) hs (ok_X11_end_in hs h1 h9 hm) (ok_X12_end_in (S := sI S 11 0 1 (nI m)) hs h2 h9 hm) rfl) fun S2 e => ?_
    subst e
    exact ⟨⟨m, by omega, rfl, rfl, fun k hk => h3 k (by omega)⟩, ((Fr.rf.i rfl).i rfl).i rfl⟩
  · refine Pg.mono (pg_put hs (ok_X11_end_out hs h1 h9 ha) (ok_X12_end_out hs h2 h9 ha) rfl) fun S2 e => ?_
    subst e
    exact ⟨⟨t, h9, h1, h2, h3⟩, Fr.rf.i rfl⟩
theorem Fr.fed5 {T : Nat → Nat → Nat → Bool} {S S1 : zS} (h : Fr T S S1) {A o f t : Nat} {a b c d e : Int32} (hA : ∀ k, T A 0 k = true) (ho : T o 0 f = true) : Fr T S (fed5 S1 A o f t a b c d e) := ((((h.fed hA ho).fed hA ho).fed hA ho).fed hA ho).fed hA ho
/-- the bytes of the five numbers -/
def by5 (a b c d e : Int32) (k : Nat) : Int32 := if k < 4 then by8 a k else if k < 8 then by8 b (k - 4) else if k < 12 then by8 c (k - 8) else if k < 16 then by8 d (k - 12) else by8 e (k - 16)
theorem fed5_A {S : zS} {A o f t k : Nat} {a b c d e : Int32} (h : A ≠ o) : gI (fed5 S A o f t a b c d e) A 0 k = if t ≤ k ∧ k < t + 20 then by5 a b c d e (k - t) else gI S A 0 k := by
  unfold fed5 by5
  simp only [fed_I h, true_and, h, false_and, if_false]
  by_cases hk : t ≤ k ∧ k < t + 20
  · rw [if_pos hk]
    obtain ⟨j, rfl⟩ : ∃ j, k = t + j := ⟨k - t, by omega⟩
    rw [show t + j - t = j by omega, show t + j - (t + 4) = j - 4 by omega, show t + j - (t + 8) = j - 8 by omega, show t + j - (t + 12) = j - 12 by omega, show t + j - (t + 16) = j - 16 by omega]
    by_cases q4 : j < 4
    · rw [if_neg (by omega), if_neg (by omega), if_neg (by omega), if_neg (by omega), if_pos (by omega), if_pos q4]
    · by_cases q8 : j < 8
      · rw [if_neg (by omega), if_neg (by omega), if_neg (by omega), if_pos (by omega), if_neg q4, if_pos q8]
      · by_cases q12 : j < 12
        · rw [if_neg (by omega), if_neg (by omega), if_pos (by omega), if_neg q4, if_neg q8, if_pos q12]
        · by_cases q16 : j < 16
          · rw [if_neg (by omega), if_pos (by omega), if_neg q4, if_neg q8, if_neg q12, if_pos q16]
          · rw [if_pos (by omega), if_neg q4, if_neg q8, if_neg q12, if_neg q16]
  · rw [if_neg hk, if_neg (by omega), if_neg (by omega), if_neg (by omega), if_neg (by omega), if_neg (by omega)]
theorem fed5_f {S : zS} {A o f t : Nat} {a b c d e : Int32} : gI (fed5 S A o f t a b c d e) o 0 f = nI (t + 20) := fed_f
theorem fed5_x {S : zS} {A o f t x y k : Nat} {a b c d e : Int32} (h : A ≠ o) (h1 : ¬ (x = A ∧ y = 0)) (h2 : ¬ (x = o ∧ y = 0 ∧ k = f)) : gI (fed5 S A o f t a b c d e) x y k = gI S x y k := by
  unfold fed5
  have q1 : ∀ t, ¬ (x = A ∧ y = 0 ∧ t ≤ k ∧ k < t + 4) := fun t z => h1 ⟨z.1, z.2.1⟩
  simp only [fed_I h, if_neg (q1 _), if_neg h2]
theorem pg_feed {S : zS} (hs : Sd S) {t : Nat} (h : Tp S t) (a b c d e : Int32) : Pg mX11_feed 6 [zr 11 0, zi a, zi b, zi c, zi d, zi e] mX12_feed 6 [zr 12 0, zi a, zi b, zi c, zi d, zi e] S (fun S2 => (∃ t2, Tp S2 t2) ∧ Fr tTape S S2) := by
  obtain ⟨h9, h1, h2, h3⟩ := h
  by_cases ht : t + 20 ≤ 940
  · have k1 := ok_X11_feed hs h1 h9 a b c d e
    rw [if_pos ht, if_pos ht] at k1
    have g2 : gI (fed5 S 1200 11 1 t a b c d e) 12 0 2 = nI t := (fed5_x (by decide) (by decide) (by decide)).trans h2
    have k2 := ok_X12_feed (S := fed5 S 1200 11 1 t a b c d e) hs g2 h9 a b c d e
    rw [if_pos ht, if_pos ht] at k2
    refine Pg.mono (pg_put (S1 := fed5 S 1200 11 1 t a b c d e) hs k1 k2 rfl) fun S2 e => ?_
    subst e
    refine ⟨⟨t + 20, ht, ?_, fed5_f, fun k hk => ?_⟩, ((Fr.rf.fed5 (fun _ => rfl) rfl).i rfl).fed5 (fun _ => rfl) rfl⟩
    · rw [fed5_x (by decide) (by decide) (by decide), gI_sI, if_neg (by decide)]
      exact fed5_f
    · rw [fed5_x (by decide) (fun z => absurd z.1 (by decide)) (fun z => absurd z.1 (by decide)), fed5_A (by decide), gI_sI, if_neg (fun z => absurd z.1 (by decide)), fed5_A (by decide)]
      by_cases hk2 : t ≤ k ∧ k < t + 20
      · rw [if_pos hk2, if_pos hk2]
      · rw [if_neg hk2, if_neg hk2]
        rw [gI_sI, if_neg (fun z => absurd z.1 (by decide)), fed5_x (by decide) (fun z => absurd z.1 (by decide)) (fun z => absurd z.1 (by decide))]
        exact h3 k (by omega)
  · have k1 := ok_X11_feed hs h1 h9 a b c d e
    rw [if_neg ht, if_neg ht] at k1
    have k2 := ok_X12_feed hs h2 h9 a b c d e
    rw [if_neg ht, if_neg ht] at k2
    refine Pg.mono (pg_put hs k1 k2 rfl) fun S2 e => ?_
    subst e
    exact ⟨⟨t, h9, h1, h2, h3⟩, Fr.rf.i rfl⟩
