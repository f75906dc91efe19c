theorem cpR_all {S : zS} {a0 b0 a1 b1 so to hi : Nat} : cpR S a0 b0 a1 b1 so to hi hi = S := cpR_none (Nat.le_refl _)
set_option maxRecDepth 100000 in
theorem lp_undo {Po : Option zV → zS → Prop} {h : Nat} (h7 : h ≤ 7) : ∀ (d i : Nat) (S : zS), i + d = 2602 → Sd S → gI S 12 0 58 = nI h → (∀ S2, S2 = cpR S 1357 0 1306 0 (2602 * h) 1173 i 2602 → Ok mX12_undo 64 [some (zr 12 0), some (zi (nI 2602))] [] S2 Po) → Ok mX12_undo 26 [some (zr 12 0), some (zi (nI i))] [] S Po := by
  intro d
  induction d with
  | zero =>
    intro i S hi hs hh K
    obtain rfl : i = 2602 := by omega
    refine r_iload_n (q := 27) dX12_undo_26 rfl rfl rfl ?_
    refine r_sipush (q := 30) (nI 2602) dX12_undo_27 rfl (by decide) ?_
    refine r_icmp_geN (q := 33) (t := 64) (by omega) (by omega) dX12_undo_30 (by decide) rfl (fun h30 => ?_) (fun h30 => absurd h30 (by omega))
    exact K _ (cpR_all.symm)
  | succ d ih =>
    intro i S hi hs hh K
    refine r_iload_n (q := 27) dX12_undo_26 rfl rfl rfl ?_
    refine r_sipush (q := 30) (nI 2602) dX12_undo_27 rfl (by decide) ?_
    refine r_icmp_geN (q := 33) (t := 64) (by omega) (by omega) dX12_undo_30 (by decide) rfl (fun h30 => absurd h30 (by omega)) (fun h30 => ?_)
    refine r_aload_n (q := 34) dX12_undo_33 rfl rfl rfl ?_
    refine r_getr (q := 37) (some (1306, 0)) ck12 dX12_undo_34 rfl (k := 6) (by decide) wt1284 rfl (hs.e (by decide)) (hs.r (by decide) (by decide)) ?_
    refine r_sipush (q := 40) (nI 1173) dX12_undo_37 rfl (by decide) ?_
    refine r_iload_n (q := 41) dX12_undo_40 rfl rfl rfl ?_
    refine r_iaddN (q := 42) dX12_undo_41 rfl ?_
    refine r_aload_n (q := 43) dX12_undo_42 rfl rfl rfl ?_
    refine r_getr (q := 46) (some (1357, 0)) ck12 dX12_undo_43 rfl (k := 57) (by decide) wt1335 rfl (hs.e (by decide)) (hs.r (by decide) (by decide)) ?_
    refine r_sipush (q := 49) (nI 2602) dX12_undo_46 rfl (by decide) ?_
    refine r_aload_n (q := 50) dX12_undo_49 rfl rfl rfl ?_
    refine r_geti (q := 53) ck12 dX12_undo_50 rfl (k := 58) (by decide) wt1336 (Or.inl rfl) (hs.e (by decide)) ?_
    refine r_topi (y := nI h) hh ?_
    refine r_imulN (q := 54) dX12_undo_53 rfl ?_
    refine r_iload_n (q := 55) dX12_undo_54 rfl rfl rfl ?_
    refine r_iaddN (q := 56) dX12_undo_55 rfl ?_
    refine r_ialdN (q := 57) 20816 (by decide) rfl dX12_undo_56 rfl (hs.e (by decide)) (hs.n rfl (by decide)) (by omega) (by decide) ?_
    refine r_iastN (q := 58) 3775 (by decide) rfl dX12_undo_57 rfl (hs.e (by decide)) (hs.n rfl (by decide)) (by omega) (by decide) ?_
    refine r_iincN (q := 61) (L' := [some (zr 12 0), some (zi (nI (i + 1)))]) 1 rfl dX12_undo_58 rfl rfl (by decide) rfl ?_
    refine r_goto (q := 26) dX12_undo_61 (by decide) ?_
    exact ih (i + 1) _ (by omega) hs (hh) (fun S2 h => K S2 (h.trans (cpR_step (by omega) (by decide))))

set_option maxRecDepth 100000 in
theorem ok_X12_undo {S : zS} (hs : Sd S) {h : Nat} (hh : gI S 12 0 58 = nI h) (h1 : 1 ≤ h) (h8 : h ≤ 8) : Ok mX12_undo 0 (ent 2 [zr 12 0]) [] S (fun r S1 => r = some (zi (gI (cpR (sI (sI S 12 0 0 (nI 0)) 12 0 58 (nI (h - 1))) 1357 0 1306 0 (2602 * (h - 1)) 1173 0 2602) 1306 0 1174)) ∧ S1 = cpR (sI (sI S 12 0 0 (nI 0)) 12 0 58 (nI (h - 1))) 1357 0 1306 0 (2602 * (h - 1)) 1173 0 2602) := by
  show Ok mX12_undo 0 [some (zr 12 0), none] [] S _
  refine r_aload_n (q := 1) dX12_undo_0 rfl rfl rfl ?_
  refine r_iconst (q := 2) (nI 0) dX12_undo_1 rfl (by decide) ?_
  refine r_puti (q := 5) ck12 dX12_undo_2 rfl (k := 0) (by decide) wt1278 (Or.inl rfl) rfl (hs.e (by decide)) ?_
  refine r_aload_n (q := 6) dX12_undo_5 rfl rfl rfl ?_
  refine r_geti (q := 9) ck12 dX12_undo_6 rfl (k := 58) (by decide) wt1336 (Or.inl rfl) (hs.e (by decide)) ?_
  refine r_topi (y := gI S 12 0 58) (by simp [gI_sI, gJ_sJ, gI_sJ, gJ_sI]) ?_
  refine r_topi (y := nI h) hh ?_
  refine r_if_neN (q := 12) (t := 14) (by omega) dX12_undo_9 (by decide) rfl (fun h9 => ?_) (fun h9 => absurd h9 (by omega))
  refine r_aload_n (q := 15) dX12_undo_14 rfl rfl rfl ?_
  refine r_dup (q := 16) dX12_undo_15 rfl rfl ?_
  refine r_geti (q := 19) ck12 dX12_undo_16 rfl (k := 58) (by decide) wt1336 (Or.inl rfl) (hs.e (by decide)) ?_
  refine r_topi (y := gI S 12 0 58) (by simp [gI_sI, gJ_sJ, gI_sJ, gJ_sI]) ?_
  refine r_topi (y := nI h) hh ?_
  refine r_iconst (q := 20) (nI 1) dX12_undo_19 rfl (by decide) ?_
  refine r_isubN (q := 21) (by omega) dX12_undo_20 rfl ?_
  refine r_puti (q := 24) ck12 dX12_undo_21 rfl (k := 58) (by decide) wt1336 (Or.inl rfl) rfl (hs.e (by decide)) ?_
  refine r_iconst (q := 25) (nI 0) dX12_undo_24 rfl (by decide) ?_
  refine r_istore_n (q := 26) (L' := [some (zr 12 0), some (zi (nI 0))]) dX12_undo_25 rfl rfl (by decide) rfl ?_
  refine lp_undo (h := h - 1) (by omega) 2602 0 (sI (sI S 12 0 0 (nI 0)) 12 0 58 (nI (h - 1))) rfl hs (by rw [gI_sI, if_pos ⟨rfl, rfl, rfl⟩]) (fun S2 h2 => ?_)
  subst h2
  refine r_aload_n (q := 65) dX12_undo_64 rfl rfl rfl ?_
  refine r_getr (q := 68) (some (1306, 0)) ck12 dX12_undo_65 rfl (k := 6) (by decide) wt1284 rfl (hs.e (by decide)) (hs.r (by decide) (by decide)) ?_
  refine r_sipush (q := 71) (nI 1174) dX12_undo_68 rfl (by decide) ?_
  refine r_ialdN (q := 72) 3775 (by decide) rfl dX12_undo_71 rfl (hs.e (by decide)) (hs.n rfl (by decide)) (by omega) (by decide) ?_
  refine r_ireturn dX12_undo_72 rfl ?_
  exact ⟨rfl, rfl⟩

set_option maxRecDepth 100000 in
theorem ok_X12_undo_0 {S : zS} (hs : Sd S) (hh : gI S 12 0 58 = nI 0) : Ok mX12_undo 0 (ent 2 [zr 12 0]) [] S (fun r S1 => r = some (zi (-1)) ∧ S1 = sI S 12 0 0 (nI 0)) := by
  show Ok mX12_undo 0 [some (zr 12 0), none] [] S _
  refine r_aload_n (q := 1) dX12_undo_0 rfl rfl rfl ?_
  refine r_iconst (q := 2) (nI 0) dX12_undo_1 rfl (by decide) ?_
  refine r_puti (q := 5) ck12 dX12_undo_2 rfl (k := 0) (by decide) wt1278 (Or.inl rfl) rfl (hs.e (by decide)) ?_
  refine r_aload_n (q := 6) dX12_undo_5 rfl rfl rfl ?_
  refine r_geti (q := 9) ck12 dX12_undo_6 rfl (k := 58) (by decide) wt1336 (Or.inl rfl) (hs.e (by decide)) ?_
  refine r_topi (y := gI S 12 0 58) (by simp [gI_sI, gJ_sJ, gI_sJ, gJ_sI]) ?_
  refine r_topi (y := nI 0) hh ?_
  refine r_if_neN (q := 12) (t := 14) (by omega) dX12_undo_9 (by decide) rfl (fun h9 => absurd h9 (by omega)) (fun h9 => ?_)
  refine r_iconst (q := 13) ((-1 : Int32)) dX12_undo_12 rfl (by decide) ?_
  refine r_ireturn dX12_undo_13 rfl ?_
  exact ⟨rfl, rfl⟩

set_option maxRecDepth 100000 in
theorem ok_X11_undo_0 {S : zS} (hs : Sd S) (hh : gI S 11 0 10 = nI 0) : Ok mX11_undo 0 (ent 1 [zr 11 0]) [] S (fun r S1 => r = some (zi (-1)) ∧ S1 = S) := by
  show Ok mX11_undo 0 [some (zr 11 0)] [] S _
  refine r_aload_n (q := 1) dX11_undo_0 rfl rfl rfl ?_
  refine r_geti (q := 4) ck11 dX11_undo_1 rfl (k := 10) (by decide) wt432 (Or.inl rfl) (hs.e (by decide)) ?_
  refine r_topi (y := nI 0) hh ?_
  refine r_iconst (q := 5) (nI 1) dX11_undo_4 rfl (by decide) ?_
  refine r_icmp_geN (q := 8) (t := 10) (by omega) (by omega) dX11_undo_5 (by decide) rfl (fun h5 => absurd h5 (by omega)) (fun h5 => ?_)
  refine r_iconst (q := 9) ((-1 : Int32)) dX11_undo_8 rfl (by decide) ?_
  refine r_ireturn dX11_undo_9 rfl ?_
  exact ⟨rfl, rfl⟩

theorem sd_tcp {S : zS} (h : Sd S) {j i e n : Nat} : Sd (tcp S j i e n) := sd_room8 h (j := j) (e := e) (n := n)
theorem tcp_0 {S : zS} {j i e n : Nat} : gI (tcp S j i e n) 8 j 0 = gI S 8 i 0 := by
  unfold tcp
  simp [gI_cpS, gI_sI]
theorem tcp_1 {S : zS} {j i e n : Nat} : gI (tcp S j i e n) 8 j 1 = nI e := by
  unfold tcp
  simp [gI_cpS, gI_sI]
theorem tcp_x {S : zS} {j i e n x y k : Nat} (hx : x ≠ 99999) (h1 : ¬ (x = 8 ∧ y = j ∧ k < 2)) (h2 : ¬ ((x = 902 ∨ x = 903) ∧ y = j)) : gI (tcp S j i e n) x y k = gI S x y k := by
  unfold tcp
  rw [gI_cpS, if_neg (by omega), gI_cpS, if_neg (by omega), gI_sI, if_neg (by omega), gI_sI, if_neg (by omega), gI_room8 hx (by omega)]
theorem tcp_keys {S : zS} {j i e n k : Nat} (hij : ¬ i = j) (hk : k < e) : gI (tcp S j i e n) 902 j k = gI S 902 i k := by
  unfold tcp
  rw [gI_cpS, if_neg (by omega), gI_cpS, if_pos ⟨rfl, rfl⟩, pk_cpy_in (Nat.zero_le _) (by omega), gI_sI, if_neg (by omega), gI_sI, if_neg (by omega), gI_room8 (by decide) (by omega)]
  congr 1
  omega
theorem tcp_nums {S : zS} {j i e n k : Nat} (hij : ¬ i = j) (hk : k < e) : gI (tcp S j i e n) 903 j k = gI S 903 i k := by
  unfold tcp
  rw [gI_cpS, if_pos ⟨rfl, rfl⟩, pk_cpy_in (Nat.zero_le _) (by omega), gI_cpS, if_neg (by omega), gI_sI, if_neg (by omega), gI_sI, if_neg (by omega), gI_room8 (by decide) (by omega)]
  congr 1
  omega
theorem tcp_J {S : zS} {j i e n x y k : Nat} (hx : x ≠ 99999) : gJ (tcp S j i e n) x y k = gJ S x y k := gJ_room8 hx (S := S) (j := j) (e := e) (n := n)
theorem tcp_N {S : zS} {j i e n x y : Nat} : gN (tcp S j i e n) x y = gN (room8 S j e n) x y := rfl
theorem tcp_C {S : zS} {j i e n : Nat} : gC (tcp S j i e n) = gC (room8 S j e n) := rfl
theorem tcp_Q {S : zS} {j i e n : Nat} : gQ (tcp S j i e n) = gQ (room8 S j e n) := rfl
set_option maxRecDepth 100000 in
theorem ok_X11_undo {S : zS} (hs : Sd S) {h q p e n o : Nat} (hh : gI S 11 0 10 = nI h) (hq : gI S 11 0 11 = nI q) (h1 : 1 ≤ h) (h8 : h ≤ 8) (q8 : q < 8) (hp : (q + 8 - 1) % 8 = p) (p8 : p < 8) (h2 : gN S 902 0 = n) (h3 : gN S 903 0 = n) (hn : 1 ≤ n) (hn9 : n ≤ 1200) (he : e ≤ 1200) (hte : gI S 8 (p + 3) 1 = nI e) (i2 : gN S 902 (p + 3) = o) (i3 : gN S 903 (p + 3) = o) (heo : e ≤ o) (ho : o ≤ 1200) : Ok mX11_undo 0 (ent 1 [zr 11 0]) [] S (fun r S1 => r = some (zi (nI e)) ∧ S1 = tcp (sI (sI S 11 0 10 (nI (h - 1))) 11 0 11 (nI p)) 0 (p + 3) e n) := by
  show Ok mX11_undo 0 [some (zr 11 0)] [] S _
  refine r_aload_n (q := 1) dX11_undo_0 rfl rfl rfl ?_
  refine r_geti (q := 4) ck11 dX11_undo_1 rfl (k := 10) (by decide) wt432 (Or.inl rfl) (hs.e (by decide)) ?_
  refine r_topi (y := nI h) hh ?_
  refine r_iconst (q := 5) (nI 1) dX11_undo_4 rfl (by decide) ?_
  refine r_icmp_geN (q := 8) (t := 10) (by omega) (by omega) dX11_undo_5 (by decide) rfl (fun h5 => ?_) (fun h5 => absurd h5 (by omega))
  refine r_aload_n (q := 11) dX11_undo_10 rfl rfl rfl ?_
  refine r_dup (q := 12) dX11_undo_11 rfl rfl ?_
  refine r_geti (q := 15) ck11 dX11_undo_12 rfl (k := 10) (by decide) wt432 (Or.inl rfl) (hs.e (by decide)) ?_
  refine r_topi (y := nI h) hh ?_
  refine r_iconst (q := 16) (nI 1) dX11_undo_15 rfl (by decide) ?_
  refine r_isubN (q := 17) (by omega) dX11_undo_16 rfl ?_
  refine r_puti (q := 20) ck11 dX11_undo_17 rfl (k := 10) (by decide) wt432 (Or.inl rfl) rfl (hs.e (by decide)) ?_
  refine r_aload_n (q := 21) dX11_undo_20 rfl rfl rfl ?_
  refine r_aload_n (q := 22) dX11_undo_21 rfl rfl rfl ?_
  refine r_geti (q := 25) ck11 dX11_undo_22 rfl (k := 11) (by decide) wt433 (Or.inl rfl) (hs.e (by decide)) ?_
  refine r_topi (y := gI S 11 0 11) (by simp [gI_sI, gJ_sJ, gI_sJ, gJ_sI]) ?_
  refine r_topi (y := nI q) hq ?_
  refine r_bipush (q := 27) (nI 8) dX11_undo_25 rfl (by decide) ?_
  refine r_iaddN (q := 28) dX11_undo_27 rfl ?_
  refine r_iconst (q := 29) (nI 1) dX11_undo_28 rfl (by decide) ?_
  refine r_isubN (q := 30) (by omega) dX11_undo_29 rfl ?_
  refine r_bipush (q := 32) (nI 8) dX11_undo_30 rfl (by decide) ?_
  refine r_iremN (q := 33) (by omega) (by omega) (by omega) dX11_undo_32 rfl ?_
  refine r_topi (y := nI p) (congrArg nI hp) ?_
  refine r_puti (q := 36) ck11 dX11_undo_33 rfl (k := 11) (by decide) wt433 (Or.inl rfl) rfl (hs.e (by decide)) ?_
  refine r_aload_n (q := 37) dX11_undo_36 rfl rfl rfl ?_
  refine r_getr (q := 40) (some (8, 0)) ck11 dX11_undo_37 rfl (k := 7) (by decide) wt429 rfl (hs.e (by decide)) (hs.r (by decide) (by decide)) ?_
  refine r_aload_n (q := 41) dX11_undo_40 rfl rfl rfl ?_
  refine r_getr (q := 44) (some (1209, 0)) ck11 dX11_undo_41 rfl (k := 9) (by decide) wt431 rfl (hs.e (by decide)) (hs.r (by decide) (by decide)) ?_
  refine r_aload_n (q := 45) dX11_undo_44 rfl rfl rfl ?_
  refine r_geti (q := 48) ck11 dX11_undo_45 rfl (k := 11) (by decide) wt433 (Or.inl rfl) (hs.e (by decide)) ?_
  refine r_topi (y := nI p) (by simp [gI_sI, gJ_sJ, gI_sJ, gJ_sI]) ?_
  refine r_aaldN (q := 49) (some (8, p + 3)) 8 (by decide) (by decide) (by decide) dX11_undo_48 rfl (hs.e (by decide)) (hs.n rfl (by decide)) (show p < 8 by omega) (by decide) ((hs.r (by decide) (show p < 8 by omega)).trans (if_pos (show p < 8 by omega))) ?_
  refine r_callV (Mc := mX8_copy) (q := 52) (As := [zr 8 (p + 3)]) (st := []) ck8 dX11_undo_49 rfl rfl mkX8_copy wt707 wt708 wt709 rfl (Nat.le_of_ble_eq_true rfl) (Nat.le_of_ble_eq_true rfl) (by decide) (by decide) (by decide) (Or.inr ⟨Nat.le_of_ble_eq_true rfl, rfl, rfl⟩) (hs.e (by decide)) (ok_X8_copy (S := sI (sI S 11 0 10 (nI (h - 1))) 11 0 11 (nI p)) (e := e) (n := n) hs (by omega) h2 h3 hn hn9 he (i := p + 3) (by omega) (by omega) (by rw [gI_sI, if_neg (fun z => absurd z.1 (by decide)), gI_sI, if_neg (fun z => absurd z.1 (by decide))]; exact hte) i2 i3 heo ho) (fun r49 S49 hp49 => ?_)
  obtain ⟨rfl, hq49⟩ := hp49
  subst hq49
  have hs49 : Sd (tcp (sI (sI S 11 0 10 (nI (h - 1))) 11 0 11 (nI p)) 0 (p + 3) e n) := sd_tcp (S := sI (sI S 11 0 10 (nI (h - 1))) 11 0 11 (nI p)) hs
  show Ok _ _ _ [] _ _
  refine r_aload_n (q := 53) dX11_undo_52 rfl rfl rfl ?_
  refine r_getr (q := 56) (some (8, 0)) ck11 dX11_undo_53 rfl (k := 7) (by decide) wt429 rfl (hs49.e (by decide)) (hs49.r (by decide) (by decide)) ?_
  refine r_geti (q := 59) ck8 dX11_undo_56 rfl (k := 1) (by decide) wt67 (Or.inl rfl) (hs49.e (by decide)) ?_
  refine r_ireturn dX11_undo_59 rfl ?_
  exact ⟨congrArg (fun z => some (zi z)) tcp_1, rfl⟩

