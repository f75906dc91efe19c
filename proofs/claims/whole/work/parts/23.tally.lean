/-- a tally's rows, made long enough for e terms -/
def rlen (e n : Nat) : Nat := if e ≤ n then n else min 1200 (max e (2 * n))
def room8 (S : zS) (j e n : Nat) : zS := if e ≤ n then S else gro (gro S 902 j n (rlen e n)) 903 j n (rlen e n)
set_option maxRecDepth 100000 in
theorem ok_X8_makeRoom {S : zS} (hs : Sd S) {j e n : Nat} (hj : j < 19) (h2 : gN S 902 j = n) (h3 : gN S 903 j = n) (hn : 1 ≤ n) (hn9 : n ≤ 1200) (he : e ≤ 1200) : Ok mX8_makeRoom 0 (ent 3 [zr 8 j, zi (nI e)]) [] S (fun r S1 => r = none ∧ S1 = room8 S j e n) := by
  show Ok mX8_makeRoom 0 [some (zr 8 j), some (zi (nI e)), none] [] S _
  refine r_iload_n (q := 1) dX8_makeRoom_0 rfl rfl rfl ?_
  refine r_aload_n (q := 2) dX8_makeRoom_1 rfl rfl rfl ?_
  refine r_getr (q := 5) (some (902, j)) ck8 dX8_makeRoom_2 rfl (k := 2) (by decide) wt69 rfl (hs.e (show j < 19 by omega)) (hs.r (show j < 19 by omega) (by decide)) ?_
  refine r_alen (q := 6) (by decide) (by decide) dX8_makeRoom_5 rfl (hs.e (show j < 19 by omega)) ?_
  refine r_topi (y := nI n) (congrArg nI h2) ?_
  refine r_icmp_leN (q := 9) (t := 58) (by omega) (by omega) dX8_makeRoom_6 (by decide) rfl (fun h6 => ?_) (fun h6 => ?_)
  · skip
    refine r_return dX8_makeRoom_58 rfl ?_
    exact ⟨rfl, by unfold room8; rw [if_pos (by omega)]⟩
  · skip
    refine r_iload_n (q := 10) dX8_makeRoom_9 rfl rfl rfl ?_
    refine r_sipush (q := 13) (nI 1200) dX8_makeRoom_10 rfl (by decide) ?_
    refine r_icmp_gtN (q := 16) (t := 58) (by omega) (by omega) dX8_makeRoom_13 (by decide) rfl (fun h13 => absurd h13 (by omega)) (fun h13 => ?_)
    refine r_sipush (q := 19) (nI 1200) dX8_makeRoom_16 rfl (by decide) ?_
    refine r_iload_n (q := 20) dX8_makeRoom_19 rfl rfl rfl ?_
    refine r_iconst (q := 21) (nI 2) dX8_makeRoom_20 rfl (by decide) ?_
    refine r_aload_n (q := 22) dX8_makeRoom_21 rfl rfl rfl ?_
    refine r_getr (q := 25) (some (902, j)) ck8 dX8_makeRoom_22 rfl (k := 2) (by decide) wt69 rfl (hs.e (show j < 19 by omega)) (hs.r (show j < 19 by omega) (by decide)) ?_
    refine r_alen (q := 26) (by decide) (by decide) dX8_makeRoom_25 rfl (hs.e (show j < 19 by omega)) ?_
    refine r_topi (y := nI n) (congrArg nI h2) ?_
    refine r_imulN (q := 27) dX8_makeRoom_26 rfl ?_
    refine r_mmax (q := 30) dX8_makeRoom_27 rfl wt624 wt625 wt15 wt626 (Nat.le_of_ble_eq_true rfl) (by decide) (by decide) ?_
    refine r_topi (y := nI (max e (2 * n))) (nI_max (by omega) (by omega)) ?_
    refine r_mmin (q := 33) dX8_makeRoom_30 rfl wt627 wt512 wt15 wt513 (Nat.le_of_ble_eq_true rfl) (by decide) (by decide) ?_
    refine r_topi (y := nI (min 1200 (max e (2 * n)))) (nI_min (by omega) (by omega)) ?_
    refine r_istore_n (q := 34) (L' := [some (zr 8 j), some (zi (nI e)), some (zi (nI (min 1200 (max e (2 * n)))))]) dX8_makeRoom_33 rfl rfl (by decide) rfl ?_
    refine r_aload_n (q := 35) dX8_makeRoom_34 rfl rfl rfl ?_
    refine r_aload_n (q := 36) dX8_makeRoom_35 rfl rfl rfl ?_
    refine r_getr (q := 39) (some (902, j)) ck8 dX8_makeRoom_36 rfl (k := 2) (by decide) wt69 rfl (hs.e (show j < 19 by omega)) (hs.r (show j < 19 by omega) (by decide)) ?_
    refine r_iload_n (q := 40) dX8_makeRoom_39 rfl rfl rfl ?_
    refine r_callS (Mc := mJ7_copyOf_59c91) (q := 43) (As := [zr 902 j, zi (nI (min 1200 (max e (2 * n))))]) (st := [zr 8 j]) dX8_makeRoom_40 rfl rfl mkJ7_copyOf_59c91 wt628 wt629 rfl (Nat.le_of_ble_eq_true rfl) (Nat.le_of_ble_eq_true rfl) (by decide) (by decide) (by decide) (Or.inr ⟨Nat.le_of_ble_eq_true rfl, rfl, rfl⟩) hs.some (ok_copyOf_902 (S := S) (n := n) (l := min 1200 (max e (2 * n))) hs (by omega) h2 (by omega) (by omega)) (fun r40 S40 hp40 => ?_)
    obtain ⟨rfl, hq40⟩ := hp40
    rw [show min n (min 1200 (max e (2 * n))) = n by omega] at hq40
    subst hq40
    show Ok _ _ _ _ (cpO S 902 j n (min 1200 (max e (2 * n)))) _
    show Ok _ _ _ [zr 99999 (gC S), zr 8 j] _ _
    have hs43 : Sd (cpO S 902 j n (min 1200 (max e (2 * n)))) := Sd.al9 hs
    refine r_putg (q := 46) (a1 := 902) (m := gC S) hs43 (show j < 19 by omega) (by decide) rfl (by decide) rfl rfl (show j < 19 by omega) (by decide) rfl (by decide) (by decide) rfl rfl (show gE (al S 99999 (gC S) (min 1200 (max e (2 * n))) (min 1200 (max e (2 * n)))) 99999 (gC S) = true by rw [gE_al, if_pos ⟨rfl, rfl⟩]) ck8 dX8_makeRoom_43 rfl (k := 2) (by decide) wt69 (Or.inl rfl) rfl ?_
    show Ok _ _ _ _ (gro S 902 j n (min 1200 (max e (2 * n)))) _
    have hg43 : Sd (gro S 902 j n (min 1200 (max e (2 * n)))) := Sd.gro hs rfl
    have hn43_902 : gN (gro S 902 j n (min 1200 (max e (2 * n)))) 902 j = min 1200 (max e (2 * n)) := by rw [gN_gro (by decide) (by decide), if_pos ⟨rfl, rfl⟩]
    have hn43_903 : gN (gro S 902 j n (min 1200 (max e (2 * n)))) 903 j = n := by rw [gN_gro (by decide) (by decide), if_neg (fun z => absurd z.1 (by decide))]; exact h3
    refine r_aload_n (q := 47) dX8_makeRoom_46 rfl rfl rfl ?_
    refine r_aload_n (q := 48) dX8_makeRoom_47 rfl rfl rfl ?_
    refine r_getr (q := 51) (some (903, j)) ck8 dX8_makeRoom_48 rfl (k := 3) (by decide) wt75 rfl (hg43.e (show j < 19 by omega)) (hg43.r (show j < 19 by omega) (by decide)) ?_
    refine r_iload_n (q := 52) dX8_makeRoom_51 rfl rfl rfl ?_
    refine r_callS (Mc := mJ7_copyOf_59c91) (q := 55) (As := [zr 903 j, zi (nI (min 1200 (max e (2 * n))))]) (st := [zr 8 j]) dX8_makeRoom_52 rfl rfl mkJ7_copyOf_59c91 wt628 wt629 rfl (Nat.le_of_ble_eq_true rfl) (Nat.le_of_ble_eq_true rfl) (by decide) (by decide) (by decide) (Or.inr ⟨Nat.le_of_ble_eq_true rfl, rfl, rfl⟩) hg43.some (ok_copyOf_903 (S := gro S 902 j n (min 1200 (max e (2 * n)))) (n := n) (l := min 1200 (max e (2 * n))) hg43 (by omega) hn43_903 (by omega) (by omega)) (fun r52 S52 hp52 => ?_)
    obtain ⟨rfl, hq52⟩ := hp52
    rw [show min n (min 1200 (max e (2 * n))) = n by omega] at hq52
    subst hq52
    show Ok _ _ _ _ (cpO (gro S 902 j n (min 1200 (max e (2 * n)))) 903 j n (min 1200 (max e (2 * n)))) _
    show Ok _ _ _ [zr 99999 (gC (gro S 902 j n (min 1200 (max e (2 * n))))), zr 8 j] _ _
    have hs55 : Sd (cpO (gro S 902 j n (min 1200 (max e (2 * n)))) 903 j n (min 1200 (max e (2 * n)))) := Sd.al9 hg43
    refine r_putg (q := 58) (a1 := 903) (m := gC (gro S 902 j n (min 1200 (max e (2 * n))))) hs55 (show j < 19 by omega) (by decide) rfl (by decide) rfl rfl (show j < 19 by omega) (by decide) rfl (by decide) (by decide) rfl rfl (show gE (al (gro S 902 j n (min 1200 (max e (2 * n)))) 99999 (gC (gro S 902 j n (min 1200 (max e (2 * n))))) (min 1200 (max e (2 * n))) (min 1200 (max e (2 * n)))) 99999 (gC (gro S 902 j n (min 1200 (max e (2 * n))))) = true by rw [gE_al, if_pos ⟨rfl, rfl⟩]) ck8 dX8_makeRoom_55 rfl (k := 3) (by decide) wt75 (Or.inl rfl) rfl ?_
    show Ok _ _ _ _ (gro (gro S 902 j n (min 1200 (max e (2 * n)))) 903 j n (min 1200 (max e (2 * n)))) _
    have hg55 : Sd (gro (gro S 902 j n (min 1200 (max e (2 * n)))) 903 j n (min 1200 (max e (2 * n)))) := Sd.gro hg43 rfl
    have hn55_902 : gN (gro (gro S 902 j n (min 1200 (max e (2 * n)))) 903 j n (min 1200 (max e (2 * n)))) 902 j = min 1200 (max e (2 * n)) := by rw [gN_gro (by decide) (by decide), if_neg (fun z => absurd z.1 (by decide))]; exact hn43_902
    have hn55_903 : gN (gro (gro S 902 j n (min 1200 (max e (2 * n)))) 903 j n (min 1200 (max e (2 * n)))) 903 j = min 1200 (max e (2 * n)) := by rw [gN_gro (by decide) (by decide), if_pos ⟨rfl, rfl⟩]
    refine r_return dX8_makeRoom_58 rfl ?_
    exact ⟨rfl, by unfold room8 rlen; rw [if_neg (by omega), if_neg (by omega)]⟩

theorem rlen_ge {e n : Nat} (he : e ≤ 1200) : e ≤ rlen e n := by
  unfold rlen
  split <;> omega
theorem rlen_n {e n : Nat} (h : n ≤ 1200) : n ≤ rlen e n ∧ rlen e n ≤ 1200 := by
  unfold rlen
  split <;> omega
theorem sd_room8 {S : zS} (h : Sd S) {j e n : Nat} : Sd (room8 S j e n) := by
  unfold room8
  split
  · exact h
  · exact Sd.gro (Sd.gro h rfl) rfl
theorem gJ_room8 {S : zS} {j e n x y k : Nat} (hx : x ≠ 99999) : gJ (room8 S j e n) x y k = gJ S x y k := by
  unfold room8
  split
  · rfl
  · rw [gJ_gro hx, gJ_gro hx]
theorem gN_room8 {S : zS} {j e n x y : Nat} (hx : x ≠ 99999) : gN (room8 S j e n) x y = if e ≤ n then gN S x y else if (x = 902 ∨ x = 903) ∧ y = j then rlen e n else gN S x y := by
  unfold room8
  by_cases h : e ≤ n
  · rw [if_pos h, if_pos h]
  · rw [if_neg h, if_neg h, gN_gro (by decide) hx, gN_gro (by decide) hx]
    by_cases e1 : x = 902 ∧ y = j
    · rw [if_neg (by omega), if_pos e1, if_pos (by omega)]
    · by_cases e2 : x = 903 ∧ y = j
      · rw [if_pos e2, if_pos (by omega)]
      · rw [if_neg e2, if_neg e1, if_neg (by omega)]
theorem gN_room8_j {S : zS} {j e n x : Nat} (hx : x = 902 ∨ x = 903) (hn : gN S x j = n) : gN (room8 S j e n) x j = rlen e n := by
  rw [gN_room8 (by omega)]
  by_cases h : e ≤ n
  · rw [if_pos h, hn]; unfold rlen; rw [if_pos h]
  · rw [if_neg h, if_pos ⟨hx, rfl⟩]
theorem gN_room8_x {S : zS} {j e n x y : Nat} (hx : x ≠ 99999) (h : ¬ ((x = 902 ∨ x = 903) ∧ y = j)) : gN (room8 S j e n) x y = gN S x y := by
  rw [gN_room8 hx, if_neg h]
  split <;> rfl
theorem gI_room8 {S : zS} {j e n x y k : Nat} (hx : x ≠ 99999) (h : ¬ ((x = 902 ∨ x = 903) ∧ y = j ∧ n ≤ k)) : gI (room8 S j e n) x y k = gI S x y k := by
  unfold room8
  by_cases h1 : e ≤ n
  · rw [if_pos h1]
  · rw [if_neg h1, gI_gro (by decide) hx]
    by_cases e2 : x = 903 ∧ y = j
    · obtain ⟨rfl, rfl⟩ := e2
      rw [if_pos ⟨rfl, rfl⟩, if_pos (by omega), gI_gro (by decide) (by decide), if_neg (by omega)]
    · rw [if_neg e2, gI_gro (by decide) hx]
      by_cases e1 : x = 902 ∧ y = j
      · obtain ⟨rfl, rfl⟩ := e1
        rw [if_pos ⟨rfl, rfl⟩, if_pos (by omega)]
      · rw [if_neg e1]
theorem gC_room8 {S : zS} {j e n : Nat} : gC (room8 S j e n) = if e ≤ n then gC S else gC S + 2 := by
  unfold room8
  split <;> rfl
theorem gQ_room8 {S : zS} {j e n : Nat} : gQ (room8 S j e n) = if e ≤ n then gQ S else gQ S + rlen e n + rlen e n := by
  unfold room8
  split <;> rfl
/-- a tally copied into another one -/
def tcp (S : zS) (j i e n : Nat) : zS := cpS (cpS (sI (sI (room8 S j e n) 8 j 0 (gI S 8 i 0)) 8 j 1 (nI e)) 902 i 902 j 0 0 e) 903 i 903 j 0 0 e
set_option maxRecDepth 100000 in
theorem ok_X8_copy {S : zS} (hs : Sd S) {j e n : Nat} (hj : j < 19) (h2 : gN S 902 j = n) (h3 : gN S 903 j = n) (hn : 1 ≤ n) (hn9 : n ≤ 1200) (he : e ≤ 1200) {i o : Nat} (hi : i < 19) (hij : ¬ i = j) (hte : gI S 8 i 1 = nI e) (i2 : gN S 902 i = o) (i3 : gN S 903 i = o) (heo : e ≤ o) (ho : o ≤ 1200) : Ok mX8_copy 0 (ent 2 [zr 8 j, zr 8 i]) [] S (fun r S1 => r = none ∧ S1 = tcp S j i e n) := by
  show Ok mX8_copy 0 [some (zr 8 j), some (zr 8 i)] [] S _
  refine r_aload_n (q := 1) dX8_copy_0 rfl rfl rfl ?_
  refine r_aload_n (q := 2) dX8_copy_1 rfl rfl rfl ?_
  refine r_geti (q := 5) ck8 dX8_copy_2 rfl (k := 1) (by decide) wt62 (Or.inl rfl) (hs.e (show i < 19 by omega)) ?_
  refine r_topi (y := nI e) hte ?_
  refine r_callV (Mc := mX8_makeRoom) (q := 8) (As := [zi (nI e)]) (st := []) ck8 dX8_copy_5 rfl rfl mkX8_makeRoom wt620 wt622 wp17 rfl (Nat.le_of_ble_eq_true rfl) (Nat.le_of_ble_eq_true rfl) (by decide) (by decide) (by decide) (Or.inr ⟨Nat.le_of_ble_eq_true rfl, rfl, rfl⟩) (hs.e (show j < 19 by omega)) (ok_X8_makeRoom (S := S) hs hj h2 h3 hn hn9 he) (fun r5 S5 hp5 => ?_)
  obtain ⟨rfl, hq5⟩ := hp5
  subst hq5
  have hr : Sd (room8 S j e n) := sd_room8 hs
  have hj2 : gN (room8 S j e n) 902 j = rlen e n := gN_room8_j (Or.inl rfl) h2
  have hj3 : gN (room8 S j e n) 903 j = rlen e n := gN_room8_j (Or.inr rfl) h3
  have hi2 : gN (room8 S j e n) 902 i = o := (gN_room8_x (by decide) (fun z => hij z.2)).trans i2
  have hi3 : gN (room8 S j e n) 903 i = o := (gN_room8_x (by decide) (fun z => hij z.2)).trans i3
  have ht8 : gI (room8 S j e n) 8 i 1 = nI e := (gI_room8 (by decide) (fun z => absurd z.1 (by decide))).trans hte
  have hl8 : gI (room8 S j e n) 8 i 0 = gI S 8 i 0 := gI_room8 (by decide) (fun z => absurd z.1 (by decide))
  have hrl := rlen_ge (n := n) he
  have hrn := rlen_n (e := e) hn9
  show Ok _ _ _ [] _ _
  refine r_aload_n (q := 9) dX8_copy_8 rfl rfl rfl ?_
  refine r_aload_n (q := 10) dX8_copy_9 rfl rfl rfl ?_
  refine r_geti (q := 13) ck8 dX8_copy_10 rfl (k := 0) (by decide) wt55 (Or.inl rfl) (hr.e (show i < 19 by omega)) ?_
  refine r_topi (y := gI S 8 i 0) hl8 ?_
  refine r_puti (q := 16) ck8 dX8_copy_13 rfl (k := 0) (by decide) wt55 (Or.inl rfl) rfl (hr.e (show j < 19 by omega)) ?_
  refine r_aload_n (q := 17) dX8_copy_16 rfl rfl rfl ?_
  refine r_aload_n (q := 18) dX8_copy_17 rfl rfl rfl ?_
  refine r_geti (q := 21) ck8 dX8_copy_18 rfl (k := 1) (by decide) wt62 (Or.inl rfl) (hr.e (show i < 19 by omega)) ?_
  refine r_topi (y := gI (room8 S j e n) 8 i 1) (by simp [gI_sI, gJ_sJ, gI_sJ, gJ_sI]) ?_
  refine r_topi (y := nI e) ht8 ?_
  refine r_aload_n (q := 22) dX8_copy_21 rfl rfl rfl ?_
  refine r_getr (q := 25) (some (902, j)) ck8 dX8_copy_22 rfl (k := 2) (by decide) wt69 rfl (hr.e (show j < 19 by omega)) (hr.r (show j < 19 by omega) (by decide)) ?_
  refine r_alen (q := 26) (by decide) (by decide) dX8_copy_25 rfl (hr.e (show j < 19 by omega)) ?_
  refine r_topi (y := nI (rlen e n)) (congrArg nI hj2) ?_
  refine r_mmin (q := 29) dX8_copy_26 rfl wt627 wt512 wt15 wt513 (Nat.le_of_ble_eq_true rfl) (by decide) (by decide) ?_
  refine r_topi (y := nI (min e (rlen e n))) (nI_min (by omega) (by omega)) ?_
  refine r_topi (y := nI e) (congrArg nI (Nat.min_eq_left hrl)) ?_
  refine r_puti (q := 32) ck8 dX8_copy_29 rfl (k := 1) (by decide) wt62 (Or.inl rfl) rfl (hr.e (show j < 19 by omega)) ?_
  refine r_aload_n (q := 33) dX8_copy_32 rfl rfl rfl ?_
  refine r_getr (q := 36) (some (902, i)) ck8 dX8_copy_33 rfl (k := 2) (by decide) wt69 rfl (hr.e (show i < 19 by omega)) (hr.r (show i < 19 by omega) (by decide)) ?_
  refine r_iconst (q := 37) (nI 0) dX8_copy_36 rfl (by decide) ?_
  refine r_aload_n (q := 38) dX8_copy_37 rfl rfl rfl ?_
  refine r_getr (q := 41) (some (902, j)) ck8 dX8_copy_38 rfl (k := 2) (by decide) wt69 rfl (hr.e (show j < 19 by omega)) (hr.r (show j < 19 by omega) (by decide)) ?_
  refine r_iconst (q := 42) (nI 0) dX8_copy_41 rfl (by decide) ?_
  refine r_aload_n (q := 43) dX8_copy_42 rfl rfl rfl ?_
  refine r_geti (q := 46) ck8 dX8_copy_43 rfl (k := 1) (by decide) wt62 (Or.inl rfl) (hr.e (show j < 19 by omega)) ?_
  refine r_topi (y := nI e) (by simp [gI_sI, gJ_sJ, gI_sJ, gJ_sI]) ?_
  refine r_copyi (q := 49) (by decide) (by decide) rfl rfl (hr.e (show i < 19 by omega)) (hr.e (show j < 19 by omega)) dX8_copy_46 rfl wt646 wt640 wt641 wt16 (Nat.le_of_ble_eq_true rfl) (by decide) (by decide) (by omega) (by omega) (by omega) (by rw [show gN (sI (sI (room8 S j e n) 8 j 0 (gI S 8 i 0)) 8 j 1 (nI e)) 902 i = o from hi2]; omega) (by rw [show gN (sI (sI (room8 S j e n) 8 j 0 (gI S 8 i 0)) 8 j 1 (nI e)) 902 j = rlen e n from hj2]; omega) ?_
  refine r_aload_n (q := 50) dX8_copy_49 rfl rfl rfl ?_
  refine r_getr (q := 53) (some (903, i)) ck8 dX8_copy_50 rfl (k := 3) (by decide) wt75 rfl (hr.e (show i < 19 by omega)) (hr.r (show i < 19 by omega) (by decide)) ?_
  refine r_iconst (q := 54) (nI 0) dX8_copy_53 rfl (by decide) ?_
  refine r_aload_n (q := 55) dX8_copy_54 rfl rfl rfl ?_
  refine r_getr (q := 58) (some (903, j)) ck8 dX8_copy_55 rfl (k := 3) (by decide) wt75 rfl (hr.e (show j < 19 by omega)) (hr.r (show j < 19 by omega) (by decide)) ?_
  refine r_iconst (q := 59) (nI 0) dX8_copy_58 rfl (by decide) ?_
  refine r_aload_n (q := 60) dX8_copy_59 rfl rfl rfl ?_
  refine r_geti (q := 63) ck8 dX8_copy_60 rfl (k := 1) (by decide) wt62 (Or.inl rfl) (hr.e (show j < 19 by omega)) ?_
  refine r_topi (y := nI e) (by simp [gI_sI, gJ_sJ, gI_sJ, gJ_sI, gI_cpS, gJ_cpS]) ?_
  refine r_copyi (q := 66) (by decide) (by decide) rfl rfl (hr.e (show i < 19 by omega)) (hr.e (show j < 19 by omega)) dX8_copy_63 rfl wt646 wt640 wt641 wt16 (Nat.le_of_ble_eq_true rfl) (by decide) (by decide) (by omega) (by omega) (by omega) (by rw [show gN (cpS (sI (sI (room8 S j e n) 8 j 0 (gI S 8 i 0)) 8 j 1 (nI e)) 902 i 902 j 0 0 e) 903 i = o from hi3]; omega) (by rw [show gN (cpS (sI (sI (room8 S j e n) 8 j 0 (gI S 8 i 0)) 8 j 1 (nI e)) 902 i 902 j 0 0 e) 903 j = rlen e n from hj3]; omega) ?_
  refine r_return dX8_copy_66 rfl ?_
  exact ⟨rfl, rfl⟩

