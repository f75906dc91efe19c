/-! map: the reference -/
def tM2 (a b k : Nat) : Bool := a == 12 && b == 0 && (k == 0 || k == 2 || k == 3 || k == 4 || k == 5 || k == 13)
def tNz (a b k : Nat) : Bool := b == 0 && (a == 1308 && decide (3 ≤ k) || a == 12 && (k == 53 || k == 54))
def tBe (a b k : Nat) : Bool := tLd a b k || tMr a b k || tTq 1 a b k || tIg a b k || tNz a b k
def tAf (a b k : Nat) : Bool := tBe a b k || tSe 1 a b k || tKe a b k || a == 12 && b == 0 && k == 82
theorem tBe_af (a b k : Nat) (h : tBe a b k = true) : tAf a b k = true := by simp [tAf, h]
theorem tBe_ld (a b k : Nat) (h : tLd a b k = true) : tBe a b k = true := by simp [tBe, h]
theorem tBe_mr (a b k : Nat) (h : tMr a b k = true) : tBe a b k = true := by simp [tBe, h]
theorem tBe_nx (a b k : Nat) (h : tNx a b k = true) : tBe a b k = true := tBe_mr a b k (tMr_x a b k h)
theorem tBe_tq (a b k : Nat) (h : tTq 1 a b k = true) : tBe a b k = true := by simp [tBe, h]
theorem tBe_ig (a b k : Nat) (h : tIg a b k = true) : tBe a b k = true := by simp [tBe, h]
theorem tBe_nz (a b k : Nat) (h : tNz a b k = true) : tBe a b k = true := by simp [tBe, h]
theorem tAf_se (a b k : Nat) (h : tSe 1 a b k = true) : tAf a b k = true := by simp [tAf, h]
theorem tAf_ke (a b k : Nat) (h : tKe a b k = true) : tAf a b k = true := by simp [tAf, h]
theorem tAf_82 : tAf 12 0 82 = true := by simp [tAf]
theorem tBe_1306 (k : Nat) : tBe 1306 0 k = false := rfl
theorem tAf_1306 (k : Nat) : tAf 1306 0 k = false := rfl
theorem tBe_1308 (k : Nat) (h : k < 3) : tBe 1308 0 k = false := bfalse fun z => by
  simp [tBe, tLd, tMr, tRs, tRq, tNb, tNx, tAT, tPa, tTq, tIg, tNz] at z
  omega
theorem tAf_1322 (k : Nat) (h : k < 1173) : tAf 1322 0 k = false := bfalse fun z => by
  simp [tAf, tBe, tLd, tMr, tRs, tRq, tNb, tNx, tAT, tPa, tTq, tIg, tNz, tSe, tPt, tIv, tKe, tAm, tGf] at z
  omega
theorem RB.af {S S1 : zS} {W : zWd} (hE : Eok (wA W) (we W)) {L : Nat} {pvs : Nat → Nat → Bool} {bss : Nat → Nat → Nat → Nat} (h : RB S W 0 L pvs bss) (f : Fr tAf S S1) : RB S1 W 0 L pvs bss := h.fr hE (by omega) f rfl (tAf_1322 _ (by omega)) (fun s a b => ⟨bfalse fun z => by simp [tAf, tBe, tLd, tMr, tRs, tRq, tNb, tNx, tAT, tPa, tTq, tIg, tNz, tSe, tPt, tIv, tKe, tAm, tGf] at z; omega, bfalse fun z => by simp [tAf, tBe, tLd, tMr, tRs, tRq, tNb, tNx, tAT, tPa, tTq, tIg, tNz, tSe, tPt, tIv, tKe, tAm, tGf] at z; omega, bfalse fun z => by simp [tAf, tBe, tLd, tMr, tRs, tRq, tNb, tNx, tAT, tPa, tTq, tIg, tNz, tSe, tPt, tIv, tKe, tAm, tGf] at z; omega, bfalse fun z => by simp [tAf, tBe, tLd, tMr, tRs, tRq, tNb, tNx, tAT, tPa, tTq, tIg, tNz, tSe, tPt, tIv, tKe, tAm, tGf] at z; omega⟩) (fun k a b => ⟨bfalse fun z => by simp [tAf, tBe, tLd, tMr, tRs, tRq, tNb, tNx, tAT, tPa, tTq, tIg, tNz, tSe, tPt, tIv, tKe, tAm, tGf] at z; omega, bfalse fun z => by simp [tAf, tBe, tLd, tMr, tRs, tRq, tNb, tNx, tAT, tPa, tTq, tIg, tNz, tSe, tPt, tIv, tKe, tAm, tGf] at z; omega, bfalse fun z => by simp [tAf, tBe, tLd, tMr, tRs, tRq, tNb, tNx, tAT, tPa, tTq, tIg, tNz, tSe, tPt, tIv, tKe, tAm, tGf] at z; omega⟩) (fun k a b => bfalse fun z => by simp [tAf, tBe, tLd, tMr, tRs, tRq, tNb, tNx, tAT, tPa, tTq, tIg, tNz, tSe, tPt, tIv, tKe, tAm, tGf] at z; omega) (fun i a b => bfalse fun z => by simp [tAf, tBe, tLd, tMr, tRs, tRq, tNb, tNx, tAT, tPa, tTq, tIg, tNz, tSe, tPt, tIv, tKe, tAm, tGf] at z; omega)
theorem Cw.af {S S1 : zS} (h : Cw S) (f : Fr tAf S S1) : Cw S1 := h.f3 f ⟨rfl, fun k hk => tAf_1322 k (by omega), tAf_1306⟩
theorem IvI.be {S S1 : zS} (h : IvI S) (f : Fr tBe S S1) : IvI S1 := h.fr f ⟨rfl, fun k => rfl⟩
/-- the beginning -/
def mpS (S : zS) (n : Nat) : zS := sI (sI (sI (sI (sI (sI S 12 0 0 (nI 0)) 12 0 3 (nI n)) 12 0 2 (nI 0)) 12 0 4 (nI 0)) 12 0 5 (nI 400)) 12 0 13 (nI 0)
theorem mpS_fr {S : zS} {n : Nat} : Fr tM2 S (mpS S n) := (((((Fr.rf.i rfl).i rfl).i rfl).i rfl).i rfl).i rfl
theorem mpS_v {S : zS} {n : Nat} : gI (mpS S n) 12 0 2 = nI 0 ∧ gI (mpS S n) 12 0 3 = nI n ∧ gI (mpS S n) 12 0 4 = nI 0 ∧ gI (mpS S n) 12 0 5 = nI 400 ∧ gI (mpS S n) 12 0 13 = nI 0 := by
  unfold mpS
  refine ⟨?_, ?_, ?_, ?_, ?_⟩ <;> simp [gI_sI]
theorem mpS_rc {S : zS} {n : Nat} : RcI S (mpS S n) := ⟨mpS_fr.1 _ _ _ rfl, mpS_fr.1 _ _ _ rfl, fun x k a a2 => by
  refine mpS_fr.1 _ _ _ ?_
  unfold tM2
  have : (x == 12) = false := by simp; omega
  rw [this]; rfl, fun k => mpS_fr.2.1 _ _ _ rfl, fun k _ => mpS_fr.1 _ _ _ rfl⟩
/-- the least that is not kept, so far -/
theorem nI_ne1 {j : Nat} (hj : j < 1000) : nI j ≠ -1 := fun z => by
  have h := congrArg Int32.toInt z
  rw [nI_toInt (by omega)] at h
  have e : (-1 : Int32).toInt = -1 := by decide
  rw [e] at h
  omega
theorem BrD.up {f : Nat → Bool} {l : Nat} {x : Int32} (hl7 : l < 1000) (h : BrD f l 0 x) : (f l = true → BrD f (l + 1) 0 x) ∧ (f l = false → x = -1 → BrD f (l + 1) 0 (nI l)) ∧ (f l = false → x ≠ -1 → BrD f (l + 1) 0 x) := by
  refine ⟨fun hl => ?_, fun hl hx => ?_, fun hl hx => ?_⟩
  · rcases h with ⟨h1, h2⟩ | ⟨j, h1, h2, h3, h4, h5⟩
    · exact Or.inl ⟨h1, fun i i1 i2 => by
        by_cases e : i = l
        · rw [e]; exact hl
        · exact h2 i i1 (by omega)⟩
    · exact Or.inr ⟨j, h1, by omega, h3, h4, h5⟩
  · rcases h with ⟨h1, h2⟩ | ⟨j, h1, h2, h3, h4, h5⟩
    · exact Or.inr ⟨l, Nat.zero_le _, by omega, hl, fun i i1 i2 => h2 i i1 (by omega), rfl⟩
    · exact absurd (h5.symm.trans hx) (nI_ne1 (by omega))
  · rcases h with ⟨h1, h2⟩ | ⟨j, h1, h2, h3, h4, h5⟩
    · exact absurd h1 hx
    · exact Or.inr ⟨j, h1, by omega, h3, h4, h5⟩
theorem BrD.neg {f : Nat → Bool} {l : Nat} {x : Int32} (hl7 : l < 1000) (h : BrD f l 0 x) : x < 0 ↔ x = -1 := by
  rcases h with ⟨h1, h2⟩ | ⟨j, h1, h2, h3, h4, h5⟩
  · rw [h1]; decide
  · constructor
    · intro z
      rw [h5] at z
      exact absurd (in_lt (show j < 1000 by omega) (by decide)).1 (Int32.not_le.mpr z)
    · intro z
      exact absurd (h5.symm.trans z) (nI_ne1 (by omega))

set_option maxRecDepth 100000 in
theorem rm_map_no {S : zS} (hs : Sd S) {bs : List Nat} (hbl : bs.length ≤ 940) (h2 : gI S 12 0 2 = nI bs.length) (hb : Bs S 1301 bs) {m : Nat} (hm : m < 2) (hk : gI S 1393 0 m = nI 0) : Ok mX12_map 0 (ent 5 [zr 12 0, zi (nI m)]) [] S (fun r S1 => r = some (zi (-1000 : Int32)) ∧ S1 = mpS S bs.length) := by
  show Ok mX12_map 0 [some (zr 12 0), some (zi (nI m)), none, none, none] [] S _
  refine r_aload_n (q := 1) dX12_map_0 rfl rfl rfl ?_
  refine r_iconst (q := 2) (nI 0) dX12_map_1 rfl (by decide) ?_
  refine r_puti (q := 5) ck12 dX12_map_2 rfl (k := 0) (by decide) wt1278 (Or.inl rfl) rfl (hs.e (by decide)) ?_
  refine r_aload_n (q := 6) dX12_map_5 rfl rfl rfl ?_
  refine r_sipush (q := 9) (nI 400) dX12_map_6 rfl (by decide) ?_
  refine r_callV (Mc := mX12_taken) (q := 12) (As := [zi (nI 400)]) (st := []) ck12 dX12_map_9 rfl rfl mkX12_taken wt1565 wt1567 wp68 rfl (Nat.le_of_ble_eq_true rfl) (Nat.le_of_ble_eq_true rfl) (by decide) (by decide) (by decide) (Or.inl rfl) (hs.e (by decide)) (ok_X12_taken (S := sI S 12 0 0 (nI 0)) hs (nI 400)) (fun r9 S9 hp9 => ?_)
  obtain ⟨rfl, hq9⟩ := hp9
  rw [gI_sI, if_neg (by omega), h2] at hq9
  rw [hq9]
  show Ok _ _ _ [] _ _
  refine r_aload_n (q := 13) dX12_map_12 rfl rfl rfl ?_
  refine r_iconst (q := 14) (nI 0) dX12_map_13 rfl (by decide) ?_
  refine r_puti (q := 17) ck12 dX12_map_14 rfl (k := 13) (by decide) wt1291 (Or.inl rfl) rfl (hs.e (by decide)) ?_
  show Ok _ _ _ [] (mpS S bs.length) _
  have hs0 : Sd (mpS S bs.length) := hs.fr mpS_fr
  generalize hZ : mpS S bs.length = S0 at hs0 ⊢
  refine r_aload_n (q := 18) dX12_map_17 rfl rfl rfl ?_
  refine r_iload_n (q := 19) dX12_map_18 rfl rfl rfl ?_
  refine r_callV (Mc := mX12_isKeptAt) (q := 22) (As := [zi (nI m)]) (st := []) ck12 dX12_map_19 rfl rfl mkX12_isKeptAt wt1936 wt1938 wp133 rfl (Nat.le_of_ble_eq_true rfl) (Nat.le_of_ble_eq_true rfl) (by decide) (by decide) (by decide) (Or.inl rfl) (hs0.e (by decide)) (ok_isKeptAt_n hs0 hm (by rw [← hZ]; exact (mpS_fr.1 _ _ _ rfl).trans hk)) (fun r19 S19 hp19 => ?_)
  obtain ⟨rfl, hq19⟩ := hp19
  rw [hq19]
  show Ok _ _ _ [zi (nI 0)] _ _
  refine r_if_eqN (q := 25) (t := 46) (by omega) dX12_map_22 (by decide) rfl (fun h22 => ?_) (fun h22 => absurd h22 (by omega))
  refine r_sipush (q := 49) ((-1000 : Int32)) dX12_map_46 rfl (by decide) ?_
  refine r_ireturn dX12_map_49 rfl ?_
  exact ⟨rfl, rfl⟩

set_option maxRecDepth 100000 in
theorem rm_map_out {S : zS} (hs : Sd S) {bs : List Nat} (hbl : bs.length ≤ 940) (h2 : gI S 12 0 2 = nI bs.length) (hb : Bs S 1301 bs) {y : Int32} (hy : ¬ (0 ≤ y ∧ y < nI 2)) : Ok mX12_map 0 (ent 5 [zr 12 0, zi y]) [] S (fun r S1 => r = some (zi (-1000 : Int32)) ∧ S1 = mpS S bs.length) := by
  show Ok mX12_map 0 [some (zr 12 0), some (zi y), none, none, none] [] S _
  refine r_aload_n (q := 1) dX12_map_0 rfl rfl rfl ?_
  refine r_iconst (q := 2) (nI 0) dX12_map_1 rfl (by decide) ?_
  refine r_puti (q := 5) ck12 dX12_map_2 rfl (k := 0) (by decide) wt1278 (Or.inl rfl) rfl (hs.e (by decide)) ?_
  refine r_aload_n (q := 6) dX12_map_5 rfl rfl rfl ?_
  refine r_sipush (q := 9) (nI 400) dX12_map_6 rfl (by decide) ?_
  refine r_callV (Mc := mX12_taken) (q := 12) (As := [zi (nI 400)]) (st := []) ck12 dX12_map_9 rfl rfl mkX12_taken wt1565 wt1567 wp68 rfl (Nat.le_of_ble_eq_true rfl) (Nat.le_of_ble_eq_true rfl) (by decide) (by decide) (by decide) (Or.inl rfl) (hs.e (by decide)) (ok_X12_taken (S := sI S 12 0 0 (nI 0)) hs (nI 400)) (fun r9 S9 hp9 => ?_)
  obtain ⟨rfl, hq9⟩ := hp9
  rw [gI_sI, if_neg (by omega), h2] at hq9
  rw [hq9]
  show Ok _ _ _ [] _ _
  refine r_aload_n (q := 13) dX12_map_12 rfl rfl rfl ?_
  refine r_iconst (q := 14) (nI 0) dX12_map_13 rfl (by decide) ?_
  refine r_puti (q := 17) ck12 dX12_map_14 rfl (k := 13) (by decide) wt1291 (Or.inl rfl) rfl (hs.e (by decide)) ?_
  show Ok _ _ _ [] (mpS S bs.length) _
  have hs0 : Sd (mpS S bs.length) := hs.fr mpS_fr
  generalize hZ : mpS S bs.length = S0 at hs0 ⊢
  refine r_aload_n (q := 18) dX12_map_17 rfl rfl rfl ?_
  refine r_iload_n (q := 19) dX12_map_18 rfl rfl rfl ?_
  refine r_callV (Mc := mX12_isKeptAt) (q := 22) (As := [zi y]) (st := []) ck12 dX12_map_19 rfl rfl mkX12_isKeptAt wt1936 wt1938 wp133 rfl (Nat.le_of_ble_eq_true rfl) (Nat.le_of_ble_eq_true rfl) (by decide) (by decide) (by decide) (Or.inl rfl) (hs0.e (by decide)) (ok_isKeptAt_x hs0 hy) (fun r19 S19 hp19 => ?_)
  obtain ⟨rfl, hq19⟩ := hp19
  rw [hq19]
  show Ok _ _ _ [zi (nI 0)] _ _
  refine r_if_eqN (q := 25) (t := 46) (by omega) dX12_map_22 (by decide) rfl (fun h22 => ?_) (fun h22 => absurd h22 (by omega))
  refine r_sipush (q := 49) ((-1000 : Int32)) dX12_map_46 rfl (by decide) ?_
  refine r_ireturn dX12_map_49 rfl ?_
  exact ⟨rfl, rfl⟩

set_option maxRecDepth 100000 in
theorem rm_map_p {S : zS} (hs : Sd S) {bs : List Nat} (hbl : bs.length ≤ 940) (h2 : gI S 12 0 2 = nI bs.length) (hb : Bs S 1301 bs) {W Wk : zWd} (hW : Wok W) (hK : Wok Wk) (hR : wqR W (fun k => gI S 1306 0 k) (fun i => gJ S 1308 0 i)) {m : Nat} (hm : m < 2) (hk : gI S 1393 0 m = nI 1) (hRk : wqR Wk (fun k => gI S 1391 0 (3775 * m + k)) (fun i => gJ S 1392 0 (3 * m + i))) (hPP : ¬ wP Wk = wP W) : Ok mX12_map 0 (ent 5 [zr 12 0, zi (nI m)]) [] S (fun r S1 => r = some (zi (-1000 : Int32)) ∧ S1 = mpS S bs.length) := by
  have hP1 := hW.1.2.1
  have hP2 := hK.1.2.1
  show Ok mX12_map 0 [some (zr 12 0), some (zi (nI m)), none, none, none] [] S _
  refine r_aload_n (q := 1) dX12_map_0 rfl rfl rfl ?_
  refine r_iconst (q := 2) (nI 0) dX12_map_1 rfl (by decide) ?_
  refine r_puti (q := 5) ck12 dX12_map_2 rfl (k := 0) (by decide) wt1278 (Or.inl rfl) rfl (hs.e (by decide)) ?_
  refine r_aload_n (q := 6) dX12_map_5 rfl rfl rfl ?_
  refine r_sipush (q := 9) (nI 400) dX12_map_6 rfl (by decide) ?_
  refine r_callV (Mc := mX12_taken) (q := 12) (As := [zi (nI 400)]) (st := []) ck12 dX12_map_9 rfl rfl mkX12_taken wt1565 wt1567 wp68 rfl (Nat.le_of_ble_eq_true rfl) (Nat.le_of_ble_eq_true rfl) (by decide) (by decide) (by decide) (Or.inl rfl) (hs.e (by decide)) (ok_X12_taken (S := sI S 12 0 0 (nI 0)) hs (nI 400)) (fun r9 S9 hp9 => ?_)
  obtain ⟨rfl, hq9⟩ := hp9
  rw [gI_sI, if_neg (by omega), h2] at hq9
  rw [hq9]
  show Ok _ _ _ [] _ _
  refine r_aload_n (q := 13) dX12_map_12 rfl rfl rfl ?_
  refine r_iconst (q := 14) (nI 0) dX12_map_13 rfl (by decide) ?_
  refine r_puti (q := 17) ck12 dX12_map_14 rfl (k := 13) (by decide) wt1291 (Or.inl rfl) rfl (hs.e (by decide)) ?_
  show Ok _ _ _ [] (mpS S bs.length) _
  have hs0 : Sd (mpS S bs.length) := hs.fr mpS_fr
  generalize hZ : mpS S bs.length = S0 at hs0 ⊢
  refine r_aload_n (q := 18) dX12_map_17 rfl rfl rfl ?_
  refine r_iload_n (q := 19) dX12_map_18 rfl rfl rfl ?_
  refine r_callV (Mc := mX12_isKeptAt) (q := 22) (As := [zi (nI m)]) (st := []) ck12 dX12_map_19 rfl rfl mkX12_isKeptAt wt1936 wt1938 wp133 rfl (Nat.le_of_ble_eq_true rfl) (Nat.le_of_ble_eq_true rfl) (by decide) (by decide) (by decide) (Or.inl rfl) (hs0.e (by decide)) (ok_isKeptAt_y hs0 hm (by rw [← hZ]; exact (mpS_fr.1 _ _ _ rfl).trans hk)) (fun r19 S19 hp19 => ?_)
  obtain ⟨rfl, hq19⟩ := hp19
  rw [hq19]
  have p1 : gI S0 1391 0 (3775 * m + 0) = nI (wP Wk) := (by rw [← hZ]; exact (mpS_fr.1 _ _ _ rfl).trans hRk.1)
  have p2 : gI S0 1306 0 0 = nI (wP W) := (by rw [← hZ]; exact (mpS_fr.1 _ _ _ rfl).trans hR.1)
  show Ok _ _ _ [zi (nI 1)] _ _
  refine r_if_eqN (q := 25) (t := 46) (by omega) dX12_map_22 (by decide) rfl (fun h22 => absurd h22 (by omega)) (fun h22 => ?_)
  refine r_aload_n (q := 26) dX12_map_25 rfl rfl rfl ?_
  refine r_getr (q := 29) (some (1391, 0)) ck12 dX12_map_26 rfl (k := 91) (by decide) wt1369 rfl (hs0.e (by decide)) (hs0.r (by decide) (by decide)) ?_
  refine r_sipush (q := 32) (nI 3775) dX12_map_29 rfl (by decide) ?_
  refine r_iload_n (q := 33) dX12_map_32 rfl rfl rfl ?_
  refine r_imulN (q := 34) dX12_map_33 rfl ?_
  refine r_iconst (q := 35) (nI 0) dX12_map_34 rfl (by decide) ?_
  refine r_iaddN (q := 36) dX12_map_35 rfl ?_
  refine r_ialdN (q := 37) 7550 (by decide) rfl dX12_map_36 rfl (hs0.e (by decide)) (hs0.n rfl (by decide)) (by omega) (by decide) ?_
  refine r_topi (y := nI (wP Wk)) p1 ?_
  refine r_aload_n (q := 38) dX12_map_37 rfl rfl rfl ?_
  refine r_getr (q := 41) (some (1306, 0)) ck12 dX12_map_38 rfl (k := 6) (by decide) wt1284 rfl (hs0.e (by decide)) (hs0.r (by decide) (by decide)) ?_
  refine r_iconst (q := 42) (nI 0) dX12_map_41 rfl (by decide) ?_
  refine r_ialdN (q := 43) 3775 (by decide) rfl dX12_map_42 rfl (hs0.e (by decide)) (hs0.n rfl (by decide)) (by omega) (by decide) ?_
  refine r_topi (y := nI (wP W)) p2 ?_
  refine r_icmp_eqN (q := 46) (t := 50) (by omega) (by omega) dX12_map_43 (by decide) rfl (fun h43 => absurd h43 (by omega)) (fun h43 => ?_)
  refine r_sipush (q := 49) ((-1000 : Int32)) dX12_map_46 rfl (by decide) ?_
  refine r_ireturn dX12_map_49 rfl ?_
  exact ⟨rfl, rfl⟩

set_option maxRecDepth 100000 in
theorem lp_mp127 {W Wk : zWd} (hW : Wok W) (hK : Wok Wk) {n9 : Nat → Int64} {m : Nat} {Po : Option zV → zS → Prop} : ∀ (d l mo : Nat) (S : zS), l + d = wL W → Sd S → wqR W (fun k => gI S 1306 0 k) n9 → Tt S (tc Wk) 1 11 → 1 ≤ mo → mo ≤ 7 → tc Wk mo ≤ 300 → (∀ i, i < l → (lw W i).1 ≤ mo) → (∀ S1 mo1, ¬ Gre W Wk → Fr tIg S S1 → 1 ≤ mo1 → mo1 ≤ 7 → tc Wk mo1 ≤ 300 → (∀ i, i < wL W → (lw W i).1 ≤ mo1) → Ok mX12_map 182 [some (zr 12 0), some (zi (nI m)), some (zi (nI mo1)), some (zi (nI (wL W))), none] [] S1 Po) → (∀ S1, Gre W Wk → Fr tIg S S1 → Po (some (zi (-1001 : Int32))) S1) → Ok mX12_map 127 [some (zr 12 0), some (zi (nI m)), some (zi (nI mo)), some (zi (nI l)), none] [] S Po := by
  intro d
  have h18 := hW.2.2.2.1
  induction d with
  | zero =>
    intro l mo S hl hs hR hTt m1 m7 m3 hlo K1 K0
    have el : l = wL W := by omega
    subst el
    have e2 : gI S 1306 0 2 = nI (wL W) := hR.2.2.1
    refine r_iload_n (q := 128) dX12_map_127 rfl rfl rfl ?_
    refine r_aload_n (q := 129) dX12_map_128 rfl rfl rfl ?_
    refine r_getr (q := 132) (some (1306, 0)) ck12 dX12_map_129 rfl (k := 6) (by decide) wt1284 rfl (hs.e (by decide)) (hs.r (by decide) (by decide)) ?_
    refine r_iconst (q := 133) (nI 2) dX12_map_132 rfl (by decide) ?_
    refine r_ialdN (q := 134) 3775 (by decide) rfl dX12_map_133 rfl (hs.e (by decide)) (hs.n rfl (by decide)) (by omega) (by decide) ?_
    refine r_topi (y := nI (wL W)) e2 ?_
    refine r_icmp_geN (q := 137) (t := 182) (by omega) (by omega) dX12_map_134 (by decide) rfl (fun h134 => ?_) (fun h134 => absurd h134 (by omega))
    exact K1 S mo (fun ⟨i, a, b⟩ => b (tc_down hK.2.1 m7 m3 (hlo i a))) Fr.rf m1 m7 m3 hlo
  | succ d ih =>
    intro l mo S hl hs hR hTt m1 m7 m3 hlo K1 K0
    have hll : l < wL W := by omega
    have e2 : gI S 1306 0 2 = nI (wL W) := hR.2.2.1
    have e7 : gI S 1306 0 (7 + l) = nI (lw W l).1 := hR.2.2.2.2.1 l hll
    obtain ⟨g1, g2, g3⟩ := hW.2.2.2.2.2 l hll
    by_cases h3 : tc Wk (lw W l).1 ≤ 300
    · skip
      refine r_iload_n (q := 128) dX12_map_127 rfl rfl rfl ?_
      refine r_aload_n (q := 129) dX12_map_128 rfl rfl rfl ?_
      refine r_getr (q := 132) (some (1306, 0)) ck12 dX12_map_129 rfl (k := 6) (by decide) wt1284 rfl (hs.e (by decide)) (hs.r (by decide) (by decide)) ?_
      refine r_iconst (q := 133) (nI 2) dX12_map_132 rfl (by decide) ?_
      refine r_ialdN (q := 134) 3775 (by decide) rfl dX12_map_133 rfl (hs.e (by decide)) (hs.n rfl (by decide)) (by omega) (by decide) ?_
      refine r_topi (y := nI (wL W)) e2 ?_
      refine r_icmp_geN (q := 137) (t := 182) (by omega) (by omega) dX12_map_134 (by decide) rfl (fun h134 => absurd h134 (by omega)) (fun h134 => ?_)
      refine r_aload_n (q := 138) dX12_map_137 rfl rfl rfl ?_
      refine r_iload_n (q := 139) dX12_map_138 rfl rfl rfl ?_
      refine r_callV (Mc := mX12_isGreatThere) (q := 142) (As := [zi (nI l)]) (st := []) ck12 dX12_map_139 rfl rfl mkX12_isGreatThere wt1952 wt1954 wp136 rfl (Nat.le_of_ble_eq_true rfl) (Nat.le_of_ble_eq_true rfl) (by decide) (by decide) (by decide) (Or.inl rfl) (hs.e (by decide)) (ok_isGreat_n hW hK hll h3 hs hR hTt) (fun r139 S139 hp139 => ?_)
      obtain ⟨rfl, f1⟩ := hp139
      have hs1 := hs.fr f1
      have k7 : gI S139 1306 0 (7 + l) = nI (lw W l).1 := (f1.1 _ _ _ rfl).trans e7
      have hR1 := hR.frk f1 (fun _ => rfl)
      have hTt1 : Tt S139 (tc Wk) 1 11 := fun i a b => (f1.2.1 _ _ _ rfl).trans (hTt i a b)
      show Ok _ _ _ [zi (nI 0)] _ _
      refine r_if_eqN (q := 145) (t := 149) (by omega) dX12_map_142 (by decide) rfl (fun h142 => ?_) (fun h142 => absurd h142 (by omega))
      refine r_aload_n (q := 150) dX12_map_149 rfl rfl rfl ?_
      refine r_getr (q := 153) (some (1306, 0)) ck12 dX12_map_150 rfl (k := 6) (by decide) wt1284 rfl (hs1.e (by decide)) (hs1.r (by decide) (by decide)) ?_
      refine r_bipush (q := 155) (nI 7) dX12_map_153 rfl (by decide) ?_
      refine r_iload_n (q := 156) dX12_map_155 rfl rfl rfl ?_
      refine r_iaddN (q := 157) dX12_map_156 rfl ?_
      refine r_ialdN (q := 158) 3775 (by decide) rfl dX12_map_157 rfl (hs1.e (by decide)) (hs1.n rfl (by decide)) (by omega) (by decide) ?_
      refine r_topi (y := nI ((lw W l).1)) k7 ?_
      refine r_iload_n (q := 159) dX12_map_158 rfl rfl rfl ?_
      refine r_icmp_leN (q := 162) (t := 174) (by omega) (by omega) dX12_map_159 (by decide) rfl (fun h159 => ?_) (fun h159 => ?_)
      · skip
        refine r_iload_n (q := 175) dX12_map_174 rfl rfl rfl ?_
        refine r_istore_n (q := 176) (L' := [some (zr 12 0), some (zi (nI m)), some (zi (nI mo)), some (zi (nI l)), none]) dX12_map_175 rfl rfl (by decide) rfl ?_
        refine r_iincN (q := 179) (L' := [some (zr 12 0), some (zi (nI m)), some (zi (nI mo)), some (zi (nI (l + 1))), none]) 1 rfl dX12_map_176 rfl rfl (by decide) rfl ?_
        refine r_goto (q := 127) dX12_map_179 (by decide) ?_
        exact ih (l + 1) mo S139 (by omega) hs1 hR1 hTt1 (by omega) (by omega) m3 (fun i hi => by
          by_cases e : i = l
          · rw [e]; omega
          · have := hlo i (by omega); omega) (fun S2 mo2 g f => K1 S2 mo2 g (f1.tr f)) (fun S2 g f => K0 S2 g (f1.tr f))
      · skip
        refine r_aload_n (q := 163) dX12_map_162 rfl rfl rfl ?_
        refine r_getr (q := 166) (some (1306, 0)) ck12 dX12_map_163 rfl (k := 6) (by decide) wt1284 rfl (hs1.e (by decide)) (hs1.r (by decide) (by decide)) ?_
        refine r_bipush (q := 168) (nI 7) dX12_map_166 rfl (by decide) ?_
        refine r_iload_n (q := 169) dX12_map_168 rfl rfl rfl ?_
        refine r_iaddN (q := 170) dX12_map_169 rfl ?_
        refine r_ialdN (q := 171) 3775 (by decide) rfl dX12_map_170 rfl (hs1.e (by decide)) (hs1.n rfl (by decide)) (by omega) (by decide) ?_
        refine r_topi (y := nI ((lw W l).1)) k7 ?_
        refine r_goto (q := 175) dX12_map_171 (by decide) ?_
        refine r_istore_n (q := 176) (L' := [some (zr 12 0), some (zi (nI m)), some (zi (nI ((lw W l).1))), some (zi (nI l)), none]) dX12_map_175 rfl rfl (by decide) rfl ?_
        refine r_iincN (q := 179) (L' := [some (zr 12 0), some (zi (nI m)), some (zi (nI ((lw W l).1))), some (zi (nI (l + 1))), none]) 1 rfl dX12_map_176 rfl rfl (by decide) rfl ?_
        refine r_goto (q := 127) dX12_map_179 (by decide) ?_
        exact ih (l + 1) ((lw W l).1) S139 (by omega) hs1 hR1 hTt1 (by omega) (by omega) h3 (fun i hi => by
          by_cases e : i = l
          · rw [e]; omega
          · have := hlo i (by omega); omega) (fun S2 mo2 g f => K1 S2 mo2 g (f1.tr f)) (fun S2 g f => K0 S2 g (f1.tr f))
    · skip
      refine r_iload_n (q := 128) dX12_map_127 rfl rfl rfl ?_
      refine r_aload_n (q := 129) dX12_map_128 rfl rfl rfl ?_
      refine r_getr (q := 132) (some (1306, 0)) ck12 dX12_map_129 rfl (k := 6) (by decide) wt1284 rfl (hs.e (by decide)) (hs.r (by decide) (by decide)) ?_
      refine r_iconst (q := 133) (nI 2) dX12_map_132 rfl (by decide) ?_
      refine r_ialdN (q := 134) 3775 (by decide) rfl dX12_map_133 rfl (hs.e (by decide)) (hs.n rfl (by decide)) (by omega) (by decide) ?_
      refine r_topi (y := nI (wL W)) e2 ?_
      refine r_icmp_geN (q := 137) (t := 182) (by omega) (by omega) dX12_map_134 (by decide) rfl (fun h134 => absurd h134 (by omega)) (fun h134 => ?_)
      refine r_aload_n (q := 138) dX12_map_137 rfl rfl rfl ?_
      refine r_iload_n (q := 139) dX12_map_138 rfl rfl rfl ?_
      refine r_callV (Mc := mX12_isGreatThere) (q := 142) (As := [zi (nI l)]) (st := []) ck12 dX12_map_139 rfl rfl mkX12_isGreatThere wt1952 wt1954 wp136 rfl (Nat.le_of_ble_eq_true rfl) (Nat.le_of_ble_eq_true rfl) (by decide) (by decide) (by decide) (Or.inl rfl) (hs.e (by decide)) (ok_isGreat_y hW hK hll h3 hs hR hTt) (fun r139 S139 hp139 => ?_)
      obtain ⟨rfl, hq139⟩ := hp139
      rw [hq139]
      show Ok _ _ _ [zi (nI 1)] _ _
      refine r_if_eqN (q := 145) (t := 149) (by omega) dX12_map_142 (by decide) rfl (fun h142 => absurd h142 (by omega)) (fun h142 => ?_)
      refine r_sipush (q := 148) ((-1001 : Int32)) dX12_map_145 rfl (by decide) ?_
      refine r_ireturn dX12_map_148 rfl ?_
      exact K0 S ⟨l, hll, h3⟩ Fr.rf

set_option maxRecDepth 100000 in
theorem lp_mp198 {W Wk : zWd} (hW : Wok W) (hK : Wok Wk) {n9 : Nat → Int64} {m : Nat} {im : Nat → List zT} (him : ImW W Wk im) (h57 : ∀ a, a < wA W → (im a).length ≤ 64) (hPP : wP W = wP Wk) {mo L : Nat} {pvs : Nat → Nat → Bool} {bss : Nat → Nat → Nat → Nat} (hmo : mo ≤ L) (hlm : ∀ i, i < wL W → (lw W i).1 ≤ mo) : ∀ (d l : Nat) (S : zS), l + d = wL W → Sd S → WS S Wk 1 → RB S Wk 1 L pvs bss → (∀ a, a < wA W → gI S 1372 0 a = nI (im a).length ∧ ∀ k, k < (im a).length → gI S 1370 0 (64 * a + k) = nI (cd ((im a).getD k zd).1) ∧ gI S 1371 0 (64 * a + k) = nI ((im a).getD k zd).2) → wqR W (fun k => gI S 1306 0 k) n9 → BrD (kpB W Wk im) l 0 (gI S 12 0 82) → Ok mX12_map 198 [some (zr 12 0), some (zi (nI m)), some (zi (nI mo)), some (zi (nI (cntK (kpB W Wk im) l))), some (zi (nI l))] [] S (fun r S1 => r = some (zi (nI (cntK (kpB W Wk im) (wL W)))) ∧ Fr (fun a b k => tKe a b k || a == 12 && b == 0 && k == 82) S S1 ∧ BrD (kpB W Wk im) (wL W) 0 (gI S1 12 0 82)) := by
  intro d
  have h18 := hW.2.2.2.1
  induction d with
  | zero =>
    intro l S hl hs hws hB hI hR hbr
    have el : l = wL W := by omega
    subst el
    have e2 : gI S 1306 0 2 = nI (wL W) := hR.2.2.1
    have hcl := cntK_le (f := (kpB W Wk im)) (wL W)
    refine r_iload (q := 200) dX12_map_198 rfl rfl ?_
    refine r_aload_n (q := 201) dX12_map_200 rfl rfl rfl ?_
    refine r_getr (q := 204) (some (1306, 0)) ck12 dX12_map_201 rfl (k := 6) (by decide) wt1284 rfl (hs.e (by decide)) (hs.r (by decide) (by decide)) ?_
    refine r_iconst (q := 205) (nI 2) dX12_map_204 rfl (by decide) ?_
    refine r_ialdN (q := 206) 3775 (by decide) rfl dX12_map_205 rfl (hs.e (by decide)) (hs.n rfl (by decide)) (by omega) (by decide) ?_
    refine r_topi (y := nI (wL W)) e2 ?_
    refine r_icmp_geN (q := 209) (t := 243) (by omega) (by omega) dX12_map_206 (by decide) rfl (fun h206 => ?_) (fun h206 => absurd h206 (by omega))
    refine r_iload_n (q := 244) dX12_map_243 rfl rfl rfl ?_
    refine r_ireturn dX12_map_244 rfl ?_
    exact ⟨rfl, Fr.rf, hbr⟩
  | succ d ih =>
    intro l S hl hs hws hB hI hR hbr
    have hll : l < wL W := by omega
    have e2 : gI S 1306 0 2 = nI (wL W) := hR.2.2.1
    obtain ⟨g1, g2, g3⟩ := hW.2.2.2.2.2 l hll
    have hlml := hlm l hll
    have hL7 := hB.2.1
    have hlow := hB.2.2.2.2
    have hlvs : LVS S Wk L := fun s a b => by
      have h1 := hlow s a (by omega)
      have h2 := hlow.bx s a (by omega)
      exact ⟨h1.1, h2.2.2.2.2.1, h2.2.2.2.2.2.1⟩
    have hcl := cntK_le (f := (kpB W Wk im)) l
    have hcs : cntK (kpB W Wk im) (l + 1) = cntK (kpB W Wk im) l + b01 (kpB W Wk im l) := rfl
    have hup := BrD.up (show l < 1000 by omega) hbr
    have hng := BrD.neg (show l < 1000 by omega) hbr
    cases hb : kpB W Wk im l with
    | true =>
      refine r_iload (q := 200) dX12_map_198 rfl rfl ?_
      refine r_aload_n (q := 201) dX12_map_200 rfl rfl rfl ?_
      refine r_getr (q := 204) (some (1306, 0)) ck12 dX12_map_201 rfl (k := 6) (by decide) wt1284 rfl (hs.e (by decide)) (hs.r (by decide) (by decide)) ?_
      refine r_iconst (q := 205) (nI 2) dX12_map_204 rfl (by decide) ?_
      refine r_ialdN (q := 206) 3775 (by decide) rfl dX12_map_205 rfl (hs.e (by decide)) (hs.n rfl (by decide)) (by omega) (by decide) ?_
      refine r_topi (y := nI (wL W)) e2 ?_
      refine r_icmp_geN (q := 209) (t := 243) (by omega) (by omega) dX12_map_206 (by decide) rfl (fun h206 => absurd h206 (by omega)) (fun h206 => ?_)
      refine r_aload_n (q := 210) dX12_map_209 rfl rfl rfl ?_
      refine r_iload (q := 212) dX12_map_210 rfl rfl ?_
      refine r_callV (Mc := mX12_keeps) (q := 215) (As := [zi (nI l)]) (st := []) ck12 dX12_map_212 rfl rfl mkX12_keeps wt1956 wt1958 wp137 rfl (Nat.le_of_ble_eq_true rfl) (Nat.le_of_ble_eq_true rfl) (by decide) (by decide) (by decide) (Or.inl rfl) (hs.e (by decide)) (ok_keeps hW hK him h57 (by omega) hll (by omega) hPP hs hws hlvs hI hR (hlow.bx (lw W l).1 (by omega) (by omega)) (hlow (lw W l).1 (by omega) (by omega)).2.2) (fun r212 S212 hp212 => ?_)
      obtain ⟨rfl, f1⟩ := hp212
      rw [hb]
      have hs1 := hs.fr f1
      have e82 : gI S212 12 0 82 = gI S 12 0 82 := f1.1 _ _ _ rfl
      show Ok _ _ _ [zi (nI 1)] _ _
      refine r_if_eqN (q := 218) (t := 224) (by omega) dX12_map_215 (by decide) rfl (fun h215 => absurd h215 (by omega)) (fun h215 => ?_)
      refine r_iincN (q := 221) (L' := [some (zr 12 0), some (zi (nI m)), some (zi (nI mo)), some (zi (nI (cntK (kpB W Wk im) l + 1))), some (zi (nI l))]) 1 rfl dX12_map_218 rfl rfl (by decide) rfl ?_
      refine r_goto (q := 237) dX12_map_221 (by decide) ?_
      refine r_iincN (q := 240) (L' := [some (zr 12 0), some (zi (nI m)), some (zi (nI mo)), some (zi (nI (cntK (kpB W Wk im) l + 1))), some (zi (nI (l + 1)))]) 1 rfl dX12_map_237 rfl rfl (by decide) rfl ?_
      refine r_goto (q := 198) dX12_map_240 (by decide) ?_
      rw [hb] at hcs
      have hcs : cntK (kpB W Wk im) (l + 1) = cntK (kpB W Wk im) l + 1 := hcs
      rw [← hcs]
      exact Ok.mono (ih (l + 1) S212 (by omega) hs1 (hws.fr f1 (fun _ => rfl)) (hB.fr hK.2.1 (by decide) f1 rfl rfl (fun s a b => ⟨rfl, rfl, rfl, rfl⟩) (fun k a b => ⟨rfl, rfl, rfl⟩) (fun k a b => rfl) (fun i a b => rfl)) (fun a ha => ⟨(f1.1 _ _ _ rfl).trans (hI a ha).1, fun k hk => ⟨(f1.1 _ _ _ rfl).trans ((hI a ha).2 k hk).1, (f1.1 _ _ _ rfl).trans ((hI a ha).2 k hk).2⟩⟩) (hR.frk f1 (fun _ => rfl)) (by rw [e82]; exact hup.1 hb)) fun r S2 z => ⟨z.1, (f1.mono fun a b k y => by simp [y]).tr z.2.1, z.2.2⟩
    | false =>
      refine r_iload (q := 200) dX12_map_198 rfl rfl ?_
      refine r_aload_n (q := 201) dX12_map_200 rfl rfl rfl ?_
      refine r_getr (q := 204) (some (1306, 0)) ck12 dX12_map_201 rfl (k := 6) (by decide) wt1284 rfl (hs.e (by decide)) (hs.r (by decide) (by decide)) ?_
      refine r_iconst (q := 205) (nI 2) dX12_map_204 rfl (by decide) ?_
      refine r_ialdN (q := 206) 3775 (by decide) rfl dX12_map_205 rfl (hs.e (by decide)) (hs.n rfl (by decide)) (by omega) (by decide) ?_
      refine r_topi (y := nI (wL W)) e2 ?_
      refine r_icmp_geN (q := 209) (t := 243) (by omega) (by omega) dX12_map_206 (by decide) rfl (fun h206 => absurd h206 (by omega)) (fun h206 => ?_)
      refine r_aload_n (q := 210) dX12_map_209 rfl rfl rfl ?_
      refine r_iload (q := 212) dX12_map_210 rfl rfl ?_
      refine r_callV (Mc := mX12_keeps) (q := 215) (As := [zi (nI l)]) (st := []) ck12 dX12_map_212 rfl rfl mkX12_keeps wt1956 wt1958 wp137 rfl (Nat.le_of_ble_eq_true rfl) (Nat.le_of_ble_eq_true rfl) (by decide) (by decide) (by decide) (Or.inl rfl) (hs.e (by decide)) (ok_keeps hW hK him h57 (by omega) hll (by omega) hPP hs hws hlvs hI hR (hlow.bx (lw W l).1 (by omega) (by omega)) (hlow (lw W l).1 (by omega) (by omega)).2.2) (fun r212 S212 hp212 => ?_)
      obtain ⟨rfl, f1⟩ := hp212
      rw [hb]
      have hs1 := hs.fr f1
      have e82 : gI S212 12 0 82 = gI S 12 0 82 := f1.1 _ _ _ rfl
      show Ok _ _ _ [zi (nI 0)] _ _
      refine r_if_eqN (q := 218) (t := 224) (by omega) dX12_map_215 (by decide) rfl (fun h215 => ?_) (fun h215 => absurd h215 (by omega))
      refine r_aload_n (q := 225) dX12_map_224 rfl rfl rfl ?_
      refine r_geti (q := 228) ck12 dX12_map_225 rfl (k := 82) (by decide) wt1360 (Or.inl rfl) (hs1.e (by decide)) ?_
      refine r_if_ge (q := 231) (t := 237) dX12_map_228 (by decide) rfl (fun h228 => ?_) (fun h228 => ?_)
      · skip
        refine r_iincN (q := 240) (L' := [some (zr 12 0), some (zi (nI m)), some (zi (nI mo)), some (zi (nI (cntK (kpB W Wk im) l))), some (zi (nI (l + 1)))]) 1 rfl dX12_map_237 rfl rfl (by decide) rfl ?_
        refine r_goto (q := 198) dX12_map_240 (by decide) ?_
        rw [hb] at hcs
        have hcs : cntK (kpB W Wk im) (l + 1) = cntK (kpB W Wk im) l + 0 := hcs
        rw [show cntK (kpB W Wk im) l = cntK (kpB W Wk im) (l + 1) by rw [hcs]; rfl]
        have x1 : gI S 12 0 82 ≠ -1 := fun z => by
          rw [e82, z] at h228
          exact absurd h228 (by decide)
        exact Ok.mono (ih (l + 1) S212 (by omega) hs1 (hws.fr f1 (fun _ => rfl)) (hB.fr hK.2.1 (by decide) f1 rfl rfl (fun s a b => ⟨rfl, rfl, rfl, rfl⟩) (fun k a b => ⟨rfl, rfl, rfl⟩) (fun k a b => rfl) (fun i a b => rfl)) (fun a ha => ⟨(f1.1 _ _ _ rfl).trans (hI a ha).1, fun k hk => ⟨(f1.1 _ _ _ rfl).trans ((hI a ha).2 k hk).1, (f1.1 _ _ _ rfl).trans ((hI a ha).2 k hk).2⟩⟩) (hR.frk f1 (fun _ => rfl)) (by rw [e82]; exact hup.2.2 hb x1)) fun r S2 z => ⟨z.1, (f1.mono fun a b k y => by simp [y]).tr z.2.1, z.2.2⟩
      · skip
        refine r_aload_n (q := 232) dX12_map_231 rfl rfl rfl ?_
        refine r_iload (q := 234) dX12_map_232 rfl rfl ?_
        refine r_puti (q := 237) ck12 dX12_map_234 rfl (k := 82) (by decide) wt1360 (Or.inl rfl) rfl (hs1.e (by decide)) ?_
        refine r_iincN (q := 240) (L' := [some (zr 12 0), some (zi (nI m)), some (zi (nI mo)), some (zi (nI (cntK (kpB W Wk im) l))), some (zi (nI (l + 1)))]) 1 rfl dX12_map_237 rfl rfl (by decide) rfl ?_
        refine r_goto (q := 198) dX12_map_240 (by decide) ?_
        rw [hb] at hcs
        have hcs : cntK (kpB W Wk im) (l + 1) = cntK (kpB W Wk im) l + 0 := hcs
        rw [show cntK (kpB W Wk im) l = cntK (kpB W Wk im) (l + 1) by rw [hcs]; rfl]
        have f2 : Fr (fun a b k => tKe a b k || a == 12 && b == 0 && k == 82) S (sI S212 12 0 82 (nI l)) := (f1.mono fun a b k y => by simp [y]).tr (Fr.rf.i rfl)
        have x1 : gI S 12 0 82 = -1 := hng.mp (by rw [← e82]; exact Int32.not_le.mp h228)
        exact Ok.mono (ih (l + 1) (sI S212 12 0 82 (nI l)) (by omega) (hs.fr f2) (hws.fr f2 (fun _ => rfl)) (hB.fr hK.2.1 (by decide) f2 rfl rfl (fun s a b => ⟨rfl, rfl, rfl, rfl⟩) (fun k a b => ⟨rfl, rfl, rfl⟩) (fun k a b => rfl) (fun i a b => rfl)) (fun a ha => ⟨(f2.1 _ _ _ rfl).trans (hI a ha).1, fun k hk => ⟨(f2.1 _ _ _ rfl).trans ((hI a ha).2 k hk).1, (f2.1 _ _ _ rfl).trans ((hI a ha).2 k hk).2⟩⟩) (hR.frk f2 (fun _ => rfl)) (by rw [gI_sI, if_pos ⟨rfl, rfl, rfl⟩]; exact hup.2.1 hb x1)) fun r S2 z => ⟨z.1, f2.tr z.2.1, z.2.2⟩

set_option maxRecDepth 100000 in
theorem rm_map_f {S : zS} (hs : Sd S) {bs : List Nat} (hbl : bs.length ≤ 940) (h2 : gI S 12 0 2 = nI bs.length) (hb : Bs S 1301 bs) {W Wk : zWd} (hW : Wok W) (hK : Wok Wk) (hR : wqR W (fun k => gI S 1306 0 k) (fun i => gJ S 1308 0 i)) {m : Nat} (hm : m < 2) (hk : gI S 1393 0 m = nI 1) (hRk : wqR Wk (fun k => gI S 1391 0 (3775 * m + k)) (fun i => gJ S 1392 0 (3 * m + i))) (hPP : wP Wk = wP W) (hO : Cw S) (hcr : CR S W) (hIv : IvI S) {x : zEr} (hq : mapQ W Wk bs = Sum.inl x) : Ok mX12_map 0 (ent 5 [zr 12 0, zi (nI m)]) [] S (fun r S1 => r = some (zi ((-1 : Int32) - nI x.2)) ∧ Fr (fun a b k => tM2 a b k || tOw a b k || tAf a b k) S S1 ∧ Cw S1 ∧ CR S1 W ∧ IvI S1 ∧ gI S1 12 0 2 = nI 0 ∧ Fq S1 x ∧ gI S1 12 0 82 = gI S 12 0 82) := by
  have hP1 := hW.1.2.1
  have hP2 := hK.1.2.1
  have hlen : (lexA bs 400 0).length ≤ 401 := by
    have := lexA_len (bs := bs) (lim := 400) (min bs.length 400) 0 (by omega)
    omega
  show Ok mX12_map 0 [some (zr 12 0), some (zi (nI m)), none, none, none] [] S _
  refine r_aload_n (q := 1) dX12_map_0 rfl rfl rfl ?_
  refine r_iconst (q := 2) (nI 0) dX12_map_1 rfl (by decide) ?_
  refine r_puti (q := 5) ck12 dX12_map_2 rfl (k := 0) (by decide) wt1278 (Or.inl rfl) rfl (hs.e (by decide)) ?_
  refine r_aload_n (q := 6) dX12_map_5 rfl rfl rfl ?_
  refine r_sipush (q := 9) (nI 400) dX12_map_6 rfl (by decide) ?_
  refine r_callV (Mc := mX12_taken) (q := 12) (As := [zi (nI 400)]) (st := []) ck12 dX12_map_9 rfl rfl mkX12_taken wt1565 wt1567 wp68 rfl (Nat.le_of_ble_eq_true rfl) (Nat.le_of_ble_eq_true rfl) (by decide) (by decide) (by decide) (Or.inl rfl) (hs.e (by decide)) (ok_X12_taken (S := sI S 12 0 0 (nI 0)) hs (nI 400)) (fun r9 S9 hp9 => ?_)
  obtain ⟨rfl, hq9⟩ := hp9
  rw [gI_sI, if_neg (by omega), h2] at hq9
  rw [hq9]
  show Ok _ _ _ [] _ _
  refine r_aload_n (q := 13) dX12_map_12 rfl rfl rfl ?_
  refine r_iconst (q := 14) (nI 0) dX12_map_13 rfl (by decide) ?_
  refine r_puti (q := 17) ck12 dX12_map_14 rfl (k := 13) (by decide) wt1291 (Or.inl rfl) rfl (hs.e (by decide)) ?_
  show Ok _ _ _ [] (mpS S bs.length) _
  have hs0 : Sd (mpS S bs.length) := hs.fr mpS_fr
  generalize hZ : mpS S bs.length = S0 at hs0 ⊢
  refine r_aload_n (q := 18) dX12_map_17 rfl rfl rfl ?_
  refine r_iload_n (q := 19) dX12_map_18 rfl rfl rfl ?_
  refine r_callV (Mc := mX12_isKeptAt) (q := 22) (As := [zi (nI m)]) (st := []) ck12 dX12_map_19 rfl rfl mkX12_isKeptAt wt1936 wt1938 wp133 rfl (Nat.le_of_ble_eq_true rfl) (Nat.le_of_ble_eq_true rfl) (by decide) (by decide) (by decide) (Or.inl rfl) (hs0.e (by decide)) (ok_isKeptAt_y hs0 hm (by rw [← hZ]; exact (mpS_fr.1 _ _ _ rfl).trans hk)) (fun r19 S19 hp19 => ?_)
  obtain ⟨rfl, hq19⟩ := hp19
  rw [hq19]
  have p1 : gI S0 1391 0 (3775 * m + 0) = nI (wP Wk) := (by rw [← hZ]; exact (mpS_fr.1 _ _ _ rfl).trans hRk.1)
  have p2 : gI S0 1306 0 0 = nI (wP W) := (by rw [← hZ]; exact (mpS_fr.1 _ _ _ rfl).trans hR.1)
  show Ok _ _ _ [zi (nI 1)] _ _
  refine r_if_eqN (q := 25) (t := 46) (by omega) dX12_map_22 (by decide) rfl (fun h22 => absurd h22 (by omega)) (fun h22 => ?_)
  refine r_aload_n (q := 26) dX12_map_25 rfl rfl rfl ?_
  refine r_getr (q := 29) (some (1391, 0)) ck12 dX12_map_26 rfl (k := 91) (by decide) wt1369 rfl (hs0.e (by decide)) (hs0.r (by decide) (by decide)) ?_
  refine r_sipush (q := 32) (nI 3775) dX12_map_29 rfl (by decide) ?_
  refine r_iload_n (q := 33) dX12_map_32 rfl rfl rfl ?_
  refine r_imulN (q := 34) dX12_map_33 rfl ?_
  refine r_iconst (q := 35) (nI 0) dX12_map_34 rfl (by decide) ?_
  refine r_iaddN (q := 36) dX12_map_35 rfl ?_
  refine r_ialdN (q := 37) 7550 (by decide) rfl dX12_map_36 rfl (hs0.e (by decide)) (hs0.n rfl (by decide)) (by omega) (by decide) ?_
  refine r_topi (y := nI (wP Wk)) p1 ?_
  refine r_aload_n (q := 38) dX12_map_37 rfl rfl rfl ?_
  refine r_getr (q := 41) (some (1306, 0)) ck12 dX12_map_38 rfl (k := 6) (by decide) wt1284 rfl (hs0.e (by decide)) (hs0.r (by decide) (by decide)) ?_
  refine r_iconst (q := 42) (nI 0) dX12_map_41 rfl (by decide) ?_
  refine r_ialdN (q := 43) 3775 (by decide) rfl dX12_map_42 rfl (hs0.e (by decide)) (hs0.n rfl (by decide)) (by omega) (by decide) ?_
  refine r_topi (y := nI (wP W)) p2 ?_
  refine r_icmp_eqN (q := 46) (t := 50) (by omega) (by omega) dX12_map_43 (by decide) rfl (fun h43 => ?_) (fun h43 => absurd h43 (by omega))
  have hrc := mpS_rc (S := S) (n := bs.length)
  rw [hZ] at hrc
  have hO0 : Cw S0 := (hrc.rc (W := W)).2.1 hO
  have hcr0 : CR S0 W := hrc.rc.1 hcr
  have hI0 : IvI S0 := (hrc.rc (W := W)).2.2 hIv
  have hR0 : wqR W (fun k => gI S0 1306 0 k) (fun i => gJ S 1308 0 i) := by rw [← hZ]; exact hR.frk mpS_fr (fun _ => rfl)
  refine r_aload_n (q := 51) dX12_map_50 rfl rfl rfl ?_
  refine r_callV (Mc := mX12_ownWorld) (q := 54) (As := []) (st := []) ck12 dX12_map_51 rfl rfl mkX12_ownWorld wt1686 wt1688 wp90 rfl (Nat.le_of_ble_eq_true rfl) (Nat.le_of_ble_eq_true rfl) (by decide) (by decide) (by decide) (Or.inl rfl) (hs0.e (by decide)) (ok_own hs0 hW hR0 hO0 hcr0 hI0) (fun r51 S51 hp51 => ?_)
  obtain ⟨rfl, fo, -, -, hIo, ho33, hOo, L0, pv0, bs0, hBo⟩ := hp51
  have hs1 := hs0.fr fo
  show Ok _ _ _ [] _ _
  refine r_aload_n (q := 55) dX12_map_54 rfl rfl rfl ?_
  refine r_iload_n (q := 56) dX12_map_55 rfl rfl rfl ?_
  refine r_callV (Mc := mX12_loads) (q := 59) (As := [zi (nI m)]) (st := []) ck12 dX12_map_56 rfl rfl mkX12_loads wt1940 wt1942 wp134 rfl (Nat.le_of_ble_eq_true rfl) (Nat.le_of_ble_eq_true rfl) (by decide) (by decide) (by decide) (Or.inl rfl) (hs1.e (by decide)) (ok_loads hs1 hm) (fun r56 S56 hp56 => ?_)
  obtain ⟨rfl, fl1, hld, hl0⟩ := hp56
  have hs2 := hs1.fr fl1
  have hRk2 : wqR Wk (fun k => gI S56 1322 0 (1173 * 1 + k)) (fun i => gJ S 1392 0 (3 * m + i)) := wqR.cong hK (fun k k1 _ => by show gI S 1391 0 (3775 * m + k) = gI S56 1322 0 (1173 * 1 + k); rw [Nat.mul_one, hld k (by omega), fo.1 _ _ _ rfl, ← hZ, mpS_fr.1 _ _ _ rfl]) (fun _ _ => rfl) hRk
  have gJk : ∀ k, gJ S56 1392 0 k = gJ S 1392 0 k := fun k => by rw [fl1.2.1 _ _ _ rfl, fo.2.1 _ _ _ rfl, ← hZ, mpS_fr.2.1 _ _ _ rfl]
  show Ok _ _ _ [] _ _
  refine r_iconst (q := 60) (nI 0) dX12_map_59 rfl (by decide) ?_
  refine r_istore_n (q := 61) (L' := [some (zr 12 0), some (zi (nI m)), some (zi (nI 0)), none, none]) dX12_map_60 rfl rfl (by decide) rfl ?_
  refine r_iload_n (q := 62) dX12_map_61 rfl rfl rfl ?_
  refine r_iconst (q := 63) (nI 3) dX12_map_62 rfl (by decide) ?_
  refine r_icmp_geN (q := 66) (t := 90) (by omega) (by omega) dX12_map_63 (by decide) rfl (fun h63 => absurd h63 (by omega)) (fun h63 => ?_)
  refine r_aload_n (q := 67) dX12_map_66 rfl rfl rfl ?_
  refine r_getr (q := 70) (some (1308, 0)) ck12 dX12_map_67 rfl (k := 8) (by decide) wt1286 rfl (hs2.e (by decide)) (hs2.r (by decide) (by decide)) ?_
  refine r_iconst (q := 71) (nI 3) dX12_map_70 rfl (by decide) ?_
  refine r_iload_n (q := 72) dX12_map_71 rfl rfl rfl ?_
  refine r_iaddN (q := 73) dX12_map_72 rfl ?_
  refine r_aload_n (q := 74) dX12_map_73 rfl rfl rfl ?_
  refine r_getr (q := 77) (some (1392, 0)) ck12 dX12_map_74 rfl (k := 92) (by decide) wt1370 rfl (hs2.e (by decide)) (hs2.r (by decide) (by decide)) ?_
  refine r_iconst (q := 78) (nI 3) dX12_map_77 rfl (by decide) ?_
  refine r_iload_n (q := 79) dX12_map_78 rfl rfl rfl ?_
  refine r_imulN (q := 80) dX12_map_79 rfl ?_
  refine r_iload_n (q := 81) dX12_map_80 rfl rfl rfl ?_
  refine r_iaddN (q := 82) dX12_map_81 rfl ?_
  refine r_laldN (q := 83) 6 (by decide) rfl dX12_map_82 rfl (hs2.e (by decide)) (hs2.n rfl (by decide)) (by omega) (by decide) ?_
  refine r_lastN (q := 84) 6 (by decide) rfl dX12_map_83 rfl (hs2.e (by decide)) (hs2.n rfl (by decide)) (by omega) (by decide) ?_
  refine r_iincN (q := 87) (L' := [some (zr 12 0), some (zi (nI m)), some (zi (nI 1)), none, none]) 1 rfl dX12_map_84 rfl rfl (by decide) rfl ?_
  refine r_goto (q := 61) dX12_map_87 (by decide) ?_
  refine r_iload_n (q := 62) dX12_map_61 rfl rfl rfl ?_
  refine r_iconst (q := 63) (nI 3) dX12_map_62 rfl (by decide) ?_
  refine r_icmp_geN (q := 66) (t := 90) (by omega) (by omega) dX12_map_63 (by decide) rfl (fun h63 => absurd h63 (by omega)) (fun h63 => ?_)
  refine r_aload_n (q := 67) dX12_map_66 rfl rfl rfl ?_
  refine r_getr (q := 70) (some (1308, 0)) ck12 dX12_map_67 rfl (k := 8) (by decide) wt1286 rfl (hs2.e (by decide)) (hs2.r (by decide) (by decide)) ?_
  refine r_iconst (q := 71) (nI 3) dX12_map_70 rfl (by decide) ?_
  refine r_iload_n (q := 72) dX12_map_71 rfl rfl rfl ?_
  refine r_iaddN (q := 73) dX12_map_72 rfl ?_
  refine r_aload_n (q := 74) dX12_map_73 rfl rfl rfl ?_
  refine r_getr (q := 77) (some (1392, 0)) ck12 dX12_map_74 rfl (k := 92) (by decide) wt1370 rfl (hs2.e (by decide)) (hs2.r (by decide) (by decide)) ?_
  refine r_iconst (q := 78) (nI 3) dX12_map_77 rfl (by decide) ?_
  refine r_iload_n (q := 79) dX12_map_78 rfl rfl rfl ?_
  refine r_imulN (q := 80) dX12_map_79 rfl ?_
  refine r_iload_n (q := 81) dX12_map_80 rfl rfl rfl ?_
  refine r_iaddN (q := 82) dX12_map_81 rfl ?_
  refine r_laldN (q := 83) 6 (by decide) rfl dX12_map_82 rfl (hs2.e (by decide)) (hs2.n rfl (by decide)) (by omega) (by decide) ?_
  refine r_topl (y := gJ S56 1392 0 ((3 * m) + 1)) (by simp [gI_sI, gJ_sJ, gI_sJ, gJ_sI]) ?_
  refine r_lastN (q := 84) 6 (by decide) rfl dX12_map_83 rfl (hs2.e (by decide)) (hs2.n rfl (by decide)) (by omega) (by decide) ?_
  refine r_iincN (q := 87) (L' := [some (zr 12 0), some (zi (nI m)), some (zi (nI 2)), none, none]) 1 rfl dX12_map_84 rfl rfl (by decide) rfl ?_
  refine r_goto (q := 61) dX12_map_87 (by decide) ?_
  refine r_iload_n (q := 62) dX12_map_61 rfl rfl rfl ?_
  refine r_iconst (q := 63) (nI 3) dX12_map_62 rfl (by decide) ?_
  refine r_icmp_geN (q := 66) (t := 90) (by omega) (by omega) dX12_map_63 (by decide) rfl (fun h63 => absurd h63 (by omega)) (fun h63 => ?_)
  refine r_aload_n (q := 67) dX12_map_66 rfl rfl rfl ?_
  refine r_getr (q := 70) (some (1308, 0)) ck12 dX12_map_67 rfl (k := 8) (by decide) wt1286 rfl (hs2.e (by decide)) (hs2.r (by decide) (by decide)) ?_
  refine r_iconst (q := 71) (nI 3) dX12_map_70 rfl (by decide) ?_
  refine r_iload_n (q := 72) dX12_map_71 rfl rfl rfl ?_
  refine r_iaddN (q := 73) dX12_map_72 rfl ?_
  refine r_aload_n (q := 74) dX12_map_73 rfl rfl rfl ?_
  refine r_getr (q := 77) (some (1392, 0)) ck12 dX12_map_74 rfl (k := 92) (by decide) wt1370 rfl (hs2.e (by decide)) (hs2.r (by decide) (by decide)) ?_
  refine r_iconst (q := 78) (nI 3) dX12_map_77 rfl (by decide) ?_
  refine r_iload_n (q := 79) dX12_map_78 rfl rfl rfl ?_
  refine r_imulN (q := 80) dX12_map_79 rfl ?_
  refine r_iload_n (q := 81) dX12_map_80 rfl rfl rfl ?_
  refine r_iaddN (q := 82) dX12_map_81 rfl ?_
  refine r_laldN (q := 83) 6 (by decide) rfl dX12_map_82 rfl (hs2.e (by decide)) (hs2.n rfl (by decide)) (by omega) (by decide) ?_
  refine r_topl (y := gJ S56 1392 0 ((3 * m) + 2)) (by simp [gI_sI, gJ_sJ, gI_sJ, gJ_sI]) ?_
  refine r_lastN (q := 84) 6 (by decide) rfl dX12_map_83 rfl (hs2.e (by decide)) (hs2.n rfl (by decide)) (by omega) (by decide) ?_
  refine r_iincN (q := 87) (L' := [some (zr 12 0), some (zi (nI m)), some (zi (nI 3)), none, none]) 1 rfl dX12_map_84 rfl rfl (by decide) rfl ?_
  refine r_goto (q := 61) dX12_map_87 (by decide) ?_
  refine r_iload_n (q := 62) dX12_map_61 rfl rfl rfl ?_
  refine r_iconst (q := 63) (nI 3) dX12_map_62 rfl (by decide) ?_
  refine r_icmp_geN (q := 66) (t := 90) (by omega) (by omega) dX12_map_63 (by decide) rfl (fun h63 => ?_) (fun h63 => absurd h63 (by omega))
  refine r_aload_n (q := 91) dX12_map_90 rfl rfl rfl ?_
  refine r_iconst (q := 92) (nI 3) dX12_map_91 rfl (by decide) ?_
  refine r_puti (q := 95) ck12 dX12_map_92 rfl (k := 53) (by decide) wt1331 (Or.inl rfl) rfl (hs2.e (by decide)) ?_
  refine r_aload_n (q := 96) dX12_map_95 rfl rfl rfl ?_
  refine r_iconst (q := 97) (nI 1) dX12_map_96 rfl (by decide) ?_
  refine r_puti (q := 100) ck12 dX12_map_97 rfl (k := 54) (by decide) wt1332 (Or.inl rfl) rfl (hs2.e (by decide)) ?_
  have fz : Fr tNz S56 (sI (sI (sJ (sJ (sJ S56 1308 0 3 (gJ S56 1392 0 ((3 * m) + 0))) 1308 0 4 (gJ S56 1392 0 ((3 * m) + 1))) 1308 0 5 (gJ S56 1392 0 ((3 * m) + 2))) 12 0 53 (nI 3)) 12 0 54 (nI 1)) := ((((Fr.rf.j rfl).j rfl).j rfl).i rfl).i rfl
  have hs3 : Sd (sI (sI (sJ (sJ (sJ S56 1308 0 3 (gJ S56 1392 0 ((3 * m) + 0))) 1308 0 4 (gJ S56 1392 0 ((3 * m) + 1))) 1308 0 5 (gJ S56 1392 0 ((3 * m) + 2))) 12 0 53 (nI 3)) 12 0 54 (nI 1)) := Sd.fr (S := S56) hs2 fz
  have hv := mpS_v (S := S) (n := bs.length)
  rw [hZ] at hv
  have hvx : ∀ k, k = 2 ∨ k = 3 ∨ k = 4 ∨ k = 5 ∨ k = 13 → gI (sI (sI (sJ (sJ (sJ S56 1308 0 3 (gJ S56 1392 0 ((3 * m) + 0))) 1308 0 4 (gJ S56 1392 0 ((3 * m) + 1))) 1308 0 5 (gJ S56 1392 0 ((3 * m) + 2))) 12 0 53 (nI 3)) 12 0 54 (nI 1)) 12 0 k = gI S0 12 0 k := fun k hk => by
    have e1 : gI (sI (sI (sJ (sJ (sJ S56 1308 0 3 (gJ S56 1392 0 ((3 * m) + 0))) 1308 0 4 (gJ S56 1392 0 ((3 * m) + 1))) 1308 0 5 (gJ S56 1392 0 ((3 * m) + 2))) 12 0 53 (nI 3)) 12 0 54 (nI 1)) 12 0 k = gI S56 12 0 k := by
      obtain rfl | rfl | rfl | rfl | rfl := hk <;> simp [gI_sI, gI_sJ]
    rw [e1, fl1.1 12 0 k rfl, fo.1 12 0 k (by obtain rfl | rfl | rfl | rfl | rfl := hk <;> rfl)]
  have tx2 : Tx2 (sI (sI (sJ (sJ (sJ S56 1308 0 3 (gJ S56 1392 0 ((3 * m) + 0))) 1308 0 4 (gJ S56 1392 0 ((3 * m) + 1))) 1308 0 5 (gJ S56 1392 0 ((3 * m) + 2))) 12 0 53 (nI 3)) 12 0 54 (nI 1)) bs 400 0 := ⟨⟨fun k hk => by
    have e1 : gI (sI (sI (sJ (sJ (sJ S56 1308 0 3 (gJ S56 1392 0 ((3 * m) + 0))) 1308 0 4 (gJ S56 1392 0 ((3 * m) + 1))) 1308 0 5 (gJ S56 1392 0 ((3 * m) + 2))) 12 0 53 (nI 3)) 12 0 54 (nI 1)) 1301 0 k = gI S56 1301 0 k := by simp [gI_sI, gI_sJ]
    rw [e1, fl1.1 _ _ _ rfl, fo.1 _ _ _ rfl, ← hZ, mpS_fr.1 _ _ _ rfl]; exact hb.1 k hk, hb.2⟩, (hvx 3 (by omega)).trans hv.2.1, (hvx 5 (by omega)).trans hv.2.2.2.1, (hvx 4 (by omega)).trans hv.2.2.1⟩
  have z2 : gI (sI (sI (sJ (sJ (sJ S56 1308 0 3 (gJ S56 1392 0 ((3 * m) + 0))) 1308 0 4 (gJ S56 1392 0 ((3 * m) + 1))) 1308 0 5 (gJ S56 1392 0 ((3 * m) + 2))) 12 0 53 (nI 3)) 12 0 54 (nI 1)) 12 0 2 = nI 0 := (hvx 2 (by omega)).trans hv.1
  have z13 : gI (sI (sI (sJ (sJ (sJ S56 1308 0 3 (gJ S56 1392 0 ((3 * m) + 0))) 1308 0 4 (gJ S56 1392 0 ((3 * m) + 1))) 1308 0 5 (gJ S56 1392 0 ((3 * m) + 2))) 12 0 53 (nI 3)) 12 0 54 (nI 1)) 12 0 13 = nI 0 := (hvx 13 (by omega)).trans hv.2.2.2.2
  have z54 : gI (sI (sI (sJ (sJ (sJ S56 1308 0 3 (gJ S56 1392 0 ((3 * m) + 0))) 1308 0 4 (gJ S56 1392 0 ((3 * m) + 1))) 1308 0 5 (gJ S56 1392 0 ((3 * m) + 2))) 12 0 53 (nI 3)) 12 0 54 (nI 1)) 12 0 54 = nI 1 := by simp [gI_sI, gI_sJ]
  have z53 : gI (sI (sI (sJ (sJ (sJ S56 1308 0 3 (gJ S56 1392 0 ((3 * m) + 0))) 1308 0 4 (gJ S56 1392 0 ((3 * m) + 1))) 1308 0 5 (gJ S56 1392 0 ((3 * m) + 2))) 12 0 53 (nI 3)) 12 0 54 (nI 1)) 12 0 53 = nI 3 := by simp [gI_sI, gI_sJ]
  have zj : ∀ a, a < 3 → gJ (sI (sI (sJ (sJ (sJ S56 1308 0 3 (gJ S56 1392 0 ((3 * m) + 0))) 1308 0 4 (gJ S56 1392 0 ((3 * m) + 1))) 1308 0 5 (gJ S56 1392 0 ((3 * m) + 2))) 12 0 53 (nI 3)) 12 0 54 (nI 1)) 1308 0 (3 + a) = gJ S56 1392 0 (3 * m + a) := fun a ha => by
    obtain rfl | rfl | rfl : a = 0 ∨ a = 1 ∨ a = 2 := by omega
    all_goals simp [gJ_sI, gJ_sJ]
  refine r_aload_n (q := 101) dX12_map_100 rfl rfl rfl ?_
  refine r_callV (Mc := mX12_next) (q := 104) (As := []) (st := []) ck12 dX12_map_101 rfl rfl mkX12_next wt1573 wt1575 wp70 rfl (Nat.le_of_ble_eq_true rfl) (Nat.le_of_ble_eq_true rfl) (by decide) (by decide) (by decide) (Or.inl rfl) (hs3.e (by decide)) (ok_X12_next (S := sI (sI (sJ (sJ (sJ S56 1308 0 3 (gJ S56 1392 0 ((3 * m) + 0))) 1308 0 4 (gJ S56 1392 0 ((3 * m) + 1))) 1308 0 5 (gJ S56 1392 0 ((3 * m) + 2))) 12 0 53 (nI 3)) 12 0 54 (nI 1)) hs3 (p := 0) hbl tx2 (show 400 ≤ 940 by omega) (by omega)) (fun r101 S101 hp101 => ?_)
  obtain ⟨rfl, fn, hrr⟩ := hp101
  have hs4 := hs3.fr fn
  have f24 : Fr tBe S56 S101 := (fz.mono tBe_nz).tr (fn.mono tBe_nx)
  have f14 : Fr tBe S51 S101 := (fl1.mono tBe_ld).tr f24
  have g1322 : ∀ k, gI S101 1322 0 k = gI S56 1322 0 k := fun k => (fn.1 _ _ _ rfl).trans (fz.1 _ _ _ rfl)
  have gR : Rr S101 bs 400 (lexA bs 400 0) := hrr
  have gWow : Wow S101 (wA W) (wn W) (we W) := ⟨(f14.1 _ _ _ (tBe_1306 _)).trans ((fo.1 _ _ _ rfl).trans hR0.2.1), fun a ha => ⟨(f14.1 _ _ _ (tBe_1306 _)).trans ((fo.1 _ _ _ rfl).trans (hR0.2.2.2.1 a ha).1), (f14.2.1 _ _ _ (tBe_1308 _ (by have := hW.2.1.1; omega))).trans ((fo.2.1 _ _ _ rfl).trans ((by rw [← hZ]; exact mpS_fr.2.1 _ _ _ rfl : gJ S0 1308 0 a = gJ S 1308 0 a).trans (hR.2.2.2.1 a ha).2))⟩⟩
  have gWm : Wm S101 1 3 (wA Wk) (wn Wk) (we Wk) := ⟨(fn.1 _ _ _ rfl).trans z54, (fn.1 _ _ _ rfl).trans z53, (g1322 _).trans hRk2.2.1, fun a ha => ⟨(g1322 _).trans (by rw [show 1173 * 1 + 4 + a = 1173 * 1 + (4 + a) by omega]; exact (hRk2.2.2.2.1 a ha).1), (fn.2.1 _ _ _ rfl).trans ((zj a (by have := hK.2.1.1; omega)).trans ((gJk _).trans (hRk2.2.2.2.1 a ha).2))⟩⟩
  have gP : gI S101 1322 0 1173 = nI (wP Wk) := (g1322 _).trans hRk2.1
  have g13 : gI S101 12 0 13 = nI 0 := (fn.1 _ _ _ rfl).trans z13
  have g2 : gI S101 12 0 2 = nI 0 := (fn.1 _ _ _ rfl).trans z2
  show Ok _ _ _ [] _ _
  refine r_aload_n (q := 105) dX12_map_104 rfl rfl rfl ?_
  refine r_callV (Mc := mX12_readMap) (q := 108) (As := []) (st := []) ck12 dX12_map_105 rfl rfl mkX12_readMap wt1948 wt1950 wp135 rfl (Nat.le_of_ble_eq_true rfl) (Nat.le_of_ble_eq_true rfl) (by decide) (by decide) (by decide) (Or.inl rfl) (hs4.e (by decide)) (ok_readMapR hs4 hbl (show 400 ≤ 940 by omega) gR (lex_tks hb.2 hbl) (lex_lk _ _) hlen hW.2.1 hK.2.1 (wn_lt hW) (wn_lt hK) gWow gWm hK.1.1 hK.1.2.1 gP) (fun r105 S105 hp105 => ?_)
  unfold mapQ at hq
  rw [hq] at hp105
  obtain ⟨rfl, fr5, r3⟩ := hp105
  have hs5 := hs4.fr fr5
  have f15 : Fr tBe S51 S105 := f14.tr (fr5.mono tBe_mr)
  show Ok _ _ _ [zi (nI 0)] _ _
  refine r_if_neN (q := 111) (t := 118) (by omega) dX12_map_108 (by decide) rfl (fun h108 => absurd h108 (by omega)) (fun h108 => ?_)
  refine r_iconst (q := 112) ((-1 : Int32)) dX12_map_111 rfl (by decide) ?_
  refine r_aload_n (q := 113) dX12_map_112 rfl rfl rfl ?_
  refine r_geti (q := 116) ck12 dX12_map_113 rfl (k := 14) (by decide) wt1292 (Or.inl rfl) (hs5.e (by decide)) ?_
  refine r_topi (y := nI x.2) r3.2 ?_
  refine r_isub (q := 117) dX12_map_116 rfl ?_
  refine r_ireturn dX12_map_117 rfl ?_
  exact ⟨rfl, ((by rw [← hZ]; exact mpS_fr.mono fun a b k y => by simp [y] : Fr (fun a b k => tM2 a b k || tOw a b k || tAf a b k) S S0).tr (fo.mono fun a b k y => by simp [y])).tr (f15.mono fun a b k y => by simp [tBe_af a b k y]), hOo.af (f15.mono tBe_af), fun _ => ⟨L0, pv0, bs0, hBo.af hW.2.1 (f15.mono tBe_af)⟩, hIo.be f15, (fr5.1 _ _ _ rfl).trans g2, r3, by rw [fr5.1 _ _ _ rfl, fn.1 _ _ _ rfl, show gI _ 12 0 82 = gI S56 12 0 82 from by simp [gI_sI, gI_sJ], fl1.1 _ _ _ rfl, fo.1 _ _ _ rfl, ← hZ, mpS_fr.1 _ _ _ rfl]⟩

set_option maxRecDepth 100000 in
theorem rm_map_r {S : zS} (hs : Sd S) {bs : List Nat} (hbl : bs.length ≤ 940) (h2 : gI S 12 0 2 = nI bs.length) (hb : Bs S 1301 bs) {W Wk : zWd} (hW : Wok W) (hK : Wok Wk) (hR : wqR W (fun k => gI S 1306 0 k) (fun i => gJ S 1308 0 i)) {m : Nat} (hm : m < 2) (hk : gI S 1393 0 m = nI 1) (hRk : wqR Wk (fun k => gI S 1391 0 (3775 * m + k)) (fun i => gJ S 1392 0 (3 * m + i))) (hPP : wP Wk = wP W) (hO : Cw S) (hcr : CR S W) (hIv : IvI S) {im : zIm} (hq : mapQ W Wk bs = Sum.inr im) : Ok mX12_map 0 (ent 5 [zr 12 0, zi (nI m)]) [] S (fun r S1 => (Fr (fun a b k => tM2 a b k || tOw a b k || tAf a b k) S S1 ∧ Cw S1 ∧ CR S1 W ∧ IvI S1 ∧ gI S1 12 0 2 = nI 0) ∧ gI S1 12 0 13 = nI 0 ∧ (Gre W Wk ∧ r = some (zi (-1001 : Int32)) ∧ gI S1 12 0 82 = gI S 12 0 82 ∨ ¬ Gre W Wk ∧ r = some (zi (nI (cntK (kpB W Wk (imf im)) (wL W)))) ∧ BrD (kpB W Wk (imf im)) (wL W) 0 (gI S1 12 0 82))) := by
  have hP1 := hW.1.2.1
  have hP2 := hK.1.2.1
  have hlen : (lexA bs 400 0).length ≤ 401 := by
    have := lexA_len (bs := bs) (lim := 400) (min bs.length 400) 0 (by omega)
    omega
  show Ok mX12_map 0 [some (zr 12 0), some (zi (nI m)), none, none, none] [] S _
  refine r_aload_n (q := 1) dX12_map_0 rfl rfl rfl ?_
  refine r_iconst (q := 2) (nI 0) dX12_map_1 rfl (by decide) ?_
  refine r_puti (q := 5) ck12 dX12_map_2 rfl (k := 0) (by decide) wt1278 (Or.inl rfl) rfl (hs.e (by decide)) ?_
  refine r_aload_n (q := 6) dX12_map_5 rfl rfl rfl ?_
  refine r_sipush (q := 9) (nI 400) dX12_map_6 rfl (by decide) ?_
  refine r_callV (Mc := mX12_taken) (q := 12) (As := [zi (nI 400)]) (st := []) ck12 dX12_map_9 rfl rfl mkX12_taken wt1565 wt1567 wp68 rfl (Nat.le_of_ble_eq_true rfl) (Nat.le_of_ble_eq_true rfl) (by decide) (by decide) (by decide) (Or.inl rfl) (hs.e (by decide)) (ok_X12_taken (S := sI S 12 0 0 (nI 0)) hs (nI 400)) (fun r9 S9 hp9 => ?_)
  obtain ⟨rfl, hq9⟩ := hp9
  rw [gI_sI, if_neg (by omega), h2] at hq9
  rw [hq9]
  show Ok _ _ _ [] _ _
  refine r_aload_n (q := 13) dX12_map_12 rfl rfl rfl ?_
  refine r_iconst (q := 14) (nI 0) dX12_map_13 rfl (by decide) ?_
  refine r_puti (q := 17) ck12 dX12_map_14 rfl (k := 13) (by decide) wt1291 (Or.inl rfl) rfl (hs.e (by decide)) ?_
  show Ok _ _ _ [] (mpS S bs.length) _
  have hs0 : Sd (mpS S bs.length) := hs.fr mpS_fr
  generalize hZ : mpS S bs.length = S0 at hs0 ⊢
  refine r_aload_n (q := 18) dX12_map_17 rfl rfl rfl ?_
  refine r_iload_n (q := 19) dX12_map_18 rfl rfl rfl ?_
  refine r_callV (Mc := mX12_isKeptAt) (q := 22) (As := [zi (nI m)]) (st := []) ck12 dX12_map_19 rfl rfl mkX12_isKeptAt wt1936 wt1938 wp133 rfl (Nat.le_of_ble_eq_true rfl) (Nat.le_of_ble_eq_true rfl) (by decide) (by decide) (by decide) (Or.inl rfl) (hs0.e (by decide)) (ok_isKeptAt_y hs0 hm (by rw [← hZ]; exact (mpS_fr.1 _ _ _ rfl).trans hk)) (fun r19 S19 hp19 => ?_)
  obtain ⟨rfl, hq19⟩ := hp19
  rw [hq19]
  have p1 : gI S0 1391 0 (3775 * m + 0) = nI (wP Wk) := (by rw [← hZ]; exact (mpS_fr.1 _ _ _ rfl).trans hRk.1)
  have p2 : gI S0 1306 0 0 = nI (wP W) := (by rw [← hZ]; exact (mpS_fr.1 _ _ _ rfl).trans hR.1)
  show Ok _ _ _ [zi (nI 1)] _ _
  refine r_if_eqN (q := 25) (t := 46) (by omega) dX12_map_22 (by decide) rfl (fun h22 => absurd h22 (by omega)) (fun h22 => ?_)
  refine r_aload_n (q := 26) dX12_map_25 rfl rfl rfl ?_
  refine r_getr (q := 29) (some (1391, 0)) ck12 dX12_map_26 rfl (k := 91) (by decide) wt1369 rfl (hs0.e (by decide)) (hs0.r (by decide) (by decide)) ?_
  refine r_sipush (q := 32) (nI 3775) dX12_map_29 rfl (by decide) ?_
  refine r_iload_n (q := 33) dX12_map_32 rfl rfl rfl ?_
  refine r_imulN (q := 34) dX12_map_33 rfl ?_
  refine r_iconst (q := 35) (nI 0) dX12_map_34 rfl (by decide) ?_
  refine r_iaddN (q := 36) dX12_map_35 rfl ?_
  refine r_ialdN (q := 37) 7550 (by decide) rfl dX12_map_36 rfl (hs0.e (by decide)) (hs0.n rfl (by decide)) (by omega) (by decide) ?_
  refine r_topi (y := nI (wP Wk)) p1 ?_
  refine r_aload_n (q := 38) dX12_map_37 rfl rfl rfl ?_
  refine r_getr (q := 41) (some (1306, 0)) ck12 dX12_map_38 rfl (k := 6) (by decide) wt1284 rfl (hs0.e (by decide)) (hs0.r (by decide) (by decide)) ?_
  refine r_iconst (q := 42) (nI 0) dX12_map_41 rfl (by decide) ?_
  refine r_ialdN (q := 43) 3775 (by decide) rfl dX12_map_42 rfl (hs0.e (by decide)) (hs0.n rfl (by decide)) (by omega) (by decide) ?_
  refine r_topi (y := nI (wP W)) p2 ?_
  refine r_icmp_eqN (q := 46) (t := 50) (by omega) (by omega) dX12_map_43 (by decide) rfl (fun h43 => ?_) (fun h43 => absurd h43 (by omega))
  have hrc := mpS_rc (S := S) (n := bs.length)
  rw [hZ] at hrc
  have hO0 : Cw S0 := (hrc.rc (W := W)).2.1 hO
  have hcr0 : CR S0 W := hrc.rc.1 hcr
  have hI0 : IvI S0 := (hrc.rc (W := W)).2.2 hIv
  have hR0 : wqR W (fun k => gI S0 1306 0 k) (fun i => gJ S 1308 0 i) := by rw [← hZ]; exact hR.frk mpS_fr (fun _ => rfl)
  refine r_aload_n (q := 51) dX12_map_50 rfl rfl rfl ?_
  refine r_callV (Mc := mX12_ownWorld) (q := 54) (As := []) (st := []) ck12 dX12_map_51 rfl rfl mkX12_ownWorld wt1686 wt1688 wp90 rfl (Nat.le_of_ble_eq_true rfl) (Nat.le_of_ble_eq_true rfl) (by decide) (by decide) (by decide) (Or.inl rfl) (hs0.e (by decide)) (ok_own hs0 hW hR0 hO0 hcr0 hI0) (fun r51 S51 hp51 => ?_)
  obtain ⟨rfl, fo, -, -, hIo, ho33, hOo, L0, pv0, bs0, hBo⟩ := hp51
  have hs1 := hs0.fr fo
  show Ok _ _ _ [] _ _
  refine r_aload_n (q := 55) dX12_map_54 rfl rfl rfl ?_
  refine r_iload_n (q := 56) dX12_map_55 rfl rfl rfl ?_
  refine r_callV (Mc := mX12_loads) (q := 59) (As := [zi (nI m)]) (st := []) ck12 dX12_map_56 rfl rfl mkX12_loads wt1940 wt1942 wp134 rfl (Nat.le_of_ble_eq_true rfl) (Nat.le_of_ble_eq_true rfl) (by decide) (by decide) (by decide) (Or.inl rfl) (hs1.e (by decide)) (ok_loads hs1 hm) (fun r56 S56 hp56 => ?_)
  obtain ⟨rfl, fl1, hld, hl0⟩ := hp56
  have hs2 := hs1.fr fl1
  have hRk2 : wqR Wk (fun k => gI S56 1322 0 (1173 * 1 + k)) (fun i => gJ S 1392 0 (3 * m + i)) := wqR.cong hK (fun k k1 _ => by show gI S 1391 0 (3775 * m + k) = gI S56 1322 0 (1173 * 1 + k); rw [Nat.mul_one, hld k (by omega), fo.1 _ _ _ rfl, ← hZ, mpS_fr.1 _ _ _ rfl]) (fun _ _ => rfl) hRk
  have gJk : ∀ k, gJ S56 1392 0 k = gJ S 1392 0 k := fun k => by rw [fl1.2.1 _ _ _ rfl, fo.2.1 _ _ _ rfl, ← hZ, mpS_fr.2.1 _ _ _ rfl]
  show Ok _ _ _ [] _ _
  refine r_iconst (q := 60) (nI 0) dX12_map_59 rfl (by decide) ?_
  refine r_istore_n (q := 61) (L' := [some (zr 12 0), some (zi (nI m)), some (zi (nI 0)), none, none]) dX12_map_60 rfl rfl (by decide) rfl ?_
  refine r_iload_n (q := 62) dX12_map_61 rfl rfl rfl ?_
  refine r_iconst (q := 63) (nI 3) dX12_map_62 rfl (by decide) ?_
  refine r_icmp_geN (q := 66) (t := 90) (by omega) (by omega) dX12_map_63 (by decide) rfl (fun h63 => absurd h63 (by omega)) (fun h63 => ?_)
  refine r_aload_n (q := 67) dX12_map_66 rfl rfl rfl ?_
  refine r_getr (q := 70) (some (1308, 0)) ck12 dX12_map_67 rfl (k := 8) (by decide) wt1286 rfl (hs2.e (by decide)) (hs2.r (by decide) (by decide)) ?_
  refine r_iconst (q := 71) (nI 3) dX12_map_70 rfl (by decide) ?_
  refine r_iload_n (q := 72) dX12_map_71 rfl rfl rfl ?_
  refine r_iaddN (q := 73) dX12_map_72 rfl ?_
  refine r_aload_n (q := 74) dX12_map_73 rfl rfl rfl ?_
  refine r_getr (q := 77) (some (1392, 0)) ck12 dX12_map_74 rfl (k := 92) (by decide) wt1370 rfl (hs2.e (by decide)) (hs2.r (by decide) (by decide)) ?_
  refine r_iconst (q := 78) (nI 3) dX12_map_77 rfl (by decide) ?_
  refine r_iload_n (q := 79) dX12_map_78 rfl rfl rfl ?_
  refine r_imulN (q := 80) dX12_map_79 rfl ?_
  refine r_iload_n (q := 81) dX12_map_80 rfl rfl rfl ?_
  refine r_iaddN (q := 82) dX12_map_81 rfl ?_
  refine r_laldN (q := 83) 6 (by decide) rfl dX12_map_82 rfl (hs2.e (by decide)) (hs2.n rfl (by decide)) (by omega) (by decide) ?_
  refine r_lastN (q := 84) 6 (by decide) rfl dX12_map_83 rfl (hs2.e (by decide)) (hs2.n rfl (by decide)) (by omega) (by decide) ?_
  refine r_iincN (q := 87) (L' := [some (zr 12 0), some (zi (nI m)), some (zi (nI 1)), none, none]) 1 rfl dX12_map_84 rfl rfl (by decide) rfl ?_
  refine r_goto (q := 61) dX12_map_87 (by decide) ?_
  refine r_iload_n (q := 62) dX12_map_61 rfl rfl rfl ?_
  refine r_iconst (q := 63) (nI 3) dX12_map_62 rfl (by decide) ?_
  refine r_icmp_geN (q := 66) (t := 90) (by omega) (by omega) dX12_map_63 (by decide) rfl (fun h63 => absurd h63 (by omega)) (fun h63 => ?_)
  refine r_aload_n (q := 67) dX12_map_66 rfl rfl rfl ?_
  refine r_getr (q := 70) (some (1308, 0)) ck12 dX12_map_67 rfl (k := 8) (by decide) wt1286 rfl (hs2.e (by decide)) (hs2.r (by decide) (by decide)) ?_
  refine r_iconst (q := 71) (nI 3) dX12_map_70 rfl (by decide) ?_
  refine r_iload_n (q := 72) dX12_map_71 rfl rfl rfl ?_
  refine r_iaddN (q := 73) dX12_map_72 rfl ?_
  refine r_aload_n (q := 74) dX12_map_73 rfl rfl rfl ?_
  refine r_getr (q := 77) (some (1392, 0)) ck12 dX12_map_74 rfl (k := 92) (by decide) wt1370 rfl (hs2.e (by decide)) (hs2.r (by decide) (by decide)) ?_
  refine r_iconst (q := 78) (nI 3) dX12_map_77 rfl (by decide) ?_
  refine r_iload_n (q := 79) dX12_map_78 rfl rfl rfl ?_
  refine r_imulN (q := 80) dX12_map_79 rfl ?_
  refine r_iload_n (q := 81) dX12_map_80 rfl rfl rfl ?_
  refine r_iaddN (q := 82) dX12_map_81 rfl ?_
  refine r_laldN (q := 83) 6 (by decide) rfl dX12_map_82 rfl (hs2.e (by decide)) (hs2.n rfl (by decide)) (by omega) (by decide) ?_
  refine r_topl (y := gJ S56 1392 0 ((3 * m) + 1)) (by simp [gI_sI, gJ_sJ, gI_sJ, gJ_sI]) ?_
  refine r_lastN (q := 84) 6 (by decide) rfl dX12_map_83 rfl (hs2.e (by decide)) (hs2.n rfl (by decide)) (by omega) (by decide) ?_
  refine r_iincN (q := 87) (L' := [some (zr 12 0), some (zi (nI m)), some (zi (nI 2)), none, none]) 1 rfl dX12_map_84 rfl rfl (by decide) rfl ?_
  refine r_goto (q := 61) dX12_map_87 (by decide) ?_
  refine r_iload_n (q := 62) dX12_map_61 rfl rfl rfl ?_
  refine r_iconst (q := 63) (nI 3) dX12_map_62 rfl (by decide) ?_
  refine r_icmp_geN (q := 66) (t := 90) (by omega) (by omega) dX12_map_63 (by decide) rfl (fun h63 => absurd h63 (by omega)) (fun h63 => ?_)
  refine r_aload_n (q := 67) dX12_map_66 rfl rfl rfl ?_
  refine r_getr (q := 70) (some (1308, 0)) ck12 dX12_map_67 rfl (k := 8) (by decide) wt1286 rfl (hs2.e (by decide)) (hs2.r (by decide) (by decide)) ?_
  refine r_iconst (q := 71) (nI 3) dX12_map_70 rfl (by decide) ?_
  refine r_iload_n (q := 72) dX12_map_71 rfl rfl rfl ?_
  refine r_iaddN (q := 73) dX12_map_72 rfl ?_
  refine r_aload_n (q := 74) dX12_map_73 rfl rfl rfl ?_
  refine r_getr (q := 77) (some (1392, 0)) ck12 dX12_map_74 rfl (k := 92) (by decide) wt1370 rfl (hs2.e (by decide)) (hs2.r (by decide) (by decide)) ?_
  refine r_iconst (q := 78) (nI 3) dX12_map_77 rfl (by decide) ?_
  refine r_iload_n (q := 79) dX12_map_78 rfl rfl rfl ?_
  refine r_imulN (q := 80) dX12_map_79 rfl ?_
  refine r_iload_n (q := 81) dX12_map_80 rfl rfl rfl ?_
  refine r_iaddN (q := 82) dX12_map_81 rfl ?_
  refine r_laldN (q := 83) 6 (by decide) rfl dX12_map_82 rfl (hs2.e (by decide)) (hs2.n rfl (by decide)) (by omega) (by decide) ?_
  refine r_topl (y := gJ S56 1392 0 ((3 * m) + 2)) (by simp [gI_sI, gJ_sJ, gI_sJ, gJ_sI]) ?_
  refine r_lastN (q := 84) 6 (by decide) rfl dX12_map_83 rfl (hs2.e (by decide)) (hs2.n rfl (by decide)) (by omega) (by decide) ?_
  refine r_iincN (q := 87) (L' := [some (zr 12 0), some (zi (nI m)), some (zi (nI 3)), none, none]) 1 rfl dX12_map_84 rfl rfl (by decide) rfl ?_
  refine r_goto (q := 61) dX12_map_87 (by decide) ?_
  refine r_iload_n (q := 62) dX12_map_61 rfl rfl rfl ?_
  refine r_iconst (q := 63) (nI 3) dX12_map_62 rfl (by decide) ?_
  refine r_icmp_geN (q := 66) (t := 90) (by omega) (by omega) dX12_map_63 (by decide) rfl (fun h63 => ?_) (fun h63 => absurd h63 (by omega))
  refine r_aload_n (q := 91) dX12_map_90 rfl rfl rfl ?_
  refine r_iconst (q := 92) (nI 3) dX12_map_91 rfl (by decide) ?_
  refine r_puti (q := 95) ck12 dX12_map_92 rfl (k := 53) (by decide) wt1331 (Or.inl rfl) rfl (hs2.e (by decide)) ?_
  refine r_aload_n (q := 96) dX12_map_95 rfl rfl rfl ?_
  refine r_iconst (q := 97) (nI 1) dX12_map_96 rfl (by decide) ?_
  refine r_puti (q := 100) ck12 dX12_map_97 rfl (k := 54) (by decide) wt1332 (Or.inl rfl) rfl (hs2.e (by decide)) ?_
  have fz : Fr tNz S56 (sI (sI (sJ (sJ (sJ S56 1308 0 3 (gJ S56 1392 0 ((3 * m) + 0))) 1308 0 4 (gJ S56 1392 0 ((3 * m) + 1))) 1308 0 5 (gJ S56 1392 0 ((3 * m) + 2))) 12 0 53 (nI 3)) 12 0 54 (nI 1)) := ((((Fr.rf.j rfl).j rfl).j rfl).i rfl).i rfl
  have hs3 : Sd (sI (sI (sJ (sJ (sJ S56 1308 0 3 (gJ S56 1392 0 ((3 * m) + 0))) 1308 0 4 (gJ S56 1392 0 ((3 * m) + 1))) 1308 0 5 (gJ S56 1392 0 ((3 * m) + 2))) 12 0 53 (nI 3)) 12 0 54 (nI 1)) := Sd.fr (S := S56) hs2 fz
  have hv := mpS_v (S := S) (n := bs.length)
  rw [hZ] at hv
  have hvx : ∀ k, k = 2 ∨ k = 3 ∨ k = 4 ∨ k = 5 ∨ k = 13 → gI (sI (sI (sJ (sJ (sJ S56 1308 0 3 (gJ S56 1392 0 ((3 * m) + 0))) 1308 0 4 (gJ S56 1392 0 ((3 * m) + 1))) 1308 0 5 (gJ S56 1392 0 ((3 * m) + 2))) 12 0 53 (nI 3)) 12 0 54 (nI 1)) 12 0 k = gI S0 12 0 k := fun k hk => by
    have e1 : gI (sI (sI (sJ (sJ (sJ S56 1308 0 3 (gJ S56 1392 0 ((3 * m) + 0))) 1308 0 4 (gJ S56 1392 0 ((3 * m) + 1))) 1308 0 5 (gJ S56 1392 0 ((3 * m) + 2))) 12 0 53 (nI 3)) 12 0 54 (nI 1)) 12 0 k = gI S56 12 0 k := by
      obtain rfl | rfl | rfl | rfl | rfl := hk <;> simp [gI_sI, gI_sJ]
    rw [e1, fl1.1 12 0 k rfl, fo.1 12 0 k (by obtain rfl | rfl | rfl | rfl | rfl := hk <;> rfl)]
  have tx2 : Tx2 (sI (sI (sJ (sJ (sJ S56 1308 0 3 (gJ S56 1392 0 ((3 * m) + 0))) 1308 0 4 (gJ S56 1392 0 ((3 * m) + 1))) 1308 0 5 (gJ S56 1392 0 ((3 * m) + 2))) 12 0 53 (nI 3)) 12 0 54 (nI 1)) bs 400 0 := ⟨⟨fun k hk => by
    have e1 : gI (sI (sI (sJ (sJ (sJ S56 1308 0 3 (gJ S56 1392 0 ((3 * m) + 0))) 1308 0 4 (gJ S56 1392 0 ((3 * m) + 1))) 1308 0 5 (gJ S56 1392 0 ((3 * m) + 2))) 12 0 53 (nI 3)) 12 0 54 (nI 1)) 1301 0 k = gI S56 1301 0 k := by simp [gI_sI, gI_sJ]
    rw [e1, fl1.1 _ _ _ rfl, fo.1 _ _ _ rfl, ← hZ, mpS_fr.1 _ _ _ rfl]; exact hb.1 k hk, hb.2⟩, (hvx 3 (by omega)).trans hv.2.1, (hvx 5 (by omega)).trans hv.2.2.2.1, (hvx 4 (by omega)).trans hv.2.2.1⟩
  have z2 : gI (sI (sI (sJ (sJ (sJ S56 1308 0 3 (gJ S56 1392 0 ((3 * m) + 0))) 1308 0 4 (gJ S56 1392 0 ((3 * m) + 1))) 1308 0 5 (gJ S56 1392 0 ((3 * m) + 2))) 12 0 53 (nI 3)) 12 0 54 (nI 1)) 12 0 2 = nI 0 := (hvx 2 (by omega)).trans hv.1
  have z13 : gI (sI (sI (sJ (sJ (sJ S56 1308 0 3 (gJ S56 1392 0 ((3 * m) + 0))) 1308 0 4 (gJ S56 1392 0 ((3 * m) + 1))) 1308 0 5 (gJ S56 1392 0 ((3 * m) + 2))) 12 0 53 (nI 3)) 12 0 54 (nI 1)) 12 0 13 = nI 0 := (hvx 13 (by omega)).trans hv.2.2.2.2
  have z54 : gI (sI (sI (sJ (sJ (sJ S56 1308 0 3 (gJ S56 1392 0 ((3 * m) + 0))) 1308 0 4 (gJ S56 1392 0 ((3 * m) + 1))) 1308 0 5 (gJ S56 1392 0 ((3 * m) + 2))) 12 0 53 (nI 3)) 12 0 54 (nI 1)) 12 0 54 = nI 1 := by simp [gI_sI, gI_sJ]
  have z53 : gI (sI (sI (sJ (sJ (sJ S56 1308 0 3 (gJ S56 1392 0 ((3 * m) + 0))) 1308 0 4 (gJ S56 1392 0 ((3 * m) + 1))) 1308 0 5 (gJ S56 1392 0 ((3 * m) + 2))) 12 0 53 (nI 3)) 12 0 54 (nI 1)) 12 0 53 = nI 3 := by simp [gI_sI, gI_sJ]
  have zj : ∀ a, a < 3 → gJ (sI (sI (sJ (sJ (sJ S56 1308 0 3 (gJ S56 1392 0 ((3 * m) + 0))) 1308 0 4 (gJ S56 1392 0 ((3 * m) + 1))) 1308 0 5 (gJ S56 1392 0 ((3 * m) + 2))) 12 0 53 (nI 3)) 12 0 54 (nI 1)) 1308 0 (3 + a) = gJ S56 1392 0 (3 * m + a) := fun a ha => by
    obtain rfl | rfl | rfl : a = 0 ∨ a = 1 ∨ a = 2 := by omega
    all_goals simp [gJ_sI, gJ_sJ]
  refine r_aload_n (q := 101) dX12_map_100 rfl rfl rfl ?_
  refine r_callV (Mc := mX12_next) (q := 104) (As := []) (st := []) ck12 dX12_map_101 rfl rfl mkX12_next wt1573 wt1575 wp70 rfl (Nat.le_of_ble_eq_true rfl) (Nat.le_of_ble_eq_true rfl) (by decide) (by decide) (by decide) (Or.inl rfl) (hs3.e (by decide)) (ok_X12_next (S := sI (sI (sJ (sJ (sJ S56 1308 0 3 (gJ S56 1392 0 ((3 * m) + 0))) 1308 0 4 (gJ S56 1392 0 ((3 * m) + 1))) 1308 0 5 (gJ S56 1392 0 ((3 * m) + 2))) 12 0 53 (nI 3)) 12 0 54 (nI 1)) hs3 (p := 0) hbl tx2 (show 400 ≤ 940 by omega) (by omega)) (fun r101 S101 hp101 => ?_)
  obtain ⟨rfl, fn, hrr⟩ := hp101
  have hs4 := hs3.fr fn
  have f24 : Fr tBe S56 S101 := (fz.mono tBe_nz).tr (fn.mono tBe_nx)
  have f14 : Fr tBe S51 S101 := (fl1.mono tBe_ld).tr f24
  have g1322 : ∀ k, gI S101 1322 0 k = gI S56 1322 0 k := fun k => (fn.1 _ _ _ rfl).trans (fz.1 _ _ _ rfl)
  have gR : Rr S101 bs 400 (lexA bs 400 0) := hrr
  have gWow : Wow S101 (wA W) (wn W) (we W) := ⟨(f14.1 _ _ _ (tBe_1306 _)).trans ((fo.1 _ _ _ rfl).trans hR0.2.1), fun a ha => ⟨(f14.1 _ _ _ (tBe_1306 _)).trans ((fo.1 _ _ _ rfl).trans (hR0.2.2.2.1 a ha).1), (f14.2.1 _ _ _ (tBe_1308 _ (by have := hW.2.1.1; omega))).trans ((fo.2.1 _ _ _ rfl).trans ((by rw [← hZ]; exact mpS_fr.2.1 _ _ _ rfl : gJ S0 1308 0 a = gJ S 1308 0 a).trans (hR.2.2.2.1 a ha).2))⟩⟩
  have gWm : Wm S101 1 3 (wA Wk) (wn Wk) (we Wk) := ⟨(fn.1 _ _ _ rfl).trans z54, (fn.1 _ _ _ rfl).trans z53, (g1322 _).trans hRk2.2.1, fun a ha => ⟨(g1322 _).trans (by rw [show 1173 * 1 + 4 + a = 1173 * 1 + (4 + a) by omega]; exact (hRk2.2.2.2.1 a ha).1), (fn.2.1 _ _ _ rfl).trans ((zj a (by have := hK.2.1.1; omega)).trans ((gJk _).trans (hRk2.2.2.2.1 a ha).2))⟩⟩
  have gP : gI S101 1322 0 1173 = nI (wP Wk) := (g1322 _).trans hRk2.1
  have g13 : gI S101 12 0 13 = nI 0 := (fn.1 _ _ _ rfl).trans z13
  have g2 : gI S101 12 0 2 = nI 0 := (fn.1 _ _ _ rfl).trans z2
  show Ok _ _ _ [] _ _
  refine r_aload_n (q := 105) dX12_map_104 rfl rfl rfl ?_
  refine r_callV (Mc := mX12_readMap) (q := 108) (As := []) (st := []) ck12 dX12_map_105 rfl rfl mkX12_readMap wt1948 wt1950 wp135 rfl (Nat.le_of_ble_eq_true rfl) (Nat.le_of_ble_eq_true rfl) (by decide) (by decide) (by decide) (Or.inl rfl) (hs4.e (by decide)) (ok_readMapR hs4 hbl (show 400 ≤ 940 by omega) gR (lex_tks hb.2 hbl) (lex_lk _ _) hlen hW.2.1 hK.2.1 (wn_lt hW) (wn_lt hK) gWow gWm hK.1.1 hK.1.2.1 gP) (fun r105 S105 hp105 => ?_)
  unfold mapQ at hq
  rw [hq] at hp105
  obtain ⟨rfl, fr5, r2, r3⟩ := hp105
  have hs5 := hs4.fr fr5
  have f15 : Fr tBe S51 S105 := f14.tr (fr5.mono tBe_mr)
  have g5 : ∀ k, gI S105 1322 0 k = gI S56 1322 0 k := fun k => (fr5.1 _ _ _ rfl).trans (g1322 k)
  obtain ⟨q1, q2, q3⟩ := mapQ_ok hW hK hb.2 hbl (im := im) hq
  show Ok _ _ _ [zi (nI 1)] _ _
  refine r_if_neN (q := 111) (t := 118) (by omega) dX12_map_108 (by decide) rfl (fun h108 => ?_) (fun h108 => absurd h108 (by omega))
  refine r_aload_n (q := 119) dX12_map_118 rfl rfl rfl ?_
  refine r_iconst (q := 120) (nI 1) dX12_map_119 rfl (by decide) ?_
  refine r_callV (Mc := mX12_totals) (q := 123) (As := [zi (nI 1)]) (st := []) ck12 dX12_map_120 rfl rfl mkX12_totals wt1690 wt1692 wp91 rfl (Nat.le_of_ble_eq_true rfl) (Nat.le_of_ble_eq_true rfl) (by decide) (by decide) (by decide) (Or.inl rfl) (hs5.e (by decide)) (ok_totals_q (q := 1) hs5 (by decide) hK.2.1 ⟨(g5 _).trans hRk2.2.1, fun a ha => (g5 _).trans (by rw [show 1173 * 1 + 4 + a = 1173 * 1 + (4 + a) by omega]; exact (hRk2.2.2.2.1 a ha).1)⟩) (fun r120 S120 hp120 => ?_)
  obtain ⟨rfl, ft, hTt⟩ := hp120
  have hs6 := hs5.fr ft
  have f16 : Fr tBe S51 S120 := f15.tr (ft.mono tBe_tq)
  have hR6 : wqR W (fun k => gI S120 1306 0 k) (fun i => gJ S 1308 0 i) := (hR0.frk fo (fun _ => rfl)).frk f16 tBe_1306
  show Ok _ _ _ [] _ _
  refine r_iconst (q := 124) (nI 1) dX12_map_123 rfl (by decide) ?_
  refine r_istore_n (q := 125) (L' := [some (zr 12 0), some (zi (nI m)), some (zi (nI 1)), none, none]) dX12_map_124 rfl rfl (by decide) rfl ?_
  refine r_iconst (q := 126) (nI 0) dX12_map_125 rfl (by decide) ?_
  refine r_istore_n (q := 127) (L' := [some (zr 12 0), some (zi (nI m)), some (zi (nI 1)), some (zi (nI 0)), none]) dX12_map_126 rfl rfl (by decide) rfl ?_
  have tc1 : tc Wk 1 ≤ 300 := by
    have := tl_le1 hK.2.1
    rw [tl_len hK.2.1] at this
    omega
  refine lp_mp127 hW hK (wL W) 0 1 S120 (by omega) hs6 hR6 hTt (by omega) (by omega) tc1 (fun i hi => absurd hi (by omega)) (fun S7 mo hG f7 mo1 mo7 mo3 hlm => ?_) (fun S7 hG f7 => ?_)
  · have hs7 := hs6.fr f7
    have f17 : Fr tBe S51 S7 := f16.tr (f7.mono tBe_ig)
    have g7 : ∀ k, gI S7 1322 0 k = gI S56 1322 0 k := fun k => (f7.1 _ _ _ rfl).trans ((ft.1 _ _ _ rfl).trans (g5 k))
    have hws7 : WS S7 Wk 1 := WS.of hK (wqR.cong hK (fun k _ _ => (g7 _).symm) (fun _ _ => rfl) hRk2)
    have hl7 : gI S7 1323 0 1 = nI 0 := (f7.1 _ _ _ rfl).trans ((ft.1 _ _ _ rfl).trans ((fr5.1 _ _ _ rfl).trans ((fn.1 _ _ _ rfl).trans ((fz.1 _ _ _ rfl).trans hl0))))
    refine r_aload_n (q := 183) dX12_map_182 rfl rfl rfl ?_
    refine r_iconst (q := 184) (nI 1) dX12_map_183 rfl (by decide) ?_
    refine r_iload_n (q := 185) dX12_map_184 rfl rfl rfl ?_
    refine r_callV (Mc := mX12_settle) (q := 188) (As := [zi (nI 1), zi (nI mo)]) (st := []) ck12 dX12_map_185 rfl rfl mkX12_settle wt1756 wt1758 wp100 rfl (Nat.le_of_ble_eq_true rfl) (Nat.le_of_ble_eq_true rfl) (by decide) (by decide) (by decide) (Or.inl rfl) (hs7.e (by decide)) (ok_settle hK (q := 1) (by decide) mo7 (fun k hk => tc_down hK.2.1 mo7 mo3 hk) hs7 hws7 (fun z => (hIo.be f17) _ hK.1.1 hK.1.2.1 z) (RB.zero hl7)) (fun r185 S185 hp185 => ?_)
    obtain ⟨rfl, f8, ⟨i1, i2⟩, L8, pv8, bs8, hB8, hmo, -⟩ := hp185
    have hs8 := hs7.fr f8
    have f18 : Fr tAf S51 S185 := (f17.mono tBe_af).tr (f8.mono tAf_se)
    show Ok _ _ _ [] _ _
    refine r_iconst (q := 189) (nI 0) dX12_map_188 rfl (by decide) ?_
    refine r_istore_n (q := 190) (L' := [some (zr 12 0), some (zi (nI m)), some (zi (nI mo)), some (zi (nI 0)), none]) dX12_map_189 rfl rfl (by decide) rfl ?_
    refine r_aload_n (q := 191) dX12_map_190 rfl rfl rfl ?_
    refine r_iconst (q := 192) ((-1 : Int32)) dX12_map_191 rfl (by decide) ?_
    refine r_puti (q := 195) ck12 dX12_map_192 rfl (k := 82) (by decide) wt1360 (Or.inl rfl) rfl (hs8.e (by decide)) ?_
    refine r_iconst (q := 196) (nI 0) dX12_map_195 rfl (by decide) ?_
    refine r_istore (q := 198) (L' := [some (zr 12 0), some (zi (nI m)), some (zi (nI mo)), some (zi (nI 0)), some (zi (nI 0))]) dX12_map_196 rfl (by decide) rfl ?_
    have f9 : Fr tAf S185 (sI S185 12 0 82 (-1 : Int32)) := Fr.rf.i tAf_82
    have hs9 : Sd (sI S185 12 0 82 (-1 : Int32)) := hs8.fr f9
    have f19 : Fr tAf S51 (sI S185 12 0 82 (-1 : Int32)) := f18.tr f9
    have hI8 : IvI S185 := IvI.of hK.1.2.1 i1 i2
    have hI9 : IvI (sI S185 12 0 82 (-1 : Int32)) := fun P a b c => by
      have h := hI8 P a b (by rw [gI_sI, if_neg (by omega)] at c; exact c)
      exact fun x x1 x2 => by
        obtain ⟨y, y1, y2⟩ := h x x1 x2
        exact ⟨y, by rw [gI_sI, if_neg (by omega)]; exact y1, y2⟩
    have g1370 : ∀ a k, a = 1370 ∨ a = 1371 ∨ a = 1372 → gI (sI S185 12 0 82 (-1 : Int32)) a 0 k = gI S105 a 0 k := fun a k ha => by
      rw [gI_sI, if_neg (by omega), f8.1 _ _ _ (bfalse fun z => by simp [tSe, tTq, tPt, tPa, tIv] at z; omega), f7.1 _ _ _ (bfalse fun z => by simp [tIg] at z; omega), ft.1 _ _ _ (bfalse fun z => by simp [tTq] at z; omega)]
    have h13 : gI (sI S185 12 0 82 (-1 : Int32)) 12 0 13 = nI 0 := by rw [gI_sI, if_neg (by omega), f8.1 _ _ _ rfl, f7.1 _ _ _ rfl, ft.1 _ _ _ rfl, r2]; exact g13
    have h02 : gI (sI S185 12 0 82 (-1 : Int32)) 12 0 2 = nI 0 := by rw [gI_sI, if_neg (by omega), f8.1 _ _ _ rfl, f7.1 _ _ _ rfl, ft.1 _ _ _ rfl, fr5.1 _ _ _ rfl]; exact g2
    refine r_locs (L1 := [some (zr 12 0), some (zi (nI m)), some (zi (nI mo)), some (zi (nI (cntK (kpB W Wk (imf im)) 0))), some (zi (nI 0))]) rfl ?_
    refine Ok.mono (lp_mp198 hW hK q1 q2 hPP.symm hmo hlm (wL W) 0 (sI S185 12 0 82 (-1 : Int32)) (by omega) hs9 ((hws7.fr f8 (fun _ => rfl)).fr (U := fun a b k => a == 12 && b == 0 && k == 82) (Fr.rf.i rfl) (fun _ => rfl)) (hB8.fr hK.2.1 (by decide) (U := fun a b k => a == 12 && b == 0 && k == 82) (Fr.rf.i rfl) rfl rfl (fun s a b => ⟨rfl, rfl, rfl, rfl⟩) (fun k a b => ⟨rfl, rfl, rfl⟩) (fun k a b => rfl) (fun i a b => rfl)) (fun a ha => ?_) (((hR0.frk fo (fun _ => rfl))).frk f19 tAf_1306) (Or.inl ⟨by rw [gI_sI, if_pos ⟨rfl, rfl, rfl⟩], fun l l1 l2 => absurd l2 (by omega)⟩)) (fun r S10 z => ?_)
    · have h := r3 a _ (by have := hW.2.1.1; omega) (q3 a ha)
      exact ⟨(g1370 _ _ (by omega)).trans h.1, fun k hk => ⟨(g1370 _ _ (by omega)).trans (h.2 k hk).1, (g1370 _ _ (by omega)).trans (h.2 k hk).2⟩⟩
    · obtain ⟨z1, z2, z3⟩ := z
      have f110 : Fr tAf S51 S10 := f19.tr (z2.mono fun a b k y => by
        simp only [Bool.or_eq_true, Bool.and_eq_true, beq_iff_eq] at y
        rcases y with y | y
        · exact tAf_ke a b k y
        · rw [y.1.1, y.1.2, y.2]; exact tAf_82)
      exact ⟨⟨((by rw [← hZ]; exact mpS_fr.mono fun a b k y => by simp [y] : Fr (fun a b k => tM2 a b k || tOw a b k || tAf a b k) S S0).tr (fo.mono fun a b k y => by simp [y])).tr (f110.mono fun a b k y => by simp [y]), hOo.af f110, fun _ => ⟨L0, pv0, bs0, hBo.af hW.2.1 f110⟩, hI9.fr z2 ⟨rfl, fun _ => rfl⟩, (z2.1 _ _ _ rfl).trans h02⟩, (z2.1 _ _ _ rfl).trans h13, Or.inr ⟨hG, z1, z3⟩⟩
  · have f17 : Fr tBe S51 S7 := f16.tr (f7.mono tBe_ig)
    have e82 : gI S7 12 0 82 = gI S 12 0 82 := by rw [f7.1 _ _ _ rfl, ft.1 _ _ _ rfl, fr5.1 _ _ _ rfl, fn.1 _ _ _ rfl, show gI _ 12 0 82 = gI S56 12 0 82 from by simp [gI_sI, gI_sJ], fl1.1 _ _ _ rfl, fo.1 _ _ _ rfl, ← hZ, mpS_fr.1 _ _ _ rfl]
    exact ⟨⟨((by rw [← hZ]; exact mpS_fr.mono fun a b k y => by simp [y] : Fr (fun a b k => tM2 a b k || tOw a b k || tAf a b k) S S0).tr (fo.mono fun a b k y => by simp [y])).tr (f17.mono fun a b k y => by simp [tBe_af a b k y]), hOo.af (f17.mono tBe_af), fun _ => ⟨L0, pv0, bs0, hBo.af hW.2.1 (f17.mono tBe_af)⟩, hIo.be f17, by rw [f7.1 _ _ _ rfl, ft.1 _ _ _ rfl, fr5.1 _ _ _ rfl]; exact g2⟩, by rw [f7.1 _ _ _ rfl, ft.1 _ _ _ rfl, r2]; exact g13, Or.inl ⟨hG, rfl, e82⟩⟩

