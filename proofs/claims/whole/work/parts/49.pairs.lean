theorem WR.c {S : zS} {W : zWd} {c : Nat} (h : WR wq S W c 1306 0 1308 0) : Wok W ∧ wqC W (fun a k => gI S a c k) (fun a k => gJ S a c k) ∧ wqR W (fun k => gI S 1306 0 k) (fun i => gJ S 1308 0 i) := by
  unfold WR wq at h
  simp only [Nat.zero_add] at h
  exact h
def Fa (y : Int32) : Prop := (-999 : Int32) ≤ y ∧ y ≤ 999
theorem Fa.int {y : Int32} (h : Fa y) : -1000 < y.toInt ∧ y.toInt < 1000 := by
  have h1 := Int32.le_iff_toInt_le.mp h.1
  have h2 := Int32.le_iff_toInt_le.mp h.2
  have e1 : (-999 : Int32).toInt = -999 := by decide
  have e2 : (999 : Int32).toInt = 999 := by decide
  omega
theorem ty_nil {S : zS} (hT : TLs S) {n : Int32} : Ty (sI (sI S 8 11 0 n) 8 11 1 (nI 0)) 11 [] := by
  obtain ⟨m, e, h1, h2, h3, h4, h5, h6⟩ := hT 11 (by omega)
  exact ⟨by rw [gI_sI, if_pos ⟨rfl, rfl, rfl⟩]; rfl, fun k hk => absurd hk (by simp), m, h1, h2, h3, h4, by simp⟩
theorem ce_nil {A : Nat} {e : Nat → Nat} {P n : Nat} : Ce A e P n [] := ⟨⟨List.Pairwise.nil, fun p hp => absurd hp List.not_mem_nil⟩, fun p hp => absurd hp List.not_mem_nil⟩
theorem fg_clear {S : zS} (hs : Sd S) {n : Int32} : Fg tMd S (sI (sI S 8 11 0 n) 8 11 1 (nI 0)) := Fg.of22 hs rfl (fun a b k _ hz => by rw [gI_sI, if_neg (fun z => hz (by unfold tMd; omega)), gI_sI, if_neg (fun z => hz (by unfold tMd; omega))]) (fun _ _ _ _ _ => rfl)
theorem tTy_md (a b k : Nat) (h : tTy 11 a b k) : tMd a b k := by unfold tTy at h; unfold tMd; omega
theorem sm_puts {W : zWd} (hW : Wok W) {lv b : Nat} {r l : List zT} (h1 : 1 ≤ lv) (h7 : lv ≤ 7) {U : List (List Nat)} (hU : Uok W lv U) (hr : Re (wA W) (we W) (wP W) lv r) (hrU : ∀ p, p ∈ r → p.1 ∈ U) (hl : ∀ p, p ∈ l → Tr (wA W) (we W) lv p.1) (hlU : ∀ p, p ∈ l → p.1 ∈ U) : Sm W lv (cl (adds (wP W) b r l)) :=
  ⟨h1, h7, (Re.adds hW.2.1 (by have := hW.1.1; omega) h7 hr hl).cl, U, hU, fun p hp => mem_adds hrU hlU p (mem_cl hp)⟩
theorem tls_md {T : Nat → Nat → Nat → Prop} {S S1 : zS} {c : List zT} (hT : TLs S) (hf : Fg T S S1) (ht : ∀ j k, j ≠ 11 → j < 19 → ¬ T 8 j 1 ∧ ¬ T 902 j k ∧ ¬ T 903 j k) (hc : Ty S1 11 c) : TLs S1 := hT.fg hf fun j hj => by
  by_cases h : j = 11
  · subst h; exact Or.inr hc.tl
  · exact Or.inl fun k => ht j k h hj

set_option maxRecDepth 100000 in
theorem ok_X11_isFactor_in {S : zS} {y : Int32} (h : Fa y) : Ok mX11_isFactor 0 (ent 1 [zi y]) [] S (fun r S1 => r = some (zi (nI 1)) ∧ S1 = S) := by
  show Ok mX11_isFactor 0 [some (zi y)] [] S _
  refine r_iload_n (q := 1) dX11_isFactor_0 rfl rfl rfl ?_
  refine r_sipush (q := 4) ((-999 : Int32)) dX11_isFactor_1 rfl (by decide) ?_
  refine r_icmp_lt (q := 7) (t := 18) dX11_isFactor_4 (by decide) rfl (fun h4 => absurd h4 (Int32.not_lt.mpr h.1)) (fun h4 => ?_)
  refine r_iload_n (q := 8) dX11_isFactor_7 rfl rfl rfl ?_
  refine r_sipush (q := 11) (nI 999) dX11_isFactor_8 rfl (by decide) ?_
  refine r_icmp_gt (q := 14) (t := 18) dX11_isFactor_11 (by decide) rfl (fun h11 => absurd h11 (Int32.not_lt.mpr h.2)) (fun h11 => ?_)
  refine r_iconst (q := 15) (nI 1) dX11_isFactor_14 rfl (by decide) ?_
  refine r_goto (q := 19) dX11_isFactor_15 (by decide) ?_
  refine r_zreturn (by decide) dX11_isFactor_19 rfl ?_
  exact ⟨rfl, rfl⟩

set_option maxRecDepth 100000 in
theorem ok_X11_isFactor_out {S : zS} {y : Int32} (h : ¬ Fa y) : Ok mX11_isFactor 0 (ent 1 [zi y]) [] S (fun r S1 => r = some (zi (nI 0)) ∧ S1 = S) := by
  show Ok mX11_isFactor 0 [some (zi y)] [] S _
  refine r_iload_n (q := 1) dX11_isFactor_0 rfl rfl rfl ?_
  refine r_sipush (q := 4) ((-999 : Int32)) dX11_isFactor_1 rfl (by decide) ?_
  refine r_icmp_lt (q := 7) (t := 18) dX11_isFactor_4 (by decide) rfl (fun h4 => ?_) (fun h4 => ?_)
  · skip
    refine r_iconst (q := 19) (nI 0) dX11_isFactor_18 rfl (by decide) ?_
    refine r_zreturn (by decide) dX11_isFactor_19 rfl ?_
    exact ⟨rfl, rfl⟩
  · skip
    refine r_iload_n (q := 8) dX11_isFactor_7 rfl rfl rfl ?_
    refine r_sipush (q := 11) (nI 999) dX11_isFactor_8 rfl (by decide) ?_
    refine r_icmp_gt (q := 14) (t := 18) dX11_isFactor_11 (by decide) rfl (fun h11 => ?_) (fun h11 => ?_)
    · skip
      refine r_iconst (q := 19) (nI 0) dX11_isFactor_18 rfl (by decide) ?_
      refine r_zreturn (by decide) dX11_isFactor_19 rfl ?_
      exact ⟨rfl, rfl⟩
    · skip
      refine r_iconst (q := 15) (nI 1) dX11_isFactor_14 rfl (by decide) ?_
      refine r_goto (q := 19) dX11_isFactor_15 (by decide) ?_
      refine r_zreturn (by decide) dX11_isFactor_19 rfl ?_
      exact absurd ⟨Int32.not_lt.mp h4, Int32.not_lt.mp h11⟩ h

set_option maxRecDepth 100000 in
theorem ok_X12_isIn_i {S : zS} {y lo hi : Int32} (h : lo ≤ y ∧ y ≤ hi) : Ok mX12_isIn 0 (ent 3 [zi y, zi lo, zi hi]) [] S (fun r S1 => r = some (zi (nI 1)) ∧ S1 = S) := by
  show Ok mX12_isIn 0 [some (zi y), some (zi lo), some (zi hi)] [] S _
  refine r_iload_n (q := 1) dX12_isIn_0 rfl rfl rfl ?_
  refine r_iload_n (q := 2) dX12_isIn_1 rfl rfl rfl ?_
  refine r_icmp_lt (q := 5) (t := 14) dX12_isIn_2 (by decide) rfl (fun h2 => absurd h2 (Int32.not_lt.mpr h.1)) (fun h2 => ?_)
  refine r_iload_n (q := 6) dX12_isIn_5 rfl rfl rfl ?_
  refine r_iload_n (q := 7) dX12_isIn_6 rfl rfl rfl ?_
  refine r_icmp_gt (q := 10) (t := 14) dX12_isIn_7 (by decide) rfl (fun h7 => absurd h7 (Int32.not_lt.mpr h.2)) (fun h7 => ?_)
  refine r_iconst (q := 11) (nI 1) dX12_isIn_10 rfl (by decide) ?_
  refine r_goto (q := 15) dX12_isIn_11 (by decide) ?_
  refine r_zreturn (by decide) dX12_isIn_15 rfl ?_
  exact ⟨rfl, rfl⟩

set_option maxRecDepth 100000 in
theorem cm_times {S : zS} (hs : Sd S) {W : zWd} {cc : Nat} (hcc : gI S 11 0 3 = nI cc) (hc4 : cc < 4) (hw : WR wq S W cc 1306 0 1308 0) {h q : Nat} (hP : Pst sq S W h q) (hA : SR sq S W 0 1306 1173) (hT : TLs S) (hO : Cw S) {lv : Nat} {c : List zT} (hW : Wok W) (hC : wqC W (fun a k => gI S a cc k) (fun a k => gJ S a cc k)) (hS : Sm W lv c) (l1 : gI S 8 0 0 = nI lv) (hty : Ty S 0 c) {y : Int32} (hy : Fa y) : Ok mX11_times 0 (ent 2 [zr 11 0, zi y]) [] S (fun r S3 => r = some (zi (nI (cl (adds (wP W) (rsN y (wP W)) [] c)).length)) ∧ Fg (fun a b k => tMd a b k ∨ tKp a b k) S S3 ∧ ∀ T, Fg tRef S3 T → Rz T (cl (adds (wP W) (rsN y (wP W)) [] c)) → gI T 12 0 48 = nI lv → Ok mX12_keepSum 0 (ent 2 [zr 12 0]) [] T (fun r S4 => r = some (zi (nI (cl (adds (wP W) (rsN y (wP W)) [] c)).length)) ∧ Fg tKs T S4 ∧ SR sq S4 W 0 1306 1173 ∧ Pst sq S4 W (min 8 (h + 1)) ((q + 1) % 8) ∧ TLs S4)) := by
  obtain ⟨U, hU, hcU⟩ := hS.2.2.2
  have hP2 := hW.1.1
  have hSm : Sm W lv (cl (adds (wP W) (rsN y (wP W)) [] c)) := sm_puts hW hS.1 hS.2.1 hU ce_nil.1 (fun p hp => absurd hp List.not_mem_nil) (fun p hp => (hS.2.2.1.1.2 p hp).1) hcU
  show Ok mX11_times 0 [some (zr 11 0), some (zi y)] [] S _
  refine r_iload_n (q := 1) dX11_times_0 rfl rfl rfl ?_
  refine r_callS (Mc := mX11_isFactor) (q := 4) (As := [zi y]) (st := []) dX11_times_1 rfl rfl mkX11_isFactor wt955 wt956 rfl (Nat.le_of_ble_eq_true rfl) (Nat.le_of_ble_eq_true rfl) (by decide) (by decide) (by decide) (Or.inl rfl) hs.some (ok_X11_isFactor_in hy) (fun r1 S1 hp1 => ?_)
  obtain ⟨rfl, hq1⟩ := hp1
  rw [hq1]
  show Ok _ _ _ [zi (nI 1)] _ _
  refine r_if_neN (q := 7) (t := 9) (by omega) dX11_times_4 (by decide) rfl (fun h4 => ?_) (fun h4 => absurd h4 (by omega))
  refine r_aload_n (q := 10) dX11_times_9 rfl rfl rfl ?_
  refine r_getr (q := 13) (some (8, 11)) ck11 dX11_times_10 rfl (k := 12) (by decide) wt434 rfl (hs.e (by decide)) (hs.r (by decide) (by decide)) ?_
  refine r_aload_n (q := 14) dX11_times_13 rfl rfl rfl ?_
  refine r_getr (q := 17) (some (8, 0)) ck11 dX11_times_14 rfl (k := 7) (by decide) wt429 rfl (hs.e (by decide)) (hs.r (by decide) (by decide)) ?_
  refine r_geti (q := 20) ck8 dX11_times_17 rfl (k := 0) (by decide) wt60 (Or.inl rfl) (hs.e (by decide)) ?_
  refine r_topi (y := nI lv) l1 ?_
  refine r_callV (Mc := mX8_clear) (q := 23) (As := [zi (nI lv)]) (st := []) ck8 dX11_times_20 rfl rfl mkX8_clear wt669 wt603 wt604 rfl (Nat.le_of_ble_eq_true rfl) (Nat.le_of_ble_eq_true rfl) (by decide) (by decide) (by decide) (Or.inl rfl) (hs.e (by decide)) (ok_X8_clear hs (show 11 < 19 by omega) (nI lv)) (fun r20 S20 hp20 => ?_)
  obtain ⟨rfl, hq20⟩ := hp20
  rw [hq20]
  show Ok _ _ _ [] _ _
  refine r_aload_n (q := 24) dX11_times_23 rfl rfl rfl ?_
  refine r_getr (q := 27) (some (8, 11)) ck11 dX11_times_24 rfl (k := 12) (by decide) wt434 rfl (hs.e (by decide)) (hs.r (by decide) (by decide)) ?_
  refine r_aload_n (q := 28) dX11_times_27 rfl rfl rfl ?_
  refine r_getr (q := 31) (some (8, 0)) ck11 dX11_times_28 rfl (k := 7) (by decide) wt429 rfl (hs.e (by decide)) (hs.r (by decide) (by decide)) ?_
  refine r_iload_n (q := 32) dX11_times_31 rfl rfl rfl ?_
  refine r_aload_n (q := 33) dX11_times_32 rfl rfl rfl ?_
  refine r_callV (Mc := mX11_worldHere) (q := 36) (As := []) (st := [zi y, zr 8 0, zr 8 11]) ck11 dX11_times_33 rfl rfl mkX11_worldHere wt678 wt680 wp20 rfl (Nat.le_of_ble_eq_true rfl) (Nat.le_of_ble_eq_true rfl) (by decide) (by decide) (by decide) (Or.inl rfl) (hs.e (by decide)) (ok_X11_worldHere (S := sI (sI S 8 11 0 (nI lv)) 8 11 1 (nI 0)) hs (by rw [gI_sI, if_neg (by omega), gI_sI, if_neg (by omega)]; exact hcc) hc4) (fun r33 S33 hp33 => ?_)
  obtain ⟨rfl, hq33⟩ := hp33
  rw [hq33]
  show Ok _ _ _ [zr 9 cc, zi y, zr 8 0, zr 8 11] _ _
  refine r_geti (q := 39) ck9 dX11_times_36 rfl (k := 0) (by decide) wt295 (Or.inl rfl) (hs.e (show cc < 4 by omega)) ?_
  refine r_topi (y := nI (wP W)) (by rw [gI_sI, if_neg (by omega), gI_sI, if_neg (by omega)]; exact hC.1) ?_
  refine r_callV (Mc := mX8_putAll) (q := 42) (As := [zr 8 0, zi y, zi (nI (wP W))]) (st := []) ck8 dX11_times_39 rfl rfl mkX8_putAll wt958 wt959 wt960 rfl (Nat.le_of_ble_eq_true rfl) (Nat.le_of_ble_eq_true rfl) (by decide) (by decide) (by decide) (Or.inr ⟨Nat.le_of_ble_eq_true rfl, rfl, rfl⟩) (hs.e (by decide)) (ok_X8_putAll (S := sI (sI S 8 11 0 (nI lv)) 8 11 1 (nI 0)) hs hW.2.1 hS.2.1 hW.1.1 hW.1.2.1 hy.int rfl hU.1 (show 11 < 19 by omega) (show 0 < 19 by omega) (by omega) (fun p hp => hS.2.2.1.1.2 p hp) hcU ⟨by rw [gI_sI, if_neg (by omega), gI_sI, if_neg (by omega)]; exact hty.1, fun k hk => by rw [gI_sI, if_neg (by omega), gI_sI, if_neg (by omega), gI_sI, if_neg (by omega), gI_sI, if_neg (by omega)]; exact hty.2.1 k hk, hty.2.2⟩ (ty_nil hT) ce_nil (fun p hp => absurd hp List.not_mem_nil)) (fun r39 S39 hp39 => ?_)
  obtain ⟨rfl, f1, f2⟩ := hp39
  rw [show ([] : List zT) = cl [] from rfl, puts_adds hW.2.1 (by omega) hS.2.1 ce_nil.1 (fun p hp => (hS.2.2.1.1.2 p hp).1)] at f2
  have f3 := (fg_clear hs (n := nI lv)).tr (f1.mono tTy_md)
  show Ok _ _ _ [] _ _
  refine r_aload_n (q := 43) dX11_times_42 rfl rfl rfl ?_
  refine r_callV (Mc := mX11_keepMade) (q := 46) (As := []) (st := []) ck11 dX11_times_43 rfl rfl mkX11_keepMade wt703 wt705 wp21 rfl (Nat.le_of_ble_eq_true rfl) (Nat.le_of_ble_eq_true rfl) (by decide) (by decide) (by decide) (Or.inr ⟨Nat.le_of_ble_eq_true rfl, rfl, rfl⟩) (f1.sd.e (by decide)) (keep2 hP hA hT f3 (fun j k h1 h2 => by unfold tMd; omega) (by unfold tMd; omega) (fun k => by unfold tMd; omega) (tls_md hT f3 (fun j k h1 h2 => by unfold tMd; omega) f2) f2 (by rw [f1.I (by omega) (by unfold tTy; omega), gI_sI, if_neg (by omega), gI_sI, if_pos ⟨rfl, rfl, rfl⟩]) hSm) (fun r43 S43 hp43 => ?_)
  obtain ⟨rfl, k43, kk43⟩ := hp43
  show Ok _ _ _ [zi (nI ((cl (adds (wP W) (rsN y (wP W)) [] c)).length))] _ _
  refine r_ireturn dX11_times_46 rfl ?_
  exact ⟨rfl, (f3.mono fun _ _ _ z => Or.inl z).tr (k43.mono fun _ _ _ z => Or.inr z), kk43⟩

theorem OwS.fr {S T T1 : zS} (h : OwS S T) (f : Fr tAT T T1) : OwS S T1 := by
  have e1 : gI T1 12 0 33 = gI T 12 0 33 := f.1 _ _ _ rfl
  have e2 : ∀ k, gI T1 1322 0 k = gI T 1322 0 k := fun k => f.1 _ _ _ rfl
  have e3 : gI T1 1323 0 0 = gI T 1323 0 0 := f.1 _ _ _ rfl
  rcases h with ⟨h1, h2, h3, h4⟩ | ⟨h1, h2, h3, h4⟩
  · exact Or.inl ⟨h1, e1.trans h2, fun k hk => (e2 k).trans (h3 k hk), e3.trans h4⟩
  · exact Or.inr ⟨h1, e1.trans h2, e3.trans h3, fun k hk => (e2 k).trans (h4 k hk)⟩

set_option maxRecDepth 100000 in
theorem rm_times {S : zS} (hs : Sd S) {W : zWd} {lv : Nat} {c : List zT} {Po : Option zV → zS → Prop} (hO : Cw S) (hW : Wok W) (hR : wqR W (fun k => gI S 1306 0 k) (fun i => gJ S 1308 0 i)) (hS : Sm W lv c) (l2 : gI S 1306 0 1173 = nI lv) (hr : Hr S (wP W) c) {y : Int32} (hy : Fa y) (Kp : ∀ T, Fg tRef S T → Rz T (cl (adds (wP W) (rsN y (wP W)) [] c)) → gI T 12 0 48 = nI lv → OwS S T → Ok mX12_keepSum 0 (ent 2 [zr 12 0]) [] T (fun r S4 => r = some (zi (nI (cl (adds (wP W) (rsN y (wP W)) [] c)).length)) ∧ Po (some (zi (nI (cl (adds (wP W) (rsN y (wP W)) [] c)).length))) S4)) : Ok mX12_times 0 (ent 2 [zr 12 0, zi y]) [] S Po := by
  obtain ⟨U, hU, hcU⟩ := hS.2.2.2
  have hP2 := hW.1.1
  have hP97 := hW.1.2.1
  have hU1 := hU.1
  have hlt := rsN_lt (x := y) (P := wP W) (by omega)
  have hre : Re (wA W) (we W) (wP W) lv (adds (wP W) (rsN y (wP W)) [] c) := Re.adds hW.2.1 (by omega) hS.2.1 ce_nil.1 (fun p hp => (hS.2.2.1.1.2 p hp).1)
  show Ok mX12_times 0 [some (zr 12 0), some (zi y)] [] S _
  refine r_aload_n (q := 1) dX12_times_0 rfl rfl rfl ?_
  refine r_iconst (q := 2) (nI 0) dX12_times_1 rfl (by decide) ?_
  refine r_puti (q := 5) ck12 dX12_times_2 rfl (k := 0) (by decide) wt1278 (Or.inl rfl) rfl (hs.e (by decide)) ?_
  refine r_iload_n (q := 6) dX12_times_5 rfl rfl rfl ?_
  refine r_sipush (q := 9) ((-999 : Int32)) dX12_times_6 rfl (by decide) ?_
  refine r_sipush (q := 12) (nI 999) dX12_times_9 rfl (by decide) ?_
  refine r_callS (Mc := mX12_isIn) (q := 15) (As := [zi y, zi (-999 : Int32), zi (nI 999)]) (st := []) dX12_times_12 rfl rfl mkX12_isIn wt1614 wt1615 rfl (Nat.le_of_ble_eq_true rfl) (Nat.le_of_ble_eq_true rfl) (by decide) (by decide) (by decide) (Or.inl rfl) hs.some (ok_X12_isIn_i (S := sI S 12 0 0 (nI 0)) hy) (fun r12 S12 hp12 => ?_)
  obtain ⟨rfl, hq12⟩ := hp12
  rw [hq12]
  show Ok _ _ _ [zi (nI 1)] _ _
  refine r_if_neN (q := 18) (t := 20) (by omega) dX12_times_15 (by decide) rfl (fun h15 => ?_) (fun h15 => absurd h15 (by omega))
  refine r_aload_n (q := 21) dX12_times_20 rfl rfl rfl ?_
  refine r_callV (Mc := mX12_ownWorld) (q := 24) (As := []) (st := []) ck12 dX12_times_21 rfl rfl mkX12_ownWorld wt1686 wt1688 wp90 rfl (Nat.le_of_ble_eq_true rfl) (Nat.le_of_ble_eq_true rfl) (by decide) (by decide) (by decide) (Or.inl rfl) (hs.e (by decide)) (ok_X12_ownWorld (S := sI S 12 0 0 (nI 0)) hs (fun z k hk h3 => hO z k hk h3)) (fun r21 S21 hp21 => ?_)
  obtain ⟨rfl, o1, o2, o3⟩ := hp21
  have g0 : Fg tRef S S21 := (Fg.of22 (S1 := sI S 12 0 0 (nI 0)) hs rfl (fun a b k _ hz => by rw [gI_sI, if_neg (fun z => hz (by unfold tRef; omega))]) (fun _ _ _ _ _ => rfl)).tr (o1.fg hs tOw_ref)
  have g1 : ∀ k, gI S21 1306 0 k = gI S 1306 0 k := fun k => g0.I (by omega) (by unfold tRef; omega)
  have gw : Ow S21 (wA W) (we W) := fun a ha => by rw [o3 _ (by have := hW.2.1.1; omega) (by omega), g1]; have := (hR.2.2.2.1 a ha).1; simpa using this
  show Ok _ _ _ [] _ _
  refine r_aload_n (q := 25) dX12_times_24 rfl rfl rfl ?_
  refine r_aload_n (q := 26) dX12_times_25 rfl rfl rfl ?_
  refine r_getr (q := 29) (some (1306, 0)) ck12 dX12_times_26 rfl (k := 6) (by decide) wt1284 rfl (g0.sd.e (by decide)) (g0.sd.r (by decide) (by decide)) ?_
  refine r_sipush (q := 32) (nI 1173) dX12_times_29 rfl (by decide) ?_
  refine r_ialdN (q := 33) 3775 (by decide) rfl dX12_times_32 rfl (g0.sd.e (by decide)) (g0.sd.n rfl (by decide)) (by omega) (by decide) ?_
  refine r_topi (y := nI lv) ((g1 _).trans l2) ?_
  refine r_callV (Mc := mX12_noSum) (q := 36) (As := [zi (nI lv)]) (st := []) ck12 dX12_times_33 rfl rfl mkX12_noSum wt1625 wt1627 wp79 rfl (Nat.le_of_ble_eq_true rfl) (Nat.le_of_ble_eq_true rfl) (by decide) (by decide) (by decide) (Or.inl rfl) (g0.sd.e (by decide)) (ok_X12_noSum g0.sd (nI lv)) (fun r33 S33 hp33 => ?_)
  obtain ⟨rfl, hq33⟩ := hp33
  rw [hq33]
  have g2 : Fg tRef S (sI (sI S21 12 0 47 (nI 0)) 12 0 48 (nI lv)) := g0.tr (Fg.of22 g0.sd rfl (fun a b k _ hz => by rw [gI_sI, if_neg (fun z => hz (by unfold tRef; omega)), gI_sI, if_neg (fun z => hz (by unfold tRef; omega))]) (fun _ _ _ _ _ => rfl))
  have g3 : ∀ k, gI (sI (sI S21 12 0 47 (nI 0)) 12 0 48 (nI lv)) 1306 0 k = gI S 1306 0 k := fun k => g2.I (by omega) (by unfold tRef; omega)
  have g4 : Ow (sI (sI S21 12 0 47 (nI 0)) 12 0 48 (nI lv)) (wA W) (we W) := fun a ha => by rw [gI_sI, if_neg (by omega), gI_sI, if_neg (by omega)]; exact gw a ha
  have g5 : Rs (we W) (sI (sI S21 12 0 47 (nI 0)) 12 0 48 (nI lv)) [] := ⟨by rw [gI_sI, if_neg (by omega), gI_sI, if_pos ⟨rfl, rfl, rfl⟩]; rfl, fun k hk => absurd hk (by simp)⟩
  have g6 : OwS S (sI (sI S21 12 0 47 (nI 0)) 12 0 48 (nI lv)) := o2.imp id (fun z => ⟨z.1, z.2.1, z.2.2.1, fun k hk => z.2.2.2 k hk⟩)
  show Ok _ _ _ [] _ _
  refine r_aload_n (q := 37) dX12_times_36 rfl rfl rfl ?_
  refine r_aload_n (q := 38) dX12_times_37 rfl rfl rfl ?_
  refine r_iload_n (q := 39) dX12_times_38 rfl rfl rfl ?_
  refine r_callV (Mc := mX12_rest) (q := 42) (As := [zi y]) (st := [zr 12 0]) ck12 dX12_times_39 rfl rfl mkX12_rest wt1884 wt1886 wp125 rfl (Nat.le_of_ble_eq_true rfl) (Nat.le_of_ble_eq_true rfl) (by decide) (by decide) (by decide) (Or.inl rfl) (g2.sd.e (by decide)) (ok_X12_rest (S := sI (sI S21 12 0 47 (nI 0)) 12 0 48 (nI lv)) g2.sd hW.1.1 hW.1.2.1 (by rw [g3]; exact hr.2.1) y) (fun r39 S39 hp39 => ?_)
  obtain ⟨rfl, hq39⟩ := hp39
  rw [hq39]
  show Ok _ _ _ [zi (nI (rsN y (wP W))), zr 12 0] _ _
  refine r_callV (Mc := mX12_addHere) (q := 45) (As := [zi (nI (rsN y (wP W)))]) (st := []) ck12 dX12_times_42 rfl rfl mkX12_addHere wt1888 wt1890 wp126 rfl (Nat.le_of_ble_eq_true rfl) (Nat.le_of_ble_eq_true rfl) (by decide) (by decide) (by decide) (Or.inl rfl) (g2.sd.e (by decide)) (ok_X12_addHere (S := sI (sI S21 12 0 47 (nI 0)) 12 0 48 (nI lv)) g2.sd hW.2.1 hS.2.1 hW.1.1 hW.1.2.1 (b := rsN y (wP W)) (by omega) hU.1 (fun p hp => hS.2.2.1.1.2 p hp) hcU hS.len ⟨(g3 _).trans hr.1, (g3 _).trans hr.2.1, fun k hk => ⟨(g3 _).trans (hr.2.2 k hk).1, (g3 _).trans (hr.2.2 k hk).2⟩⟩ g4 g5 ce_nil.1 (fun p hp => absurd hp List.not_mem_nil)) (fun r42 S42 hp42 => ?_)
  obtain ⟨rfl, a1, a2⟩ := hp42
  have a3 : Fg tRef S S42 := g2.tr (a1.fg g2.sd tAT_ref)
  have a4 : gI S42 12 0 48 = nI lv := by rw [a1.1 _ _ _ rfl, gI_sI, if_pos ⟨rfl, rfl, rfl⟩]
  have a5 : OwS S S42 := OwS.fr g6 a1
  show Ok _ _ _ [] _ _
  refine r_aload_n (q := 46) dX12_times_45 rfl rfl rfl ?_
  refine r_callV (Mc := mX12_noZeros) (q := 49) (As := []) (st := []) ck12 dX12_times_46 rfl rfl mkX12_noZeros wt1657 wt1659 wp87 rfl (Nat.le_of_ble_eq_true rfl) (Nat.le_of_ble_eq_true rfl) (by decide) (by decide) (by decide) (Or.inl rfl) (a3.sd.e (by decide)) (ok_X12_noZeros a3.sd a2.rz (by have := len_U hre (mem_adds (fun p hp => absurd hp List.not_mem_nil) hcU); omega) hW.1.2.1 (fun p hp => (hre.2 p hp).2)) (fun r46 S46 hp46 => ?_)
  obtain ⟨rfl, n1, n2⟩ := hp46
  have n3 : Fg tRef S S46 := a3.tr (n1.fg a3.sd tAT_ref)
  have n4 : gI S46 12 0 48 = nI lv := by rw [n1.1 _ _ _ rfl]; exact a4
  have n5 : OwS S S46 := OwS.fr a5 n1
  show Ok _ _ _ [] _ _
  refine r_aload_n (q := 50) dX12_times_49 rfl rfl rfl ?_
  refine r_callV (Mc := mX12_keepSum) (q := 53) (As := []) (st := []) ck12 dX12_times_50 rfl rfl mkX12_keepSum wt1710 wt1712 wp94 rfl (Nat.le_of_ble_eq_true rfl) (Nat.le_of_ble_eq_true rfl) (by decide) (by decide) (by decide) (Or.inl rfl) (n3.sd.e (by decide)) (Kp S46 n3 n2 n4 n5) (fun r50 S50 hp50 => ?_)
  obtain ⟨rfl, kk⟩ := hp50
  show Ok _ _ _ [zi (nI ((cl (adds (wP W) (rsN y (wP W)) [] c)).length))] _ _
  refine r_ireturn dX12_times_53 rfl ?_
  exact kk

theorem ty_copy {S : zS} {j i n : Nat} {c : List zT} (hij : i ≠ j) (hc : Ty S i c) (h2 : gN S 902 j = n) (h3 : gN S 903 j = n) (h4 : 32 ≤ n) (h5 : n ≤ 1200) (hl : c.length ≤ 1200) : Ty (tcp S j i c.length n) j c := by
  have z1 : gN (tcp S j i c.length n) 902 j = rlen c.length n := by rw [tcp_N]; exact gN_room8_j (Or.inl rfl) h2
  have z2 : gN (tcp S j i c.length n) 903 j = rlen c.length n := by rw [tcp_N]; exact gN_room8_j (Or.inr rfl) h3
  have z3 := rlen_ge (e := c.length) (n := n) hl
  have z4 := rlen_n (e := c.length) (n := n) h5
  exact ⟨tcp_1, fun k hk => ⟨(tcp_keys hij hk).trans (hc.2.1 k hk).1, (tcp_nums hij hk).trans (hc.2.1 k hk).2⟩, rlen c.length n, z1, z2, by omega, by omega, by omega⟩
theorem adds_id {P : Nat} : ∀ (l r : List zT), De (r ++ l) → (∀ p, p ∈ l → p.2 < P) → adds P 1 r l = r ++ l
  | [], r, _, _ => by simp [adds]
  | p :: l, r, h, hP => by
    have hp := hP p List.mem_cons_self
    have hnew : addT P p.1 (p.2 * 1 % P) r = r ++ [p] := by
      rw [addT_pre r.length r (Nat.le_refl _) (fun i hi => ?_), List.drop_length, List.take_length, addT, Nat.mul_one, Nat.mod_mod, Nat.mod_eq_of_lt hp]
      exact (List.pairwise_append.mp h).2.2 _ (mem_getD hi) p List.mem_cons_self
    rw [adds_cons, hnew, adds_id l (r ++ [p]) (by rw [List.append_assoc]; exact h) (fun q hq => hP q (List.mem_cons_of_mem _ hq)), List.append_assoc]
    rfl
def lawU (W : zWd) : List (List Nat) := W.2.2.2.flatMap (fun l => l.2.map Prod.fst)
theorem lawU_len : ∀ (ls : List (Nat × List zT)), (ls.flatMap (fun l => l.2.map Prod.fst)).length = lfs ls ls.length
  | [] => rfl
  | l :: r => by rw [List.flatMap_cons, List.length_append, List.length_map, lawU_len r]; rfl
theorem lawU_mem {W : zWd} {L : Nat} (hL : L < wL W) {p : zT} (hp : p ∈ (lw W L).2) : p.1 ∈ lawU W := by
  refine List.mem_flatMap.mpr ⟨lw W L, ?_, List.mem_map.mpr ⟨p, hp, rfl⟩⟩
  unfold lw
  rw [List.getD_eq_getElem?_getD, List.getElem?_eq_getElem hL]
  exact List.getElem_mem hL
theorem uok_mk {W : zWd} (hW : Wok W) (lv : Nat) (X : List (List Nat)) (hX : X.length ≤ 1000) : Uok W lv (lawU W ++ X) := by
  refine ⟨?_, fun L hL _ p hp => List.mem_append.mpr (Or.inl (lawU_mem hL hp))⟩
  have h1 : (lawU W).length = lf W (wL W) := lawU_len _
  have := hW.2.2.2.2.1
  rw [List.length_append]
  omega
theorem sm_law {W : zWd} (hW : Wok W) {L : Nat} (hL : L < wL W) : Sm W (lw W L).1 (lw W L).2 := by
  have := hW.2.2.2.2.2 L hL
  exact ⟨by omega, this.2.1, this.2.2, lawU W ++ [], uok_mk hW _ [] (by simp), fun p hp => List.mem_append.mpr (Or.inl (lawU_mem hL hp))⟩
theorem rs1 {P : Nat} (h : 2 ≤ P) : rsN (nI 1) P = 1 := by rw [rsN_nI (by omega) (by omega), Nat.mod_eq_of_lt (by omega)]
theorem lw_c {S : zS} {W : zWd} {cc L : Nat} (hC : wqC W (fun a k => gI S a cc k) (fun a k => gJ S a cc k)) (hL : L < wL W) : Lw S cc L (lf W L) (wP W) (lw W L).2 := ⟨hC.2.2.2.2.2.1 L (by omega), (hC.2.2.2.2.2.1 (L + 1) (by omega)).trans (by rw [lf_succ hL]), hC.1, fun k hk => hC.2.2.2.2.2.2.1 L k hL hk⟩
theorem lr_r {S : zS} {W : zWd} {L : Nat} (hR : wqR W (fun k => gI S 1306 0 k) (fun i => gJ S 1308 0 i)) (hL : L < wL W) : Lr S L (lf W L) (wP W) (lw W L).2 := ⟨hR.2.2.2.2.2.1 L (by omega), (hR.2.2.2.2.2.1 (L + 1) (by omega)).trans (by rw [lf_succ hL]), hR.1, fun k hk => hR.2.2.2.2.2.2 L k hL hk⟩
theorem Lw.fg {T : Nat → Nat → Nat → Prop} {S S1 : zS} {s L f P : Nat} {l : List zT} (h : Lw S s L f P l) (hf : Fg T S S1) (ht : ∀ k, ¬ T 1006 s k ∧ ¬ T 9 s 0 ∧ ¬ T 1007 s k ∧ ¬ T 1008 s k) : Lw S1 s L f P l := ⟨(hf.I (by omega) (ht _).1).trans h.1, (hf.I (by omega) (ht _).1).trans h.2.1, (hf.I (by omega) (ht 0).2.1).trans h.2.2.1, fun k hk => ⟨(hf.I (by omega) (ht _).2.2.1).trans (h.2.2.2 k hk).1, (hf.I (by omega) (ht _).2.2.2).trans (h.2.2.2 k hk).2⟩⟩

set_option maxRecDepth 100000 in
theorem cm_take {S : zS} (hs : Sd S) {W : zWd} {cc : Nat} (hcc : gI S 11 0 3 = nI cc) (hc4 : cc < 4) (hw : WR wq S W cc 1306 0 1308 0) {h q : Nat} (hP : Pst sq S W h q) (hA : SR sq S W 0 1306 1173) (hT : TLs S) (hO : Cw S) (hW : Wok W) (hC : wqC W (fun a k => gI S a cc k) (fun a k => gJ S a cc k)) {L : Nat} (hL : L < wL W) : Ok mX11_take 0 (ent 3 [zr 11 0, zi (nI L)]) [] S (fun r S3 => r = some (zi (nI (lw W L).2.length)) ∧ Fg (fun a b k => tMd a b k ∨ tKp a b k) S S3 ∧ ∀ T, Fg tRef S3 T → Rz T (lw W L).2 → gI T 12 0 48 = nI (lw W L).1 → Ok mX12_keepSum 0 (ent 2 [zr 12 0]) [] T (fun r S4 => r = some (zi (nI (lw W L).2.length)) ∧ Fg tKs T S4 ∧ SR sq S4 W 0 1306 1173 ∧ Pst sq S4 W (min 8 (h + 1)) ((q + 1) % 8) ∧ TLs S4)) := by
  have hP2 := hW.1.1
  have hlaw := hW.2.2.2.2.2 L hL
  have hL18 : L < 18 := by have := hW.2.2.2.1; omega
  have hU := uok_mk hW (lw W L).1 [] (by simp)
  have hlU : ∀ p, p ∈ (lw W L).2 → p.1 ∈ lawU W ++ [] := fun p hp => List.mem_append.mpr (Or.inl (lawU_mem hL hp))
  have hid : adds (wP W) 1 [] (lw W L).2 = (lw W L).2 := adds_id _ [] hlaw.2.2.1.1 (fun p hp => (hlaw.2.2.1.2 p hp).2)
  show Ok mX11_take 0 [some (zr 11 0), some (zi (nI L)), none] [] S _
  refine r_aload_n (q := 1) dX11_take_0 rfl rfl rfl ?_
  refine r_callV (Mc := mX11_worldHere) (q := 4) (As := []) (st := []) ck11 dX11_take_1 rfl rfl mkX11_worldHere wt678 wt680 wp20 rfl (Nat.le_of_ble_eq_true rfl) (Nat.le_of_ble_eq_true rfl) (by decide) (by decide) (by decide) (Or.inl rfl) (hs.e (by decide)) (ok_X11_worldHere hs hcc hc4) (fun r1 S1 hp1 => ?_)
  obtain ⟨rfl, hq1⟩ := hp1
  rw [hq1]
  show Ok _ _ _ [zr 9 cc] _ _
  refine r_astore_n (q := 5) (L' := [some (zr 11 0), some (zi (nI L)), some (zr 9 cc)]) dX11_take_4 rfl rfl (by decide) rfl ?_
  refine r_aload_n (q := 6) dX11_take_5 rfl rfl rfl ?_
  refine r_iload_n (q := 7) dX11_take_6 rfl rfl rfl ?_
  refine r_callV (Mc := mX9_hasLaw) (q := 10) (As := [zi (nI L)]) (st := []) ck9 dX11_take_7 rfl rfl mkX9_hasLaw wt690 wt691 wt692 rfl (Nat.le_of_ble_eq_true rfl) (Nat.le_of_ble_eq_true rfl) (by decide) (by decide) (by decide) (Or.inl rfl) (hs.e (show cc < 4 by omega)) (ok_X9_hasLaw_in hs hc4 hC.2.2.1 hW.2.2.2.1 hL) (fun r7 S7 hp7 => ?_)
  obtain ⟨rfl, hq7⟩ := hp7
  rw [hq7]
  show Ok _ _ _ [zi (nI 1)] _ _
  refine r_if_neN (q := 13) (t := 15) (by omega) dX11_take_10 (by decide) rfl (fun h10 => ?_) (fun h10 => absurd h10 (by omega))
  refine r_aload_n (q := 16) dX11_take_15 rfl rfl rfl ?_
  refine r_getr (q := 19) (some (8, 11)) ck11 dX11_take_16 rfl (k := 12) (by decide) wt434 rfl (hs.e (by decide)) (hs.r (by decide) (by decide)) ?_
  refine r_aload_n (q := 20) dX11_take_19 rfl rfl rfl ?_
  refine r_getr (q := 23) (some (1005, cc)) ck9 dX11_take_20 rfl (k := 5) (by decide) wt320 rfl (hs.e (show cc < 4 by omega)) (hs.r (show cc < 4 by omega) (by decide)) ?_
  refine r_iload_n (q := 24) dX11_take_23 rfl rfl rfl ?_
  refine r_ialdN (q := 25) 18 (by decide) rfl dX11_take_24 rfl (hs.e (show cc < 4 by omega)) (hs.n rfl (show cc < 4 by omega)) (by omega) (by decide) ?_
  refine r_topi (y := nI ((lw W L).1)) (hC.2.2.2.2.1 L hL) ?_
  refine r_callV (Mc := mX8_clear) (q := 28) (As := [zi (nI ((lw W L).1))]) (st := []) ck8 dX11_take_25 rfl rfl mkX8_clear wt669 wt603 wt604 rfl (Nat.le_of_ble_eq_true rfl) (Nat.le_of_ble_eq_true rfl) (by decide) (by decide) (by decide) (Or.inl rfl) (hs.e (by decide)) (ok_X8_clear hs (show 11 < 19 by omega) (nI ((lw W L).1))) (fun r25 S25 hp25 => ?_)
  obtain ⟨rfl, hq25⟩ := hp25
  rw [hq25]
  show Ok _ _ _ [] _ _
  refine r_aload_n (q := 29) dX11_take_28 rfl rfl rfl ?_
  refine r_aload_n (q := 30) dX11_take_29 rfl rfl rfl ?_
  refine r_getr (q := 33) (some (8, 11)) ck11 dX11_take_30 rfl (k := 12) (by decide) wt434 rfl (hs.e (by decide)) (hs.r (by decide) (by decide)) ?_
  refine r_iload_n (q := 34) dX11_take_33 rfl rfl rfl ?_
  refine r_iconst (q := 35) (nI 1) dX11_take_34 rfl (by decide) ?_
  refine r_callV (Mc := mX9_lawInto) (q := 38) (As := [zr 8 11, zi (nI L), zi (nI 1)]) (st := []) ck9 dX11_take_35 rfl rfl mkX9_lawInto wt698 wt699 wt700 rfl (Nat.le_of_ble_eq_true rfl) (Nat.le_of_ble_eq_true rfl) (by decide) (by decide) (by decide) (Or.inr ⟨Nat.le_of_ble_eq_true rfl, rfl, rfl⟩) (hs.e (show cc < 4 by omega)) (ok_X9_lawInto (S := sI (sI S 8 11 0 (nI ((lw W L).1))) 8 11 1 (nI 0)) hs hW.2.1 hlaw.2.1 hW.1.1 hW.1.2.1 (y := nI 1) (by decide) rfl hU.1 (show 11 < 19 by omega) hc4 hL18 (hW.lf2 hL) (fun p hp => hlaw.2.2.1.2 p hp) hlU ((lw_c hC hL).fg (fg_clear hs (n := nI (lw W L).1)) (fun k => by unfold tMd; omega)) (ty_nil hT) ce_nil (fun p hp => absurd hp List.not_mem_nil)) (fun r35 S35 hp35 => ?_)
  obtain ⟨rfl, f1, f2⟩ := hp35
  rw [rs1 hW.1.1, show ([] : List zT) = cl [] from rfl, puts_adds hW.2.1 (by omega) hlaw.2.1 ce_nil.1 (fun p hp => (hlaw.2.2.1.2 p hp).1), hid, cl_id hlaw.2.2.2] at f2
  have f3 := (fg_clear hs (n := nI (lw W L).1)).tr (f1.mono tTy_md)
  show Ok _ _ _ [] _ _
  refine r_aload_n (q := 39) dX11_take_38 rfl rfl rfl ?_
  refine r_callV (Mc := mX11_keepMade) (q := 42) (As := []) (st := []) ck11 dX11_take_39 rfl rfl mkX11_keepMade wt703 wt705 wp21 rfl (Nat.le_of_ble_eq_true rfl) (Nat.le_of_ble_eq_true rfl) (by decide) (by decide) (by decide) (Or.inr ⟨Nat.le_of_ble_eq_true rfl, rfl, rfl⟩) (f1.sd.e (by decide)) (keep2 hP hA hT f3 (fun j k h1 h2 => by unfold tMd; omega) (by unfold tMd; omega) (fun k => by unfold tMd; omega) (tls_md hT f3 (fun j k h1 h2 => by unfold tMd; omega) f2) f2 (by rw [f1.I (by omega) (by unfold tTy; omega), gI_sI, if_neg (by omega), gI_sI, if_pos ⟨rfl, rfl, rfl⟩]) (sm_law hW hL)) (fun r39 S39 hp39 => ?_)
  obtain ⟨rfl, k39, kk39⟩ := hp39
  show Ok _ _ _ [zi (nI ((lw W L).2.length))] _ _
  refine r_ireturn dX11_take_42 rfl ?_
  exact ⟨rfl, (f3.mono fun _ _ _ z => Or.inl z).tr (k39.mono fun _ _ _ z => Or.inr z), kk39⟩

set_option maxRecDepth 100000 in
theorem rm_take {S : zS} (hs : Sd S) {W : zWd} {Po : Option zV → zS → Prop} (hO : Cw S) (hW : Wok W) (hR : wqR W (fun k => gI S 1306 0 k) (fun i => gJ S 1308 0 i)) {L : Nat} (hL : L < wL W) (Kp : ∀ T, Fg tRef S T → Rz T (lw W L).2 → gI T 12 0 48 = nI (lw W L).1 → OwS S T → Ok mX12_keepSum 0 (ent 2 [zr 12 0]) [] T (fun r S4 => r = some (zi (nI (lw W L).2.length)) ∧ Po (some (zi (nI (lw W L).2.length))) S4)) : Ok mX12_take 0 (ent 2 [zr 12 0, zi (nI L)]) [] S Po := by
  have hP2 := hW.1.1
  have hlaw := hW.2.2.2.2.2 L hL
  have hL18 : L < 18 := by have := hW.2.2.2.1; omega
  have hU := uok_mk hW (lw W L).1 [] (by simp)
  have hlU : ∀ p, p ∈ (lw W L).2 → p.1 ∈ lawU W ++ [] := fun p hp => List.mem_append.mpr (Or.inl (lawU_mem hL hp))
  have hid : adds (wP W) 1 [] (lw W L).2 = (lw W L).2 := adds_id _ [] hlaw.2.2.1.1 (fun p hp => (hlaw.2.2.1.2 p hp).2)
  show Ok mX12_take 0 [some (zr 12 0), some (zi (nI L))] [] S _
  refine r_aload_n (q := 1) dX12_take_0 rfl rfl rfl ?_
  refine r_iconst (q := 2) (nI 0) dX12_take_1 rfl (by decide) ?_
  refine r_puti (q := 5) ck12 dX12_take_2 rfl (k := 0) (by decide) wt1278 (Or.inl rfl) rfl (hs.e (by decide)) ?_
  refine r_aload_n (q := 6) dX12_take_5 rfl rfl rfl ?_
  refine r_iload_n (q := 7) dX12_take_6 rfl rfl rfl ?_
  refine r_callV (Mc := mX12_isLaw) (q := 10) (As := [zi (nI L)]) (st := []) ck12 dX12_take_7 rfl rfl mkX12_isLaw wt1677 wt1679 wp89 rfl (Nat.le_of_ble_eq_true rfl) (Nat.le_of_ble_eq_true rfl) (by decide) (by decide) (by decide) (Or.inl rfl) (hs.e (by decide)) (ok_X12_isLaw_in (S := sI S 12 0 0 (nI 0)) hs (by rw [gI_sI, if_neg (by omega)]; exact hR.2.2.1) hW.2.2.2.1 hL) (fun r7 S7 hp7 => ?_)
  obtain ⟨rfl, hq7⟩ := hp7
  rw [hq7]
  show Ok _ _ _ [zi (nI 1)] _ _
  refine r_if_neN (q := 13) (t := 15) (by omega) dX12_take_10 (by decide) rfl (fun h10 => ?_) (fun h10 => absurd h10 (by omega))
  refine r_aload_n (q := 16) dX12_take_15 rfl rfl rfl ?_
  refine r_callV (Mc := mX12_ownWorld) (q := 19) (As := []) (st := []) ck12 dX12_take_16 rfl rfl mkX12_ownWorld wt1686 wt1688 wp90 rfl (Nat.le_of_ble_eq_true rfl) (Nat.le_of_ble_eq_true rfl) (by decide) (by decide) (by decide) (Or.inl rfl) (hs.e (by decide)) (ok_X12_ownWorld (S := sI S 12 0 0 (nI 0)) hs (fun z k hk h3 => hO z k hk h3)) (fun r16 S16 hp16 => ?_)
  obtain ⟨rfl, o1, o2, o3⟩ := hp16
  have g0 : Fg tRef S S16 := (Fg.of22 (S1 := sI S 12 0 0 (nI 0)) hs rfl (fun a b k _ hz => by rw [gI_sI, if_neg (fun z => hz (by unfold tRef; omega))]) (fun _ _ _ _ _ => rfl)).tr (o1.fg hs tOw_ref)
  have g1 : ∀ k, gI S16 1306 0 k = gI S 1306 0 k := fun k => g0.I (by omega) (by unfold tRef; omega)
  have gw : Ow S16 (wA W) (we W) := fun a ha => by rw [o3 _ (by have := hW.2.1.1; omega) (by omega), g1]; have := (hR.2.2.2.1 a ha).1; simpa using this
  show Ok _ _ _ [] _ _
  refine r_aload_n (q := 20) dX12_take_19 rfl rfl rfl ?_
  refine r_aload_n (q := 21) dX12_take_20 rfl rfl rfl ?_
  refine r_getr (q := 24) (some (1306, 0)) ck12 dX12_take_21 rfl (k := 6) (by decide) wt1284 rfl (g0.sd.e (by decide)) (g0.sd.r (by decide) (by decide)) ?_
  refine r_bipush (q := 26) (nI 7) dX12_take_24 rfl (by decide) ?_
  refine r_iload_n (q := 27) dX12_take_26 rfl rfl rfl ?_
  refine r_iaddN (q := 28) dX12_take_27 rfl ?_
  refine r_ialdN (q := 29) 3775 (by decide) rfl dX12_take_28 rfl (g0.sd.e (by decide)) (g0.sd.n rfl (by decide)) (by omega) (by decide) ?_
  refine r_topi (y := nI ((lw W L).1)) ((g1 _).trans (hR.2.2.2.2.1 L hL)) ?_
  refine r_callV (Mc := mX12_noSum) (q := 32) (As := [zi (nI ((lw W L).1))]) (st := []) ck12 dX12_take_29 rfl rfl mkX12_noSum wt1625 wt1627 wp79 rfl (Nat.le_of_ble_eq_true rfl) (Nat.le_of_ble_eq_true rfl) (by decide) (by decide) (by decide) (Or.inl rfl) (g0.sd.e (by decide)) (ok_X12_noSum g0.sd (nI ((lw W L).1))) (fun r29 S29 hp29 => ?_)
  obtain ⟨rfl, hq29⟩ := hp29
  rw [hq29]
  have g2 : Fg tRef S (sI (sI S16 12 0 47 (nI 0)) 12 0 48 (nI ((lw W L).1))) := g0.tr (Fg.of22 g0.sd rfl (fun a b k _ hz => by rw [gI_sI, if_neg (fun z => hz (by unfold tRef; omega)), gI_sI, if_neg (fun z => hz (by unfold tRef; omega))]) (fun _ _ _ _ _ => rfl))
  have g3 : ∀ k, gI (sI (sI S16 12 0 47 (nI 0)) 12 0 48 (nI ((lw W L).1))) 1306 0 k = gI S 1306 0 k := fun k => g2.I (by omega) (by unfold tRef; omega)
  have g4 : Ow (sI (sI S16 12 0 47 (nI 0)) 12 0 48 (nI ((lw W L).1))) (wA W) (we W) := fun a ha => by rw [gI_sI, if_neg (by omega), gI_sI, if_neg (by omega)]; exact gw a ha
  have g5 : Rs (we W) (sI (sI S16 12 0 47 (nI 0)) 12 0 48 (nI ((lw W L).1))) [] := ⟨by rw [gI_sI, if_neg (by omega), gI_sI, if_pos ⟨rfl, rfl, rfl⟩]; rfl, fun k hk => absurd hk (by simp)⟩
  have g6 : OwS S (sI (sI S16 12 0 47 (nI 0)) 12 0 48 (nI ((lw W L).1))) := o2.imp id (fun z => ⟨z.1, z.2.1, z.2.2.1, fun k hk => z.2.2.2 k hk⟩)
  show Ok _ _ _ [] _ _
  refine r_aload_n (q := 33) dX12_take_32 rfl rfl rfl ?_
  refine r_iload_n (q := 34) dX12_take_33 rfl rfl rfl ?_
  refine r_iconst (q := 35) (nI 1) dX12_take_34 rfl (by decide) ?_
  refine r_callV (Mc := mX12_addLaw) (q := 38) (As := [zi (nI L), zi (nI 1)]) (st := []) ck12 dX12_take_35 rfl rfl mkX12_addLaw wt1706 wt1708 wp93 rfl (Nat.le_of_ble_eq_true rfl) (Nat.le_of_ble_eq_true rfl) (by decide) (by decide) (by decide) (Or.inl rfl) (g2.sd.e (by decide)) (ok_X12_addLaw (S := sI (sI S16 12 0 47 (nI 0)) 12 0 48 (nI ((lw W L).1))) g2.sd hW.2.1 hlaw.2.1 hW.1.1 hW.1.2.1 (b := 1) (by omega) hU.1 (fun p hp => hlaw.2.2.1.2 p hp) hlU hL18 (hW.lf2 hL) (⟨(g3 _).trans (lr_r hR hL).1, (g3 _).trans (lr_r hR hL).2.1, (g3 _).trans (lr_r hR hL).2.2.1, fun k hk => ⟨(g3 _).trans ((lr_r hR hL).2.2.2 k hk).1, (g3 _).trans ((lr_r hR hL).2.2.2 k hk).2⟩⟩) g4 g5 ce_nil.1 (fun p hp => absurd hp List.not_mem_nil)) (fun r35 S35 hp35 => ?_)
  obtain ⟨rfl, a1, a2⟩ := hp35
  have a3 : Fg tRef S S35 := g2.tr (a1.fg g2.sd tAT_ref)
  have a4 : gI S35 12 0 48 = nI (lw W L).1 := by rw [a1.1 _ _ _ rfl, gI_sI, if_pos ⟨rfl, rfl, rfl⟩]
  have a5 : OwS S S35 := OwS.fr g6 a1
  show Ok _ _ _ [] _ _
  refine r_aload_n (q := 39) dX12_take_38 rfl rfl rfl ?_
  rw [hid] at a2
  refine r_callV (Mc := mX12_keepSum) (q := 42) (As := []) (st := []) ck12 dX12_take_39 rfl rfl mkX12_keepSum wt1710 wt1712 wp94 rfl (Nat.le_of_ble_eq_true rfl) (Nat.le_of_ble_eq_true rfl) (by decide) (by decide) (by decide) (Or.inl rfl) (a3.sd.e (by decide)) (Kp S35 a3 a2.rz a4 a5) (fun r39 S39 hp39 => ?_)
  obtain ⟨rfl, kk⟩ := hp39
  show Ok _ _ _ [zi (nI ((lw W L).2.length))] _ _
  refine r_ireturn dX12_take_42 rfl ?_
  exact kk

set_option maxRecDepth 100000 in
theorem cm_add {S : zS} (hs : Sd S) {W : zWd} {cc : Nat} (hcc : gI S 11 0 3 = nI cc) (hc4 : cc < 4) (hw : WR wq S W cc 1306 0 1308 0) {h q : Nat} (hP : Pst sq S W h q) (hA : SR sq S W 0 1306 1173) (hT : TLs S) (hO : Cw S) {lv : Nat} {c : List zT} (hW : Wok W) (hC : wqC W (fun a k => gI S a cc k) (fun a k => gJ S a cc k)) (hS : Sm W lv c) (l1 : gI S 8 0 0 = nI lv) (hty : Ty S 0 c) {L : Nat} (hL : L < wL W) (hlv : (lw W L).1 = lv) {y : Int32} (hy : Fa y) : Ok mX11_add 0 (ent 4 [zr 11 0, zi (nI L), zi y]) [] S (fun r S3 => r = some (zi (nI (cl (adds (wP W) (rsN y (wP W)) c (lw W L).2)).length)) ∧ Fg (fun a b k => tMd a b k ∨ tKp a b k) S S3 ∧ ∀ T, Fg tRef S3 T → Rz T (cl (adds (wP W) (rsN y (wP W)) c (lw W L).2)) → gI T 12 0 48 = nI lv → Ok mX12_keepSum 0 (ent 2 [zr 12 0]) [] T (fun r S4 => r = some (zi (nI (cl (adds (wP W) (rsN y (wP W)) c (lw W L).2)).length)) ∧ Fg tKs T S4 ∧ SR sq S4 W 0 1306 1173 ∧ Pst sq S4 W (min 8 (h + 1)) ((q + 1) % 8) ∧ TLs S4)) := by
  obtain ⟨U, hU, hcU⟩ := hS.2.2.2
  have hP2 := hW.1.1
  have hlaw := hW.2.2.2.2.2 L hL
  have hL18 : L < 18 := by have := hW.2.2.2.1; omega
  have hlU : ∀ p, p ∈ (lw W L).2 → p.1 ∈ U := fun p hp => hU.2 L hL hlv p hp
  have hce : Ce (wA W) (we W) (wP W) (lw W L).1 c := by rw [hlv]; exact hS.2.2.1
  have hcl : puts (wP W) (rsN y (wP W)) c (lw W L).2 = puts (wP W) (rsN y (wP W)) (cl c) (lw W L).2 := by rw [cl_id hce.2]
  have hSm : Sm W lv (cl (adds (wP W) (rsN y (wP W)) c (lw W L).2)) := sm_puts hW hS.1 hS.2.1 hU hS.2.2.1.1 hcU (fun p hp => by rw [← hlv]; exact (hlaw.2.2.1.2 p hp).1) hlU
  obtain ⟨m, e9, m1, m2, m3, m4, m5, m6⟩ := hT 11 (by omega)
  obtain ⟨t1, t2, o, o1, o2, o3, o4, o5⟩ := id hty
  show Ok mX11_add 0 [some (zr 11 0), some (zi (nI L)), some (zi y), none] [] S _
  refine r_aload_n (q := 1) dX11_add_0 rfl rfl rfl ?_
  refine r_callV (Mc := mX11_worldHere) (q := 4) (As := []) (st := []) ck11 dX11_add_1 rfl rfl mkX11_worldHere wt678 wt680 wp20 rfl (Nat.le_of_ble_eq_true rfl) (Nat.le_of_ble_eq_true rfl) (by decide) (by decide) (by decide) (Or.inl rfl) (hs.e (by decide)) (ok_X11_worldHere hs hcc hc4) (fun r1 S1 hp1 => ?_)
  obtain ⟨rfl, hq1⟩ := hp1
  rw [hq1]
  show Ok _ _ _ [zr 9 cc] _ _
  refine r_astore_n (q := 5) (L' := [some (zr 11 0), some (zi (nI L)), some (zi y), some (zr 9 cc)]) dX11_add_4 rfl rfl (by decide) rfl ?_
  refine r_aload_n (q := 6) dX11_add_5 rfl rfl rfl ?_
  refine r_iload_n (q := 7) dX11_add_6 rfl rfl rfl ?_
  refine r_callV (Mc := mX9_hasLaw) (q := 10) (As := [zi (nI L)]) (st := []) ck9 dX11_add_7 rfl rfl mkX9_hasLaw wt690 wt691 wt692 rfl (Nat.le_of_ble_eq_true rfl) (Nat.le_of_ble_eq_true rfl) (by decide) (by decide) (by decide) (Or.inl rfl) (hs.e (show cc < 4 by omega)) (ok_X9_hasLaw_in hs hc4 hC.2.2.1 hW.2.2.2.1 hL) (fun r7 S7 hp7 => ?_)
  obtain ⟨rfl, hq7⟩ := hp7
  rw [hq7]
  show Ok _ _ _ [zi (nI 1)] _ _
  refine r_if_eqN (q := 13) (t := 36) (by omega) dX11_add_10 (by decide) rfl (fun h10 => absurd h10 (by omega)) (fun h10 => ?_)
  refine r_aload_n (q := 14) dX11_add_13 rfl rfl rfl ?_
  refine r_getr (q := 17) (some (1005, cc)) ck9 dX11_add_14 rfl (k := 5) (by decide) wt320 rfl (hs.e (show cc < 4 by omega)) (hs.r (show cc < 4 by omega) (by decide)) ?_
  refine r_iload_n (q := 18) dX11_add_17 rfl rfl rfl ?_
  refine r_ialdN (q := 19) 18 (by decide) rfl dX11_add_18 rfl (hs.e (show cc < 4 by omega)) (hs.n rfl (show cc < 4 by omega)) (by omega) (by decide) ?_
  refine r_topi (y := nI ((lw W L).1)) (hC.2.2.2.2.1 L hL) ?_
  refine r_aload_n (q := 20) dX11_add_19 rfl rfl rfl ?_
  refine r_getr (q := 23) (some (8, 0)) ck11 dX11_add_20 rfl (k := 7) (by decide) wt429 rfl (hs.e (by decide)) (hs.r (by decide) (by decide)) ?_
  refine r_geti (q := 26) ck8 dX11_add_23 rfl (k := 0) (by decide) wt60 (Or.inl rfl) (hs.e (by decide)) ?_
  refine r_topi (y := nI ((lw W L).1)) (l1.trans (congrArg nI hlv.symm)) ?_
  refine r_icmp_neN (q := 29) (t := 36) (by omega) (by omega) dX11_add_26 (by decide) rfl (fun h26 => absurd h26 (fun z => z rfl)) (fun h26 => ?_)
  refine r_iload_n (q := 30) dX11_add_29 rfl rfl rfl ?_
  refine r_callS (Mc := mX11_isFactor) (q := 33) (As := [zi y]) (st := []) dX11_add_30 rfl rfl mkX11_isFactor wt955 wt956 rfl (Nat.le_of_ble_eq_true rfl) (Nat.le_of_ble_eq_true rfl) (by decide) (by decide) (by decide) (Or.inl rfl) hs.some (ok_X11_isFactor_in hy) (fun r30 S30 hp30 => ?_)
  obtain ⟨rfl, hq30⟩ := hp30
  rw [hq30]
  show Ok _ _ _ [zi (nI 1)] _ _
  refine r_if_neN (q := 36) (t := 38) (by omega) dX11_add_33 (by decide) rfl (fun h33 => ?_) (fun h33 => absurd h33 (by omega))
  refine r_aload_n (q := 39) dX11_add_38 rfl rfl rfl ?_
  refine r_getr (q := 42) (some (8, 11)) ck11 dX11_add_39 rfl (k := 12) (by decide) wt434 rfl (hs.e (by decide)) (hs.r (by decide) (by decide)) ?_
  refine r_aload_n (q := 43) dX11_add_42 rfl rfl rfl ?_
  refine r_getr (q := 46) (some (8, 0)) ck11 dX11_add_43 rfl (k := 7) (by decide) wt429 rfl (hs.e (by decide)) (hs.r (by decide) (by decide)) ?_
  refine r_callV (Mc := mX8_copy) (q := 49) (As := [zr 8 0]) (st := []) ck8 dX11_add_46 rfl rfl mkX8_copy wt707 wt708 wt709 rfl (Nat.le_of_ble_eq_true rfl) (Nat.le_of_ble_eq_true rfl) (by decide) (by decide) (by decide) (Or.inr ⟨Nat.le_of_ble_eq_true rfl, rfl, rfl⟩) (hs.e (by decide)) (ok_X8_copy hs (show 11 < 19 by omega) m1 m2 (by omega) m4 (show c.length ≤ 1200 from hS.len) (show 0 < 19 by omega) (by omega) hty.1 o1 o2 o5 o4) (fun r46 S46 hp46 => ?_)
  obtain ⟨rfl, hq46⟩ := hp46
  rw [hq46]
  have ft : Fg tMd S (tcp S 11 0 c.length m) := Fg.tcp hs (by omega) m1 m2 (by omega) m4 hS.len (fun k => ⟨fun _ => by unfold tMd; omega, by unfold tMd; omega, by unfold tMd; omega⟩)
  show Ok _ _ _ [] _ _
  refine r_aload_n (q := 50) dX11_add_49 rfl rfl rfl ?_
  refine r_aload_n (q := 51) dX11_add_50 rfl rfl rfl ?_
  refine r_getr (q := 54) (some (8, 11)) ck11 dX11_add_51 rfl (k := 12) (by decide) wt434 rfl (ft.sd.e (by decide)) (ft.sd.r (by decide) (by decide)) ?_
  refine r_iload_n (q := 55) dX11_add_54 rfl rfl rfl ?_
  refine r_iload_n (q := 56) dX11_add_55 rfl rfl rfl ?_
  refine r_callV (Mc := mX9_lawInto) (q := 59) (As := [zr 8 11, zi (nI L), zi y]) (st := []) ck9 dX11_add_56 rfl rfl mkX9_lawInto wt698 wt699 wt700 rfl (Nat.le_of_ble_eq_true rfl) (Nat.le_of_ble_eq_true rfl) (by decide) (by decide) (by decide) (Or.inr ⟨Nat.le_of_ble_eq_true rfl, rfl, rfl⟩) (ft.sd.e (show cc < 4 by omega)) (ok_X9_lawInto (S := tcp S 11 0 c.length m) ft.sd hW.2.1 hlaw.2.1 hW.1.1 hW.1.2.1 hy.int rfl hU.1 (show 11 < 19 by omega) hc4 hL18 (hW.lf2 hL) (fun p hp => hlaw.2.2.1.2 p hp) hlU ((lw_c hC hL).fg ft (fun k => by unfold tMd; omega)) (ty_copy (by omega) hty m1 m2 m3 m4 hS.len) hce hcU) (fun r56 S56 hp56 => ?_)
  obtain ⟨rfl, f1, f2⟩ := hp56
  rw [hcl, puts_adds hW.2.1 (by omega) hlaw.2.1 hce.1 (fun p hp => (hlaw.2.2.1.2 p hp).1)] at f2
  have f3 := ft.tr (f1.mono tTy_md)
  show Ok _ _ _ [] _ _
  refine r_aload_n (q := 60) dX11_add_59 rfl rfl rfl ?_
  refine r_callV (Mc := mX11_keepMade) (q := 63) (As := []) (st := []) ck11 dX11_add_60 rfl rfl mkX11_keepMade wt703 wt705 wp21 rfl (Nat.le_of_ble_eq_true rfl) (Nat.le_of_ble_eq_true rfl) (by decide) (by decide) (by decide) (Or.inr ⟨Nat.le_of_ble_eq_true rfl, rfl, rfl⟩) (f1.sd.e (by decide)) (keep2 hP hA hT f3 (fun j k h1 h2 => by unfold tMd; omega) (by unfold tMd; omega) (fun k => by unfold tMd; omega) (tls_md hT f3 (fun j k h1 h2 => by unfold tMd; omega) f2) f2 (by rw [f1.I (by omega) (by unfold tTy; omega), tcp_0]; exact l1) hSm) (fun r60 S60 hp60 => ?_)
  obtain ⟨rfl, k60, kk60⟩ := hp60
  show Ok _ _ _ [zi (nI ((cl (adds (wP W) (rsN y (wP W)) c (lw W L).2)).length))] _ _
  refine r_ireturn dX11_add_63 rfl ?_
  exact ⟨rfl, (f3.mono fun _ _ _ z => Or.inl z).tr (k60.mono fun _ _ _ z => Or.inr z), kk60⟩

set_option maxRecDepth 100000 in
theorem rm_add {S : zS} (hs : Sd S) {W : zWd} {lv : Nat} {c : List zT} {Po : Option zV → zS → Prop} (hO : Cw S) (hW : Wok W) (hR : wqR W (fun k => gI S 1306 0 k) (fun i => gJ S 1308 0 i)) (hS : Sm W lv c) (l2 : gI S 1306 0 1173 = nI lv) (hr : Hr S (wP W) c) {L : Nat} (hL : L < wL W) (hlv : (lw W L).1 = lv) {y : Int32} (hy : Fa y) (Kp : ∀ T, Fg tRef S T → Rz T (cl (adds (wP W) (rsN y (wP W)) c (lw W L).2)) → gI T 12 0 48 = nI lv → OwS S T → Ok mX12_keepSum 0 (ent 2 [zr 12 0]) [] T (fun r S4 => r = some (zi (nI (cl (adds (wP W) (rsN y (wP W)) c (lw W L).2)).length)) ∧ Po (some (zi (nI (cl (adds (wP W) (rsN y (wP W)) c (lw W L).2)).length))) S4)) : Ok mX12_add 0 (ent 3 [zr 12 0, zi (nI L), zi y]) [] S Po := by
  obtain ⟨U, hU, hcU⟩ := hS.2.2.2
  have hP2 := hW.1.1
  have hlaw := hW.2.2.2.2.2 L hL
  have hL18 : L < 18 := by have := hW.2.2.2.1; omega
  have hlU : ∀ p, p ∈ (lw W L).2 → p.1 ∈ U := fun p hp => hU.2 L hL hlv p hp
  have hce : Ce (wA W) (we W) (wP W) (lw W L).1 c := by rw [hlv]; exact hS.2.2.1
  have hP97 := hW.1.2.1
  have hU1 := hU.1
  have hlt := rsN_lt (x := y) (P := wP W) (by omega)
  have hid : adds (wP W) 1 [] c = c := adds_id _ [] hS.2.2.1.1.1 (fun p hp => (hS.2.2.1.1.2 p hp).2)
  have hre : Re (wA W) (we W) (wP W) (lw W L).1 (adds (wP W) (rsN y (wP W)) c (lw W L).2) := Re.adds hW.2.1 (by omega) hlaw.2.1 hce.1 (fun p hp => (hlaw.2.2.1.2 p hp).1)
  show Ok mX12_add 0 [some (zr 12 0), some (zi (nI L)), some (zi y)] [] S _
  refine r_aload_n (q := 1) dX12_add_0 rfl rfl rfl ?_
  refine r_iconst (q := 2) (nI 0) dX12_add_1 rfl (by decide) ?_
  refine r_puti (q := 5) ck12 dX12_add_2 rfl (k := 0) (by decide) wt1278 (Or.inl rfl) rfl (hs.e (by decide)) ?_
  refine r_aload_n (q := 6) dX12_add_5 rfl rfl rfl ?_
  refine r_iload_n (q := 7) dX12_add_6 rfl rfl rfl ?_
  refine r_callV (Mc := mX12_isLaw) (q := 10) (As := [zi (nI L)]) (st := []) ck12 dX12_add_7 rfl rfl mkX12_isLaw wt1677 wt1679 wp89 rfl (Nat.le_of_ble_eq_true rfl) (Nat.le_of_ble_eq_true rfl) (by decide) (by decide) (by decide) (Or.inl rfl) (hs.e (by decide)) (ok_X12_isLaw_in (S := sI S 12 0 0 (nI 0)) hs (by rw [gI_sI, if_neg (by omega)]; exact hR.2.2.1) hW.2.2.2.1 hL) (fun r7 S7 hp7 => ?_)
  obtain ⟨rfl, hq7⟩ := hp7
  rw [hq7]
  show Ok _ _ _ [zi (nI 1)] _ _
  refine r_if_eqN (q := 13) (t := 46) (by omega) dX12_add_10 (by decide) rfl (fun h10 => absurd h10 (by omega)) (fun h10 => ?_)
  refine r_iload_n (q := 14) dX12_add_13 rfl rfl rfl ?_
  refine r_sipush (q := 17) ((-999 : Int32)) dX12_add_14 rfl (by decide) ?_
  refine r_sipush (q := 20) (nI 999) dX12_add_17 rfl (by decide) ?_
  refine r_callS (Mc := mX12_isIn) (q := 23) (As := [zi y, zi (-999 : Int32), zi (nI 999)]) (st := []) dX12_add_20 rfl rfl mkX12_isIn wt1614 wt1615 rfl (Nat.le_of_ble_eq_true rfl) (Nat.le_of_ble_eq_true rfl) (by decide) (by decide) (by decide) (Or.inl rfl) hs.some (ok_X12_isIn_i (S := sI S 12 0 0 (nI 0)) hy) (fun r20 S20 hp20 => ?_)
  obtain ⟨rfl, hq20⟩ := hp20
  rw [hq20]
  show Ok _ _ _ [zi (nI 1)] _ _
  refine r_if_eqN (q := 26) (t := 46) (by omega) dX12_add_23 (by decide) rfl (fun h23 => absurd h23 (by omega)) (fun h23 => ?_)
  refine r_aload_n (q := 27) dX12_add_26 rfl rfl rfl ?_
  refine r_getr (q := 30) (some (1306, 0)) ck12 dX12_add_27 rfl (k := 6) (by decide) wt1284 rfl (hs.e (by decide)) (hs.r (by decide) (by decide)) ?_
  refine r_bipush (q := 32) (nI 7) dX12_add_30 rfl (by decide) ?_
  refine r_iload_n (q := 33) dX12_add_32 rfl rfl rfl ?_
  refine r_iaddN (q := 34) dX12_add_33 rfl ?_
  refine r_ialdN (q := 35) 3775 (by decide) rfl dX12_add_34 rfl (hs.e (by decide)) (hs.n rfl (by decide)) (by omega) (by decide) ?_
  refine r_topi (y := gI S 1306 0 (7 + L)) (by simp [gI_sI, gJ_sJ, gI_sJ, gJ_sI]) ?_
  refine r_topi (y := nI lv) ((hR.2.2.2.2.1 L hL).trans (congrArg nI hlv)) ?_
  refine r_aload_n (q := 36) dX12_add_35 rfl rfl rfl ?_
  refine r_getr (q := 39) (some (1306, 0)) ck12 dX12_add_36 rfl (k := 6) (by decide) wt1284 rfl (hs.e (by decide)) (hs.r (by decide) (by decide)) ?_
  refine r_sipush (q := 42) (nI 1173) dX12_add_39 rfl (by decide) ?_
  refine r_ialdN (q := 43) 3775 (by decide) rfl dX12_add_42 rfl (hs.e (by decide)) (hs.n rfl (by decide)) (by omega) (by decide) ?_
  refine r_topi (y := gI S 1306 0 1173) (by simp [gI_sI, gJ_sJ, gI_sJ, gJ_sI]) ?_
  refine r_topi (y := nI lv) l2 ?_
  refine r_icmp_eqN (q := 46) (t := 48) (by omega) (by omega) dX12_add_43 (by decide) rfl (fun h43 => ?_) (fun h43 => absurd h43 (fun z => z rfl))
  refine r_aload_n (q := 49) dX12_add_48 rfl rfl rfl ?_
  refine r_callV (Mc := mX12_ownWorld) (q := 52) (As := []) (st := []) ck12 dX12_add_49 rfl rfl mkX12_ownWorld wt1686 wt1688 wp90 rfl (Nat.le_of_ble_eq_true rfl) (Nat.le_of_ble_eq_true rfl) (by decide) (by decide) (by decide) (Or.inl rfl) (hs.e (by decide)) (ok_X12_ownWorld (S := sI S 12 0 0 (nI 0)) hs (fun z k hk h3 => hO z k hk h3)) (fun r49 S49 hp49 => ?_)
  obtain ⟨rfl, o1, o2, o3⟩ := hp49
  have g0 : Fg tRef S S49 := (Fg.of22 (S1 := sI S 12 0 0 (nI 0)) hs rfl (fun a b k _ hz => by rw [gI_sI, if_neg (fun z => hz (by unfold tRef; omega))]) (fun _ _ _ _ _ => rfl)).tr (o1.fg hs tOw_ref)
  have g1 : ∀ k, gI S49 1306 0 k = gI S 1306 0 k := fun k => g0.I (by omega) (by unfold tRef; omega)
  have gw : Ow S49 (wA W) (we W) := fun a ha => by rw [o3 _ (by have := hW.2.1.1; omega) (by omega), g1]; have := (hR.2.2.2.1 a ha).1; simpa using this
  show Ok _ _ _ [] _ _
  refine r_aload_n (q := 53) dX12_add_52 rfl rfl rfl ?_
  refine r_aload_n (q := 54) dX12_add_53 rfl rfl rfl ?_
  refine r_getr (q := 57) (some (1306, 0)) ck12 dX12_add_54 rfl (k := 6) (by decide) wt1284 rfl (g0.sd.e (by decide)) (g0.sd.r (by decide) (by decide)) ?_
  refine r_sipush (q := 60) (nI 1173) dX12_add_57 rfl (by decide) ?_
  refine r_ialdN (q := 61) 3775 (by decide) rfl dX12_add_60 rfl (g0.sd.e (by decide)) (g0.sd.n rfl (by decide)) (by omega) (by decide) ?_
  refine r_topi (y := nI lv) ((g1 _).trans l2) ?_
  refine r_callV (Mc := mX12_noSum) (q := 64) (As := [zi (nI lv)]) (st := []) ck12 dX12_add_61 rfl rfl mkX12_noSum wt1625 wt1627 wp79 rfl (Nat.le_of_ble_eq_true rfl) (Nat.le_of_ble_eq_true rfl) (by decide) (by decide) (by decide) (Or.inl rfl) (g0.sd.e (by decide)) (ok_X12_noSum g0.sd (nI lv)) (fun r61 S61 hp61 => ?_)
  obtain ⟨rfl, hq61⟩ := hp61
  rw [hq61]
  have g2 : Fg tRef S (sI (sI S49 12 0 47 (nI 0)) 12 0 48 (nI lv)) := g0.tr (Fg.of22 g0.sd rfl (fun a b k _ hz => by rw [gI_sI, if_neg (fun z => hz (by unfold tRef; omega)), gI_sI, if_neg (fun z => hz (by unfold tRef; omega))]) (fun _ _ _ _ _ => rfl))
  have g3 : ∀ k, gI (sI (sI S49 12 0 47 (nI 0)) 12 0 48 (nI lv)) 1306 0 k = gI S 1306 0 k := fun k => g2.I (by omega) (by unfold tRef; omega)
  have g4 : Ow (sI (sI S49 12 0 47 (nI 0)) 12 0 48 (nI lv)) (wA W) (we W) := fun a ha => by rw [gI_sI, if_neg (by omega), gI_sI, if_neg (by omega)]; exact gw a ha
  have g5 : Rs (we W) (sI (sI S49 12 0 47 (nI 0)) 12 0 48 (nI lv)) [] := ⟨by rw [gI_sI, if_neg (by omega), gI_sI, if_pos ⟨rfl, rfl, rfl⟩]; rfl, fun k hk => absurd hk (by simp)⟩
  have g6 : OwS S (sI (sI S49 12 0 47 (nI 0)) 12 0 48 (nI lv)) := o2.imp id (fun z => ⟨z.1, z.2.1, z.2.2.1, fun k hk => z.2.2.2 k hk⟩)
  show Ok _ _ _ [] _ _
  have gw2 := g4
  refine r_aload_n (q := 65) dX12_add_64 rfl rfl rfl ?_
  refine r_iconst (q := 66) (nI 1) dX12_add_65 rfl (by decide) ?_
  refine r_callV (Mc := mX12_addHere) (q := 69) (As := [zi (nI 1)]) (st := []) ck12 dX12_add_66 rfl rfl mkX12_addHere wt1888 wt1890 wp126 rfl (Nat.le_of_ble_eq_true rfl) (Nat.le_of_ble_eq_true rfl) (by decide) (by decide) (by decide) (Or.inl rfl) (g2.sd.e (by decide)) (ok_X12_addHere (S := sI (sI S49 12 0 47 (nI 0)) 12 0 48 (nI lv)) g2.sd hW.2.1 hS.2.1 hW.1.1 hW.1.2.1 (b := 1) (by omega) hU.1 (fun p hp => hS.2.2.1.1.2 p hp) hcU hS.len ⟨(g3 _).trans hr.1, (g3 _).trans hr.2.1, fun k hk => ⟨(g3 _).trans (hr.2.2 k hk).1, (g3 _).trans (hr.2.2 k hk).2⟩⟩ g4 g5 ce_nil.1 (fun p hp => absurd hp List.not_mem_nil)) (fun r66 S66 hp66 => ?_)
  obtain ⟨rfl, a1, a2⟩ := hp66
  have a3 : Fg tRef S S66 := g2.tr (a1.fg g2.sd tAT_ref)
  have a4 : gI S66 12 0 48 = nI lv := by rw [a1.1 _ _ _ rfl, gI_sI, if_pos ⟨rfl, rfl, rfl⟩]
  have a5 : OwS S S66 := OwS.fr g6 a1
  rw [hid] at a2
  show Ok _ _ _ [] _ _
  refine r_aload_n (q := 70) dX12_add_69 rfl rfl rfl ?_
  refine r_iload_n (q := 71) dX12_add_70 rfl rfl rfl ?_
  refine r_aload_n (q := 72) dX12_add_71 rfl rfl rfl ?_
  refine r_iload_n (q := 73) dX12_add_72 rfl rfl rfl ?_
  have a6 : ∀ k, gI S66 1306 0 k = gI S 1306 0 k := fun k => a3.I (by omega) (by unfold tRef; omega)
  refine r_callV (Mc := mX12_rest) (q := 76) (As := [zi y]) (st := [zi (nI L), zr 12 0]) ck12 dX12_add_73 rfl rfl mkX12_rest wt1884 wt1886 wp125 rfl (Nat.le_of_ble_eq_true rfl) (Nat.le_of_ble_eq_true rfl) (by decide) (by decide) (by decide) (Or.inl rfl) (a3.sd.e (by decide)) (ok_X12_rest (S := S66) a3.sd hW.1.1 hW.1.2.1 (by rw [a6]; exact hr.2.1) y) (fun r73 S73 hp73 => ?_)
  obtain ⟨rfl, hq73⟩ := hp73
  rw [hq73]
  show Ok _ _ _ [zi (nI (rsN y (wP W))), zi (nI L), zr 12 0] _ _
  refine r_callV (Mc := mX12_addLaw) (q := 79) (As := [zi (nI L), zi (nI (rsN y (wP W)))]) (st := []) ck12 dX12_add_76 rfl rfl mkX12_addLaw wt1706 wt1708 wp93 rfl (Nat.le_of_ble_eq_true rfl) (Nat.le_of_ble_eq_true rfl) (by decide) (by decide) (by decide) (Or.inl rfl) (a3.sd.e (by decide)) (ok_X12_addLaw (S := S66) a3.sd hW.2.1 hlaw.2.1 hW.1.1 hW.1.2.1 (b := rsN y (wP W)) (by omega) hU.1 (fun p hp => hlaw.2.2.1.2 p hp) hlU hL18 (hW.lf2 hL) (⟨(a6 _).trans (lr_r hR hL).1, (a6 _).trans (lr_r hR hL).2.1, (a6 _).trans (lr_r hR hL).2.2.1, fun k hk => ⟨(a6 _).trans ((lr_r hR hL).2.2.2 k hk).1, (a6 _).trans ((lr_r hR hL).2.2.2 k hk).2⟩⟩) (gw2.fr a1) a2 hce.1 hcU) (fun r76 S76 hp76 => ?_)
  obtain ⟨rfl, b1, b2⟩ := hp76
  have b3 : Fg tRef S S76 := a3.tr (b1.fg a3.sd tAT_ref)
  have b4 : gI S76 12 0 48 = nI lv := by rw [b1.1 _ _ _ rfl]; exact a4
  have b5 : OwS S S76 := OwS.fr a5 b1
  show Ok _ _ _ [] _ _
  refine r_aload_n (q := 80) dX12_add_79 rfl rfl rfl ?_
  refine r_callV (Mc := mX12_noZeros) (q := 83) (As := []) (st := []) ck12 dX12_add_80 rfl rfl mkX12_noZeros wt1657 wt1659 wp87 rfl (Nat.le_of_ble_eq_true rfl) (Nat.le_of_ble_eq_true rfl) (by decide) (by decide) (by decide) (Or.inl rfl) (b3.sd.e (by decide)) (ok_X12_noZeros b3.sd b2.rz (by have := len_U hre (mem_adds hcU hlU); omega) hW.1.2.1 (fun p hp => (hre.2 p hp).2)) (fun r80 S80 hp80 => ?_)
  obtain ⟨rfl, n1, n2⟩ := hp80
  have n3 : Fg tRef S S80 := b3.tr (n1.fg b3.sd tAT_ref)
  have n4 : gI S80 12 0 48 = nI lv := by rw [n1.1 _ _ _ rfl]; exact b4
  have n5 : OwS S S80 := OwS.fr b5 n1
  show Ok _ _ _ [] _ _
  refine r_aload_n (q := 84) dX12_add_83 rfl rfl rfl ?_
  refine r_callV (Mc := mX12_keepSum) (q := 87) (As := []) (st := []) ck12 dX12_add_84 rfl rfl mkX12_keepSum wt1710 wt1712 wp94 rfl (Nat.le_of_ble_eq_true rfl) (Nat.le_of_ble_eq_true rfl) (by decide) (by decide) (by decide) (Or.inl rfl) (n3.sd.e (by decide)) (Kp S80 n3 n2 n4 n5) (fun r84 S84 hp84 => ?_)
  obtain ⟨rfl, kk⟩ := hp84
  show Ok _ _ _ [zi (nI ((cl (adds (wP W) (rsN y (wP W)) c (lw W L).2)).length))] _ _
  refine r_ireturn dX12_add_87 rfl ?_
  exact kk

set_option maxRecDepth 100000 in
theorem ok_X11_times_out {S : zS} (hs : Sd S) {y : Int32} (hy : ¬ Fa y) : Ok mX11_times 0 (ent 2 [zr 11 0, zi y]) [] S (fun r S1 => r = some (zi (-1)) ∧ S1 = S) := by
  show Ok mX11_times 0 [some (zr 11 0), some (zi y)] [] S _
  refine r_iload_n (q := 1) dX11_times_0 rfl rfl rfl ?_
  refine r_callS (Mc := mX11_isFactor) (q := 4) (As := [zi y]) (st := []) dX11_times_1 rfl rfl mkX11_isFactor wt955 wt956 rfl (Nat.le_of_ble_eq_true rfl) (Nat.le_of_ble_eq_true rfl) (by decide) (by decide) (by decide) (Or.inl rfl) hs.some (ok_X11_isFactor_out hy) (fun r1 S1 hp1 => ?_)
  obtain ⟨rfl, hq1⟩ := hp1
  rw [hq1]
  show Ok _ _ _ [zi (nI 0)] _ _
  refine r_if_neN (q := 7) (t := 9) (by omega) dX11_times_4 (by decide) rfl (fun h4 => absurd h4 (by omega)) (fun h4 => ?_)
  refine r_iconst (q := 8) ((-1 : Int32)) dX11_times_7 rfl (by decide) ?_
  refine r_ireturn dX11_times_8 rfl ?_
  exact ⟨rfl, rfl⟩

set_option maxRecDepth 100000 in
theorem ok_X12_times_out {S : zS} (hs : Sd S) {y : Int32} (hy : ¬ Fa y) : Ok mX12_times 0 (ent 2 [zr 12 0, zi y]) [] S (fun r S1 => r = some (zi (-1)) ∧ S1 = sI S 12 0 0 (nI 0)) := by
  show Ok mX12_times 0 [some (zr 12 0), some (zi y)] [] S _
  refine r_aload_n (q := 1) dX12_times_0 rfl rfl rfl ?_
  refine r_iconst (q := 2) (nI 0) dX12_times_1 rfl (by decide) ?_
  refine r_puti (q := 5) ck12 dX12_times_2 rfl (k := 0) (by decide) wt1278 (Or.inl rfl) rfl (hs.e (by decide)) ?_
  refine r_iload_n (q := 6) dX12_times_5 rfl rfl rfl ?_
  refine r_sipush (q := 9) ((-999 : Int32)) dX12_times_6 rfl (by decide) ?_
  refine r_sipush (q := 12) (nI 999) dX12_times_9 rfl (by decide) ?_
  refine r_callS (Mc := mX12_isIn) (q := 15) (As := [zi y, zi (-999 : Int32), zi (nI 999)]) (st := []) dX12_times_12 rfl rfl mkX12_isIn wt1614 wt1615 rfl (Nat.le_of_ble_eq_true rfl) (Nat.le_of_ble_eq_true rfl) (by decide) (by decide) (by decide) (Or.inl rfl) hs.some (ok_X12_isIn_out (S := sI S 12 0 0 (nI 0)) hy) (fun r12 S12 hp12 => ?_)
  obtain ⟨rfl, hq12⟩ := hp12
  rw [hq12]
  show Ok _ _ _ [zi (nI 0)] _ _
  refine r_if_neN (q := 18) (t := 20) (by omega) dX12_times_15 (by decide) rfl (fun h15 => absurd h15 (by omega)) (fun h15 => ?_)
  refine r_iconst (q := 19) ((-1 : Int32)) dX12_times_18 rfl (by decide) ?_
  refine r_ireturn dX12_times_19 rfl ?_
  exact ⟨rfl, rfl⟩

set_option maxRecDepth 100000 in
theorem ok_X11_take_out {S : zS} (hs : Sd S) {W : zWd} {cc : Nat} (hcc : gI S 11 0 3 = nI cc) (hc4 : cc < 4) (hW : Wok W) (hC : wqC W (fun a k => gI S a cc k) (fun a k => gJ S a cc k)) {a : Int32} (ha : ¬ (0 ≤ a ∧ a < nI (wL W))) : Ok mX11_take 0 (ent 3 [zr 11 0, zi a]) [] S (fun r S1 => r = some (zi (-1)) ∧ S1 = S) := by
  show Ok mX11_take 0 [some (zr 11 0), some (zi a), none] [] S _
  refine r_aload_n (q := 1) dX11_take_0 rfl rfl rfl ?_
  refine r_callV (Mc := mX11_worldHere) (q := 4) (As := []) (st := []) ck11 dX11_take_1 rfl rfl mkX11_worldHere wt678 wt680 wp20 rfl (Nat.le_of_ble_eq_true rfl) (Nat.le_of_ble_eq_true rfl) (by decide) (by decide) (by decide) (Or.inl rfl) (hs.e (by decide)) (ok_X11_worldHere hs hcc hc4) (fun r1 S1 hp1 => ?_)
  obtain ⟨rfl, hq1⟩ := hp1
  rw [hq1]
  show Ok _ _ _ [zr 9 cc] _ _
  refine r_astore_n (q := 5) (L' := [some (zr 11 0), some (zi a), some (zr 9 cc)]) dX11_take_4 rfl rfl (by decide) rfl ?_
  refine r_aload_n (q := 6) dX11_take_5 rfl rfl rfl ?_
  refine r_iload_n (q := 7) dX11_take_6 rfl rfl rfl ?_
  refine r_callV (Mc := mX9_hasLaw) (q := 10) (As := [zi a]) (st := []) ck9 dX11_take_7 rfl rfl mkX9_hasLaw wt690 wt691 wt692 rfl (Nat.le_of_ble_eq_true rfl) (Nat.le_of_ble_eq_true rfl) (by decide) (by decide) (by decide) (Or.inl rfl) (hs.e (show cc < 4 by omega)) (ok_X9_hasLaw_out hs hc4 hC.2.2.1 hW.2.2.2.1 ha) (fun r7 S7 hp7 => ?_)
  obtain ⟨rfl, hq7⟩ := hp7
  rw [hq7]
  show Ok _ _ _ [zi (nI 0)] _ _
  refine r_if_neN (q := 13) (t := 15) (by omega) dX11_take_10 (by decide) rfl (fun h10 => absurd h10 (by omega)) (fun h10 => ?_)
  refine r_iconst (q := 14) ((-1 : Int32)) dX11_take_13 rfl (by decide) ?_
  refine r_ireturn dX11_take_14 rfl ?_
  exact ⟨rfl, rfl⟩

set_option maxRecDepth 100000 in
theorem ok_X12_take_out {S : zS} (hs : Sd S) {W : zWd} (hW : Wok W) (hR : wqR W (fun k => gI S 1306 0 k) (fun i => gJ S 1308 0 i)) {a : Int32} (ha : ¬ (0 ≤ a ∧ a < nI (wL W))) : Ok mX12_take 0 (ent 2 [zr 12 0, zi a]) [] S (fun r S1 => r = some (zi (-1)) ∧ S1 = sI S 12 0 0 (nI 0)) := by
  show Ok mX12_take 0 [some (zr 12 0), some (zi a)] [] S _
  refine r_aload_n (q := 1) dX12_take_0 rfl rfl rfl ?_
  refine r_iconst (q := 2) (nI 0) dX12_take_1 rfl (by decide) ?_
  refine r_puti (q := 5) ck12 dX12_take_2 rfl (k := 0) (by decide) wt1278 (Or.inl rfl) rfl (hs.e (by decide)) ?_
  refine r_aload_n (q := 6) dX12_take_5 rfl rfl rfl ?_
  refine r_iload_n (q := 7) dX12_take_6 rfl rfl rfl ?_
  refine r_callV (Mc := mX12_isLaw) (q := 10) (As := [zi a]) (st := []) ck12 dX12_take_7 rfl rfl mkX12_isLaw wt1677 wt1679 wp89 rfl (Nat.le_of_ble_eq_true rfl) (Nat.le_of_ble_eq_true rfl) (by decide) (by decide) (by decide) (Or.inl rfl) (hs.e (by decide)) (ok_X12_isLaw_out (S := sI S 12 0 0 (nI 0)) hs (by rw [gI_sI, if_neg (by omega)]; exact hR.2.2.1) hW.2.2.2.1 ha) (fun r7 S7 hp7 => ?_)
  obtain ⟨rfl, hq7⟩ := hp7
  rw [hq7]
  show Ok _ _ _ [zi (nI 0)] _ _
  refine r_if_neN (q := 13) (t := 15) (by omega) dX12_take_10 (by decide) rfl (fun h10 => absurd h10 (by omega)) (fun h10 => ?_)
  refine r_iconst (q := 14) ((-1 : Int32)) dX12_take_13 rfl (by decide) ?_
  refine r_ireturn dX12_take_14 rfl ?_
  exact ⟨rfl, rfl⟩

set_option maxRecDepth 100000 in
theorem ok_X11_add_out {S : zS} (hs : Sd S) {W : zWd} {cc : Nat} (hcc : gI S 11 0 3 = nI cc) (hc4 : cc < 4) (hW : Wok W) (hC : wqC W (fun a k => gI S a cc k) (fun a k => gJ S a cc k)) {a : Int32} (ha : ¬ (0 ≤ a ∧ a < nI (wL W))) (y : Int32) : Ok mX11_add 0 (ent 4 [zr 11 0, zi a, zi y]) [] S (fun r S1 => r = some (zi (-1)) ∧ S1 = S) := by
  show Ok mX11_add 0 [some (zr 11 0), some (zi a), some (zi y), none] [] S _
  refine r_aload_n (q := 1) dX11_add_0 rfl rfl rfl ?_
  refine r_callV (Mc := mX11_worldHere) (q := 4) (As := []) (st := []) ck11 dX11_add_1 rfl rfl mkX11_worldHere wt678 wt680 wp20 rfl (Nat.le_of_ble_eq_true rfl) (Nat.le_of_ble_eq_true rfl) (by decide) (by decide) (by decide) (Or.inl rfl) (hs.e (by decide)) (ok_X11_worldHere hs hcc hc4) (fun r1 S1 hp1 => ?_)
  obtain ⟨rfl, hq1⟩ := hp1
  rw [hq1]
  show Ok _ _ _ [zr 9 cc] _ _
  refine r_astore_n (q := 5) (L' := [some (zr 11 0), some (zi a), some (zi y), some (zr 9 cc)]) dX11_add_4 rfl rfl (by decide) rfl ?_
  refine r_aload_n (q := 6) dX11_add_5 rfl rfl rfl ?_
  refine r_iload_n (q := 7) dX11_add_6 rfl rfl rfl ?_
  refine r_callV (Mc := mX9_hasLaw) (q := 10) (As := [zi a]) (st := []) ck9 dX11_add_7 rfl rfl mkX9_hasLaw wt690 wt691 wt692 rfl (Nat.le_of_ble_eq_true rfl) (Nat.le_of_ble_eq_true rfl) (by decide) (by decide) (by decide) (Or.inl rfl) (hs.e (show cc < 4 by omega)) (ok_X9_hasLaw_out hs hc4 hC.2.2.1 hW.2.2.2.1 ha) (fun r7 S7 hp7 => ?_)
  obtain ⟨rfl, hq7⟩ := hp7
  rw [hq7]
  show Ok _ _ _ [zi (nI 0)] _ _
  refine r_if_eqN (q := 13) (t := 36) (by omega) dX11_add_10 (by decide) rfl (fun h10 => ?_) (fun h10 => absurd h10 (by omega))
  refine r_iconst (q := 37) ((-1 : Int32)) dX11_add_36 rfl (by decide) ?_
  refine r_ireturn dX11_add_37 rfl ?_
  exact ⟨rfl, rfl⟩

set_option maxRecDepth 100000 in
theorem ok_X12_add_out {S : zS} (hs : Sd S) {W : zWd} (hW : Wok W) (hR : wqR W (fun k => gI S 1306 0 k) (fun i => gJ S 1308 0 i)) {a : Int32} (ha : ¬ (0 ≤ a ∧ a < nI (wL W))) (y : Int32) : Ok mX12_add 0 (ent 3 [zr 12 0, zi a, zi y]) [] S (fun r S1 => r = some (zi (-1)) ∧ S1 = sI S 12 0 0 (nI 0)) := by
  show Ok mX12_add 0 [some (zr 12 0), some (zi a), some (zi y)] [] S _
  refine r_aload_n (q := 1) dX12_add_0 rfl rfl rfl ?_
  refine r_iconst (q := 2) (nI 0) dX12_add_1 rfl (by decide) ?_
  refine r_puti (q := 5) ck12 dX12_add_2 rfl (k := 0) (by decide) wt1278 (Or.inl rfl) rfl (hs.e (by decide)) ?_
  refine r_aload_n (q := 6) dX12_add_5 rfl rfl rfl ?_
  refine r_iload_n (q := 7) dX12_add_6 rfl rfl rfl ?_
  refine r_callV (Mc := mX12_isLaw) (q := 10) (As := [zi a]) (st := []) ck12 dX12_add_7 rfl rfl mkX12_isLaw wt1677 wt1679 wp89 rfl (Nat.le_of_ble_eq_true rfl) (Nat.le_of_ble_eq_true rfl) (by decide) (by decide) (by decide) (Or.inl rfl) (hs.e (by decide)) (ok_X12_isLaw_out (S := sI S 12 0 0 (nI 0)) hs (by rw [gI_sI, if_neg (by omega)]; exact hR.2.2.1) hW.2.2.2.1 ha) (fun r7 S7 hp7 => ?_)
  obtain ⟨rfl, hq7⟩ := hp7
  rw [hq7]
  show Ok _ _ _ [zi (nI 0)] _ _
  refine r_if_eqN (q := 13) (t := 46) (by omega) dX12_add_10 (by decide) rfl (fun h10 => ?_) (fun h10 => absurd h10 (by omega))
  refine r_iconst (q := 47) ((-1 : Int32)) dX12_add_46 rfl (by decide) ?_
  refine r_ireturn dX12_add_47 rfl ?_
  exact ⟨rfl, rfl⟩

set_option maxRecDepth 100000 in
theorem ok_X11_add_f {S : zS} (hs : Sd S) {W : zWd} {cc : Nat} (hcc : gI S 11 0 3 = nI cc) (hc4 : cc < 4) (hW : Wok W) (hC : wqC W (fun a k => gI S a cc k) (fun a k => gJ S a cc k)) {L lv : Nat} (hL : L < wL W) (hlv : lv ≤ 7) (l1 : gI S 8 0 0 = nI lv) {y : Int32} (hy : ¬ Fa y) : Ok mX11_add 0 (ent 4 [zr 11 0, zi (nI L), zi y]) [] S (fun r S1 => r = some (zi (-1)) ∧ S1 = S) := by
  have h77 := (hW.2.2.2.2.2 L hL).2.1
  have hL18 : L < 18 := by have := hW.2.2.2.1; omega
  show Ok mX11_add 0 [some (zr 11 0), some (zi (nI L)), some (zi y), none] [] S _
  refine r_aload_n (q := 1) dX11_add_0 rfl rfl rfl ?_
  refine r_callV (Mc := mX11_worldHere) (q := 4) (As := []) (st := []) ck11 dX11_add_1 rfl rfl mkX11_worldHere wt678 wt680 wp20 rfl (Nat.le_of_ble_eq_true rfl) (Nat.le_of_ble_eq_true rfl) (by decide) (by decide) (by decide) (Or.inl rfl) (hs.e (by decide)) (ok_X11_worldHere hs hcc hc4) (fun r1 S1 hp1 => ?_)
  obtain ⟨rfl, hq1⟩ := hp1
  rw [hq1]
  show Ok _ _ _ [zr 9 cc] _ _
  refine r_astore_n (q := 5) (L' := [some (zr 11 0), some (zi (nI L)), some (zi y), some (zr 9 cc)]) dX11_add_4 rfl rfl (by decide) rfl ?_
  refine r_aload_n (q := 6) dX11_add_5 rfl rfl rfl ?_
  refine r_iload_n (q := 7) dX11_add_6 rfl rfl rfl ?_
  refine r_callV (Mc := mX9_hasLaw) (q := 10) (As := [zi (nI L)]) (st := []) ck9 dX11_add_7 rfl rfl mkX9_hasLaw wt690 wt691 wt692 rfl (Nat.le_of_ble_eq_true rfl) (Nat.le_of_ble_eq_true rfl) (by decide) (by decide) (by decide) (Or.inl rfl) (hs.e (show cc < 4 by omega)) (ok_X9_hasLaw_in hs hc4 hC.2.2.1 hW.2.2.2.1 hL) (fun r7 S7 hp7 => ?_)
  obtain ⟨rfl, hq7⟩ := hp7
  rw [hq7]
  show Ok _ _ _ [zi (nI 1)] _ _
  refine r_if_eqN (q := 13) (t := 36) (by omega) dX11_add_10 (by decide) rfl (fun h10 => absurd h10 (by omega)) (fun h10 => ?_)
  refine r_aload_n (q := 14) dX11_add_13 rfl rfl rfl ?_
  refine r_getr (q := 17) (some (1005, cc)) ck9 dX11_add_14 rfl (k := 5) (by decide) wt320 rfl (hs.e (show cc < 4 by omega)) (hs.r (show cc < 4 by omega) (by decide)) ?_
  refine r_iload_n (q := 18) dX11_add_17 rfl rfl rfl ?_
  refine r_ialdN (q := 19) 18 (by decide) rfl dX11_add_18 rfl (hs.e (show cc < 4 by omega)) (hs.n rfl (show cc < 4 by omega)) (by omega) (by decide) ?_
  refine r_topi (y := nI ((lw W L).1)) (hC.2.2.2.2.1 L hL) ?_
  refine r_aload_n (q := 20) dX11_add_19 rfl rfl rfl ?_
  refine r_getr (q := 23) (some (8, 0)) ck11 dX11_add_20 rfl (k := 7) (by decide) wt429 rfl (hs.e (by decide)) (hs.r (by decide) (by decide)) ?_
  refine r_geti (q := 26) ck8 dX11_add_23 rfl (k := 0) (by decide) wt60 (Or.inl rfl) (hs.e (by decide)) ?_
  refine r_topi (y := nI lv) l1 ?_
  refine r_icmp_neN (q := 29) (t := 36) (by omega) (by omega) dX11_add_26 (by decide) rfl (fun h26 => ?_) (fun h26 => ?_)
  · skip
    refine r_iconst (q := 37) ((-1 : Int32)) dX11_add_36 rfl (by decide) ?_
    refine r_ireturn dX11_add_37 rfl ?_
    exact ⟨rfl, rfl⟩
  · skip
    refine r_iload_n (q := 30) dX11_add_29 rfl rfl rfl ?_
    refine r_callS (Mc := mX11_isFactor) (q := 33) (As := [zi y]) (st := []) dX11_add_30 rfl rfl mkX11_isFactor wt955 wt956 rfl (Nat.le_of_ble_eq_true rfl) (Nat.le_of_ble_eq_true rfl) (by decide) (by decide) (by decide) (Or.inl rfl) hs.some (ok_X11_isFactor_out hy) (fun r30 S30 hp30 => ?_)
    obtain ⟨rfl, hq30⟩ := hp30
    rw [hq30]
    show Ok _ _ _ [zi (nI 0)] _ _
    refine r_if_neN (q := 36) (t := 38) (by omega) dX11_add_33 (by decide) rfl (fun h33 => absurd h33 (by omega)) (fun h33 => ?_)
    refine r_iconst (q := 37) ((-1 : Int32)) dX11_add_36 rfl (by decide) ?_
    refine r_ireturn dX11_add_37 rfl ?_
    exact ⟨rfl, rfl⟩

set_option maxRecDepth 100000 in
theorem ok_X12_add_f {S : zS} (hs : Sd S) {W : zWd} (hW : Wok W) (hR : wqR W (fun k => gI S 1306 0 k) (fun i => gJ S 1308 0 i)) {L lv : Nat} (hL : L < wL W) (hlv : lv ≤ 7) (l2 : gI S 1306 0 1173 = nI lv) {y : Int32} (hy : ¬ Fa y) : Ok mX12_add 0 (ent 3 [zr 12 0, zi (nI L), zi y]) [] S (fun r S1 => r = some (zi (-1)) ∧ S1 = sI S 12 0 0 (nI 0)) := by
  have h77 := (hW.2.2.2.2.2 L hL).2.1
  have hL18 : L < 18 := by have := hW.2.2.2.1; omega
  show Ok mX12_add 0 [some (zr 12 0), some (zi (nI L)), some (zi y)] [] S _
  refine r_aload_n (q := 1) dX12_add_0 rfl rfl rfl ?_
  refine r_iconst (q := 2) (nI 0) dX12_add_1 rfl (by decide) ?_
  refine r_puti (q := 5) ck12 dX12_add_2 rfl (k := 0) (by decide) wt1278 (Or.inl rfl) rfl (hs.e (by decide)) ?_
  refine r_aload_n (q := 6) dX12_add_5 rfl rfl rfl ?_
  refine r_iload_n (q := 7) dX12_add_6 rfl rfl rfl ?_
  refine r_callV (Mc := mX12_isLaw) (q := 10) (As := [zi (nI L)]) (st := []) ck12 dX12_add_7 rfl rfl mkX12_isLaw wt1677 wt1679 wp89 rfl (Nat.le_of_ble_eq_true rfl) (Nat.le_of_ble_eq_true rfl) (by decide) (by decide) (by decide) (Or.inl rfl) (hs.e (by decide)) (ok_X12_isLaw_in (S := sI S 12 0 0 (nI 0)) hs (by rw [gI_sI, if_neg (by omega)]; exact hR.2.2.1) hW.2.2.2.1 hL) (fun r7 S7 hp7 => ?_)
  obtain ⟨rfl, hq7⟩ := hp7
  rw [hq7]
  show Ok _ _ _ [zi (nI 1)] _ _
  refine r_if_eqN (q := 13) (t := 46) (by omega) dX12_add_10 (by decide) rfl (fun h10 => absurd h10 (by omega)) (fun h10 => ?_)
  refine r_iload_n (q := 14) dX12_add_13 rfl rfl rfl ?_
  refine r_sipush (q := 17) ((-999 : Int32)) dX12_add_14 rfl (by decide) ?_
  refine r_sipush (q := 20) (nI 999) dX12_add_17 rfl (by decide) ?_
  refine r_callS (Mc := mX12_isIn) (q := 23) (As := [zi y, zi (-999 : Int32), zi (nI 999)]) (st := []) dX12_add_20 rfl rfl mkX12_isIn wt1614 wt1615 rfl (Nat.le_of_ble_eq_true rfl) (Nat.le_of_ble_eq_true rfl) (by decide) (by decide) (by decide) (Or.inl rfl) hs.some (ok_X12_isIn_out (S := sI S 12 0 0 (nI 0)) hy) (fun r20 S20 hp20 => ?_)
  obtain ⟨rfl, hq20⟩ := hp20
  rw [hq20]
  show Ok _ _ _ [zi (nI 0)] _ _
  refine r_if_eqN (q := 26) (t := 46) (by omega) dX12_add_23 (by decide) rfl (fun h23 => ?_) (fun h23 => absurd h23 (by omega))
  refine r_iconst (q := 47) ((-1 : Int32)) dX12_add_46 rfl (by decide) ?_
  refine r_ireturn dX12_add_47 rfl ?_
  exact ⟨rfl, rfl⟩

set_option maxRecDepth 100000 in
theorem ok_X11_add_l {S : zS} (hs : Sd S) {W : zWd} {cc : Nat} (hcc : gI S 11 0 3 = nI cc) (hc4 : cc < 4) (hW : Wok W) (hC : wqC W (fun a k => gI S a cc k) (fun a k => gJ S a cc k)) {L lv : Nat} (hL : L < wL W) (hlv : lv ≤ 7) (l1 : gI S 8 0 0 = nI lv) {y : Int32} (hy : Fa y) (hd : (lw W L).1 ≠ lv) : Ok mX11_add 0 (ent 4 [zr 11 0, zi (nI L), zi y]) [] S (fun r S1 => r = some (zi (-1)) ∧ S1 = S) := by
  have h77 := (hW.2.2.2.2.2 L hL).2.1
  have hL18 : L < 18 := by have := hW.2.2.2.1; omega
  show Ok mX11_add 0 [some (zr 11 0), some (zi (nI L)), some (zi y), none] [] S _
  refine r_aload_n (q := 1) dX11_add_0 rfl rfl rfl ?_
  refine r_callV (Mc := mX11_worldHere) (q := 4) (As := []) (st := []) ck11 dX11_add_1 rfl rfl mkX11_worldHere wt678 wt680 wp20 rfl (Nat.le_of_ble_eq_true rfl) (Nat.le_of_ble_eq_true rfl) (by decide) (by decide) (by decide) (Or.inl rfl) (hs.e (by decide)) (ok_X11_worldHere hs hcc hc4) (fun r1 S1 hp1 => ?_)
  obtain ⟨rfl, hq1⟩ := hp1
  rw [hq1]
  show Ok _ _ _ [zr 9 cc] _ _
  refine r_astore_n (q := 5) (L' := [some (zr 11 0), some (zi (nI L)), some (zi y), some (zr 9 cc)]) dX11_add_4 rfl rfl (by decide) rfl ?_
  refine r_aload_n (q := 6) dX11_add_5 rfl rfl rfl ?_
  refine r_iload_n (q := 7) dX11_add_6 rfl rfl rfl ?_
  refine r_callV (Mc := mX9_hasLaw) (q := 10) (As := [zi (nI L)]) (st := []) ck9 dX11_add_7 rfl rfl mkX9_hasLaw wt690 wt691 wt692 rfl (Nat.le_of_ble_eq_true rfl) (Nat.le_of_ble_eq_true rfl) (by decide) (by decide) (by decide) (Or.inl rfl) (hs.e (show cc < 4 by omega)) (ok_X9_hasLaw_in hs hc4 hC.2.2.1 hW.2.2.2.1 hL) (fun r7 S7 hp7 => ?_)
  obtain ⟨rfl, hq7⟩ := hp7
  rw [hq7]
  show Ok _ _ _ [zi (nI 1)] _ _
  refine r_if_eqN (q := 13) (t := 36) (by omega) dX11_add_10 (by decide) rfl (fun h10 => absurd h10 (by omega)) (fun h10 => ?_)
  refine r_aload_n (q := 14) dX11_add_13 rfl rfl rfl ?_
  refine r_getr (q := 17) (some (1005, cc)) ck9 dX11_add_14 rfl (k := 5) (by decide) wt320 rfl (hs.e (show cc < 4 by omega)) (hs.r (show cc < 4 by omega) (by decide)) ?_
  refine r_iload_n (q := 18) dX11_add_17 rfl rfl rfl ?_
  refine r_ialdN (q := 19) 18 (by decide) rfl dX11_add_18 rfl (hs.e (show cc < 4 by omega)) (hs.n rfl (show cc < 4 by omega)) (by omega) (by decide) ?_
  refine r_topi (y := nI ((lw W L).1)) (hC.2.2.2.2.1 L hL) ?_
  refine r_aload_n (q := 20) dX11_add_19 rfl rfl rfl ?_
  refine r_getr (q := 23) (some (8, 0)) ck11 dX11_add_20 rfl (k := 7) (by decide) wt429 rfl (hs.e (by decide)) (hs.r (by decide) (by decide)) ?_
  refine r_geti (q := 26) ck8 dX11_add_23 rfl (k := 0) (by decide) wt60 (Or.inl rfl) (hs.e (by decide)) ?_
  refine r_topi (y := nI lv) l1 ?_
  refine r_icmp_neN (q := 29) (t := 36) (by omega) (by omega) dX11_add_26 (by decide) rfl (fun h26 => ?_) (fun h26 => absurd h26 (hd))
  refine r_iconst (q := 37) ((-1 : Int32)) dX11_add_36 rfl (by decide) ?_
  refine r_ireturn dX11_add_37 rfl ?_
  exact ⟨rfl, rfl⟩

set_option maxRecDepth 100000 in
theorem ok_X12_add_l {S : zS} (hs : Sd S) {W : zWd} (hW : Wok W) (hR : wqR W (fun k => gI S 1306 0 k) (fun i => gJ S 1308 0 i)) {L lv : Nat} (hL : L < wL W) (hlv : lv ≤ 7) (l2 : gI S 1306 0 1173 = nI lv) {y : Int32} (hy : Fa y) (hd : (lw W L).1 ≠ lv) : Ok mX12_add 0 (ent 3 [zr 12 0, zi (nI L), zi y]) [] S (fun r S1 => r = some (zi (-1)) ∧ S1 = sI S 12 0 0 (nI 0)) := by
  have h77 := (hW.2.2.2.2.2 L hL).2.1
  have hL18 : L < 18 := by have := hW.2.2.2.1; omega
  show Ok mX12_add 0 [some (zr 12 0), some (zi (nI L)), some (zi y)] [] S _
  refine r_aload_n (q := 1) dX12_add_0 rfl rfl rfl ?_
  refine r_iconst (q := 2) (nI 0) dX12_add_1 rfl (by decide) ?_
  refine r_puti (q := 5) ck12 dX12_add_2 rfl (k := 0) (by decide) wt1278 (Or.inl rfl) rfl (hs.e (by decide)) ?_
  refine r_aload_n (q := 6) dX12_add_5 rfl rfl rfl ?_
  refine r_iload_n (q := 7) dX12_add_6 rfl rfl rfl ?_
  refine r_callV (Mc := mX12_isLaw) (q := 10) (As := [zi (nI L)]) (st := []) ck12 dX12_add_7 rfl rfl mkX12_isLaw wt1677 wt1679 wp89 rfl (Nat.le_of_ble_eq_true rfl) (Nat.le_of_ble_eq_true rfl) (by decide) (by decide) (by decide) (Or.inl rfl) (hs.e (by decide)) (ok_X12_isLaw_in (S := sI S 12 0 0 (nI 0)) hs (by rw [gI_sI, if_neg (by omega)]; exact hR.2.2.1) hW.2.2.2.1 hL) (fun r7 S7 hp7 => ?_)
  obtain ⟨rfl, hq7⟩ := hp7
  rw [hq7]
  show Ok _ _ _ [zi (nI 1)] _ _
  refine r_if_eqN (q := 13) (t := 46) (by omega) dX12_add_10 (by decide) rfl (fun h10 => absurd h10 (by omega)) (fun h10 => ?_)
  refine r_iload_n (q := 14) dX12_add_13 rfl rfl rfl ?_
  refine r_sipush (q := 17) ((-999 : Int32)) dX12_add_14 rfl (by decide) ?_
  refine r_sipush (q := 20) (nI 999) dX12_add_17 rfl (by decide) ?_
  refine r_callS (Mc := mX12_isIn) (q := 23) (As := [zi y, zi (-999 : Int32), zi (nI 999)]) (st := []) dX12_add_20 rfl rfl mkX12_isIn wt1614 wt1615 rfl (Nat.le_of_ble_eq_true rfl) (Nat.le_of_ble_eq_true rfl) (by decide) (by decide) (by decide) (Or.inl rfl) hs.some (ok_X12_isIn_i (S := sI S 12 0 0 (nI 0)) hy) (fun r20 S20 hp20 => ?_)
  obtain ⟨rfl, hq20⟩ := hp20
  rw [hq20]
  show Ok _ _ _ [zi (nI 1)] _ _
  refine r_if_eqN (q := 26) (t := 46) (by omega) dX12_add_23 (by decide) rfl (fun h23 => absurd h23 (by omega)) (fun h23 => ?_)
  refine r_aload_n (q := 27) dX12_add_26 rfl rfl rfl ?_
  refine r_getr (q := 30) (some (1306, 0)) ck12 dX12_add_27 rfl (k := 6) (by decide) wt1284 rfl (hs.e (by decide)) (hs.r (by decide) (by decide)) ?_
  refine r_bipush (q := 32) (nI 7) dX12_add_30 rfl (by decide) ?_
  refine r_iload_n (q := 33) dX12_add_32 rfl rfl rfl ?_
  refine r_iaddN (q := 34) dX12_add_33 rfl ?_
  refine r_ialdN (q := 35) 3775 (by decide) rfl dX12_add_34 rfl (hs.e (by decide)) (hs.n rfl (by decide)) (by omega) (by decide) ?_
  refine r_topi (y := gI S 1306 0 (7 + L)) (by simp [gI_sI, gJ_sJ, gI_sJ, gJ_sI]) ?_
  refine r_topi (y := nI ((lw W L).1)) (hR.2.2.2.2.1 L hL) ?_
  refine r_aload_n (q := 36) dX12_add_35 rfl rfl rfl ?_
  refine r_getr (q := 39) (some (1306, 0)) ck12 dX12_add_36 rfl (k := 6) (by decide) wt1284 rfl (hs.e (by decide)) (hs.r (by decide) (by decide)) ?_
  refine r_sipush (q := 42) (nI 1173) dX12_add_39 rfl (by decide) ?_
  refine r_ialdN (q := 43) 3775 (by decide) rfl dX12_add_42 rfl (hs.e (by decide)) (hs.n rfl (by decide)) (by omega) (by decide) ?_
  refine r_topi (y := gI S 1306 0 1173) (by simp [gI_sI, gJ_sJ, gI_sJ, gJ_sI]) ?_
  refine r_topi (y := nI lv) l2 ?_
  refine r_icmp_eqN (q := 46) (t := 48) (by omega) (by omega) dX12_add_43 (by decide) rfl (fun h43 => absurd h43 (hd)) (fun h43 => ?_)
  refine r_iconst (q := 47) ((-1 : Int32)) dX12_add_46 rfl (by decide) ?_
  refine r_ireturn dX12_add_47 rfl ?_
  exact ⟨rfl, rfl⟩

theorem pg_times {S : zS} (hs : Sd S) {W : zWd} {cc : Nat} (hcc : gI S 11 0 3 = nI cc) (hc4 : cc < 4) (hw : WR wq S W cc 1306 0 1308 0) {h q : Nat} (hP : Pst sq S W h q) (hA : SR sq S W 0 1306 1173) (hT : TLs S) (hO : Cw S) (y : Int32) : Pg mX11_times 2 [zr 11 0, zi y] mX12_times 2 [zr 12 0, zi y] S (fun S2 => S2 = sI S 12 0 0 (nI 0) ∨ Kept S S2 W h q) := by
  obtain ⟨hW, hC, hR⟩ := hw.c
  obtain ⟨lv, c, hS, l1, l2, l3, l4, hrow⟩ := hA.get
  have hP2 := hW.1.1
  have hP97 := hW.1.2.1
  have hE := hW.2.1
  have hlv := hS.2.1
  have hCe := hS.2.2.1
  have hR3 : ∀ S3, Fg (fun a b k => tMd a b k ∨ tKp a b k) S S3 → wqR W (fun k => gI S3 1306 0 k) (fun i => gJ S3 1308 0 i) := fun S3 f => hR.cong hW (fun k _ _ => (f.I (by omega) (by unfold tMd tKp; omega)).symm) (fun i _ => (f.J (by omega) (by unfold tMd tKp; omega)).symm)
  have hO3 : ∀ S3, Fg (fun a b k => tMd a b k ∨ tKp a b k) S S3 → Cw S3 := fun S3 f z k hk h3 => by
    rw [f.I (by omega) (by unfold tMd tKp; omega), f.I (by omega) (by unfold tMd tKp; omega)]
    exact hO ((f.I (by omega) (by unfold tMd tKp; omega)).symm.trans z) k hk h3
  have hty : Ty S 0 c := by
    obtain ⟨m, e9, m1, m2, m3, m4, m5, m6⟩ := hT 0 (by omega)
    have hcl : c.length = e9 := by
      have t1 := congrArg Int32.toInt (l3.symm.trans m5)
      rw [nI_toInt (by have := hS.len; omega), nI_toInt (by omega)] at t1
      omega
    exact ⟨l3, fun k hk => ⟨(hrow k hk).1, (hrow k hk).2.1⟩, m, m1, m2, m3, m4, by omega⟩
  have hr3 : ∀ S3, Fg (fun a b k => tMd a b k ∨ tKp a b k) S S3 → Hr S3 (wP W) c := fun S3 f => ⟨(f.I (by omega) (by unfold tMd tKp; omega)).trans l4, (f.I (by omega) (by unfold tMd tKp; omega)).trans hR.1, fun k hk => ⟨(f.I (by omega) (by unfold tMd tKp; omega)).trans (hrow k hk).2.2.1, (f.I (by omega) (by unfold tMd tKp; omega)).trans (hrow k hk).2.2.2⟩⟩
  have hl3 : ∀ S3, Fg (fun a b k => tMd a b k ∨ tKp a b k) S S3 → gI S3 1306 0 1173 = nI lv := fun S3 f => (f.I (by omega) (by unfold tMd tKp; omega)).trans l2
  by_cases hy : Fa y
  · refine Ok.mono (cm_times hs hcc hc4 hw hP hA hT hO hW hC hS l1 hty hy) fun r S3 z => ⟨_, z.1, z.2.1.sd, rm_times z.2.1.sd (hO3 S3 z.2.1) hW (hR3 S3 z.2.1) hS (hl3 S3 z.2.1) (hr3 S3 z.2.1) hy (fun T f3 g1 g2 g3 => Ok.mono (z.2.2 T f3 g1 g2) fun r S4 y4 => ⟨y4.1, rfl, Or.inr (kept_of (T0 := tRef) z.2.1 hO f3 g3 y4.2)⟩)⟩
  · exact Pg.mono (pg_get hs (ok_X11_times_out hs hy) (ok_X12_times_out hs hy) rfl) fun S2 z => Or.inl z

theorem pg_take {S : zS} (hs : Sd S) {W : zWd} {cc : Nat} (hcc : gI S 11 0 3 = nI cc) (hc4 : cc < 4) (hw : WR wq S W cc 1306 0 1308 0) {h q : Nat} (hP : Pst sq S W h q) (hA : SR sq S W 0 1306 1173) (hT : TLs S) (hO : Cw S) (a : Int32) : Pg mX11_take 3 [zr 11 0, zi a] mX12_take 2 [zr 12 0, zi a] S (fun S2 => S2 = sI S 12 0 0 (nI 0) ∨ Kept S S2 W h q) := by
  obtain ⟨hW, hC, hR⟩ := hw.c
  obtain ⟨lv, c, hS, l1, l2, l3, l4, hrow⟩ := hA.get
  have hP2 := hW.1.1
  have hP97 := hW.1.2.1
  have hE := hW.2.1
  have hlv := hS.2.1
  have hCe := hS.2.2.1
  have hR3 : ∀ S3, Fg (fun a b k => tMd a b k ∨ tKp a b k) S S3 → wqR W (fun k => gI S3 1306 0 k) (fun i => gJ S3 1308 0 i) := fun S3 f => hR.cong hW (fun k _ _ => (f.I (by omega) (by unfold tMd tKp; omega)).symm) (fun i _ => (f.J (by omega) (by unfold tMd tKp; omega)).symm)
  have hO3 : ∀ S3, Fg (fun a b k => tMd a b k ∨ tKp a b k) S S3 → Cw S3 := fun S3 f z k hk h3 => by
    rw [f.I (by omega) (by unfold tMd tKp; omega), f.I (by omega) (by unfold tMd tKp; omega)]
    exact hO ((f.I (by omega) (by unfold tMd tKp; omega)).symm.trans z) k hk h3
  have hty : Ty S 0 c := by
    obtain ⟨m, e9, m1, m2, m3, m4, m5, m6⟩ := hT 0 (by omega)
    have hcl : c.length = e9 := by
      have t1 := congrArg Int32.toInt (l3.symm.trans m5)
      rw [nI_toInt (by have := hS.len; omega), nI_toInt (by omega)] at t1
      omega
    exact ⟨l3, fun k hk => ⟨(hrow k hk).1, (hrow k hk).2.1⟩, m, m1, m2, m3, m4, by omega⟩
  have hr3 : ∀ S3, Fg (fun a b k => tMd a b k ∨ tKp a b k) S S3 → Hr S3 (wP W) c := fun S3 f => ⟨(f.I (by omega) (by unfold tMd tKp; omega)).trans l4, (f.I (by omega) (by unfold tMd tKp; omega)).trans hR.1, fun k hk => ⟨(f.I (by omega) (by unfold tMd tKp; omega)).trans (hrow k hk).2.2.1, (f.I (by omega) (by unfold tMd tKp; omega)).trans (hrow k hk).2.2.2⟩⟩
  have hl3 : ∀ S3, Fg (fun a b k => tMd a b k ∨ tKp a b k) S S3 → gI S3 1306 0 1173 = nI lv := fun S3 f => (f.I (by omega) (by unfold tMd tKp; omega)).trans l2
  have hL18 := hW.2.2.2.1
  by_cases ha : 0 ≤ a ∧ a < nI (wL W)
  · obtain ⟨L, hL, rfl⟩ := zz_of ha (by omega)
    refine Ok.mono (cm_take hs hcc hc4 hw hP hA hT hO hW hC hL) fun r S3 z => ⟨_, z.1, z.2.1.sd, rm_take z.2.1.sd (hO3 S3 z.2.1) hW (hR3 S3 z.2.1) hL (fun T f3 g1 g2 g3 => Ok.mono (z.2.2 T f3 g1 g2) fun r S4 y4 => ⟨y4.1, rfl, Or.inr (kept_of (T0 := tRef) z.2.1 hO f3 g3 y4.2)⟩)⟩
  · exact Pg.mono (pg_get hs (ok_X11_take_out hs hcc hc4 hW hC ha) (ok_X12_take_out hs hW hR ha) rfl) fun S2 z => Or.inl z

theorem pg_add {S : zS} (hs : Sd S) {W : zWd} {cc : Nat} (hcc : gI S 11 0 3 = nI cc) (hc4 : cc < 4) (hw : WR wq S W cc 1306 0 1308 0) {h q : Nat} (hP : Pst sq S W h q) (hA : SR sq S W 0 1306 1173) (hT : TLs S) (hO : Cw S) (a y : Int32) : Pg mX11_add 4 [zr 11 0, zi a, zi y] mX12_add 3 [zr 12 0, zi a, zi y] S (fun S2 => S2 = sI S 12 0 0 (nI 0) ∨ Kept S S2 W h q) := by
  obtain ⟨hW, hC, hR⟩ := hw.c
  obtain ⟨lv, c, hS, l1, l2, l3, l4, hrow⟩ := hA.get
  have hP2 := hW.1.1
  have hP97 := hW.1.2.1
  have hE := hW.2.1
  have hlv := hS.2.1
  have hCe := hS.2.2.1
  have hR3 : ∀ S3, Fg (fun a b k => tMd a b k ∨ tKp a b k) S S3 → wqR W (fun k => gI S3 1306 0 k) (fun i => gJ S3 1308 0 i) := fun S3 f => hR.cong hW (fun k _ _ => (f.I (by omega) (by unfold tMd tKp; omega)).symm) (fun i _ => (f.J (by omega) (by unfold tMd tKp; omega)).symm)
  have hO3 : ∀ S3, Fg (fun a b k => tMd a b k ∨ tKp a b k) S S3 → Cw S3 := fun S3 f z k hk h3 => by
    rw [f.I (by omega) (by unfold tMd tKp; omega), f.I (by omega) (by unfold tMd tKp; omega)]
    exact hO ((f.I (by omega) (by unfold tMd tKp; omega)).symm.trans z) k hk h3
  have hty : Ty S 0 c := by
    obtain ⟨m, e9, m1, m2, m3, m4, m5, m6⟩ := hT 0 (by omega)
    have hcl : c.length = e9 := by
      have t1 := congrArg Int32.toInt (l3.symm.trans m5)
      rw [nI_toInt (by have := hS.len; omega), nI_toInt (by omega)] at t1
      omega
    exact ⟨l3, fun k hk => ⟨(hrow k hk).1, (hrow k hk).2.1⟩, m, m1, m2, m3, m4, by omega⟩
  have hr3 : ∀ S3, Fg (fun a b k => tMd a b k ∨ tKp a b k) S S3 → Hr S3 (wP W) c := fun S3 f => ⟨(f.I (by omega) (by unfold tMd tKp; omega)).trans l4, (f.I (by omega) (by unfold tMd tKp; omega)).trans hR.1, fun k hk => ⟨(f.I (by omega) (by unfold tMd tKp; omega)).trans (hrow k hk).2.2.1, (f.I (by omega) (by unfold tMd tKp; omega)).trans (hrow k hk).2.2.2⟩⟩
  have hl3 : ∀ S3, Fg (fun a b k => tMd a b k ∨ tKp a b k) S S3 → gI S3 1306 0 1173 = nI lv := fun S3 f => (f.I (by omega) (by unfold tMd tKp; omega)).trans l2
  have hL18 := hW.2.2.2.1
  by_cases ha : 0 ≤ a ∧ a < nI (wL W)
  · obtain ⟨L, hL, rfl⟩ := zz_of ha (by omega)
    by_cases hy : Fa y
    · by_cases hd : (lw W L).1 = lv
      · refine Ok.mono (cm_add hs hcc hc4 hw hP hA hT hO hW hC hS l1 hty hL hd hy) fun r S3 z => ⟨_, z.1, z.2.1.sd, rm_add z.2.1.sd (hO3 S3 z.2.1) hW (hR3 S3 z.2.1) hS (hl3 S3 z.2.1) (hr3 S3 z.2.1) hL hd hy (fun T f3 g1 g2 g3 => Ok.mono (z.2.2 T f3 g1 g2) fun r S4 y4 => ⟨y4.1, rfl, Or.inr (kept_of (T0 := tRef) z.2.1 hO f3 g3 y4.2)⟩)⟩
      · exact Pg.mono (pg_get hs (ok_X11_add_l hs hcc hc4 hW hC hL hlv l1 hy hd) (ok_X12_add_l hs hW hR hL hlv l2 hy hd) rfl) fun S2 z => Or.inl z
    · exact Pg.mono (pg_get hs (ok_X11_add_f hs hcc hc4 hW hC hL hlv l1 hy) (ok_X12_add_f hs hW hR hL hlv l2 hy) rfl) fun S2 z => Or.inl z
  · exact Pg.mono (pg_get hs (ok_X11_add_out hs hcc hc4 hW hC ha y) (ok_X12_add_out hs hW hR ha y) rfl) fun S2 z => Or.inl z

