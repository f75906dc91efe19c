/-! sums drawn -/
theorem nI_all (x : Int32) : ∃ n, n < 4294967296 ∧ x = nI n := by
  refine ⟨x.toBitVec.toNat, x.toBitVec.isLt, ?_⟩
  apply Int32.toBitVec.inj
  show x.toBitVec = BitVec.ofNat 32 x.toBitVec.toNat
  simp
theorem ushr8 (x : Int32) : ∃ m, m < 16777216 ∧ (x.toUInt32 >>> ((nI 8).toUInt32 &&& Int32.toUInt32 31)).toInt32 = nI m := by
  obtain ⟨n, hn, rfl⟩ := nI_all x
  exact ⟨n / 2 ^ 8, by omega, pk_ushrN hn _ 8 (by decide)⟩
theorem one_sum {P : Nat} (h : 2 ≤ P) {t : List Nat} : cl (addT P t 1 []) = [(t, 1)] := by
  rw [addT, Nat.mod_eq_of_lt (by omega)]
  rfl
theorem add_one {P : Nat} (h : 2 ≤ P) {t : List Nat} : addT P t 1 [] = [(t, 1)] := by
  rw [addT, Nat.mod_eq_of_lt (by omega)]
theorem sm_one {W : zWd} (hW : Wok W) {n : Nat} (hn1 : 1 ≤ n) (hn7 : n ≤ 7) {t : List Nat} (ht : Tr (wA W) (we W) n t) : Sm W n [(t, 1)] := by
  refine ⟨hn1, hn7, ⟨⟨List.pairwise_singleton _ _, fun p hp => ?_⟩, fun p hp => ?_⟩, lawU W ++ [t], uok_mk hW n [t] (by simp), fun p hp => ?_⟩
  · rw [List.mem_singleton.mp hp]; exact ⟨ht, by have := hW.1.1; show 1 < wP W; omega⟩
  · rw [List.mem_singleton.mp hp]; exact Nat.one_ne_zero
  · rw [List.mem_singleton.mp hp]; exact List.mem_append.mpr (Or.inr (List.mem_singleton.mpr rfl))
/-- what the reference touches in calls that make sums by its levels -/
def tDr (a b k : Nat) : Prop := tBy a b k = true ∨ tAT a b k = true ∨ a = 12 ∧ b = 0 ∧ (k = 0 ∨ k = 90 ∨ k = 47 ∨ k = 48)
def tCm (cc a b k : Nat) : Prop := tRe cc a b k ∨ tMd a b k
def tKb (cc a b k : Nat) : Prop := tRe cc a b k ∨ tMd a b k ∨ tKp a b k ∨ tKs a b k ∨ tDr a b k
theorem by_x {x y k : Nat} (h : x = 8 ∨ x = 902 ∨ x = 903 ∨ x = 11 ∨ x = 1306 ∨ x = 1357 ∨ x = 12 ∧ k = 58) : ¬ tDr x y k := fun z => by
  rcases z with z | z | z
  · simp [tBy, tSe, tTq, tPt, tPa, tIv, tOw] at z; omega
  · simp [tAT, tPa] at z; omega
  · omega
/-- a call that kept a sum, with the caches -/
def KeptB (S S2 : zS) (W : zWd) (cc h q : Nat) : Prop := Fg (tKb cc) S S2 ∧ BsC S2 cc W ∧ SR sq S2 W 0 1306 1173 ∧ Pst sq S2 W (min 8 (h + 1)) ((q + 1) % 8) ∧ TLs S2
/-- what keepSum gives, as the class's half leaves it -/
def KsR (S3 : zS) (W : zWd) (h q lv : Nat) (c : List zT) : Prop := ∀ T, Fg tDr S3 T → Rz T c → gI T 12 0 48 = nI lv → Ok mX12_keepSum 0 (ent 2 [zr 12 0]) [] T (fun r S4 => r = some (zi (nI c.length)) ∧ Fg tKs T S4 ∧ SR sq S4 W 0 1306 1173 ∧ Pst sq S4 W (min 8 (h + 1)) ((q + 1) % 8) ∧ TLs S4)
theorem keep4 {S S2 : zS} {W : zWd} {cc h q lv : Nat} {c : List zT} (hP : Pst sq S W h q) (hA : SR sq S W 0 1306 1173) (hf : Fg (tCm cc) S S2) (hTL : TLs S2) (hc : Ty S2 11 c) (hl : gI S2 8 11 0 = nI lv) (hS : Sm W lv c) : Ok mX11_keepMade 0 (ent 1 [zr 11 0]) [] S2 (fun r S3 => r = some (zi (nI c.length)) ∧ Fg tKp S2 S3 ∧ KsR S3 W h q lv c) := keep3 hP hA hf (fun j k h1 h2 => by unfold tCm tRe tMd; omega) (by unfold tCm tRe tMd; omega) (fun k => by unfold tCm tRe tMd; omega) hTL (fun x y k hx => by_x (by omega)) (by_x (by omega)) hc hl hS

set_option maxRecDepth 100000 in
theorem cm_drawn15 {S S7 : zS} {W : zWd} (hW : Wok W) {cc : Nat} (hc4 : cc < 4) {n : Nat} (hn1 : 1 ≤ n) (hn7 : n ≤ 7) {h q : Nat} (hP : Pst sq S W h q) (hA : SR sq S W 0 1306 1173)  (f1 : Fg (tRe cc) S S7) (hc1 : WC S7 cc W) {n1 : Nat} {mk1 : Nat → Nat → Nat} {rl1 : Nat → Nat → Nat → Nat} (hB1 : CB S7 cc W n1 mk1 rl1) (hn : n ≤ n1) (hTL1 : TLs S7) {y : Int32} {m : Nat} {z : Int32} (hzy : y * nI 1103515245 + nI 12345 = z) (hmE : ((z).toUInt32 >>> ((nI 8).toUInt32 &&& Int32.toUInt32 31)).toInt32 = nI m) (hm : m < 16777216) : Ok mX11_drawn 15 [some (zr 11 0), some (zi (nI n)), some (zi y), some (zr 0 cc), none, none] [] S7 (fun r S3 => (tl W n).length = 0 ∧ r = some (zi (-1)) ∧ S3 = S7 ∨ 0 < (tl W n).length ∧ r = some (zi (nI 1)) ∧ ∃ S2, Fg (tCm cc) S S2 ∧ CB S2 cc W n1 mk1 rl1 ∧ Fg tKp S2 S3 ∧ KsR S3 W h q n [(((tl W n).getD (m % (tl W n).length) []), 1)]) := by
  obtain ⟨hL, hM, hU⟩ := hB1.2.2.2.1 n hn1 hn
  have hs1 := f1.sd
  have hT300 := hL.2.2.2.1
  by_cases h0 : (tl W n).length = 0
  · skip
    refine r_aload_n (q := 16) dX11_drawn_15 rfl rfl rfl ?_
    refine r_iload_n (q := 17) dX11_drawn_16 rfl rfl rfl ?_
    refine r_callV (Mc := mX0_treesOf) (q := 20) (As := [zi (nI n)]) (st := []) ck0 dX11_drawn_17 rfl rfl mkX0_treesOf wt1146 wt789 wt790 rfl (Nat.le_of_ble_eq_true rfl) (Nat.le_of_ble_eq_true rfl) (by decide) (by decide) (by decide) (Or.inl rfl) (hs1.e (show cc < 4 by omega)) (ok_treesOf hs1 hc4 hn7 hL) (fun r17 S17 hp17 => ?_)
    obtain ⟨rfl, hq17⟩ := hp17
    rw [hq17]
    show Ok _ _ _ [zi (nI ((tl W n).length))] _ _
    refine r_istore (q := 22) (L' := [some (zr 11 0), some (zi (nI n)), some (zi y), some (zr 0 cc), some (zi (nI ((tl W n).length))), none]) dX11_drawn_20 rfl (by decide) rfl ?_
    refine r_iload (q := 24) dX11_drawn_22 rfl rfl ?_
    refine r_iconst (q := 25) (nI 1) dX11_drawn_24 rfl (by decide) ?_
    refine r_icmp_geN (q := 28) (t := 30) (by omega) (by omega) dX11_drawn_25 (by decide) rfl (fun h25 => absurd h25 (by omega)) (fun h25 => ?_)
    refine r_iconst (q := 29) ((-1 : Int32)) dX11_drawn_28 rfl (by decide) ?_
    refine r_ireturn dX11_drawn_29 rfl ?_
    exact Or.inl ⟨h0, rfl, rfl⟩
  · have hix : m % (tl W n).length < (tl W n).length := Nat.mod_lt _ (by omega)
    have htr := tl_tr hW.2.1 hix
    refine r_aload_n (q := 16) dX11_drawn_15 rfl rfl rfl ?_
    refine r_iload_n (q := 17) dX11_drawn_16 rfl rfl rfl ?_
    refine r_callV (Mc := mX0_treesOf) (q := 20) (As := [zi (nI n)]) (st := []) ck0 dX11_drawn_17 rfl rfl mkX0_treesOf wt1146 wt789 wt790 rfl (Nat.le_of_ble_eq_true rfl) (Nat.le_of_ble_eq_true rfl) (by decide) (by decide) (by decide) (Or.inl rfl) (hs1.e (show cc < 4 by omega)) (ok_treesOf hs1 hc4 hn7 hL) (fun r17 S17 hp17 => ?_)
    obtain ⟨rfl, hq17⟩ := hp17
    rw [hq17]
    show Ok _ _ _ [zi (nI ((tl W n).length))] _ _
    refine r_istore (q := 22) (L' := [some (zr 11 0), some (zi (nI n)), some (zi y), some (zr 0 cc), some (zi (nI ((tl W n).length))), none]) dX11_drawn_20 rfl (by decide) rfl ?_
    refine r_iload (q := 24) dX11_drawn_22 rfl rfl ?_
    refine r_iconst (q := 25) (nI 1) dX11_drawn_24 rfl (by decide) ?_
    refine r_icmp_geN (q := 28) (t := 30) (by omega) (by omega) dX11_drawn_25 (by decide) rfl (fun h25 => ?_) (fun h25 => absurd h25 (by omega))
    refine r_iload_n (q := 31) dX11_drawn_30 rfl rfl rfl ?_
    refine r_ldcw (q := 34) (nI 1103515245) dX11_drawn_31 rfl wt1147 ?_
    refine r_imul (q := 35) dX11_drawn_34 rfl ?_
    refine r_sipush (q := 38) (nI 12345) dX11_drawn_35 rfl (by decide) ?_
    refine r_iadd (q := 39) dX11_drawn_38 rfl ?_
    refine r_topi (y := z) hzy ?_
    refine r_istore (q := 41) (L' := [some (zr 11 0), some (zi (nI n)), some (zi y), some (zr 0 cc), some (zi (nI ((tl W n).length))), some (zi z)]) dX11_drawn_39 rfl (by decide) rfl ?_
    refine r_aload_n (q := 42) dX11_drawn_41 rfl rfl rfl ?_
    refine r_getr (q := 45) (some (8, 11)) ck11 dX11_drawn_42 rfl (k := 12) (by decide) wt434 rfl (hs1.e (by decide)) (hs1.r (by decide) (by decide)) ?_
    refine r_iload_n (q := 46) dX11_drawn_45 rfl rfl rfl ?_
    refine r_callV (Mc := mX8_clear) (q := 49) (As := [zi (nI n)]) (st := []) ck8 dX11_drawn_46 rfl rfl mkX8_clear wt669 wt603 wt604 rfl (Nat.le_of_ble_eq_true rfl) (Nat.le_of_ble_eq_true rfl) (by decide) (by decide) (by decide) (Or.inl rfl) (hs1.e (by decide)) (ok_X8_clear hs1 (show 11 < 19 by omega) (nI n)) (fun r46 S46 hp46 => ?_)
    obtain ⟨rfl, hq46⟩ := hp46
    rw [hq46]
    show Ok _ _ _ [] _ _
    refine r_aload_n (q := 50) dX11_drawn_49 rfl rfl rfl ?_
    refine r_getr (q := 53) (some (8, 11)) ck11 dX11_drawn_50 rfl (k := 12) (by decide) wt434 rfl (hs1.e (by decide)) (hs1.r (by decide) (by decide)) ?_
    refine r_aload_n (q := 54) dX11_drawn_53 rfl rfl rfl ?_
    refine r_iload_n (q := 55) dX11_drawn_54 rfl rfl rfl ?_
    refine r_iload (q := 57) dX11_drawn_55 rfl rfl ?_
    refine r_bipush (q := 59) (nI 8) dX11_drawn_57 rfl (by decide) ?_
    refine r_iushr (q := 60) dX11_drawn_59 rfl ?_
    refine r_topi (y := nI m) hmE ?_
    refine r_iload (q := 62) dX11_drawn_60 rfl rfl ?_
    refine r_iremN (q := 63) (by omega) (by omega) (by omega) dX11_drawn_62 rfl ?_
    refine r_callV (Mc := mX0_keyOf) (q := 66) (As := [zi (nI n), zi (nI (m % ((tl W n).length)))]) (st := [zr 8 11]) ck0 dX11_drawn_63 rfl rfl mkX0_keyOf wt919 wt793 wt794 rfl (Nat.le_of_ble_eq_true rfl) (Nat.le_of_ble_eq_true rfl) (by decide) (by decide) (by decide) (Or.inl rfl) (hs1.e (show cc < 4 by omega)) (ok_keyOf (S := sI (sI S7 8 11 0 (nI n)) 8 11 1 (nI 0)) hs1 hc4 hn7 (hL.fr (U := fun x _ _ => x == 8) (((Fr.rf).i rfl).i rfl) (fun _ => ⟨rfl, rfl⟩)) hix) (fun r63 S63 hp63 => ?_)
    obtain ⟨rfl, hq63⟩ := hp63
    rw [hq63]
    show Ok _ _ _ [zi (nI (ky ((tl W n).getD (m % (tl W n).length) []))), zr 8 11] _ _
    refine r_iconst (q := 67) (nI 1) dX11_drawn_66 rfl (by decide) ?_
    refine r_aload_n (q := 68) dX11_drawn_67 rfl rfl rfl ?_
    refine r_getr (q := 71) (some (9, cc)) ck0 dX11_drawn_68 rfl (k := 0) (by decide) wt377 rfl (hs1.e (show cc < 4 by omega)) (hs1.r (show cc < 4 by omega) (by decide)) ?_
    refine r_geti (q := 74) ck9 dX11_drawn_71 rfl (k := 0) (by decide) wt295 (Or.inl rfl) (hs1.e (show cc < 4 by omega)) ?_
    refine r_topi (y := gI S7 9 cc 0) (by simp [gI_sI, gJ_sJ, gI_sJ, gJ_sI]) ?_
    refine r_topi (y := nI (wP W)) hc1.1 ?_
    refine r_callV (Mc := mX8_put) (q := 77) (As := [zi (nI (ky ((tl W n).getD (m % (tl W n).length) []))), zi (nI 1), zi (nI (wP W))]) (st := []) ck8 dX11_drawn_74 rfl rfl mkX8_put wt1148 wt610 wt611 rfl (Nat.le_of_ble_eq_true rfl) (Nat.le_of_ble_eq_true rfl) (by decide) (by decide) (by decide) (Or.inr ⟨Nat.le_of_ble_eq_true rfl, rfl, rfl⟩) (hs1.e (by decide)) (ok_X8_put (S := sI (sI S7 8 11 0 (nI n)) 8 11 1 (nI 0)) hs1 (show 11 < 19 by omega) hW.2.1 htr hn7 (ty_nil hTL1) ce_nil hW.1.1 hW.1.2.1 (U := [((tl W n).getD (m % (tl W n).length) [])]) (by simp) (by simp) (fun p hp => absurd hp List.not_mem_nil) (nI 1)) (fun r74 S74 hp74 => ?_)
    obtain ⟨rfl, f5, hty⟩ := hp74
    rw [rs1 hW.1.1, one_sum hW.1.1] at hty
    have f6 : Fg tMd S7 S74 := (fg_clear hs1).tr (f5.mono tTy_md)
    have f7 : Fg (tCm cc) S S74 := (f1.mono fun _ _ _ z => Or.inl z).tr (f6.mono fun _ _ _ z => Or.inr z)
    have hl7 : gI S74 8 11 0 = nI n := by rw [f5.I (by omega) (by unfold tTy; omega), gI_sI, if_neg (by omega), gI_sI, if_pos ⟨rfl, rfl, rfl⟩]
    have hTL7 : TLs S74 := tls_md hTL1 f6 (fun j k h1 h2 => by unfold tMd; omega) hty
    show Ok _ _ _ [] _ _
    refine r_aload_n (q := 78) dX11_drawn_77 rfl rfl rfl ?_
    refine r_callV (Mc := mX11_keepMade) (q := 81) (As := []) (st := []) ck11 dX11_drawn_78 rfl rfl mkX11_keepMade wt703 wt705 wp21 rfl (Nat.le_of_ble_eq_true rfl) (Nat.le_of_ble_eq_true rfl) (by decide) (by decide) (by decide) (Or.inr ⟨Nat.le_of_ble_eq_true rfl, rfl, rfl⟩) (f5.sd.e (by decide)) (keep4 hP hA f7 hTL7 hty hl7 (sm_one hW hn1 hn7 htr)) (fun r78 S78 hp78 => ?_)
    obtain ⟨rfl, k1, k2⟩ := hp78
    show Ok _ _ _ [zi (nI 1)] _ _
    refine r_ireturn dX11_drawn_81 rfl ?_
    exact Or.inr ⟨by omega, rfl, S74, f7, hB1.fg f6 ⟨by unfold tMd; omega, fun x k a b => by unfold tMd; omega⟩, k1, k2⟩

set_option maxRecDepth 100000 in
theorem cm_drawn_y {S : zS} (hs : Sd S) {W : zWd} (hW : Wok W) {cc : Nat} (hcc : gI S 11 0 3 = nI cc) (hc4 : cc < 4) (hc : WC S cc W) (hT : Tcs S cc W) {n0 : Nat} {mk : Nat → Nat → Nat} {rl : Nat → Nat → Nat → Nat} (hB : CB S cc W n0 mk rl) {n : Nat} (hn1 : 1 ≤ n) (hn7 : n ≤ 7) {y : Int32} {h q : Nat} (hP : Pst sq S W h q) (hA : SR sq S W 0 1306 1173) (hTL : TLs S) (h3 : tc W n ≤ 300) {m : Nat} {z : Int32} (hzy : y * nI 1103515245 + nI 12345 = z) (hmE : ((z).toUInt32 >>> ((nI 8).toUInt32 &&& Int32.toUInt32 31)).toInt32 = nI m) (hm : m < 16777216) : Ok mX11_drawn 0 (ent 6 [zr 11 0, zi (nI n), zi y]) [] S (fun r S3 => ∃ S7 n1 mk1 rl1, Fg (tRe cc) S S7 ∧ CB S7 cc W n1 mk1 rl1 ∧ n ≤ n1 ∧ ((tl W n).length = 0 ∧ r = some (zi (-1)) ∧ S3 = S7 ∨ 0 < (tl W n).length ∧ r = some (zi (nI 1)) ∧ ∃ S2, Fg (tCm cc) S S2 ∧ CB S2 cc W n1 mk1 rl1 ∧ Fg tKp S2 S3 ∧ KsR S3 W h q n [(((tl W n).getD (m % (tl W n).length) []), 1)])) := by
  show Ok mX11_drawn 0 [some (zr 11 0), some (zi (nI n)), some (zi y), none, none, none] [] S _
  refine r_aload_n (q := 1) dX11_drawn_0 rfl rfl rfl ?_
  refine r_callV (Mc := mX11_basisHere) (q := 4) (As := []) (st := []) ck11 dX11_drawn_1 rfl rfl mkX11_basisHere wt766 wt768 wp27 rfl (Nat.le_of_ble_eq_true rfl) (Nat.le_of_ble_eq_true rfl) (by decide) (by decide) (by decide) (Or.inl rfl) (hs.e (by decide)) (ok_basisHere hs hcc hc4) (fun r1 S1 hp1 => ?_)
  obtain ⟨rfl, hq1⟩ := hp1
  rw [hq1]
  show Ok _ _ _ [zr 0 cc] _ _
  refine r_astore_n (q := 5) (L' := [some (zr 11 0), some (zi (nI n)), some (zi y), some (zr 0 cc), none, none]) dX11_drawn_4 rfl rfl (by decide) rfl ?_
  refine r_aload_n (q := 6) dX11_drawn_5 rfl rfl rfl ?_
  refine r_iload_n (q := 7) dX11_drawn_6 rfl rfl rfl ?_
  refine r_callV (Mc := mX0_reach) (q := 10) (As := [zi (nI n)]) (st := []) ck0 dX11_drawn_7 rfl rfl mkX0_reach wt770 wt771 wt772 rfl (Nat.le_of_ble_eq_true rfl) (Nat.le_of_ble_eq_true rfl) (by decide) (by decide) (by decide) (Or.inr ⟨Nat.le_of_ble_eq_true rfl, rfl, rfl⟩) (hs.e (show cc < 4 by omega)) (ok_reach_y hs hW hc4 hn1 hn7 hc hT hB h3) (fun r7 S7 hp7 => ?_)
  obtain ⟨rfl, f1, hc1, n1, mk1, rl1, hB1, hn⟩ := hp7
  obtain ⟨hL, hM, hU⟩ := hB1.2.2.2.1 n hn1 hn
  have hs1 := f1.sd
  have hT300 := hL.2.2.2.1
  have hTL1 : TLs S7 := hTL.fg f1 (fun j hj => Or.inl (fun k => by unfold tRe; omega))
  show Ok _ _ _ [zi (nI 1)] _ _
  refine r_if_neN (q := 13) (t := 15) (by omega) dX11_drawn_10 (by decide) rfl (fun h10 => ?_) (fun h10 => absurd h10 (by omega))
  exact Ok.mono (cm_drawn15 hW hc4 hn1 hn7 hP hA f1 hc1 hB1 hn hTL1 hzy hmE hm) (fun r S3 z => ⟨S7, n1, mk1, rl1, f1, hB1, hn, z⟩)

set_option maxRecDepth 100000 in
theorem cm_drawn_n {S : zS} (hs : Sd S) {W : zWd} (hW : Wok W) {cc : Nat} (hcc : gI S 11 0 3 = nI cc) (hc4 : cc < 4) (hc : WC S cc W) (hT : Tcs S cc W) {n0 : Nat} {mk : Nat → Nat → Nat} {rl : Nat → Nat → Nat → Nat} (hB : CB S cc W n0 mk rl) {n : Nat} (hn1 : 1 ≤ n) (hn7 : n ≤ 7) {y : Int32} (h3 : ¬ tc W n ≤ 300) : Ok mX11_drawn 0 (ent 6 [zr 11 0, zi (nI n), zi y]) [] S (fun r S1 => Fg (tRe cc) S S1 ∧ (∃ n1 mk1 rl1, CB S1 cc W n1 mk1 rl1) ∧ r = some (zi (-1))) := by
  show Ok mX11_drawn 0 [some (zr 11 0), some (zi (nI n)), some (zi y), none, none, none] [] S _
  refine r_aload_n (q := 1) dX11_drawn_0 rfl rfl rfl ?_
  refine r_callV (Mc := mX11_basisHere) (q := 4) (As := []) (st := []) ck11 dX11_drawn_1 rfl rfl mkX11_basisHere wt766 wt768 wp27 rfl (Nat.le_of_ble_eq_true rfl) (Nat.le_of_ble_eq_true rfl) (by decide) (by decide) (by decide) (Or.inl rfl) (hs.e (by decide)) (ok_basisHere hs hcc hc4) (fun r1 S1 hp1 => ?_)
  obtain ⟨rfl, hq1⟩ := hp1
  rw [hq1]
  show Ok _ _ _ [zr 0 cc] _ _
  refine r_astore_n (q := 5) (L' := [some (zr 11 0), some (zi (nI n)), some (zi y), some (zr 0 cc), none, none]) dX11_drawn_4 rfl rfl (by decide) rfl ?_
  refine r_aload_n (q := 6) dX11_drawn_5 rfl rfl rfl ?_
  refine r_iload_n (q := 7) dX11_drawn_6 rfl rfl rfl ?_
  refine r_callV (Mc := mX0_reach) (q := 10) (As := [zi (nI n)]) (st := []) ck0 dX11_drawn_7 rfl rfl mkX0_reach wt770 wt771 wt772 rfl (Nat.le_of_ble_eq_true rfl) (Nat.le_of_ble_eq_true rfl) (by decide) (by decide) (by decide) (Or.inr ⟨Nat.le_of_ble_eq_true rfl, rfl, rfl⟩) (hs.e (show cc < 4 by omega)) (ok_reach_n hs hW hc4 hn1 hn7 hc hT hB h3) (fun r7 S7 hp7 => ?_)
  obtain ⟨rfl, f1, hc1, n1, mk1, rl1, hB1⟩ := hp7
  show Ok _ _ _ [zi (nI 0)] _ _
  refine r_if_neN (q := 13) (t := 15) (by omega) dX11_drawn_10 (by decide) rfl (fun h10 => absurd h10 (by omega)) (fun h10 => ?_)
  refine r_iconst (q := 14) ((-1 : Int32)) dX11_drawn_13 rfl (by decide) ?_
  refine r_ireturn dX11_drawn_14 rfl ?_
  exact ⟨f1, ⟨n1, mk1, rl1, hB1⟩, rfl⟩

set_option maxRecDepth 100000 in
theorem cm_drawn_x {S : zS} (hs : Sd S) {cc : Nat} (hcc : gI S 11 0 3 = nI cc) (hc4 : cc < 4) {x y : Int32} (hx : ¬ (nI 1 ≤ x ∧ x ≤ nI 7)) : Ok mX11_drawn 0 (ent 6 [zr 11 0, zi x, zi y]) [] S (fun r S1 => r = some (zi (-1)) ∧ S1 = S) := by
  show Ok mX11_drawn 0 [some (zr 11 0), some (zi x), some (zi y), none, none, none] [] S _
  refine r_aload_n (q := 1) dX11_drawn_0 rfl rfl rfl ?_
  refine r_callV (Mc := mX11_basisHere) (q := 4) (As := []) (st := []) ck11 dX11_drawn_1 rfl rfl mkX11_basisHere wt766 wt768 wp27 rfl (Nat.le_of_ble_eq_true rfl) (Nat.le_of_ble_eq_true rfl) (by decide) (by decide) (by decide) (Or.inl rfl) (hs.e (by decide)) (ok_basisHere hs hcc hc4) (fun r1 S1 hp1 => ?_)
  obtain ⟨rfl, hq1⟩ := hp1
  rw [hq1]
  show Ok _ _ _ [zr 0 cc] _ _
  refine r_astore_n (q := 5) (L' := [some (zr 11 0), some (zi x), some (zi y), some (zr 0 cc), none, none]) dX11_drawn_4 rfl rfl (by decide) rfl ?_
  refine r_aload_n (q := 6) dX11_drawn_5 rfl rfl rfl ?_
  refine r_iload_n (q := 7) dX11_drawn_6 rfl rfl rfl ?_
  refine r_callV (Mc := mX0_reach) (q := 10) (As := [zi x]) (st := []) ck0 dX11_drawn_7 rfl rfl mkX0_reach wt770 wt771 wt772 rfl (Nat.le_of_ble_eq_true rfl) (Nat.le_of_ble_eq_true rfl) (by decide) (by decide) (by decide) (Or.inr ⟨Nat.le_of_ble_eq_true rfl, rfl, rfl⟩) (hs.e (show cc < 4 by omega)) (ok_reach_out hs hc4 hx) (fun r7 S7 hp7 => ?_)
  obtain ⟨rfl, hq7⟩ := hp7
  rw [hq7]
  show Ok _ _ _ [zi (nI 0)] _ _
  refine r_if_neN (q := 13) (t := 15) (by omega) dX11_drawn_10 (by decide) rfl (fun h10 => absurd h10 (by omega)) (fun h10 => ?_)
  refine r_iconst (q := 14) ((-1 : Int32)) dX11_drawn_13 rfl (by decide) ?_
  refine r_ireturn dX11_drawn_14 rfl ?_
  exact ⟨rfl, rfl⟩

set_option maxRecDepth 100000 in
theorem ok_draw {S : zS} (hs : Sd S) {y : Int32} (h90 : gI S 12 0 90 = y) {M m : Nat} (hM : 0 < M) (hM3 : M ≤ 300) {z : Int32} (hz : gI S 12 0 90 * nI 1103515245 + nI 12345 = z) (hmE : (z.toUInt32 >>> ((nI 8).toUInt32 &&& Int32.toUInt32 31)).toInt32 = nI m) (hm : m < 16777216) : Ok mX12_draw 0 (ent 2 [zr 12 0, zi (nI M)]) [] S (fun r S1 => r = some (zi (nI (m % M))) ∧ S1 = sI S 12 0 90 z) := by
  show Ok mX12_draw 0 [some (zr 12 0), some (zi (nI M))] [] S _
  refine r_aload_n (q := 1) dX12_draw_0 rfl rfl rfl ?_
  refine r_aload_n (q := 2) dX12_draw_1 rfl rfl rfl ?_
  refine r_geti (q := 5) ck12 dX12_draw_2 rfl (k := 90) (by decide) wt1368 (Or.inl rfl) (hs.e (by decide)) ?_
  refine r_ldcw (q := 8) (nI 1103515245) dX12_draw_5 rfl wt2008 ?_
  refine r_imul (q := 9) dX12_draw_8 rfl ?_
  refine r_sipush (q := 12) (nI 12345) dX12_draw_9 rfl (by decide) ?_
  refine r_iadd (q := 13) dX12_draw_12 rfl ?_
  refine r_topi (y := z) hz ?_
  refine r_puti (q := 16) ck12 dX12_draw_13 rfl (k := 90) (by decide) wt1368 (Or.inl rfl) rfl (hs.e (by decide)) ?_
  refine r_aload_n (q := 17) dX12_draw_16 rfl rfl rfl ?_
  refine r_geti (q := 20) ck12 dX12_draw_17 rfl (k := 90) (by decide) wt1368 (Or.inl rfl) (hs.e (by decide)) ?_
  refine r_topi (y := z) (by simp [gI_sI, gJ_sJ, gI_sJ, gJ_sI]) ?_
  refine r_bipush (q := 22) (nI 8) dX12_draw_20 rfl (by decide) ?_
  refine r_iushr (q := 23) dX12_draw_22 rfl ?_
  refine r_topi (y := nI m) hmE ?_
  refine r_iload_n (q := 24) dX12_draw_23 rfl rfl rfl ?_
  refine r_iremN (q := 25) (by omega) (by omega) (by omega) dX12_draw_24 rfl ?_
  refine r_ireturn dX12_draw_25 rfl ?_
  exact ⟨rfl, rfl⟩

set_option maxRecDepth 100000 in
theorem rm_drawn_y {S : zS} (hs : Sd S) {W : zWd} (hW : Wok W) {n9 : Nat → Int64} (hR : wqR W (fun k => gI S 1306 0 k) n9) (hO : Cw S) (hcr : CR S W) (hI : IvI S) {n : Nat} (hn1 : 1 ≤ n) (hn7 : n ≤ 7) {y : Int32} {h q : Nat} (h3 : tc W n ≤ 300) {m : Nat} {z : Int32} (hzy : y * nI 1103515245 + nI 12345 = z) (hmE : ((z).toUInt32 >>> ((nI 8).toUInt32 &&& Int32.toUInt32 31)).toInt32 = nI m) (hm : m < 16777216) (hpos : 0 < (tl W n).length) (Kp : KsR S W h q n [(((tl W n).getD (m % (tl W n).length) []), 1)]) : Ok mX12_drawn 0 (ent 4 [zr 12 0, zi (nI n), zi y]) [] S (fun r S4 => ∃ T, Fg tDr S T ∧ Cw T ∧ CR T W ∧ IvI T ∧ r = some (zi (nI 1)) ∧ Fg tKs T S4 ∧ SR sq S4 W 0 1306 1173 ∧ Pst sq S4 W (min 8 (h + 1)) ((q + 1) % 8) ∧ TLs S4) := by
  have hix : m % (tl W n).length < (tl W n).length := Nat.mod_lt _ (by omega)
  have htr := tl_tr hW.2.1 hix
  show Ok mX12_drawn 0 [some (zr 12 0), some (zi (nI n)), some (zi y), none] [] S _
  refine r_aload_n (q := 1) dX12_drawn_0 rfl rfl rfl ?_
  refine r_iconst (q := 2) (nI 0) dX12_drawn_1 rfl (by decide) ?_
  refine r_puti (q := 5) ck12 dX12_drawn_2 rfl (k := 0) (by decide) wt1278 (Or.inl rfl) rfl (hs.e (by decide)) ?_
  refine r_iload_n (q := 6) dX12_drawn_5 rfl rfl rfl ?_
  refine r_iconst (q := 7) (nI 1) dX12_drawn_6 rfl (by decide) ?_
  refine r_bipush (q := 9) (nI 7) dX12_drawn_7 rfl (by decide) ?_
  refine r_callS (Mc := mX12_isIn) (q := 12) (As := [zi (nI n), zi (nI 1), zi (nI 7)]) (st := []) dX12_drawn_9 rfl rfl mkX12_isIn wt1614 wt1615 rfl (Nat.le_of_ble_eq_true rfl) (Nat.le_of_ble_eq_true rfl) (by decide) (by decide) (by decide) (Or.inl rfl) hs.some (ok_X12_isIn_in (by omega) (by omega) (by omega)) (fun r9 S9 hp9 => ?_)
  obtain ⟨rfl, hq9⟩ := hp9
  rw [hq9]
  show Ok _ _ _ [zi (nI 1)] _ _
  refine r_if_eqN (q := 15) (t := 33) (by omega) dX12_drawn_12 (by decide) rfl (fun h12 => absurd h12 (by omega)) (fun h12 => ?_)
  refine r_aload_n (q := 16) dX12_drawn_15 rfl rfl rfl ?_
  refine r_iconst (q := 17) (nI 0) dX12_drawn_16 rfl (by decide) ?_
  refine r_iload_n (q := 18) dX12_drawn_17 rfl rfl rfl ?_
  refine r_callV (Mc := mX12_isBeyond) (q := 21) (As := [zi (nI 0), zi (nI n)]) (st := []) ck12 dX12_drawn_18 rfl rfl mkX12_isBeyond wt1751 wt1753 wp99 rfl (Nat.le_of_ble_eq_true rfl) (Nat.le_of_ble_eq_true rfl) (by decide) (by decide) (by decide) (Or.inl rfl) (hs.e (by decide)) (ok_beyond0_n (S := sI S 12 0 0 (nI 0)) hs hW hn1 hn7 (wqR_thr hW hR) (rc_thr.rc (W := W).2.1 hO) (rc_thr.rc.1 hcr) (rc_thr.rc (W := W).2.2 hI) h3) (fun r18 S18 hp18 => ?_)
  obtain ⟨f1, hon, hcw, hiv, hws, L, pvs, bss, hB, hz⟩ := hp18
  have hs1 : Sd S18 := Sd.fr (S := sI S 12 0 0 (nI 0)) hs f1
  obtain ⟨rfl, _, hnL⟩ := hz.resolve_left (fun z => absurd z.2 (by omega))
  obtain ⟨hLr, hAc, hLv⟩ := hB.2.2.2.2 n hn1 (by omega)
  have h4 : gI S18 1324 0 n = nI (tl W n).length := by have z := hLr.2.1; rw [Nat.mul_zero, Nat.zero_add] at z; exact z
  have h5 : gI S18 1325 0 n = nI (FqR 0 W n) := by have z := hLr.1; rw [Nat.mul_zero, Nat.zero_add] at z; exact z
  have hb300 := hAc.1.2.2.2.2.1
  have hF44 := hAc.1.2.2.2.2.2.1
  have h0P : gI S18 1306 0 0 = nI (wP W) := by rw [f1.1 1306 0 0 rfl, gI_sI, if_neg (by omega)]; exact hR.1
  show Ok _ _ _ [zi (nI 0)] _ _
  refine r_if_neN (q := 24) (t := 33) (by omega) dX12_drawn_21 (by decide) rfl (fun h21 => absurd h21 (by omega)) (fun h21 => ?_)
  refine r_aload_n (q := 25) dX12_drawn_24 rfl rfl rfl ?_
  refine r_getr (q := 28) (some (1324, 0)) ck12 dX12_drawn_25 rfl (k := 24) (by decide) wt1302 rfl (hs1.e (by decide)) (hs1.r (by decide) (by decide)) ?_
  refine r_iload_n (q := 29) dX12_drawn_28 rfl rfl rfl ?_
  refine r_ialdN (q := 30) 16 (by decide) rfl dX12_drawn_29 rfl (hs1.e (by decide)) (hs1.n rfl (by decide)) (by omega) (by decide) ?_
  refine r_topi (y := nI ((tl W n).length)) h4 ?_
  refine r_if_neN (q := 33) (t := 35) (by omega) dX12_drawn_30 (by decide) rfl (fun h30 => ?_) (fun h30 => absurd h30 (by omega))
  refine r_aload_n (q := 36) dX12_drawn_35 rfl rfl rfl ?_
  refine r_iload_n (q := 37) dX12_drawn_36 rfl rfl rfl ?_
  refine r_puti (q := 40) ck12 dX12_drawn_37 rfl (k := 90) (by decide) wt1368 (Or.inl rfl) rfl (hs1.e (by decide)) ?_
  refine r_aload_n (q := 41) dX12_drawn_40 rfl rfl rfl ?_
  refine r_aload_n (q := 42) dX12_drawn_41 rfl rfl rfl ?_
  refine r_getr (q := 45) (some (1324, 0)) ck12 dX12_drawn_42 rfl (k := 24) (by decide) wt1302 rfl (hs1.e (by decide)) (hs1.r (by decide) (by decide)) ?_
  refine r_iload_n (q := 46) dX12_drawn_45 rfl rfl rfl ?_
  refine r_ialdN (q := 47) 16 (by decide) rfl dX12_drawn_46 rfl (hs1.e (by decide)) (hs1.n rfl (by decide)) (by omega) (by decide) ?_
  refine r_topi (y := gI S18 1324 0 n) (by simp [gI_sI, gJ_sJ, gI_sJ, gJ_sI]) ?_
  refine r_topi (y := nI ((tl W n).length)) h4 ?_
  refine r_callV (Mc := mX12_draw) (q := 50) (As := [zi (nI ((tl W n).length))]) (st := []) ck12 dX12_drawn_47 rfl rfl mkX12_draw wt2004 wt2006 wp143 rfl (Nat.le_of_ble_eq_true rfl) (Nat.le_of_ble_eq_true rfl) (by decide) (by decide) (by decide) (Or.inl rfl) (hs1.e (by decide)) (ok_draw (S := sI S18 12 0 90 y) hs1 (y := y) gI_self hpos hb300 (by rw [gI_self]; exact hzy) hmE hm) (fun r47 S47 hp47 => ?_)
  obtain ⟨rfl, hq47⟩ := hp47
  rw [hq47]
  show Ok _ _ _ [zi (nI (m % (tl W n).length))] _ _
  refine r_istore_n (q := 51) (L' := [some (zr 12 0), some (zi (nI n)), some (zi y), some (zi (nI (m % (tl W n).length)))]) dX12_drawn_50 rfl rfl (by decide) rfl ?_
  refine r_aload_n (q := 52) dX12_drawn_51 rfl rfl rfl ?_
  refine r_iload_n (q := 53) dX12_drawn_52 rfl rfl rfl ?_
  refine r_callV (Mc := mX12_noSum) (q := 56) (As := [zi (nI n)]) (st := []) ck12 dX12_drawn_53 rfl rfl mkX12_noSum wt1625 wt1627 wp79 rfl (Nat.le_of_ble_eq_true rfl) (Nat.le_of_ble_eq_true rfl) (by decide) (by decide) (by decide) (Or.inl rfl) (hs1.e (by decide)) (ok_X12_noSum (S := sI (sI S18 12 0 90 y) 12 0 90 z) hs1 (nI n)) (fun r53 S53 hp53 => ?_)
  obtain ⟨rfl, hq53⟩ := hp53
  rw [hq53]
  show Ok _ _ _ [] _ _
  refine r_aload_n (q := 57) dX12_drawn_56 rfl rfl rfl ?_
  refine r_aload_n (q := 58) dX12_drawn_57 rfl rfl rfl ?_
  refine r_getr (q := 61) (some (1328, 0)) ck12 dX12_drawn_58 rfl (k := 28) (by decide) wt1306 rfl (hs1.e (by decide)) (hs1.r (by decide) (by decide)) ?_
  refine r_aload_n (q := 62) dX12_drawn_61 rfl rfl rfl ?_
  refine r_getr (q := 65) (some (1325, 0)) ck12 dX12_drawn_62 rfl (k := 25) (by decide) wt1303 rfl (hs1.e (by decide)) (hs1.r (by decide) (by decide)) ?_
  refine r_iload_n (q := 66) dX12_drawn_65 rfl rfl rfl ?_
  refine r_ialdN (q := 67) 16 (by decide) rfl dX12_drawn_66 rfl (hs1.e (by decide)) (hs1.n rfl (by decide)) (by omega) (by decide) ?_
  refine r_topi (y := gI S18 1325 0 n) (by simp [gI_sI, gJ_sJ, gI_sJ, gJ_sI]) ?_
  refine r_topi (y := nI (FqR 0 W n)) h5 ?_
  refine r_iload_n (q := 68) dX12_drawn_67 rfl rfl rfl ?_
  refine r_iaddN (q := 69) dX12_drawn_68 rfl ?_
  refine r_ialdN (q := 70) 4400 (by decide) rfl dX12_drawn_69 rfl (hs1.e (by decide)) (hs1.n rfl (by decide)) (by omega) (by decide) ?_
  refine r_topi (y := gI S18 1328 0 ((FqR 0 W n) + (m % (tl W n).length))) (by simp [gI_sI, gJ_sJ, gI_sJ, gJ_sI]) ?_
  refine r_topi (y := nI (cd ((tl W n).getD (m % (tl W n).length) []))) (hLr.2.2.1 _ hix).1 ?_
  refine r_iconst (q := 71) (nI 1) dX12_drawn_70 rfl (by decide) ?_
  refine r_iconst (q := 72) (nI 0) dX12_drawn_71 rfl (by decide) ?_
  refine r_aload_n (q := 73) dX12_drawn_72 rfl rfl rfl ?_
  refine r_getr (q := 76) (some (1306, 0)) ck12 dX12_drawn_73 rfl (k := 6) (by decide) wt1284 rfl (hs1.e (by decide)) (hs1.r (by decide) (by decide)) ?_
  refine r_iconst (q := 77) (nI 0) dX12_drawn_76 rfl (by decide) ?_
  refine r_ialdN (q := 78) 3775 (by decide) rfl dX12_drawn_77 rfl (hs1.e (by decide)) (hs1.n rfl (by decide)) (by omega) (by decide) ?_
  refine r_topi (y := gI S18 1306 0 0) (by simp [gI_sI, gJ_sJ, gI_sJ, gJ_sI]) ?_
  refine r_topi (y := nI (wP W)) h0P ?_
  refine r_callV (Mc := mX12_addTerm) (q := 81) (As := [zi (nI (cd ((tl W n).getD (m % (tl W n).length) []))), zi (nI 1), zi (nI 0), zi (nI (wP W))]) (st := []) ck12 dX12_drawn_78 rfl rfl mkX12_addTerm wt1641 wt1643 wp83 rfl (Nat.le_of_ble_eq_true rfl) (Nat.le_of_ble_eq_true rfl) (by decide) (by decide) (by decide) (Or.inl rfl) (hs1.e (by decide)) (ok_X12_addTerm (S := sI (sI (sI (sI S18 12 0 90 y) 12 0 90 z) 12 0 47 (nI 0)) 12 0 48 (nI n)) (r := []) hs1 hW.2.1 htr hn7 ⟨by rw [gI_sI, if_neg (by omega), gI_sI, if_pos ⟨rfl, rfl, rfl⟩]; rfl, fun k hk => absurd hk (by simp)⟩ (fun p hp => absurd hp List.not_mem_nil) hW.1.1 hW.1.2.1 (v := 1) (by omega) (by simp) (q := 0) (by omega) (fun a ha => by rw [gI_sI, if_neg (by omega), gI_sI, if_neg (by omega), gI_sI, if_neg (by omega), gI_sI, if_neg (by omega)]; exact hws.1.2 a ha)) (fun r78 S78 hp78 => ?_)
  obtain ⟨rfl, f8, hr8⟩ := hp78
  rw [add_one hW.1.1] at hr8
  have g0 : Fg tDr S S18 := ((fr_thr (S := S)).fg hs (fun a b k z => Or.inr (Or.inr (by simp at z; omega)))).tr (f1.fg (S := sI S 12 0 0 (nI 0)) hs (fun a b k z => Or.inl z))
  have g1 : Fg tDr S18 (sI (sI (sI (sI S18 12 0 90 y) 12 0 90 z) 12 0 47 (nI 0)) 12 0 48 (nI n)) := Fg.of22 hs1 rfl (fun a b k _ hz => by
    rw [gI_sI, if_neg (fun z => hz (Or.inr (Or.inr (by omega)))), gI_sI, if_neg (fun z => hz (Or.inr (Or.inr (by omega)))), gI_sI, if_neg (fun z => hz (Or.inr (Or.inr (by omega)))), gI_sI, if_neg (fun z => hz (Or.inr (Or.inr (by omega))))]) (fun _ _ _ _ _ => rfl)
  have g2 : Fg tDr (sI (sI (sI (sI S18 12 0 90 y) 12 0 90 z) 12 0 47 (nI 0)) 12 0 48 (nI n)) S78 := f8.fg (S := sI (sI (sI (sI S18 12 0 90 y) 12 0 90 z) 12 0 47 (nI 0)) 12 0 48 (nI n)) hs1 (fun a b k z => Or.inr (Or.inl z))
  have g3 : Fg tDr S S78 := (g0.tr g1).tr g2
  have h48 : gI S78 12 0 48 = nI n := by rw [f8.1 _ _ _ rfl, gI_sI, if_pos ⟨rfl, rfl, rfl⟩]
  have rc1 : RcI S18 S78 := RcI.of (T := fun a b k => tAT a b k = true ∨ a = 12 ∧ b = 0 ∧ (k = 90 ∨ k = 47 ∨ k = 48)) ((Fg.of22 (S1 := sI (sI (sI (sI S18 12 0 90 y) 12 0 90 z) 12 0 47 (nI 0)) 12 0 48 (nI n)) hs1 rfl (fun a b k _ hz => by
    rw [gI_sI, if_neg (fun z => hz (Or.inr (by omega))), gI_sI, if_neg (fun z => hz (Or.inr (by omega))), gI_sI, if_neg (fun z => hz (Or.inr (by omega))), gI_sI, if_neg (fun z => hz (Or.inr (by omega)))]) (fun _ _ _ _ _ => rfl)).tr (f8.fg (S := sI (sI (sI (sI S18 12 0 90 y) 12 0 90 z) 12 0 47 (nI 0)) 12 0 48 (nI n)) hs1 (fun a b k z => Or.inl z))) ⟨by simp [tAT, tPa], by simp [tAT, tPa], fun x k a b => by simp [tAT, tPa]; omega, fun k _ => by simp [tAT, tPa]⟩
  show Ok _ _ _ [] _ _
  refine r_aload_n (q := 82) dX12_drawn_81 rfl rfl rfl ?_
  refine r_callV (Mc := mX12_keepSum) (q := 85) (As := []) (st := []) ck12 dX12_drawn_82 rfl rfl mkX12_keepSum wt1710 wt1712 wp94 rfl (Nat.le_of_ble_eq_true rfl) (Nat.le_of_ble_eq_true rfl) (by decide) (by decide) (by decide) (Or.inl rfl) (g3.sd.e (by decide)) (Kp S78 g3 hr8.rz h48) (fun r82 S82 hp82 => ?_)
  obtain ⟨rfl, k3, k4⟩ := hp82
  show Ok _ _ _ [zi (nI 1)] _ _
  refine r_ireturn dX12_drawn_85 rfl ?_
  exact ⟨S78, g3, (rc1.rc (W := W)).2.1 hcw, rc1.rc.1 (fun _ => ⟨L, pvs, bss, hB⟩), (rc1.rc (W := W)).2.2 hiv, rfl, k3, k4⟩

set_option maxRecDepth 100000 in
theorem rm_drawn_0 {S : zS} (hs : Sd S) {W : zWd} (hW : Wok W) {n9 : Nat → Int64} (hR : wqR W (fun k => gI S 1306 0 k) n9) (hO : Cw S) (hcr : CR S W) (hI : IvI S) {n : Nat} (hn1 : 1 ≤ n) (hn7 : n ≤ 7) {y : Int32} (h3 : tc W n ≤ 300) (hpos : (tl W n).length = 0) : Ok mX12_drawn 0 (ent 4 [zr 12 0, zi (nI n), zi y]) [] S (fun r S1 => (Fr (fun x y k => tBy x y k || x == 12 && y == 0 && k == 0) S S1 ∧ Cw S1 ∧ CR S1 W ∧ IvI S1) ∧ r = some (zi (-1))) := by
  show Ok mX12_drawn 0 [some (zr 12 0), some (zi (nI n)), some (zi y), none] [] S _
  refine r_aload_n (q := 1) dX12_drawn_0 rfl rfl rfl ?_
  refine r_iconst (q := 2) (nI 0) dX12_drawn_1 rfl (by decide) ?_
  refine r_puti (q := 5) ck12 dX12_drawn_2 rfl (k := 0) (by decide) wt1278 (Or.inl rfl) rfl (hs.e (by decide)) ?_
  refine r_iload_n (q := 6) dX12_drawn_5 rfl rfl rfl ?_
  refine r_iconst (q := 7) (nI 1) dX12_drawn_6 rfl (by decide) ?_
  refine r_bipush (q := 9) (nI 7) dX12_drawn_7 rfl (by decide) ?_
  refine r_callS (Mc := mX12_isIn) (q := 12) (As := [zi (nI n), zi (nI 1), zi (nI 7)]) (st := []) dX12_drawn_9 rfl rfl mkX12_isIn wt1614 wt1615 rfl (Nat.le_of_ble_eq_true rfl) (Nat.le_of_ble_eq_true rfl) (by decide) (by decide) (by decide) (Or.inl rfl) hs.some (ok_X12_isIn_in (by omega) (by omega) (by omega)) (fun r9 S9 hp9 => ?_)
  obtain ⟨rfl, hq9⟩ := hp9
  rw [hq9]
  show Ok _ _ _ [zi (nI 1)] _ _
  refine r_if_eqN (q := 15) (t := 33) (by omega) dX12_drawn_12 (by decide) rfl (fun h12 => absurd h12 (by omega)) (fun h12 => ?_)
  refine r_aload_n (q := 16) dX12_drawn_15 rfl rfl rfl ?_
  refine r_iconst (q := 17) (nI 0) dX12_drawn_16 rfl (by decide) ?_
  refine r_iload_n (q := 18) dX12_drawn_17 rfl rfl rfl ?_
  refine r_callV (Mc := mX12_isBeyond) (q := 21) (As := [zi (nI 0), zi (nI n)]) (st := []) ck12 dX12_drawn_18 rfl rfl mkX12_isBeyond wt1751 wt1753 wp99 rfl (Nat.le_of_ble_eq_true rfl) (Nat.le_of_ble_eq_true rfl) (by decide) (by decide) (by decide) (Or.inl rfl) (hs.e (by decide)) (ok_beyond0_n (S := sI S 12 0 0 (nI 0)) hs hW hn1 hn7 (wqR_thr hW hR) (rc_thr.rc (W := W).2.1 hO) (rc_thr.rc.1 hcr) (rc_thr.rc (W := W).2.2 hI) h3) (fun r18 S18 hp18 => ?_)
  obtain ⟨f1, hon, hcw, hiv, hws, L, pvs, bss, hB, hz⟩ := hp18
  have hs1 : Sd S18 := Sd.fr (S := sI S 12 0 0 (nI 0)) hs f1
  obtain ⟨rfl, _, hnL⟩ := hz.resolve_left (fun z => absurd z.2 (by omega))
  obtain ⟨hLr, hAc, hLv⟩ := hB.2.2.2.2 n hn1 (by omega)
  have h4 : gI S18 1324 0 n = nI (tl W n).length := by have z := hLr.2.1; rw [Nat.mul_zero, Nat.zero_add] at z; exact z
  have h5 : gI S18 1325 0 n = nI (FqR 0 W n) := by have z := hLr.1; rw [Nat.mul_zero, Nat.zero_add] at z; exact z
  have hb300 := hAc.1.2.2.2.2.1
  have hF44 := hAc.1.2.2.2.2.2.1
  have h0P : gI S18 1306 0 0 = nI (wP W) := by rw [f1.1 1306 0 0 rfl, gI_sI, if_neg (by omega)]; exact hR.1
  show Ok _ _ _ [zi (nI 0)] _ _
  refine r_if_neN (q := 24) (t := 33) (by omega) dX12_drawn_21 (by decide) rfl (fun h21 => absurd h21 (by omega)) (fun h21 => ?_)
  refine r_aload_n (q := 25) dX12_drawn_24 rfl rfl rfl ?_
  refine r_getr (q := 28) (some (1324, 0)) ck12 dX12_drawn_25 rfl (k := 24) (by decide) wt1302 rfl (hs1.e (by decide)) (hs1.r (by decide) (by decide)) ?_
  refine r_iload_n (q := 29) dX12_drawn_28 rfl rfl rfl ?_
  refine r_ialdN (q := 30) 16 (by decide) rfl dX12_drawn_29 rfl (hs1.e (by decide)) (hs1.n rfl (by decide)) (by omega) (by decide) ?_
  refine r_topi (y := nI ((tl W n).length)) h4 ?_
  refine r_if_neN (q := 33) (t := 35) (by omega) dX12_drawn_30 (by decide) rfl (fun h30 => absurd h30 (by omega)) (fun h30 => ?_)
  refine r_iconst (q := 34) ((-1 : Int32)) dX12_drawn_33 rfl (by decide) ?_
  refine r_ireturn dX12_drawn_34 rfl ?_
  exact ⟨⟨((fr_thr (S := S)).mono (fun x y k h => by simp only [Bool.or_eq_true]; exact Or.inr h)).tr (f1.mono (fun x y k h => by simp [h])), hcw, fun _ => ⟨L, pvs, bss, hB⟩, hiv⟩, rfl⟩

set_option maxRecDepth 100000 in
theorem rm_drawn_n {S : zS} (hs : Sd S) {W : zWd} (hW : Wok W) {n9 : Nat → Int64} (hR : wqR W (fun k => gI S 1306 0 k) n9) (hO : Cw S) (hcr : CR S W) (hI : IvI S) {n : Nat} (hn1 : 1 ≤ n) (hn7 : n ≤ 7) {y : Int32} (h3 : ¬ tc W n ≤ 300) : Ok mX12_drawn 0 (ent 4 [zr 12 0, zi (nI n), zi y]) [] S (fun r S1 => (Fr (fun x y k => tBy x y k || x == 12 && y == 0 && k == 0) S S1 ∧ Cw S1 ∧ CR S1 W ∧ IvI S1) ∧ r = some (zi (-1))) := by
  show Ok mX12_drawn 0 [some (zr 12 0), some (zi (nI n)), some (zi y), none] [] S _
  refine r_aload_n (q := 1) dX12_drawn_0 rfl rfl rfl ?_
  refine r_iconst (q := 2) (nI 0) dX12_drawn_1 rfl (by decide) ?_
  refine r_puti (q := 5) ck12 dX12_drawn_2 rfl (k := 0) (by decide) wt1278 (Or.inl rfl) rfl (hs.e (by decide)) ?_
  refine r_iload_n (q := 6) dX12_drawn_5 rfl rfl rfl ?_
  refine r_iconst (q := 7) (nI 1) dX12_drawn_6 rfl (by decide) ?_
  refine r_bipush (q := 9) (nI 7) dX12_drawn_7 rfl (by decide) ?_
  refine r_callS (Mc := mX12_isIn) (q := 12) (As := [zi (nI n), zi (nI 1), zi (nI 7)]) (st := []) dX12_drawn_9 rfl rfl mkX12_isIn wt1614 wt1615 rfl (Nat.le_of_ble_eq_true rfl) (Nat.le_of_ble_eq_true rfl) (by decide) (by decide) (by decide) (Or.inl rfl) hs.some (ok_X12_isIn_in (by omega) (by omega) (by omega)) (fun r9 S9 hp9 => ?_)
  obtain ⟨rfl, hq9⟩ := hp9
  rw [hq9]
  show Ok _ _ _ [zi (nI 1)] _ _
  refine r_if_eqN (q := 15) (t := 33) (by omega) dX12_drawn_12 (by decide) rfl (fun h12 => absurd h12 (by omega)) (fun h12 => ?_)
  refine r_aload_n (q := 16) dX12_drawn_15 rfl rfl rfl ?_
  refine r_iconst (q := 17) (nI 0) dX12_drawn_16 rfl (by decide) ?_
  refine r_iload_n (q := 18) dX12_drawn_17 rfl rfl rfl ?_
  refine r_callV (Mc := mX12_isBeyond) (q := 21) (As := [zi (nI 0), zi (nI n)]) (st := []) ck12 dX12_drawn_18 rfl rfl mkX12_isBeyond wt1751 wt1753 wp99 rfl (Nat.le_of_ble_eq_true rfl) (Nat.le_of_ble_eq_true rfl) (by decide) (by decide) (by decide) (Or.inl rfl) (hs.e (by decide)) (ok_beyond0_y (S := sI S 12 0 0 (nI 0)) hs hW hn1 hn7 (wqR_thr hW hR) (rc_thr.rc (W := W).2.1 hO) (rc_thr.rc.1 hcr) (rc_thr.rc (W := W).2.2 hI) h3) (fun r18 S18 hp18 => ?_)
  obtain ⟨f1, hon, hcw, hiv, hws, L, pvs, bss, hB, hz⟩ := hp18
  have hs1 : Sd S18 := Sd.fr (S := sI S 12 0 0 (nI 0)) hs f1
  obtain ⟨rfl, _⟩ := hz.resolve_right (fun z => h3 z.2.1)
  show Ok _ _ _ [zi (nI 1)] _ _
  refine r_if_neN (q := 24) (t := 33) (by omega) dX12_drawn_21 (by decide) rfl (fun h21 => ?_) (fun h21 => absurd h21 (by omega))
  refine r_iconst (q := 34) ((-1 : Int32)) dX12_drawn_33 rfl (by decide) ?_
  refine r_ireturn dX12_drawn_34 rfl ?_
  exact ⟨⟨((fr_thr (S := S)).mono (fun x y k h => by simp only [Bool.or_eq_true]; exact Or.inr h)).tr (f1.mono (fun x y k h => by simp [h])), hcw, fun _ => ⟨L, pvs, bss, hB⟩, hiv⟩, rfl⟩

set_option maxRecDepth 100000 in
theorem rm_drawn_x {S : zS} (hs : Sd S) {x y : Int32} (hx : ¬ (nI 1 ≤ x ∧ x ≤ nI 7)) : Ok mX12_drawn 0 (ent 4 [zr 12 0, zi x, zi y]) [] S (fun r S1 => r = some (zi (-1)) ∧ S1 = sI S 12 0 0 (nI 0)) := by
  show Ok mX12_drawn 0 [some (zr 12 0), some (zi x), some (zi y), none] [] S _
  refine r_aload_n (q := 1) dX12_drawn_0 rfl rfl rfl ?_
  refine r_iconst (q := 2) (nI 0) dX12_drawn_1 rfl (by decide) ?_
  refine r_puti (q := 5) ck12 dX12_drawn_2 rfl (k := 0) (by decide) wt1278 (Or.inl rfl) rfl (hs.e (by decide)) ?_
  refine r_iload_n (q := 6) dX12_drawn_5 rfl rfl rfl ?_
  refine r_iconst (q := 7) (nI 1) dX12_drawn_6 rfl (by decide) ?_
  refine r_bipush (q := 9) (nI 7) dX12_drawn_7 rfl (by decide) ?_
  refine r_callS (Mc := mX12_isIn) (q := 12) (As := [zi x, zi (nI 1), zi (nI 7)]) (st := []) dX12_drawn_9 rfl rfl mkX12_isIn wt1614 wt1615 rfl (Nat.le_of_ble_eq_true rfl) (Nat.le_of_ble_eq_true rfl) (by decide) (by decide) (by decide) (Or.inl rfl) hs.some (ok_X12_isIn_out hx) (fun r9 S9 hp9 => ?_)
  obtain ⟨rfl, hq9⟩ := hp9
  rw [hq9]
  show Ok _ _ _ [zi (nI 0)] _ _
  refine r_if_eqN (q := 15) (t := 33) (by omega) dX12_drawn_12 (by decide) rfl (fun h12 => ?_) (fun h12 => absurd h12 (by omega))
  refine r_iconst (q := 34) ((-1 : Int32)) dX12_drawn_33 rfl (by decide) ?_
  refine r_ireturn dX12_drawn_34 rfl ?_
  exact ⟨rfl, rfl⟩

/-- a call that changed the caches alone -/
def CacheB (S S2 : zS) (W : zWd) (cc : Nat) : Prop := Fg (tBz cc) S S2 ∧ BsC S2 cc W
theorem cache_thr {S : zS} (hs : Sd S) {W : zWd} {cc : Nat} (hb : BsC S cc W) : CacheB S (sI S 12 0 0 (nI 0)) W cc := by
  have f2 : Fr (fun x y k => tBy x y k || x == 12 && y == 0 && k == 0) S (sI S 12 0 0 (nI 0)) := fr_thr.mono (fun x y k h => by simp only [Bool.or_eq_true]; exact Or.inr h)
  obtain ⟨⟨n0, mk, rl, hB⟩, hcr, hO, hI⟩ := hb
  exact ⟨fg_by hs f2, ⟨n0, mk, rl, hB.by hs f2⟩, rc_thr.rc.1 hcr, (rc_thr.rc (W := W)).2.1 hO, (rc_thr.rc (W := W)).2.2 hI⟩
theorem BsC.re {S S1 : zS} {W : zWd} {cc : Nat} (hb : BsC S cc W) (f : Fg (tRe cc) S S1) (h : ∃ n mk rl, CB S1 cc W n mk rl) : BsC S1 cc W := by
  have rc := (rc_re f).rc (W := W)
  exact ⟨h, rc.1 hb.2.1, rc.2.1 hb.2.2.1, rc.2.2 hb.2.2.2⟩
theorem cache_by {S S1 S2 : zS} {W : zWd} {cc : Nat} (f1 : Fg (tRe cc) S S1) (h : ∃ n mk rl, CB S1 cc W n mk rl) (y : Fr (fun x y k => tBy x y k || x == 12 && y == 0 && k == 0) S1 S2 ∧ Cw S2 ∧ CR S2 W ∧ IvI S2) : CacheB S S2 W cc := by
  obtain ⟨f2, y2, y3, y4⟩ := y
  obtain ⟨n1, mk1, rl1, hB1⟩ := h
  exact ⟨(f1.mono tBz_re).tr (fg_by f1.sd f2), ⟨n1, mk1, rl1, hB1.by f1.sd f2⟩, y3, y2, y4⟩
/-- both halves of a call that kept a sum -/
theorem kept_b {S S2 S3 T S4 : zS} {W : zWd} {cc h q : Nat} (hcb : ∃ n mk rl, CB S2 cc W n mk rl) (f2 : Fg (tCm cc) S S2) (k1 : Fg tKp S2 S3) (g : Fg tDr S3 T) (hcw : Cw T) (hcr : CR T W) (hiv : IvI T) (k3 : Fg tKs T S4) (z : SR sq S4 W 0 1306 1173 ∧ Pst sq S4 W (min 8 (h + 1)) ((q + 1) % 8) ∧ TLs S4) : KeptB S S4 W cc h q := by
  have rc := (RcI.of k3 ⟨by unfold tKs; omega, by unfold tKs; omega, fun x k a b => by unfold tKs; omega, fun k _ => by unfold tKs; omega⟩).rc (W := W)
  obtain ⟨n1, mk1, rl1, hB⟩ := hcb
  have b1 := hB.fg k1 ⟨by unfold tKp; omega, fun x k a b => by unfold tKp; omega⟩
  have b2 := b1.fg (g.mono (U := fun x _ _ => 12 ≤ x ∧ (x < 100 ∨ 1300 ≤ x)) (fun a b k h => by
    rcases h with h | h | h
    · simp [tBy, tSe, tTq, tPt, tPa, tIv, tOw] at h; omega
    · simp [tAT, tPa] at h; omega
    · omega)) ⟨by omega, fun x k a b => by omega⟩
  have b3 := b2.fg k3 ⟨by unfold tKs; omega, fun x k a b => by unfold tKs; omega⟩
  refine ⟨(((f2.mono fun a b k y => y.elim (fun y => Or.inl y) (fun y => Or.inr (Or.inl y))).tr (k1.mono fun a b k y => Or.inr (Or.inr (Or.inl y)))).tr (g.mono fun a b k y => Or.inr (Or.inr (Or.inr (Or.inr y))))).tr (k3.mono fun a b k y => Or.inr (Or.inr (Or.inr (Or.inl y)))), ⟨⟨n1, mk1, rl1, b3⟩, rc.1 hcr, rc.2.1 hcw, rc.2.2 hiv⟩, z⟩
theorem rc_cm {S S2 S3 : zS} {cc : Nat} (f2 : Fg (tCm cc) S S2) (k1 : Fg tKp S2 S3) : RcI S S3 := RcI.of ((f2.mono fun a b k y => Or.inl y).tr (k1.mono fun a b k y => Or.inr y) : Fg (fun a b k => tCm cc a b k ∨ tKp a b k) S S3) ⟨by unfold tCm tRe tMd tKp; omega, by unfold tCm tRe tMd tKp; omega, fun x k a b => by unfold tCm tRe tMd tKp; omega, fun k _ => by unfold tCm tRe tMd tKp; omega⟩
theorem wqR.cm {S S2 S3 : zS} {W : zWd} (hW : Wok W) {cc : Nat} (f2 : Fg (tCm cc) S S2) (k1 : Fg tKp S2 S3) {n9 : Nat → Int64} (h : wqR W (fun k => gI S 1306 0 k) n9) : wqR W (fun k => gI S3 1306 0 k) n9 := wqR.cong hW (fun k k1' _ => ((rc_cm f2 k1).2.2.2.2 k (by omega)).symm) (fun _ _ => rfl) h
theorem pg_drawn {S : zS} (hs : Sd S) {W : zWd} {cc h q : Nat} (hcc : gI S 11 0 3 = nI cc) (hc4 : cc < 4) (hw : WR wq S W cc 1306 0 1308 0) (hb : BsC S cc W) (hP : Pst sq S W h q) (hA : SR sq S W 0 1306 1173) (hTL : TLs S) (a y : Int32) : Pg mX11_drawn 6 [zr 11 0, zi a, zi y] mX12_drawn 4 [zr 12 0, zi a, zi y] S (fun S2 => CacheB S S2 W cc ∨ KeptB S S2 W cc h q) := by
  obtain ⟨hW, hC, hR⟩ := hw.c
  obtain ⟨hc, hT⟩ := wq_WC hC
  have hb' := hb
  obtain ⟨⟨n0, mk, rl, hB⟩, hcr, hO, hI⟩ := hb
  obtain ⟨z, hz⟩ : ∃ z, y * nI 1103515245 + nI 12345 = z := ⟨_, rfl⟩
  obtain ⟨m, hm, hmE⟩ := ushr8 z
  by_cases ha : nI 1 ≤ a ∧ a ≤ nI 7
  · obtain ⟨n, rfl, hn1, hn7⟩ := in17 ha
    by_cases h3 : tc W n ≤ 300
    · refine Ok.mono (cm_drawn_y hs hW hcc hc4 hc hT hB hn1 hn7 hP hA hTL h3 hz hmE hm) fun r S3 z => ?_
      obtain ⟨S7, n1, mk1, rl1, f1, hB1, hn, z⟩ := z
      rcases z with ⟨z0, rfl, rfl⟩ | ⟨z0, rfl, S2, f2, hB2, k1, k2⟩
      · have b1 := hb'.re f1 ⟨n1, mk1, rl1, hB1⟩
        refine ⟨_, rfl, f1.sd, Ok.mono (rm_drawn_0 f1.sd hW (hR.re hW f1) b1.2.2.1 b1.2.1 b1.2.2.2 hn1 hn7 h3 z0) fun r2 S4 x => ?_⟩
        obtain ⟨x1, rfl⟩ := x
        exact ⟨rfl, Or.inl (cache_by f1 ⟨n1, mk1, rl1, hB1⟩ x1)⟩
      · have rc := (rc_cm f2 k1).rc (W := W)
        refine ⟨_, rfl, k1.sd, Ok.mono (rm_drawn_y k1.sd hW (hR.cm hW f2 k1) (rc.2.1 hO) (rc.1 hcr) (rc.2.2 hI) hn1 hn7 h3 hz hmE hm z0 k2) fun r2 S4 x => ?_⟩
        obtain ⟨T, x1, x2, x3, x4, rfl, x5, x6⟩ := x
        exact ⟨rfl, Or.inr (kept_b ⟨n1, mk1, rl1, hB2⟩ f2 k1 x1 x2 x3 x4 x5 x6)⟩
    · refine Ok.mono (cm_drawn_n hs hW hcc hc4 hc hT hB hn1 hn7 h3) fun r S1 z => ?_
      obtain ⟨f1, hB1, rfl⟩ := z
      have b1 := hb'.re f1 hB1
      refine ⟨_, rfl, f1.sd, Ok.mono (rm_drawn_n f1.sd hW (hR.re hW f1) b1.2.2.1 b1.2.1 b1.2.2.2 hn1 hn7 h3) fun r2 S4 x => ?_⟩
      obtain ⟨x1, rfl⟩ := x
      exact ⟨rfl, Or.inl (cache_by f1 hB1 x1)⟩
  · refine Ok.mono (cm_drawn_x hs hcc hc4 ha) fun r S1 z => ?_
    obtain ⟨rfl, rfl⟩ := z
    refine ⟨_, rfl, hs, Ok.mono (rm_drawn_x hs ha) fun r2 S2 x => ?_⟩
    obtain ⟨rfl, rfl⟩ := x
    exact ⟨rfl, Or.inl (cache_thr hs hb')⟩

