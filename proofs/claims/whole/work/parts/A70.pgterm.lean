/-! PAIRS term and undone -/
/-- what was there stays there -/
theorem Ok.keepE {M : mD} {pc : Nat} {L : List (Option zV)} {st : List zV} {S : zS} {Po : Option zV → zS → Prop} (h : Ok M pc L st S Po) : Ok M pc L st S (fun r S1 => Po r S1 ∧ ∀ a b, gE S a b = true → gE S1 a b = true) := by
  obtain ⟨r, S1, hp, hr⟩ := h
  exact ⟨r, S1, ⟨hp, hr.2.2.1⟩, hr⟩
theorem fg_bmp {T : Nat → Nat → Nat → Prop} {S S1 : zS} (h : Fg T S S1) : Fg T (bmp S) (bmp S1) := by
  obtain ⟨h1, h2, h3, h4, h5, h6⟩ := h
  refine ⟨sd_bmp h1, h2, h3, h4, ?_, ?_⟩
  · show gC S1 + 1 + pC S1 ≤ gC S + 1 + pC S
    omega
  · show gQ S1 + 6 + pQ S1 ≤ gQ S + 6 + pQ S
    omega
theorem fg_bm {T : Nat → Nat → Nat → Prop} {S S1 : zS} (h : Fg T S S1) : Fg T (bmp S) S1 := by
  obtain ⟨h1, h2, h3, h4, h5, h6⟩ := h
  refine ⟨h1, h2, h3, h4, ?_, ?_⟩
  · show gC S1 + pC S1 ≤ gC S + 1 + pC S
    omega
  · show gQ S1 + pQ S1 ≤ gQ S + 6 + pQ S
    omega

set_option maxRecDepth 100000 in
theorem rm_term_n {S : zS} (hs : Sd S) {e : Nat} (he : gI S 1306 0 1174 = nI e) {x : Int32} (hx : ¬ (nI 0 ≤ x ∧ x ≤ nI e - nI 1)) : Ok mX12_term 0 (ent 2 [zr 12 0, zi x]) [] S (fun r S1 => r = some (zi (nI 0)) ∧ S1 = sI S 12 0 0 (nI 1)) := by
  show Ok mX12_term 0 [some (zr 12 0), some (zi x)] [] S _
  refine r_aload_n (q := 1) dX12_term_0 rfl rfl rfl ?_
  refine r_iload_n (q := 2) dX12_term_1 rfl rfl rfl ?_
  refine r_iconst (q := 3) (nI 0) dX12_term_2 rfl (by decide) ?_
  refine r_aload_n (q := 4) dX12_term_3 rfl rfl rfl ?_
  refine r_getr (q := 7) (some (1306, 0)) ck12 dX12_term_4 rfl (k := 6) (by decide) wt1284 rfl (hs.e (by decide)) (hs.r (by decide) (by decide)) ?_
  refine r_sipush (q := 10) (nI 1174) dX12_term_7 rfl (by decide) ?_
  refine r_ialdN (q := 11) 3775 (by decide) rfl dX12_term_10 rfl (hs.e (by decide)) (hs.n rfl (by decide)) (by omega) (by decide) ?_
  refine r_topi (y := nI e) he ?_
  refine r_iconst (q := 12) (nI 1) dX12_term_11 rfl (by decide) ?_
  refine r_isub (q := 13) dX12_term_12 rfl ?_
  refine r_callS (Mc := mX12_isIn) (q := 16) (As := [zi x, zi (nI 0), zi ((nI e) - (nI 1))]) (st := [zr 12 0]) dX12_term_13 rfl rfl mkX12_isIn wt1614 wt1615 rfl (Nat.le_of_ble_eq_true rfl) (Nat.le_of_ble_eq_true rfl) (by decide) (by decide) (by decide) (Or.inl rfl) hs.some (ok_X12_isIn_out (S := S) hx) (fun r13 S13 hp13 => ?_)
  obtain ⟨rfl, hq13⟩ := hp13
  rw [hq13]
  show Ok _ _ _ [zi (nI 0), zr 12 0] _ _
  refine r_if_neN (q := 19) (t := 23) (by omega) dX12_term_16 (by decide) rfl (fun h16 => absurd h16 (by omega)) (fun h16 => ?_)
  refine r_iconst (q := 20) (nI 1) dX12_term_19 rfl (by decide) ?_
  refine r_goto (q := 24) dX12_term_20 (by decide) ?_
  refine r_callV (Mc := mX12_throwsIf) (q := 27) (As := [zi (nI 1)]) (st := []) ck12 dX12_term_24 rfl rfl mkX12_throwsIf wt1734 wt1736 wp97 rfl (Nat.le_of_ble_eq_true rfl) (Nat.le_of_ble_eq_true rfl) (by decide) (by decide) (by decide) (Or.inl rfl) (hs.e (by decide)) (ok_throwsIf1 (S := S) hs) (fun r24 S24 hp24 => ?_)
  obtain ⟨rfl, hq24⟩ := hp24
  rw [hq24]
  show Ok _ _ _ [zi (nI 1)] _ _
  refine r_if_eqN (q := 30) (t := 34) (by omega) dX12_term_27 (by decide) rfl (fun h27 => absurd h27 (by omega)) (fun h27 => ?_)
  refine r_iconst (q := 31) (nI 0) dX12_term_30 rfl (by decide) ?_
  refine r_goto (q := 44) dX12_term_31 (by decide) ?_
  refine r_ireturn dX12_term_44 rfl ?_
  exact ⟨rfl, rfl⟩

set_option maxRecDepth 100000 in
theorem ok_undoneT_x {S : zS} (hs : Sd S) {cc : Nat} (hcc : gI S 11 0 3 = nI cc) (hc4 : cc < 4) {x : Int32} (hx : ¬ (nI 1 ≤ x ∧ x ≤ nI 7)) : Ok mX11_undoneT 0 (ent 3 [zr 11 0, zi x]) [] S (fun r S1 => S1 = bmp S) := by
  show Ok mX11_undoneT 0 [some (zr 11 0), some (zi x), none] [] S _
  refine r_aload_n (q := 1) dX11_undone_0 rfl rfl rfl ?_
  refine r_callV (Mc := mX11_basisHere) (q := 4) (As := []) (st := []) ck11 dX11_undone_1 rfl rfl mkX11_basisHere wt766 wt768 wp27 rfl (Nat.le_of_ble_eq_true rfl) (Nat.le_of_ble_eq_true rfl) (by decide) (by decide) (by decide) (Or.inl rfl) (hs.e (by decide)) (ok_basisHere hs hcc hc4) (fun r1 S1 hp1 => ?_)
  obtain ⟨rfl, hq1⟩ := hp1
  rw [hq1]
  show Ok _ _ _ [zr 0 cc] _ _
  refine r_astore_n (q := 5) (L' := [some (zr 11 0), some (zi x), some (zr 0 cc)]) dX11_undone_4 rfl rfl (by decide) rfl ?_
  refine r_aload_n (q := 6) dX11_undone_5 rfl rfl rfl ?_
  refine r_iload_n (q := 7) dX11_undone_6 rfl rfl rfl ?_
  refine r_callV (Mc := mX0_reach) (q := 10) (As := [zi x]) (st := []) ck0 dX11_undone_7 rfl rfl mkX0_reach wt770 wt771 wt772 rfl (Nat.le_of_ble_eq_true rfl) (Nat.le_of_ble_eq_true rfl) (by decide) (by decide) (by decide) (Or.inr ⟨Nat.le_of_ble_eq_true rfl, rfl, rfl⟩) (hs.e (show cc < 4 by omega)) (ok_reach_out hs hc4 hx) (fun r7 S7 hp7 => ?_)
  obtain ⟨rfl, hq7⟩ := hp7
  rw [hq7]
  show Ok _ _ _ [zi (nI 0)] _ _
  refine r_if_neN (q := 13) (t := 24) (by omega) dX11_undone_10 (by decide) rfl (fun h10 => absurd h10 (by omega)) (fun h10 => ?_)
  exact r_throwSW rfl rfl (by decide) (by decide) (by decide) dX11_undone_13 dX11_undone_16 dX11_undone_17 dX11_undone_20 dX11_undone_23 rfl

set_option maxRecDepth 100000 in
theorem ok_undoneT_n {S : zS} (hs : Sd S) {W : zWd} (hW : Wok W) {cc : Nat} (hcc : gI S 11 0 3 = nI cc) (hc4 : cc < 4) (hc : WC S cc W) (hT : Tcs S cc W) {n0 : Nat} {mk : Nat → Nat → Nat} {rl : Nat → Nat → Nat → Nat} (hB : CB S cc W n0 mk rl) {n : Nat} (hn1 : 1 ≤ n) (hn7 : n ≤ 7) (h3 : ¬ tc W n ≤ 300) : Ok mX11_undoneT 0 (ent 3 [zr 11 0, zi (nI n)]) [] S (fun r S1 => ∃ S0, S1 = bmp S0 ∧ Fg (tRe cc) S S0 ∧ ∃ n1 mk1 rl1, CB S0 cc W n1 mk1 rl1) := by
  show Ok mX11_undoneT 0 [some (zr 11 0), some (zi (nI n)), none] [] S _
  refine r_aload_n (q := 1) dX11_undone_0 rfl rfl rfl ?_
  refine r_callV (Mc := mX11_basisHere) (q := 4) (As := []) (st := []) ck11 dX11_undone_1 rfl rfl mkX11_basisHere wt766 wt768 wp27 rfl (Nat.le_of_ble_eq_true rfl) (Nat.le_of_ble_eq_true rfl) (by decide) (by decide) (by decide) (Or.inl rfl) (hs.e (by decide)) (ok_basisHere hs hcc hc4) (fun r1 S1 hp1 => ?_)
  obtain ⟨rfl, hq1⟩ := hp1
  rw [hq1]
  show Ok _ _ _ [zr 0 cc] _ _
  refine r_astore_n (q := 5) (L' := [some (zr 11 0), some (zi (nI n)), some (zr 0 cc)]) dX11_undone_4 rfl rfl (by decide) rfl ?_
  refine r_aload_n (q := 6) dX11_undone_5 rfl rfl rfl ?_
  refine r_iload_n (q := 7) dX11_undone_6 rfl rfl rfl ?_
  refine r_callV (Mc := mX0_reach) (q := 10) (As := [zi (nI n)]) (st := []) ck0 dX11_undone_7 rfl rfl mkX0_reach wt770 wt771 wt772 rfl (Nat.le_of_ble_eq_true rfl) (Nat.le_of_ble_eq_true rfl) (by decide) (by decide) (by decide) (Or.inr ⟨Nat.le_of_ble_eq_true rfl, rfl, rfl⟩) (hs.e (show cc < 4 by omega)) (ok_reach_n hs hW hc4 hn1 hn7 hc hT hB h3) (fun r7 S7 hp7 => ?_)
  obtain ⟨rfl, f1, hc1, n1, mk1, rl1, hB1⟩ := hp7
  show Ok _ _ _ [zi (nI 0)] _ _
  refine r_if_neN (q := 13) (t := 24) (by omega) dX11_undone_10 (by decide) rfl (fun h10 => absurd h10 (by omega)) (fun h10 => ?_)
  exact r_throwSW rfl rfl (by decide) (by decide) (by decide) dX11_undone_13 dX11_undone_16 dX11_undone_17 dX11_undone_20 dX11_undone_23 ⟨S7, rfl, f1, n1, mk1, rl1, hB1⟩


set_option maxRecDepth 100000 in
theorem ok_L_undone_x {S : zS} (hs : Sd S) {cc : Nat} (hcc : gI S 11 0 3 = nI cc) (hc4 : cc < 4) {x : Int32} (hx : ¬ (nI 1 ≤ x ∧ x ≤ nI 7)) : Ok mL_undone 0 (ent 4 [zr 11 0, zi x, zr 5000 0]) [] S (fun r S1 => r = some (zi (nI 1)) ∧ S1 = bmp S) := by
  show Ok mL_undone 0 [some (zr 11 0), some (zi (x)), some (zr 5000 0), none] [] S _
  refine r_aload_n (q := 1) dL_undone_0 rfl rfl rfl ?_
  refine r_iconst (q := 2) (nI 0) dL_undone_1 rfl (by decide) ?_
  refine r_aload_n (q := 3) dL_undone_2 rfl rfl rfl ?_
  refine r_iload_n (q := 4) dL_undone_3 rfl rfl rfl ?_
  exact r_catchV (Mc := mX11_undoneT) (hp := 11) (As := [zi (x)]) (st := [zi (nI 0), zr 5000 0]) (x := ⟨0, 8, 11, 13⟩) ck11 dL_undone_4 rfl mkX11_undoneT rfl wt1242 wt1243 wt1244 rfl (Nat.le_of_ble_eq_true rfl) (Nat.le_of_ble_eq_true rfl) (by decide) (by decide) (by decide) (hs.e (by decide)) rfl rfl rfl rfl rfl (by decide) rfl rfl dL_undone_11 dL_undone_12 dL_undone_13 (ok_undoneT_x hs hcc hc4 hx) (fun r S1 z => ⟨rfl, z⟩)
set_option maxRecDepth 100000 in
theorem ok_L_undone_n {S : zS} (hs : Sd S) {W : zWd} (hW : Wok W) {cc : Nat} (hcc : gI S 11 0 3 = nI cc) (hc4 : cc < 4) (hc : WC S cc W) (hT : Tcs S cc W) {n0 : Nat} {mk : Nat → Nat → Nat} {rl : Nat → Nat → Nat → Nat} (hB : CB S cc W n0 mk rl) {n : Nat} (hn1 : 1 ≤ n) (hn7 : n ≤ 7) (h3 : ¬ tc W n ≤ 300) : Ok mL_undone 0 (ent 4 [zr 11 0, zi (nI n), zr 5000 0]) [] S (fun r S1 => r = some (zi (nI 1)) ∧ ∃ S0, S1 = bmp S0 ∧ Fg (tRe cc) S S0 ∧ ∃ n1 mk1 rl1, CB S0 cc W n1 mk1 rl1) := by
  show Ok mL_undone 0 [some (zr 11 0), some (zi (nI n)), some (zr 5000 0), none] [] S _
  refine r_aload_n (q := 1) dL_undone_0 rfl rfl rfl ?_
  refine r_iconst (q := 2) (nI 0) dL_undone_1 rfl (by decide) ?_
  refine r_aload_n (q := 3) dL_undone_2 rfl rfl rfl ?_
  refine r_iload_n (q := 4) dL_undone_3 rfl rfl rfl ?_
  exact r_catchV (Mc := mX11_undoneT) (hp := 11) (As := [zi (nI n)]) (st := [zi (nI 0), zr 5000 0]) (x := ⟨0, 8, 11, 13⟩) ck11 dL_undone_4 rfl mkX11_undoneT rfl wt1242 wt1243 wt1244 rfl (Nat.le_of_ble_eq_true rfl) (Nat.le_of_ble_eq_true rfl) (by decide) (by decide) (by decide) (hs.e (by decide)) rfl rfl rfl rfl rfl (by decide) rfl rfl dL_undone_11 dL_undone_12 dL_undone_13 (ok_undoneT_n hs hW hcc hc4 hc hT hB hn1 hn7 h3) (fun r S1 z => ⟨rfl, z⟩)
set_option maxRecDepth 100000 in
theorem ok_L_undone_y {S : zS} (hs : Sd S) {W : zWd} (hW : Wok W) {cc : Nat} (hcc : gI S 11 0 3 = nI cc) (hc4 : cc < 4) (hc : WC S cc W) (hT : Tcs S cc W) {n0 : Nat} {mk : Nat → Nat → Nat} {rl : Nat → Nat → Nat → Nat} (hB : CB S cc W n0 mk rl) {n : Nat} (hn1 : 1 ≤ n) (hn7 : n ≤ 7) (h3 : tc W n ≤ 300) (h5 : gE S 5000 0 = true) (n5 : gN S 5000 0 = 1) : Ok mL_undone 0 (ent 4 [zr 11 0, zi (nI n), zr 5000 0]) [] S (fun r S1 => r = some (zi (nI 0)) ∧ ∃ S0 g, S1 = sJ S0 5000 0 0 (g n) ∧ IvS g (szW W) n ∧ Fg (tUc cc) S S0 ∧ gN S0 5000 0 = 1 ∧ ∃ n1 mk1 rl1, CB S0 cc W n1 mk1 rl1) := by
  show Ok mL_undone 0 [some (zr 11 0), some (zi (nI n)), some (zr 5000 0), none] [] S _
  refine r_aload_n (q := 1) dL_undone_0 rfl rfl rfl ?_
  refine r_iconst (q := 2) (nI 0) dL_undone_1 rfl (by decide) ?_
  refine r_aload_n (q := 3) dL_undone_2 rfl rfl rfl ?_
  refine r_iload_n (q := 4) dL_undone_3 rfl rfl rfl ?_
  refine r_callV (Mc := mX11_undone) (q := 7) (As := [zi (nI n)]) (st := [zi (nI 0), zr 5000 0]) ck11 dL_undone_4 rfl rfl mkX11_undone wt1242 wt1243 wt1244 rfl (Nat.le_of_ble_eq_true rfl) (Nat.le_of_ble_eq_true rfl) (by decide) (by decide) (by decide) (Or.inr ⟨Nat.le_of_ble_eq_true rfl, rfl, rfl⟩) (hs.e (by decide)) (Ok.keepE (cm_und_y hs hW hcc hc4 hc hT hB hn1 hn7 h3)) (fun r4 S4 hp4 => ?_)
  obtain ⟨⟨⟨g, rfl, -, hg⟩, f1, hB1⟩, hE⟩ := hp4
  have n4 : gN S4 5000 0 = 1 := (f1.N (by omega) (by unfold tUc tRe; omega)).trans n5
  show Ok _ _ _ [zl (g n), zi (nI 0), zr 5000 0] _ _
  refine r_lastN (q := 8) 1 (by decide) rfl dL_undone_7 rfl (hE _ _ h5) n4 (by decide) (by decide) ?_
  refine r_goto (q := 14) dL_undone_8 (by decide) ?_
  refine r_iconst (q := 15) (nI 0) dL_undone_14 rfl (by decide) ?_
  refine r_ireturn dL_undone_15 rfl ?_
  exact ⟨rfl, S4, g, rfl, hg, f1, n4, hB1⟩
theorem le_predI {a : Int32} {e : Nat} (he : e ≤ 1200) (h : a ≤ nI e - nI 1) : a < nI e ∨ e = 0 := by
  by_cases z : e = 0
  · exact Or.inr z
  · refine Or.inl ?_
    have e1 : nI e - nI 1 = nI (e - 1) := by
      obtain ⟨q, hq⟩ : ∃ q, e = q + 1 := ⟨e - 1, by omega⟩
      rw [hq]
      exact nI_pred q
    rw [e1] at h
    rw [Int32.lt_iff_toInt_lt]
    rw [Int32.le_iff_toInt_le] at h
    rw [nI_toInt (by omega)] at h ⊢
    omega
theorem wtc_term : Cond.codeWith (my mL_term) (mb mL_term) (mn mL_term) (mr mL_term) (hhOf mL_term) ∈ GW := gw_m (tl_5_13 (List.mem_of_getElem? (i := 0) rfl)) rfl
theorem wtc_undone : Cond.codeWith (my mL_undone) (mb mL_undone) (mn mL_undone) (mr mL_undone) (hhOf mL_undone) ∈ GW := gw_m (tl_6_2 (List.mem_of_getElem? (i := 9) rfl)) rfl
def tTz (a b k : Nat) : Prop := a = 12 ∧ b = 0 ∧ k = 0 ∨ a = 5000 ∧ b = 0
set_option maxRecDepth 100000 in
theorem pg_term {S : zS} (hs : Sd S) (h5 : gE S 5000 0 = true) (n5 : gN S 5000 0 = 1) {W : zWd} (hA : SR sq S W 0 1306 1173) (hTL : TLs S) (a : Int32) {n : Nat} {f : Nat → Int32} {L : List (Option zV)} {Po : Option zV → zS → Prop} (hL : exl S L) (K : ∀ (v : Int32) (S1 : zS), v = nI 0 ∨ v = nI 1 → Sd S1 → gE S1 5000 0 = true → Ok mX12_term 0 (ent 2 [zr 12 0, zi a]) [] S1 (fun r2 S2 => ∃ b : Int32, r2 = some (zi b) ∧ Sd S2 ∧ Ok mX12_thrown 0 (ent 1 [zr 12 0]) [] S2 (fun r3 S3 => r3 = some (zi v) ∧ (v = nI 0 → gJ S3 5000 0 0 = b.toInt64) ∧ Fg tTz (bmp S) S3 ∧ gN S3 5000 0 = 1)) → Ok (mL_law n f) 470 L [zi v] S1 Po) : Ok (mL_law n f) 467 L [zr 5000 0, zi a, zr 11 0] S Po := by
  obtain ⟨lv, c, hS, s1, s2, s3, s4, s5⟩ := hA.get
  have s4 : gI S 1306 0 1174 = nI c.length := s4
  obtain ⟨m, e, t1, t2, t3, t4, t5, t6⟩ := hTL 0 (by omega)
  have hc12 := hS.len
  have hec : e = c.length := by
    have q1 := congrArg Int32.toInt (s3.symm.trans t5)
    rw [nI_toInt (by omega), nI_toInt (by omega)] at q1
    omega
  have f5 : ∀ {S1 : zS} {v : Int64}, Fr (fun x y _ => x == 5000 && y == 0) S1 (sJ S1 5000 0 0 v) := fun {S1 v} => Fr.rf.j rfl
  have f0 : ∀ {S1 : zS} {v : Int32}, Fr (fun x y k => x == 12 && y == 0 && k == 0) S1 (sI S1 12 0 0 v) := fun {S1 v} => Fr.rf.i rfl
  by_cases ha : 0 ≤ a ∧ a < nI c.length
  · obtain ⟨x, hx, rfl⟩ := zz_of ha (by omega)
    refine r_callSW (Mc := mL_term) (q := 470) (As := [zr 11 0, zi (nI x), zr 5000 0]) (st := []) dL_law_467 rfl rfl rfl rfl (by decide) wtc_term wt0 (by decide) rfl rfl wt1166 wt1167 rfl (Nat.le_of_ble_eq_true rfl) (Nat.le_of_ble_eq_true rfl) (Nat.le_of_ble_eq_true rfl) (Nat.le_of_ble_eq_true rfl) (Nat.le_of_ble_eq_true rfl) hL trivial hs.some (Ok.keepE (ok_L_term_y hs h5 n5 hx (by omega) s3 t2 (by omega) t4)) (fun r S1 z => ?_)
    obtain ⟨z, hE⟩ := z
    have hE5 := hE _ _ h5
    obtain ⟨rfl, rfl⟩ := z
    have hs1 : Sd (sJ S 5000 0 0 (gI S 903 0 x).toInt64) := hs
    refine K (nI 0) _ (Or.inl rfl) hs1 hE5 (Ok.mono (rm_term_y hs1 hx (by omega) s4) fun r2 S2 y => ?_)
    obtain ⟨rfl, rfl⟩ := y
    have hs2 : Sd (sI (sJ S 5000 0 0 (gI S 903 0 x).toInt64) 12 0 0 (nI 0)) := hs
    refine ⟨_, rfl, hs2, Ok.mono (ok_thrown hs2 (v := 0) (by rw [gI_sI, if_pos ⟨rfl, rfl, rfl⟩])) fun r3 S3 y3 => ?_⟩
    obtain ⟨rfl, rfl⟩ := y3
    refine ⟨rfl, fun _ => ?_, ?_, n5⟩
    · rw [gJ_sI, gJ_sJ, if_pos ⟨rfl, rfl, rfl⟩, gI_sJ]
      have q := s5 x hx
      rw [q.2.1]
      exact congrArg Int32.toInt64 q.2.2.2.symm
    · exact fg_bm ((f5.fg hs (U := tTz) (fun a b k z => Or.inr (by simpa using z))).tr (f0.fg hs1 (fun a b k z => Or.inl (by simp only [Bool.and_eq_true, beq_iff_eq] at z; exact ⟨z.1.1, z.1.2, z.2⟩))))
  · refine r_callSW (Mc := mL_term) (q := 470) (As := [zr 11 0, zi a, zr 5000 0]) (st := []) dL_law_467 rfl rfl rfl rfl (by decide) wtc_term wt0 (by decide) rfl rfl wt1166 wt1167 rfl (Nat.le_of_ble_eq_true rfl) (Nat.le_of_ble_eq_true rfl) (Nat.le_of_ble_eq_true rfl) (Nat.le_of_ble_eq_true rfl) (Nat.le_of_ble_eq_true rfl) hL trivial hs.some (Ok.keepE (ok_L_term_n hs s3 ha)) (fun r S1 z => ?_)
    obtain ⟨z, hE⟩ := z
    have hE5 := hE _ _ h5
    obtain ⟨rfl, rfl⟩ := z
    have hs1 : Sd (bmp S) := sd_bmp hs
    refine K (nI 1) _ (Or.inr rfl) hs1 hE5 (Ok.mono (rm_term_n hs1 (e := c.length) s4 (fun z => ?_)) fun r2 S2 y => ?_)
    · rcases le_predI (by omega) z.2 with h | h
      · exact ha ⟨z.1, h⟩
      · rw [h] at z
        exact absurd (Int32.le_trans z.1 z.2) (by decide)
    · obtain ⟨rfl, rfl⟩ := y
      have hs2 : Sd (sI (bmp S) 12 0 0 (nI 1)) := hs1
      refine ⟨_, rfl, hs2, Ok.mono (ok_thrown hs2 (v := 1) (by rw [gI_sI, if_pos ⟨rfl, rfl, rfl⟩])) fun r3 S3 y3 => ?_⟩
      obtain ⟨rfl, rfl⟩ := y3
      exact ⟨rfl, fun z => absurd z (by decide), f0.fg hs1 (fun a b k z => Or.inl (by simp only [Bool.and_eq_true, beq_iff_eq] at z; exact ⟨z.1.1, z.1.2, z.2⟩)), n5⟩
def tUn (cc a b k : Nat) : Prop := tUc cc a b k ∨ tUr a b k = true ∨ a = 5000 ∧ b = 0
theorem tUr_n {a b k : Nat} (h : tUr a b k = true) : 12 ≤ a ∧ (a < 100 ∨ 1300 ≤ a ∧ a < 5000) := by
  simp [tUr, tSr0, tBk, tBy, tSe, tTq, tPt, tPa, tIv, tOw] at h
  omega
theorem und_end {S S1 S2 : zS} {cc : Nat} {W : zWd} (f1 : Fg (tUn cc) (bmp S) S1) (hB : ∃ n mk rl, CB S1 cc W n mk rl) (f2 : Fr tUr S1 S2) (h1 : Cw S2) (h2 : CR S2 W) (h3 : IvI S2) : Fg (tUn cc) (bmp S) S2 ∧ BsC S2 cc W := by
  obtain ⟨n, mk, rl, hB⟩ := hB
  exact ⟨f1.tr (f2.fg f1.sd fun _ _ _ z => Or.inr (Or.inl z)), ⟨n, mk, rl, hB.fg (f2.fg f1.sd (U := fun a _ _ => 12 ≤ a ∧ (a < 100 ∨ 1300 ≤ a ∧ a < 5000)) fun _ _ _ z => tUr_n z) ⟨by omega, fun x k a b => by omega⟩⟩, h2, h1, h3⟩
set_option maxRecDepth 100000 in
theorem pg_undone {S : zS} (hs : Sd S) (h5 : gE S 5000 0 = true) (n5 : gN S 5000 0 = 1) {W : zWd} {cc : Nat} (hcc : gI S 11 0 3 = nI cc) (hc4 : cc < 4) (hw : WR wq S W cc 1306 0 1308 0) (hb : BsC S cc W) (a : Int32) {n : Nat} {f : Nat → Int32} {L : List (Option zV)} {Po : Option zV → zS → Prop} (hL : exl S L) (K : ∀ (v : Int32) (S1 : zS), v = nI 0 ∨ v = nI 1 → Sd S1 → gE S1 5000 0 = true → Ok mX12_undone 0 (ent 2 [zr 12 0, zi a]) [] S1 (fun r2 S2 => ∃ b : Int64, r2 = some (zl b) ∧ Sd S2 ∧ Ok mX12_thrown 0 (ent 1 [zr 12 0]) [] S2 (fun r3 S3 => r3 = some (zi v) ∧ (v = nI 0 → gJ S3 5000 0 0 = b) ∧ (Fg (tUn cc) (bmp S) S3 ∧ BsC S3 cc W) ∧ gN S3 5000 0 = 1)) → Ok (mL_law n f) 813 L [zi v] S1 Po) : Ok (mL_law n f) 810 L [zr 5000 0, zi a, zr 11 0] S Po := by
  obtain ⟨hW, hC, hR⟩ := hw.c
  obtain ⟨hc, hT⟩ := wq_WC hC
  obtain ⟨⟨n0, mk, rl, hB⟩, hcr, hO, hI⟩ := hb
  have fT : ∀ {S1 : zS}, Sd S1 → Fg (tUn cc) S1 (sI S1 12 0 0 (nI 1)) := fun {S1} h => (Fr.rf.i (T := fun x y k => x == 12 && y == 0 && k == 0) rfl).fg h (fun a b k z => Or.inr (Or.inl (by simp only [Bool.and_eq_true, beq_iff_eq] at z; simp [tUr, z])))
  by_cases ha : nI 1 ≤ a ∧ a ≤ nI 7
  · obtain ⟨x, rfl, hn1, hn7⟩ := in17 ha
    by_cases h3 : tc W x ≤ 300
    · refine r_callSW (Mc := mL_undone) (q := 813) (As := [zr 11 0, zi (nI x), zr 5000 0]) (st := []) dL_law_810 rfl rfl rfl rfl (by decide) wtc_undone wt0 (by decide) rfl rfl wt1239 wt1240 rfl (Nat.le_of_ble_eq_true rfl) (Nat.le_of_ble_eq_true rfl) (Nat.le_of_ble_eq_true rfl) (Nat.le_of_ble_eq_true rfl) (Nat.le_of_ble_eq_true rfl) hL trivial hs.some (Ok.keepE (ok_L_undone_y hs hW hcc hc4 hc hT hB hn1 hn7 h3 h5 n5)) (fun r S1 z => ?_)
      obtain ⟨z, hE⟩ := z
      have hE5 := hE _ _ h5
      obtain ⟨rfl, S0, g, rfl, hg, f1, n4, n1, mk1, rl1, hB1⟩ := z
      have f5 : Fr (fun x y _ => x == 5000 && y == 0) S0 (sJ S0 5000 0 0 (g x)) := Fr.rf.j rfl
      have g5 := f5.fg f1.sd (U := fun a b _ => a = 5000 ∧ b = 0) (fun a b k z => by simpa using z)
      have f2 : Fg (tUn cc) S (sJ S0 5000 0 0 (g x)) := (f1.mono fun _ _ _ z => Or.inl z).tr (g5.mono fun _ _ _ z => Or.inr (Or.inr z))
      have hB2 := hB1.fg g5 ⟨by omega, fun x k a b => by omega⟩
      obtain ⟨S1, hS1⟩ : ∃ S1, S1 = sJ S0 5000 0 0 (g x) := ⟨_, rfl⟩
      have hj1 : gJ S1 5000 0 0 = g x := by rw [hS1, gJ_sJ, if_pos ⟨rfl, rfl, rfl⟩]
      have n1' : gN S1 5000 0 = 1 := by rw [hS1]; exact n4
      rw [← hS1] at f2 hB2 hE5 ⊢
      have hs1 := f2.sd
      have rg : RcI S S1 := by
        rw [hS1]
        exact RcI.of (f1.mono (U := fun a b k => tUc cc a b k ∨ a = 5000) (fun _ _ _ z => Or.inl z) |>.tr (g5.mono fun _ _ _ z => Or.inr z.1)) ⟨by unfold tUc tRe; omega, by unfold tUc tRe; omega, fun x k a b => by unfold tUc tRe; omega, fun k _ => by unfold tUc tRe; omega⟩
      have hR1 : wqR W (fun k => gI S1 1306 0 k) (fun i => gJ S 1308 0 i) := wqR.cong hW (fun k hk _ => (rg.2.2.2.2 k (by omega)).symm) (fun _ _ => rfl) hR
      refine K (nI 0) S1 (Or.inl rfl) hs1 hE5 (Ok.mono (rm_und_y hs1 hW hR1 ((rg.rc (W := W)).2.1 hO) (rg.rc.1 hcr) ((rg.rc (W := W)).2.2 hI) hn1 hn7 h3) fun r2 S2 y => ?_)
      obtain ⟨⟨g', rfl, hg'⟩, y1, y2, y3, y4, y5⟩ := y
      refine ⟨_, rfl, hs1.fr y1, Ok.mono (ok_thrown (hs1.fr y1) y5) fun r3 S3 z3 => ?_⟩
      obtain ⟨rfl, rfl⟩ := z3
      exact ⟨rfl, fun _ => ((y1.2.1 5000 0 0 rfl).trans hj1).trans (hg.uniq hg' x hn1 (Nat.le_refl _)), und_end (fg_bm f2) ⟨_, _, _, hB2⟩ y1 y2 y3 y4, (gN_22 y1.2.2).trans n1'⟩
    · refine r_callSW (Mc := mL_undone) (q := 813) (As := [zr 11 0, zi (nI x), zr 5000 0]) (st := []) dL_law_810 rfl rfl rfl rfl (by decide) wtc_undone wt0 (by decide) rfl rfl wt1239 wt1240 rfl (Nat.le_of_ble_eq_true rfl) (Nat.le_of_ble_eq_true rfl) (Nat.le_of_ble_eq_true rfl) (Nat.le_of_ble_eq_true rfl) (Nat.le_of_ble_eq_true rfl) hL trivial hs.some (Ok.keepE (ok_L_undone_n hs hW hcc hc4 hc hT hB hn1 hn7 h3)) (fun r S1 z => ?_)
      obtain ⟨z, hE⟩ := z
      have hE5 := hE _ _ h5
      obtain ⟨rfl, S0, rfl, f1, n1, mk1, rl1, hB1⟩ := z
      have rc := (rc_re f1).rc (W := W)
      have hs1 : Sd (bmp S0) := sd_bmp f1.sd
      refine K (nI 1) _ (Or.inr rfl) hs1 hE5 (Ok.mono (rm_und_n (S := bmp S0) hs1 hW (hR.re hW f1) (rc.2.1 hO) (rc.1 hcr) (rc.2.2 hI) hn1 hn7 h3) fun r2 S2 y => ?_)
      obtain ⟨rfl, y1, y2, y3, y4, y5⟩ := y
      refine ⟨_, rfl, hs1.fr y1, Ok.mono (ok_thrown (hs1.fr y1) y5) fun r3 S3 z3 => ?_⟩
      obtain ⟨rfl, rfl⟩ := z3
      exact ⟨rfl, fun z => absurd z (by decide), und_end ((fg_bmp f1).mono fun _ _ _ z => Or.inl (Or.inl z)) ⟨n1, mk1, rl1, hB1⟩ y1 y2 y3 y4, (gN_22 y1.2.2).trans ((f1.N (by omega) (by unfold tRe; omega)).trans n5)⟩
  · refine r_callSW (Mc := mL_undone) (q := 813) (As := [zr 11 0, zi a, zr 5000 0]) (st := []) dL_law_810 rfl rfl rfl rfl (by decide) wtc_undone wt0 (by decide) rfl rfl wt1239 wt1240 rfl (Nat.le_of_ble_eq_true rfl) (Nat.le_of_ble_eq_true rfl) (Nat.le_of_ble_eq_true rfl) (Nat.le_of_ble_eq_true rfl) (Nat.le_of_ble_eq_true rfl) hL trivial hs.some (Ok.keepE (ok_L_undone_x hs hcc hc4 ha)) (fun r S1 z => ?_)
    obtain ⟨z, hE⟩ := z
    have hE5 := hE _ _ h5
    obtain ⟨rfl, rfl⟩ := z
    have hs1 : Sd (bmp S) := sd_bmp hs
    refine K (nI 1) _ (Or.inr rfl) hs1 hE5 (Ok.mono (rm_und_x hs1 ha) fun r2 S2 y => ?_)
    obtain ⟨rfl, rfl⟩ := y
    have hs2 : Sd (sI (bmp S) 12 0 0 (nI 1)) := hs1
    refine ⟨_, rfl, hs2, Ok.mono (ok_thrown hs2 (v := 1) (by rw [gI_sI, if_pos ⟨rfl, rfl, rfl⟩])) fun r3 S3 y3 => ?_⟩
    obtain ⟨rfl, rfl⟩ := y3
    have rc := (rc_thr1 (S := bmp S)).rc (W := W)
    have y1 : Fr tUr (bmp S) (sI (bmp S) 12 0 0 (nI 1)) := Fr.rf.i (by simp [tUr])
    exact ⟨rfl, fun z => absurd z (by decide), und_end (Fg.rf hs1) ⟨n0, mk, rl, hB⟩ y1 (rc.2.1 hO) (rc.1 hcr) (rc.2.2 hI), n5⟩
