set_option maxRecDepth 100000 in
theorem cm_plug_x {S : zS} (hs : Sd S) {W : zWd} {cc : Nat} (hcc : gI S 11 0 3 = nI cc) (hc4 : cc < 4) (hW : Wok W) (hC : wqC W (fun a k => gI S a cc k) (fun a k => gJ S a cc k)) {h q : Nat} (hP : Pst sq S W h q) (hA : SR sq S W 0 1306 1173) (hT : TLs S) {bs : List Nat} (hTp : TapeR S bs) (y : Int32) {x : zEr} (qa : sumA (wn W) (we W) (wA W) (wP W) (lexA bs 400 0) = Sum.inl x) : Ok mX11_plug 0 (ent 3 [zr 11 0, zi y]) [] S (fun r S1 => r = some (zi (-1 - nI x.2)) ∧ Fg tSu S S1 ∧ gI S1 11 0 1 = nI 0 ∧ Fl S1 x ∧ TL S1 12) := by
  show Ok mX11_plug 0 [some (zr 11 0), some (zi y), none] [] S _
  refine r_aload_n (q := 1) dX11_plug_0 rfl rfl rfl ?_
  refine r_callV (Mc := mX11_readSumHere) (q := 4) (As := []) (st := []) ck11 dX11_plug_1 rfl rfl mkX11_readSumHere wt721 wt723 wp22 rfl (Nat.le_of_ble_eq_true rfl) (Nat.le_of_ble_eq_true rfl) (by decide) (by decide) (by decide) (Or.inr ⟨Nat.le_of_ble_eq_true rfl, rfl, rfl⟩) (hs.e (by decide)) (ok_readSumHere hs hcc hc4 hW hC hTp.1 hTp.2.1 hTp.2.2.2.1 (hT 12 (by omega))) (fun r1 S1 hp1 => ?_)
  rw [qa] at hp1
  obtain ⟨rfl, y1, y2, y3, y4⟩ := hp1
  show Ok _ _ _ [zi (nI 0)] _ _
  refine r_if_neN (q := 7) (t := 17) (by omega) dX11_plug_4 (by decide) rfl (fun h4 => absurd h4 (by omega)) (fun h4 => ?_)
  refine r_iconst (q := 8) ((-1 : Int32)) dX11_plug_7 rfl (by decide) ?_
  refine r_aload_n (q := 9) dX11_plug_8 rfl rfl rfl ?_
  refine r_getr (q := 12) (some (4, 0)) ck11 dX11_plug_9 rfl (k := 14) (by decide) wt436 rfl (y1.sd.e (by decide)) (y1.sd.r (by decide) (by decide)) ?_
  refine r_geti (q := 15) ck4 dX11_plug_12 rfl (k := 15) (by decide) wt139 (Or.inl rfl) (y1.sd.e (by decide)) ?_
  refine r_topi (y := nI x.2) y3.2 ?_
  refine r_isub (q := 16) dX11_plug_15 rfl ?_
  refine r_ireturn dX11_plug_16 rfl ?_
  exact ⟨rfl, y1, y2, y3, y4⟩

set_option maxRecDepth 100000 in
theorem cm_plug_a {S : zS} (hs : Sd S) {W : zWd} {cc : Nat} (hcc : gI S 11 0 3 = nI cc) (hc4 : cc < 4) (hW : Wok W) (hC : wqC W (fun a k => gI S a cc k) (fun a k => gJ S a cc k)) {h q : Nat} (hP : Pst sq S W h q) (hA : SR sq S W 0 1306 1173) (hT : TLs S) {bs : List Nat} (hTp : TapeR S bs) {lv : Nat} {o : List zT} (hSo : Sm W lv o) (a1 : gI S 8 0 0 = nI lv) (a2 : gI S 8 0 1 = nI o.length) {y : Int32} (ha : ¬ (0 ≤ y ∧ y < nI lv)) {m : Nat} {acc : List zT} (qa : sumA (wn W) (we W) (wA W) (wP W) (lexA bs 400 0) = Sum.inr (m, acc)) : Ok mX11_plug 0 (ent 3 [zr 11 0, zi y]) [] S (fun r S1 => r = some (zi (-1000)) ∧ Fg tSu S S1 ∧ gI S1 11 0 1 = nI 0 ∧ gI S1 4 0 14 = nI 0 ∧ TL S1 12 ∧ Sm W m (cl (adds (wP W) 1 [] acc))) := by
  show Ok mX11_plug 0 [some (zr 11 0), some (zi y), none] [] S _
  refine r_aload_n (q := 1) dX11_plug_0 rfl rfl rfl ?_
  refine r_callV (Mc := mX11_readSumHere) (q := 4) (As := []) (st := []) ck11 dX11_plug_1 rfl rfl mkX11_readSumHere wt721 wt723 wp22 rfl (Nat.le_of_ble_eq_true rfl) (Nat.le_of_ble_eq_true rfl) (by decide) (by decide) (by decide) (Or.inr ⟨Nat.le_of_ble_eq_true rfl, rfl, rfl⟩) (hs.e (by decide)) (ok_readSumHere hs hcc hc4 hW hC hTp.1 hTp.2.1 hTp.2.2.2.1 (hT 12 (by omega))) (fun r1 S1 hp1 => ?_)
  rw [qa] at hp1
  obtain ⟨rfl, y1, y2, y3, y4⟩ := hp1
  show Ok _ _ _ [zi (nI 1)] _ _
  refine r_if_neN (q := 7) (t := 17) (by omega) dX11_plug_4 (by decide) rfl (fun h4 => ?_) (fun h4 => absurd h4 (by omega))
  have hSm : Sm W m (cl (adds (wP W) 1 [] acc)) := sm_read hW (lex_tks hTp.2.2.2.1.2 hTp.1) (lex_lk _ _) (lex_len (by omega)) qa y4.2.2
  have b1 := (y1.I (by omega) (tSu_n (x := 8) (y := 0) (k := 0) (by omega))).trans a1
  have b2 := (y1.I (by omega) (tSu_n (x := 8) (y := 0) (k := 1) (by omega))).trans a2
  have lo := hSo.len
  have ll := hSm.len
  obtain ⟨n1, n7, _⟩ := id hSo
  obtain ⟨m1, m7, _⟩ := id hSm
  have hml : o.length * (cl (adds (wP W) 1 [] acc)).length ≤ 1200 * 1200 := Nat.mul_le_mul lo ll
  refine r_iload_n (q := 18) dX11_plug_17 rfl rfl rfl ?_
  refine r_if_lt (q := 21) (t := 32) dX11_plug_18 (by decide) rfl (fun h18 => ?_) (fun h18 => ?_)
  · skip
    refine r_sipush (q := 35) ((-1000 : Int32)) dX11_plug_32 rfl (by decide) ?_
    refine r_ireturn dX11_plug_35 rfl ?_
    exact ⟨rfl, y1, y2, y3, y4.2.1.tl, hSm⟩
  · skip
    refine r_iload_n (q := 22) dX11_plug_21 rfl rfl rfl ?_
    refine r_aload_n (q := 23) dX11_plug_22 rfl rfl rfl ?_
    refine r_getr (q := 26) (some (8, 0)) ck11 dX11_plug_23 rfl (k := 7) (by decide) wt429 rfl (y1.sd.e (by decide)) (y1.sd.r (by decide) (by decide)) ?_
    refine r_geti (q := 29) ck8 dX11_plug_26 rfl (k := 0) (by decide) wt60 (Or.inl rfl) (y1.sd.e (by decide)) ?_
    refine r_topi (y := nI lv) b1 ?_
    refine r_icmp_lt (q := 32) (t := 36) dX11_plug_29 (by decide) rfl (fun h29 => absurd h29 (fun z => ha ⟨Int32.not_lt.mp h18, z⟩)) (fun h29 => ?_)
    refine r_sipush (q := 35) ((-1000 : Int32)) dX11_plug_32 rfl (by decide) ?_
    refine r_ireturn dX11_plug_35 rfl ?_
    exact ⟨rfl, y1, y2, y3, y4.2.1.tl, hSm⟩

set_option maxRecDepth 100000 in
theorem cm_plug_b {S : zS} (hs : Sd S) {W : zWd} {cc : Nat} (hcc : gI S 11 0 3 = nI cc) (hc4 : cc < 4) (hW : Wok W) (hC : wqC W (fun a k => gI S a cc k) (fun a k => gJ S a cc k)) {h q : Nat} (hP : Pst sq S W h q) (hA : SR sq S W 0 1306 1173) (hT : TLs S) {bs : List Nat} (hTp : TapeR S bs) {lv : Nat} {o : List zT} (hSo : Sm W lv o) (a1 : gI S 8 0 0 = nI lv) (a2 : gI S 8 0 1 = nI o.length) {i : Nat} (hi : i < lv) {m : Nat} {acc : List zT} (qa : sumA (wn W) (we W) (wA W) (wP W) (lexA bs 400 0) = Sum.inr (m, acc)) (hbig : 7 < lv + m - 1 ∨ 1000 < o.length * (cl (adds (wP W) 1 [] acc)).length) : Ok mX11_plug 0 (ent 3 [zr 11 0, zi (nI i)]) [] S (fun r S1 => r = some (zi (-1001)) ∧ Fg tSu S S1 ∧ gI S1 11 0 1 = nI 0 ∧ gI S1 4 0 14 = nI 0 ∧ TL S1 12 ∧ Sm W m (cl (adds (wP W) 1 [] acc))) := by
  have n7 := hSo.2.1
  show Ok mX11_plug 0 [some (zr 11 0), some (zi (nI i)), none] [] S _
  refine r_aload_n (q := 1) dX11_plug_0 rfl rfl rfl ?_
  refine r_callV (Mc := mX11_readSumHere) (q := 4) (As := []) (st := []) ck11 dX11_plug_1 rfl rfl mkX11_readSumHere wt721 wt723 wp22 rfl (Nat.le_of_ble_eq_true rfl) (Nat.le_of_ble_eq_true rfl) (by decide) (by decide) (by decide) (Or.inr ⟨Nat.le_of_ble_eq_true rfl, rfl, rfl⟩) (hs.e (by decide)) (ok_readSumHere hs hcc hc4 hW hC hTp.1 hTp.2.1 hTp.2.2.2.1 (hT 12 (by omega))) (fun r1 S1 hp1 => ?_)
  rw [qa] at hp1
  obtain ⟨rfl, y1, y2, y3, y4⟩ := hp1
  show Ok _ _ _ [zi (nI 1)] _ _
  refine r_if_neN (q := 7) (t := 17) (by omega) dX11_plug_4 (by decide) rfl (fun h4 => ?_) (fun h4 => absurd h4 (by omega))
  have hSm : Sm W m (cl (adds (wP W) 1 [] acc)) := sm_read hW (lex_tks hTp.2.2.2.1.2 hTp.1) (lex_lk _ _) (lex_len (by omega)) qa y4.2.2
  have b1 := (y1.I (by omega) (tSu_n (x := 8) (y := 0) (k := 0) (by omega))).trans a1
  have b2 := (y1.I (by omega) (tSu_n (x := 8) (y := 0) (k := 1) (by omega))).trans a2
  have lo := hSo.len
  have ll := hSm.len
  obtain ⟨n1, n7, _⟩ := id hSo
  obtain ⟨m1, m7, _⟩ := id hSm
  have hml : o.length * (cl (adds (wP W) 1 [] acc)).length ≤ 1200 * 1200 := Nat.mul_le_mul lo ll
  refine r_iload_n (q := 18) dX11_plug_17 rfl rfl rfl ?_
  refine r_if_ltN (q := 21) (t := 32) (by omega) dX11_plug_18 (by decide) rfl ?_
  refine r_iload_n (q := 22) dX11_plug_21 rfl rfl rfl ?_
  refine r_aload_n (q := 23) dX11_plug_22 rfl rfl rfl ?_
  refine r_getr (q := 26) (some (8, 0)) ck11 dX11_plug_23 rfl (k := 7) (by decide) wt429 rfl (y1.sd.e (by decide)) (y1.sd.r (by decide) (by decide)) ?_
  refine r_geti (q := 29) ck8 dX11_plug_26 rfl (k := 0) (by decide) wt60 (Or.inl rfl) (y1.sd.e (by decide)) ?_
  refine r_topi (y := nI lv) b1 ?_
  refine r_icmp_ltN (q := 32) (t := 36) (by omega) (by omega) dX11_plug_29 (by decide) rfl (fun h29 => ?_) (fun h29 => absurd h29 (by omega))
  refine r_aload_n (q := 37) dX11_plug_36 rfl rfl rfl ?_
  refine r_getr (q := 40) (some (4, 0)) ck11 dX11_plug_37 rfl (k := 14) (by decide) wt436 rfl (y1.sd.e (by decide)) (y1.sd.r (by decide) (by decide)) ?_
  refine r_getr (q := 43) (some (8, 12)) ck4 dX11_plug_40 rfl (k := 13) (by decide) wt135 rfl (y1.sd.e (by decide)) (y1.sd.r (by decide) (by decide)) ?_
  refine r_astore_n (q := 44) (L' := [some (zr 11 0), some (zi (nI i)), some (zr 8 12)]) dX11_plug_43 rfl rfl (by decide) rfl ?_
  refine r_aload_n (q := 45) dX11_plug_44 rfl rfl rfl ?_
  refine r_getr (q := 48) (some (8, 0)) ck11 dX11_plug_45 rfl (k := 7) (by decide) wt429 rfl (y1.sd.e (by decide)) (y1.sd.r (by decide) (by decide)) ?_
  refine r_geti (q := 51) ck8 dX11_plug_48 rfl (k := 0) (by decide) wt60 (Or.inl rfl) (y1.sd.e (by decide)) ?_
  refine r_topi (y := nI lv) b1 ?_
  refine r_aload_n (q := 52) dX11_plug_51 rfl rfl rfl ?_
  refine r_geti (q := 55) ck8 dX11_plug_52 rfl (k := 0) (by decide) wt60 (Or.inl rfl) (y1.sd.e (by decide)) ?_
  refine r_topi (y := nI m) y4.1 ?_
  refine r_iaddN (q := 56) dX11_plug_55 rfl ?_
  refine r_iconst (q := 57) (nI 1) dX11_plug_56 rfl (by decide) ?_
  refine r_isubN (q := 58) (by omega) dX11_plug_57 rfl ?_
  refine r_bipush (q := 60) (nI 7) dX11_plug_58 rfl (by decide) ?_
  refine r_icmp_gtN (q := 63) (t := 81) (by omega) (by omega) dX11_plug_60 (by decide) rfl (fun h60 => ?_) (fun h60 => ?_)
  · skip
    refine r_sipush (q := 84) ((-1001 : Int32)) dX11_plug_81 rfl (by decide) ?_
    refine r_ireturn dX11_plug_84 rfl ?_
    exact ⟨rfl, y1, y2, y3, y4.2.1.tl, hSm⟩
  · skip
    refine r_aload_n (q := 64) dX11_plug_63 rfl rfl rfl ?_
    refine r_getr (q := 67) (some (8, 0)) ck11 dX11_plug_64 rfl (k := 7) (by decide) wt429 rfl (y1.sd.e (by decide)) (y1.sd.r (by decide) (by decide)) ?_
    refine r_geti (q := 70) ck8 dX11_plug_67 rfl (k := 1) (by decide) wt67 (Or.inl rfl) (y1.sd.e (by decide)) ?_
    refine r_topi (y := nI o.length) b2 ?_
    refine r_aload_n (q := 71) dX11_plug_70 rfl rfl rfl ?_
    refine r_geti (q := 74) ck8 dX11_plug_71 rfl (k := 1) (by decide) wt67 (Or.inl rfl) (y1.sd.e (by decide)) ?_
    refine r_topi (y := nI ((cl (adds (wP W) 1 [] acc)).length)) y4.2.1.1 ?_
    refine r_imulN (q := 75) dX11_plug_74 rfl ?_
    refine r_sipush (q := 78) (nI 1000) dX11_plug_75 rfl (by decide) ?_
    refine r_icmp_leN (q := 81) (t := 85) (by omega) (by omega) dX11_plug_78 (by decide) rfl (fun h78 => absurd h78 (by omega)) (fun h78 => ?_)
    refine r_sipush (q := 84) ((-1001 : Int32)) dX11_plug_81 rfl (by decide) ?_
    refine r_ireturn dX11_plug_84 rfl ?_
    exact ⟨rfl, y1, y2, y3, y4.2.1.tl, hSm⟩

def tOp (a b k : Nat) : Prop := tOwn a b k ∨ tPr a b k
theorem tOp_4 {x y k : Nat} (hx : x = 4 ∨ x = 11 ∨ x = 8 ∨ x = 902 ∨ x = 903 ∨ x = 1306 ∨ x = 1357 ∨ x = 9 ∨ x = 1003) : ¬ tOp x y k := fun z => z.elim (tOwn_4 hx) (fun z => by
  unfold tPr at z
  rcases hx with rfl | rfl | rfl | rfl | rfl | rfl | rfl | rfl | rfl <;> simp [tPl, tAT, tPa] at z)
theorem tOp_58 : ¬ tOp 12 0 58 := fun z => z.elim tOwn_58 (fun z => by unfold tPr at z; simp [tPl, tAT, tPa] at z)
theorem tJm_n {b x y k : Nat} (hx : x = 8 ∧ y ≠ 11 ∨ x = 902 ∧ y ≠ 11 ∨ x = 903 ∧ y ≠ 11 ∨ x = 11 ∨ x = 12 ∨ 1300 ≤ x ∧ x < 1400 ∨ x = 9 ∨ x = 1003 ∨ x = 1002 ∨ x = 4) : ¬ tJm b 11 x y k := by
  unfold tJm tJn tTy
  simp [tSh]
  omega
theorem sm_plug {W : zWd} (hW : Wok W) {n m i : Nat} {o l : List zT} (hi : i < n) (hn : n + m - 1 ≤ 7) (ho : Sm W n o) (hl : Sm W m l) (h : o.length * l.length ≤ 1000) : Uok W (n + m - 1) (lawU W ++ (prds i o l).map Prod.fst) ∧ (∀ p, p ∈ prds i o l → p.1 ∈ lawU W ++ (prds i o l).map Prod.fst) ∧ Sm W (n + m - 1) (cl (adds (wP W) 1 [] (prds i o l))) := by
  have u := uok_mk hW (n + m - 1) ((prds i o l).map Prod.fst) (by rw [List.length_map, prds_len]; exact h)
  have g : ∀ p, p ∈ prds i o l → p.1 ∈ lawU W ++ (prds i o l).map Prod.fst := fun p hp => List.mem_append.mpr (Or.inr (List.mem_map.mpr ⟨p, hp, rfl⟩))
  exact ⟨u, g, sm_puts hW (by have := ho.1; have := hl.1; omega) hn u ce_nil.1 (fun p hp => absurd hp List.not_mem_nil) (prds_tr hi (fun q hq => (ho.2.2.1.1.2 q hq).1) (fun q hq => (hl.2.2.1.1.2 q hq).1)) g⟩

set_option maxRecDepth 100000 in
theorem cm_plug_r {S : zS} (hs : Sd S) {W : zWd} {cc : Nat} (hcc : gI S 11 0 3 = nI cc) (hc4 : cc < 4) (hW : Wok W) (hC : wqC W (fun a k => gI S a cc k) (fun a k => gJ S a cc k)) {h q : Nat} (hP : Pst sq S W h q) (hA : SR sq S W 0 1306 1173) (hT : TLs S) {bs : List Nat} (hTp : TapeR S bs) {lv : Nat} {o : List zT} (hSo : Sm W lv o) (a1 : gI S 8 0 0 = nI lv) (a2 : gI S 8 0 1 = nI o.length) (a3 : ∀ k, k < o.length → gI S 902 0 k = nI (ky (o.getD k zd).1) ∧ gI S 903 0 k = nI (o.getD k zd).2) {i : Nat} (hi : i < lv) {m : Nat} {acc : List zT} (qa : sumA (wn W) (we W) (wA W) (wP W) (lexA bs 400 0) = Sum.inr (m, acc)) (hn : lv + m - 1 ≤ 7) (hsm : o.length * (cl (adds (wP W) 1 [] acc)).length ≤ 1000) : Ok mX11_plug 0 (ent 3 [zr 11 0, zi (nI i)]) [] S (fun r S3 => r = some (zi (nI (cl (adds (wP W) 1 [] (prds i o (cl (adds (wP W) 1 [] acc))))).length)) ∧ Fg (fun a b k => (tJm 4 11 a b k ∨ tSu a b k) ∨ tKp a b k) S S3 ∧ gI S3 11 0 1 = nI 0 ∧ gI S3 4 0 14 = nI 0 ∧ Sm W m (cl (adds (wP W) 1 [] acc)) ∧ ∀ T, Fg tOp S3 T → Rz T (cl (adds (wP W) 1 [] (prds i o (cl (adds (wP W) 1 [] acc))))) → gI T 12 0 48 = nI (lv + m - 1) → Ok mX12_keepSum 0 (ent 2 [zr 12 0]) [] T (fun r S4 => r = some (zi (nI (cl (adds (wP W) 1 [] (prds i o (cl (adds (wP W) 1 [] acc))))).length)) ∧ Fg tKs T S4 ∧ SR sq S4 W 0 1306 1173 ∧ Pst sq S4 W (min 8 (h + 1)) ((q + 1) % 8) ∧ TLs S4)) := by
  have n7 := hSo.2.1
  show Ok mX11_plug 0 [some (zr 11 0), some (zi (nI i)), none] [] S _
  refine r_aload_n (q := 1) dX11_plug_0 rfl rfl rfl ?_
  refine r_callV (Mc := mX11_readSumHere) (q := 4) (As := []) (st := []) ck11 dX11_plug_1 rfl rfl mkX11_readSumHere wt721 wt723 wp22 rfl (Nat.le_of_ble_eq_true rfl) (Nat.le_of_ble_eq_true rfl) (by decide) (by decide) (by decide) (Or.inr ⟨Nat.le_of_ble_eq_true rfl, rfl, rfl⟩) (hs.e (by decide)) (ok_readSumHere hs hcc hc4 hW hC hTp.1 hTp.2.1 hTp.2.2.2.1 (hT 12 (by omega))) (fun r1 S1 hp1 => ?_)
  rw [qa] at hp1
  obtain ⟨rfl, y1, y2, y3, y4⟩ := hp1
  show Ok _ _ _ [zi (nI 1)] _ _
  refine r_if_neN (q := 7) (t := 17) (by omega) dX11_plug_4 (by decide) rfl (fun h4 => ?_) (fun h4 => absurd h4 (by omega))
  have hSm : Sm W m (cl (adds (wP W) 1 [] acc)) := sm_read hW (lex_tks hTp.2.2.2.1.2 hTp.1) (lex_lk _ _) (lex_len (by omega)) qa y4.2.2
  have b1 := (y1.I (by omega) (tSu_n (x := 8) (y := 0) (k := 0) (by omega))).trans a1
  have b2 := (y1.I (by omega) (tSu_n (x := 8) (y := 0) (k := 1) (by omega))).trans a2
  have lo := hSo.len
  have ll := hSm.len
  obtain ⟨n1, n7, _⟩ := id hSo
  obtain ⟨m1, m7, _⟩ := id hSm
  have hml : o.length * (cl (adds (wP W) 1 [] acc)).length ≤ 1200 * 1200 := Nat.mul_le_mul lo ll
  have hTL1 : TLs S1 := tls_12 hT y1 y4.2.1.tl
  have hU := sm_plug (i := i) hW hi hn hSo hSm hsm
  obtain ⟨w, e0, w1, w2, w3, w4, w5, w6⟩ := hTL1 0 (by omega)
  have w5' : e0 = o.length := by have := w5.symm.trans b2; have := congrArg Int32.toInt this; rw [nI_toInt (by omega), nI_toInt (by omega)] at this; omega
  have hJ : Jn S1 0 12 lv m o (cl (adds (wP W) 1 [] acc)) := ⟨b1, y4.1, ⟨b2, fun k hk => ⟨(y1.I (by omega) (tSu_n (by omega))).trans (a3 k hk).1, (y1.I (by omega) (tSu_n (by omega))).trans (a3 k hk).2⟩, w, w1, w2, w3, w4, by omega⟩, y4.2.1⟩
  obtain ⟨u, e11, u1, u2, u3, u4, u5, u6⟩ := hTL1 11 (by omega)
  refine r_iload_n (q := 18) dX11_plug_17 rfl rfl rfl ?_
  refine r_if_ltN (q := 21) (t := 32) (by omega) dX11_plug_18 (by decide) rfl ?_
  refine r_iload_n (q := 22) dX11_plug_21 rfl rfl rfl ?_
  refine r_aload_n (q := 23) dX11_plug_22 rfl rfl rfl ?_
  refine r_getr (q := 26) (some (8, 0)) ck11 dX11_plug_23 rfl (k := 7) (by decide) wt429 rfl (y1.sd.e (by decide)) (y1.sd.r (by decide) (by decide)) ?_
  refine r_geti (q := 29) ck8 dX11_plug_26 rfl (k := 0) (by decide) wt60 (Or.inl rfl) (y1.sd.e (by decide)) ?_
  refine r_topi (y := nI lv) b1 ?_
  refine r_icmp_ltN (q := 32) (t := 36) (by omega) (by omega) dX11_plug_29 (by decide) rfl (fun h29 => ?_) (fun h29 => absurd h29 (by omega))
  refine r_aload_n (q := 37) dX11_plug_36 rfl rfl rfl ?_
  refine r_getr (q := 40) (some (4, 0)) ck11 dX11_plug_37 rfl (k := 14) (by decide) wt436 rfl (y1.sd.e (by decide)) (y1.sd.r (by decide) (by decide)) ?_
  refine r_getr (q := 43) (some (8, 12)) ck4 dX11_plug_40 rfl (k := 13) (by decide) wt135 rfl (y1.sd.e (by decide)) (y1.sd.r (by decide) (by decide)) ?_
  refine r_astore_n (q := 44) (L' := [some (zr 11 0), some (zi (nI i)), some (zr 8 12)]) dX11_plug_43 rfl rfl (by decide) rfl ?_
  refine r_aload_n (q := 45) dX11_plug_44 rfl rfl rfl ?_
  refine r_getr (q := 48) (some (8, 0)) ck11 dX11_plug_45 rfl (k := 7) (by decide) wt429 rfl (y1.sd.e (by decide)) (y1.sd.r (by decide) (by decide)) ?_
  refine r_geti (q := 51) ck8 dX11_plug_48 rfl (k := 0) (by decide) wt60 (Or.inl rfl) (y1.sd.e (by decide)) ?_
  refine r_topi (y := nI lv) b1 ?_
  refine r_aload_n (q := 52) dX11_plug_51 rfl rfl rfl ?_
  refine r_geti (q := 55) ck8 dX11_plug_52 rfl (k := 0) (by decide) wt60 (Or.inl rfl) (y1.sd.e (by decide)) ?_
  refine r_topi (y := nI m) y4.1 ?_
  refine r_iaddN (q := 56) dX11_plug_55 rfl ?_
  refine r_iconst (q := 57) (nI 1) dX11_plug_56 rfl (by decide) ?_
  refine r_isubN (q := 58) (by omega) dX11_plug_57 rfl ?_
  refine r_bipush (q := 60) (nI 7) dX11_plug_58 rfl (by decide) ?_
  refine r_icmp_gtN (q := 63) (t := 81) (by omega) (by omega) dX11_plug_60 (by decide) rfl (fun h60 => absurd h60 (by omega)) (fun h60 => ?_)
  refine r_aload_n (q := 64) dX11_plug_63 rfl rfl rfl ?_
  refine r_getr (q := 67) (some (8, 0)) ck11 dX11_plug_64 rfl (k := 7) (by decide) wt429 rfl (y1.sd.e (by decide)) (y1.sd.r (by decide) (by decide)) ?_
  refine r_geti (q := 70) ck8 dX11_plug_67 rfl (k := 1) (by decide) wt67 (Or.inl rfl) (y1.sd.e (by decide)) ?_
  refine r_topi (y := nI o.length) b2 ?_
  refine r_aload_n (q := 71) dX11_plug_70 rfl rfl rfl ?_
  refine r_geti (q := 74) ck8 dX11_plug_71 rfl (k := 1) (by decide) wt67 (Or.inl rfl) (y1.sd.e (by decide)) ?_
  refine r_topi (y := nI ((cl (adds (wP W) 1 [] acc)).length)) y4.2.1.1 ?_
  refine r_imulN (q := 75) dX11_plug_74 rfl ?_
  refine r_sipush (q := 78) (nI 1000) dX11_plug_75 rfl (by decide) ?_
  refine r_icmp_leN (q := 81) (t := 85) (by omega) (by omega) dX11_plug_78 (by decide) rfl (fun h78 => ?_) (fun h78 => absurd h78 (by omega))
  refine r_aload_n (q := 86) dX11_plug_85 rfl rfl rfl ?_
  refine r_getr (q := 89) (some (6, 4)) ck11 dX11_plug_86 rfl (k := 13) (by decide) wt435 rfl (y1.sd.e (by decide)) (y1.sd.r (by decide) (by decide)) ?_
  refine r_aload_n (q := 90) dX11_plug_89 rfl rfl rfl ?_
  refine r_getr (q := 93) (some (8, 0)) ck11 dX11_plug_90 rfl (k := 7) (by decide) wt429 rfl (y1.sd.e (by decide)) (y1.sd.r (by decide) (by decide)) ?_
  refine r_iload_n (q := 94) dX11_plug_93 rfl rfl rfl ?_
  refine r_aload_n (q := 95) dX11_plug_94 rfl rfl rfl ?_
  refine r_aload_n (q := 96) dX11_plug_95 rfl rfl rfl ?_
  refine r_getr (q := 99) (some (8, 11)) ck11 dX11_plug_96 rfl (k := 12) (by decide) wt434 rfl (y1.sd.e (by decide)) (y1.sd.r (by decide) (by decide)) ?_
  refine r_aload_n (q := 100) dX11_plug_99 rfl rfl rfl ?_
  refine r_callV (Mc := mX11_worldHere) (q := 103) (As := []) (st := [zr 8 11, zr 8 12, zi (nI i), zr 8 0, zr 6 4]) ck11 dX11_plug_100 rfl rfl mkX11_worldHere wt678 wt680 wp20 rfl (Nat.le_of_ble_eq_true rfl) (Nat.le_of_ble_eq_true rfl) (by decide) (by decide) (by decide) (Or.inl rfl) (y1.sd.e (by decide)) (ok_X11_worldHere y1.sd ((y1.I (by omega) (tSu_n (x := 11) (k := 3) (by omega))).trans hcc) hc4) (fun r100 S100 hp100 => ?_)
  obtain ⟨rfl, hq100⟩ := hp100
  rw [hq100]
  show Ok _ _ _ [zr 9 cc, zr 8 11, zr 8 12, zi (nI i), zr 8 0, zr 6 4] _ _
  refine r_geti (q := 106) ck9 dX11_plug_103 rfl (k := 0) (by decide) wt295 (Or.inl rfl) (y1.sd.e (show cc < 4 by omega)) ?_
  refine r_topi (y := nI (wP W)) ((y1.I (by omega) (tSu_n (x := 9) (by omega))).trans hC.1) ?_
  refine r_callV (Mc := mX6_join) (q := 109) (As := [zr 8 0, zi (nI i), zr 8 12, zr 8 11, zi (nI (wP W))]) (st := []) ck6 dX11_plug_106 rfl rfl mkX6_join wt944 wt945 wt946 rfl (Nat.le_of_ble_eq_true rfl) (Nat.le_of_ble_eq_true rfl) (by decide) (by decide) (by decide) (Or.inr ⟨Nat.le_of_ble_eq_true rfl, rfl, rfl⟩) (y1.sd.e (by decide)) (ok_join y1.sd hW.2.1 n1 m1 hn hi hW.1.1 hW.1.2.1 (show 4 < 5 by omega) (show 0 < 19 by omega) (show 12 < 19 by omega) (show 11 < 19 by omega) (show 0 ≠ 11 by omega) (show 12 ≠ 11 by omega) hSo.2.2.1.1.2 hSm.2.2.1.1.2 hU.1.1 hU.2.1 hJ u1 u2 u3 u4) (fun r106 S106 hp106 => ?_)
  obtain ⟨rfl, g1, g2, g3⟩ := hp106
  have fk : Fg (fun a b k => tJm 4 11 a b k ∨ tSu a b k) S S106 := (y1.mono fun _ _ _ z => Or.inr z).tr (g1.mono fun _ _ _ z => Or.inl z)
  have hTL2 : TLs S106 := hTL1.fg g1 (fun j hj => by
      by_cases e : j = 11
      · subst e; exact Or.inr g3.tl
      · exact Or.inl fun k => ⟨tJm_n (by omega), tJm_n (by omega), tJm_n (by omega)⟩)
  show Ok _ _ _ [] _ _
  refine r_aload_n (q := 110) dX11_plug_109 rfl rfl rfl ?_
  refine r_callV (Mc := mX11_keepMade) (q := 113) (As := []) (st := []) ck11 dX11_plug_110 rfl rfl mkX11_keepMade wt703 wt705 wp21 rfl (Nat.le_of_ble_eq_true rfl) (Nat.le_of_ble_eq_true rfl) (by decide) (by decide) (by decide) (Or.inr ⟨Nat.le_of_ble_eq_true rfl, rfl, rfl⟩) (g1.sd.e (by decide)) (keep3 (T1 := tOp) hP hA fk (fun j k h1 h2 => ⟨fun hk => fun z => z.elim (tJm_n (by omega)) (tSu_n (by omega)), fun z => z.elim (tJm_n (by omega)) (tSu_n (by omega)), fun z => z.elim (tJm_n (by omega)) (tSu_n (by omega))⟩) ⟨fun z => z.elim (tJm_n (by omega)) (tSu_n (by omega)), fun z => z.elim (tJm_n (by omega)) (tSu_n (by omega)), fun z => z.elim (tJm_n (by omega)) (tSu_n (by omega))⟩ (fun k => ⟨fun hk => fun z => z.elim (tJm_n (by omega)) (tSu_n (by omega)), fun z => z.elim (tJm_n (by omega)) (tSu_n (by omega))⟩) hTL2 (fun x y k hx => tOp_4 (by omega)) tOp_58 g3 g2 hU.2.2) (fun r110 S110 hp110 => ?_)
  obtain ⟨rfl, k32, kk32⟩ := hp110
  show Ok _ _ _ [zi (nI ((cl (adds (wP W) 1 [] (prds i o (cl (adds (wP W) 1 [] acc))))).length))] _ _
  refine r_ireturn dX11_plug_113 rfl ?_
  exact ⟨rfl, (fk.mono fun _ _ _ z => Or.inl z).tr (k32.mono fun _ _ _ z => Or.inr z), (k32.I (by omega) (by unfold tKp; omega)).trans ((g1.I (by omega) (tJm_n (by omega))).trans y2), (k32.I (by omega) (by unfold tKp; omega)).trans ((g1.I (by omega) (tJm_n (by omega))).trans y3), hSm, kk32⟩

