set_option maxRecDepth 100000 in
theorem rm_plug_x {S : zS} (hs : Sd S) {W : zWd} (hO : Cw S) (hW : Wok W) (hR : wqR W (fun k => gI S 1306 0 k) (fun i => gJ S 1308 0 i)) {bs : List Nat} (hbl : bs.length ≤ 940) (h2 : gI S 12 0 2 = nI bs.length) (hb : Bs S 1301 bs) (y : Int32) {x : zEr} (qa : sumA (wn W) (we W) (wA W) (wP W) (lexA bs 400 0) = Sum.inl x) : Ok mX12_plug 0 (ent 5 [zr 12 0, zi y]) [] S (fun r S1 => r = some (zi (-1 - nI x.2)) ∧ Fg tOwn S S1 ∧ Fq S1 x ∧ gI S1 12 0 2 = nI 0 ∧ OwS S S1) := by
  show Ok mX12_plug 0 [some (zr 12 0), some (zi y), none, none, none] [] S _
  refine r_aload_n (q := 1) dX12_plug_0 rfl rfl rfl ?_
  refine r_iconst (q := 2) (nI 0) dX12_plug_1 rfl (by decide) ?_
  refine r_puti (q := 5) ck12 dX12_plug_2 rfl (k := 0) (by decide) wt1278 (Or.inl rfl) rfl (hs.e (by decide)) ?_
  refine r_aload_n (q := 6) dX12_plug_5 rfl rfl rfl ?_
  refine r_callV (Mc := mX12_readOwn) (q := 9) (As := []) (st := []) ck12 dX12_plug_6 rfl rfl mkX12_readOwn wt1722 wt1724 wp96 rfl (Nat.le_of_ble_eq_true rfl) (Nat.le_of_ble_eq_true rfl) (by decide) (by decide) (by decide) (Or.inl rfl) (hs.e (by decide)) (ok_readOwn (S := sI S 12 0 0 (nI 0)) hs (fun z k hk h3 => hO z k hk h3) hW hR hbl h2 hb) (fun r6 S6 hp6 => ?_)
  rw [qa] at hp6
  obtain ⟨rfl, y1, y2, y3, y4⟩ := hp6
  have gF : Fg tOwn S S6 := (Fg.of22 (S1 := sI S 12 0 0 (nI 0)) hs rfl (fun a b k _ hz => by rw [gI_sI, if_neg (fun z => hz (Or.inl (by unfold tRef; omega)))]) (fun _ _ _ _ _ => rfl)).tr y1
  have gO : OwS S S6 := y4.imp (fun z => ⟨z.1, z.2.1, fun k hk => z.2.2.1 k hk, z.2.2.2⟩) (fun z => ⟨z.1, z.2.1, z.2.2.1, fun k hk => z.2.2.2 k hk⟩)
  show Ok _ _ _ [zi (nI 0)] _ _
  refine r_if_neN (q := 12) (t := 19) (by omega) dX12_plug_9 (by decide) rfl (fun h9 => absurd h9 (by omega)) (fun h9 => ?_)
  refine r_iconst (q := 13) ((-1 : Int32)) dX12_plug_12 rfl (by decide) ?_
  refine r_aload_n (q := 14) dX12_plug_13 rfl rfl rfl ?_
  refine r_geti (q := 17) ck12 dX12_plug_14 rfl (k := 14) (by decide) wt1292 (Or.inl rfl) (y1.sd.e (by decide)) ?_
  refine r_topi (y := nI x.2) y2.2 ?_
  refine r_isub (q := 18) dX12_plug_17 rfl ?_
  refine r_ireturn dX12_plug_18 rfl ?_
  exact ⟨rfl, gF, y2, y3, gO⟩

set_option maxRecDepth 100000 in
theorem rm_plug_a {S : zS} (hs : Sd S) {W : zWd} (hO : Cw S) (hW : Wok W) (hR : wqR W (fun k => gI S 1306 0 k) (fun i => gJ S 1308 0 i)) {bs : List Nat} (hbl : bs.length ≤ 940) (h2 : gI S 12 0 2 = nI bs.length) (hb : Bs S 1301 bs) {lv : Nat} {o : List zT} (hSo : Sm W lv o) (a1 : gI S 1306 0 1173 = nI lv) (a2 : gI S 1306 0 1174 = nI o.length) {y : Int32} (ha : ¬ (0 ≤ y ∧ y < nI lv)) {m : Nat} {acc : List zT} (qa : sumA (wn W) (we W) (wA W) (wP W) (lexA bs 400 0) = Sum.inr (m, acc)) (hSm : Sm W m (cl (adds (wP W) 1 [] acc))) : Ok mX12_plug 0 (ent 5 [zr 12 0, zi y]) [] S (fun r S1 => r = some (zi (-1000)) ∧ Fg tOwn S S1 ∧ gI S1 12 0 13 = nI 0 ∧ gI S1 12 0 2 = nI 0 ∧ OwS S S1) := by
  show Ok mX12_plug 0 [some (zr 12 0), some (zi y), none, none, none] [] S _
  refine r_aload_n (q := 1) dX12_plug_0 rfl rfl rfl ?_
  refine r_iconst (q := 2) (nI 0) dX12_plug_1 rfl (by decide) ?_
  refine r_puti (q := 5) ck12 dX12_plug_2 rfl (k := 0) (by decide) wt1278 (Or.inl rfl) rfl (hs.e (by decide)) ?_
  refine r_aload_n (q := 6) dX12_plug_5 rfl rfl rfl ?_
  refine r_callV (Mc := mX12_readOwn) (q := 9) (As := []) (st := []) ck12 dX12_plug_6 rfl rfl mkX12_readOwn wt1722 wt1724 wp96 rfl (Nat.le_of_ble_eq_true rfl) (Nat.le_of_ble_eq_true rfl) (by decide) (by decide) (by decide) (Or.inl rfl) (hs.e (by decide)) (ok_readOwn (S := sI S 12 0 0 (nI 0)) hs (fun z k hk h3 => hO z k hk h3) hW hR hbl h2 hb) (fun r6 S6 hp6 => ?_)
  rw [qa] at hp6
  obtain ⟨rfl, y1, y2, y3, y4, y5, y6⟩ := hp6
  have gF : Fg tOwn S S6 := (Fg.of22 (S1 := sI S 12 0 0 (nI 0)) hs rfl (fun a b k _ hz => by rw [gI_sI, if_neg (fun z => hz (Or.inl (by unfold tRef; omega)))]) (fun _ _ _ _ _ => rfl)).tr y1
  have gO : OwS S S6 := y4.imp (fun z => ⟨z.1, z.2.1, fun k hk => z.2.2.1 k hk, z.2.2.2⟩) (fun z => ⟨z.1, z.2.1, z.2.2.1, fun k hk => z.2.2.2 k hk⟩)
  show Ok _ _ _ [zi (nI 1)] _ _
  refine r_if_neN (q := 12) (t := 19) (by omega) dX12_plug_9 (by decide) rfl (fun h9 => ?_) (fun h9 => absurd h9 (by omega))
  have b1 := (gF.I (by omega) (tOwn_4 (x := 1306) (y := 0) (k := 1173) (by omega))).trans a1
  have b2 := (gF.I (by omega) (tOwn_4 (x := 1306) (y := 0) (k := 1174) (by omega))).trans a2
  have lo := hSo.len
  have ll := hSm.len
  obtain ⟨n1, n7, _⟩ := id hSo
  obtain ⟨m1, m7, _⟩ := id hSm
  have hml : o.length * (cl (adds (wP W) 1 [] acc)).length ≤ 1200 * 1200 := Nat.mul_le_mul lo ll
  refine r_iload_n (q := 20) dX12_plug_19 rfl rfl rfl ?_
  refine r_iconst (q := 21) (nI 0) dX12_plug_20 rfl (by decide) ?_
  refine r_aload_n (q := 22) dX12_plug_21 rfl rfl rfl ?_
  refine r_getr (q := 25) (some (1306, 0)) ck12 dX12_plug_22 rfl (k := 6) (by decide) wt1284 rfl (y1.sd.e (by decide)) (y1.sd.r (by decide) (by decide)) ?_
  refine r_sipush (q := 28) (nI 1173) dX12_plug_25 rfl (by decide) ?_
  refine r_ialdN (q := 29) 3775 (by decide) rfl dX12_plug_28 rfl (y1.sd.e (by decide)) (y1.sd.n rfl (by decide)) (by omega) (by decide) ?_
  refine r_topi (y := nI lv) b1 ?_
  refine r_iconst (q := 30) (nI 1) dX12_plug_29 rfl (by decide) ?_
  refine r_isub (q := 31) dX12_plug_30 rfl ?_
  refine r_callS (Mc := mX12_isIn) (q := 34) (As := [zi y, zi (nI 0), zi ((nI lv) - (nI 1))]) (st := []) dX12_plug_31 rfl rfl mkX12_isIn wt1614 wt1615 rfl (Nat.le_of_ble_eq_true rfl) (Nat.le_of_ble_eq_true rfl) (by decide) (by decide) (by decide) (Or.inl rfl) y1.sd.some (ok_X12_isIn_out (fun z => ha ⟨z.1, (le_pred (by omega)).mp z.2⟩)) (fun r31 S31 hp31 => ?_)
  obtain ⟨rfl, hq31⟩ := hp31
  rw [hq31]
  show Ok _ _ _ [zi (nI 0)] _ _
  refine r_if_neN (q := 37) (t := 41) (by omega) dX12_plug_34 (by decide) rfl (fun h34 => absurd h34 (by omega)) (fun h34 => ?_)
  refine r_sipush (q := 40) ((-1000 : Int32)) dX12_plug_37 rfl (by decide) ?_
  refine r_ireturn dX12_plug_40 rfl ?_
  exact ⟨rfl, gF, y2, y3, gO⟩

set_option maxRecDepth 100000 in
theorem rm_plug_b {S : zS} (hs : Sd S) {W : zWd} (hO : Cw S) (hW : Wok W) (hR : wqR W (fun k => gI S 1306 0 k) (fun i => gJ S 1308 0 i)) {bs : List Nat} (hbl : bs.length ≤ 940) (h2 : gI S 12 0 2 = nI bs.length) (hb : Bs S 1301 bs) {lv : Nat} {o : List zT} (hSo : Sm W lv o) (a1 : gI S 1306 0 1173 = nI lv) (a2 : gI S 1306 0 1174 = nI o.length) {i : Nat} (hi : i < lv) {m : Nat} {acc : List zT} (qa : sumA (wn W) (we W) (wA W) (wP W) (lexA bs 400 0) = Sum.inr (m, acc)) (hSm : Sm W m (cl (adds (wP W) 1 [] acc))) (hbig : 7 < lv + m - 1 ∨ 1000 < o.length * (cl (adds (wP W) 1 [] acc)).length) : Ok mX12_plug 0 (ent 5 [zr 12 0, zi (nI i)]) [] S (fun r S1 => r = some (zi (-1001)) ∧ Fg tOwn S S1 ∧ gI S1 12 0 13 = nI 0 ∧ gI S1 12 0 2 = nI 0 ∧ OwS S S1) := by
  have n7 := hSo.2.1
  show Ok mX12_plug 0 [some (zr 12 0), some (zi (nI i)), none, none, none] [] S _
  refine r_aload_n (q := 1) dX12_plug_0 rfl rfl rfl ?_
  refine r_iconst (q := 2) (nI 0) dX12_plug_1 rfl (by decide) ?_
  refine r_puti (q := 5) ck12 dX12_plug_2 rfl (k := 0) (by decide) wt1278 (Or.inl rfl) rfl (hs.e (by decide)) ?_
  refine r_aload_n (q := 6) dX12_plug_5 rfl rfl rfl ?_
  refine r_callV (Mc := mX12_readOwn) (q := 9) (As := []) (st := []) ck12 dX12_plug_6 rfl rfl mkX12_readOwn wt1722 wt1724 wp96 rfl (Nat.le_of_ble_eq_true rfl) (Nat.le_of_ble_eq_true rfl) (by decide) (by decide) (by decide) (Or.inl rfl) (hs.e (by decide)) (ok_readOwn (S := sI S 12 0 0 (nI 0)) hs (fun z k hk h3 => hO z k hk h3) hW hR hbl h2 hb) (fun r6 S6 hp6 => ?_)
  rw [qa] at hp6
  obtain ⟨rfl, y1, y2, y3, y4, y5, y6⟩ := hp6
  have gF : Fg tOwn S S6 := (Fg.of22 (S1 := sI S 12 0 0 (nI 0)) hs rfl (fun a b k _ hz => by rw [gI_sI, if_neg (fun z => hz (Or.inl (by unfold tRef; omega)))]) (fun _ _ _ _ _ => rfl)).tr y1
  have gO : OwS S S6 := y4.imp (fun z => ⟨z.1, z.2.1, fun k hk => z.2.2.1 k hk, z.2.2.2⟩) (fun z => ⟨z.1, z.2.1, z.2.2.1, fun k hk => z.2.2.2 k hk⟩)
  show Ok _ _ _ [zi (nI 1)] _ _
  refine r_if_neN (q := 12) (t := 19) (by omega) dX12_plug_9 (by decide) rfl (fun h9 => ?_) (fun h9 => absurd h9 (by omega))
  have b1 := (gF.I (by omega) (tOwn_4 (x := 1306) (y := 0) (k := 1173) (by omega))).trans a1
  have b2 := (gF.I (by omega) (tOwn_4 (x := 1306) (y := 0) (k := 1174) (by omega))).trans a2
  have lo := hSo.len
  have ll := hSm.len
  obtain ⟨n1, n7, _⟩ := id hSo
  obtain ⟨m1, m7, _⟩ := id hSm
  have hml : o.length * (cl (adds (wP W) 1 [] acc)).length ≤ 1200 * 1200 := Nat.mul_le_mul lo ll
  refine r_iload_n (q := 20) dX12_plug_19 rfl rfl rfl ?_
  refine r_iconst (q := 21) (nI 0) dX12_plug_20 rfl (by decide) ?_
  refine r_aload_n (q := 22) dX12_plug_21 rfl rfl rfl ?_
  refine r_getr (q := 25) (some (1306, 0)) ck12 dX12_plug_22 rfl (k := 6) (by decide) wt1284 rfl (y1.sd.e (by decide)) (y1.sd.r (by decide) (by decide)) ?_
  refine r_sipush (q := 28) (nI 1173) dX12_plug_25 rfl (by decide) ?_
  refine r_ialdN (q := 29) 3775 (by decide) rfl dX12_plug_28 rfl (y1.sd.e (by decide)) (y1.sd.n rfl (by decide)) (by omega) (by decide) ?_
  refine r_topi (y := nI lv) b1 ?_
  refine r_iconst (q := 30) (nI 1) dX12_plug_29 rfl (by decide) ?_
  refine r_isubN (q := 31) (by omega) dX12_plug_30 rfl ?_
  refine r_callS (Mc := mX12_isIn) (q := 34) (As := [zi (nI i), zi (nI 0), zi (nI (lv - 1))]) (st := []) dX12_plug_31 rfl rfl mkX12_isIn wt1614 wt1615 rfl (Nat.le_of_ble_eq_true rfl) (Nat.le_of_ble_eq_true rfl) (by decide) (by decide) (by decide) (Or.inl rfl) y1.sd.some (ok_X12_isIn_in (by omega) (by omega) (by omega)) (fun r31 S31 hp31 => ?_)
  obtain ⟨rfl, hq31⟩ := hp31
  rw [hq31]
  show Ok _ _ _ [zi (nI 1)] _ _
  refine r_if_neN (q := 37) (t := 41) (by omega) dX12_plug_34 (by decide) rfl (fun h34 => ?_) (fun h34 => absurd h34 (by omega))
  refine r_aload_n (q := 42) dX12_plug_41 rfl rfl rfl ?_
  refine r_getr (q := 45) (some (1306, 0)) ck12 dX12_plug_42 rfl (k := 6) (by decide) wt1284 rfl (y1.sd.e (by decide)) (y1.sd.r (by decide) (by decide)) ?_
  refine r_sipush (q := 48) (nI 1173) dX12_plug_45 rfl (by decide) ?_
  refine r_ialdN (q := 49) 3775 (by decide) rfl dX12_plug_48 rfl (y1.sd.e (by decide)) (y1.sd.n rfl (by decide)) (by omega) (by decide) ?_
  refine r_topi (y := nI lv) b1 ?_
  refine r_aload_n (q := 50) dX12_plug_49 rfl rfl rfl ?_
  refine r_geti (q := 53) ck12 dX12_plug_50 rfl (k := 48) (by decide) wt1326 (Or.inl rfl) (y1.sd.e (by decide)) ?_
  refine r_topi (y := nI m) y5 ?_
  refine r_iaddN (q := 54) dX12_plug_53 rfl ?_
  refine r_iconst (q := 55) (nI 1) dX12_plug_54 rfl (by decide) ?_
  refine r_isubN (q := 56) (by omega) dX12_plug_55 rfl ?_
  refine r_bipush (q := 58) (nI 7) dX12_plug_56 rfl (by decide) ?_
  refine r_icmp_gtN (q := 61) (t := 80) (by omega) (by omega) dX12_plug_58 (by decide) rfl (fun h58 => ?_) (fun h58 => ?_)
  · skip
    refine r_sipush (q := 83) ((-1001 : Int32)) dX12_plug_80 rfl (by decide) ?_
    refine r_ireturn dX12_plug_83 rfl ?_
    exact ⟨rfl, gF, y2, y3, gO⟩
  · skip
    refine r_aload_n (q := 62) dX12_plug_61 rfl rfl rfl ?_
    refine r_getr (q := 65) (some (1306, 0)) ck12 dX12_plug_62 rfl (k := 6) (by decide) wt1284 rfl (y1.sd.e (by decide)) (y1.sd.r (by decide) (by decide)) ?_
    refine r_sipush (q := 68) (nI 1174) dX12_plug_65 rfl (by decide) ?_
    refine r_ialdN (q := 69) 3775 (by decide) rfl dX12_plug_68 rfl (y1.sd.e (by decide)) (y1.sd.n rfl (by decide)) (by omega) (by decide) ?_
    refine r_topi (y := nI o.length) b2 ?_
    refine r_aload_n (q := 70) dX12_plug_69 rfl rfl rfl ?_
    refine r_geti (q := 73) ck12 dX12_plug_70 rfl (k := 47) (by decide) wt1325 (Or.inl rfl) (y1.sd.e (by decide)) ?_
    refine r_topi (y := nI ((cl (adds (wP W) 1 [] acc)).length)) y6.1 ?_
    refine r_imulN (q := 74) dX12_plug_73 rfl ?_
    refine r_sipush (q := 77) (nI 1000) dX12_plug_74 rfl (by decide) ?_
    refine r_icmp_leN (q := 80) (t := 84) (by omega) (by omega) dX12_plug_77 (by decide) rfl (fun h77 => absurd h77 (by omega)) (fun h77 => ?_)
    refine r_sipush (q := 83) ((-1001 : Int32)) dX12_plug_80 rfl (by decide) ?_
    refine r_ireturn dX12_plug_83 rfl ?_
    exact ⟨rfl, gF, y2, y3, gO⟩

set_option maxRecDepth 100000 in
theorem rm_plug_r {S : zS} (hs : Sd S) {W : zWd} (hO : Cw S) (hW : Wok W) (hR : wqR W (fun k => gI S 1306 0 k) (fun i => gJ S 1308 0 i)) {bs : List Nat} (hbl : bs.length ≤ 940) (h2 : gI S 12 0 2 = nI bs.length) (hb : Bs S 1301 bs) {lv : Nat} {o : List zT} (hSo : Sm W lv o) (a1 : gI S 1306 0 1173 = nI lv) (a2 : gI S 1306 0 1174 = nI o.length) (a3 : ∀ k, k < o.length → gI S 1306 0 (1175 + k) = nI (cd (o.getD k zd).1) ∧ gI S 1306 0 (2475 + k) = nI (o.getD k zd).2) {Po : Option zV → zS → Prop} {i : Nat} (hi : i < lv) {m : Nat} {acc : List zT} (qa : sumA (wn W) (we W) (wA W) (wP W) (lexA bs 400 0) = Sum.inr (m, acc)) (hSm : Sm W m (cl (adds (wP W) 1 [] acc))) (hn : lv + m - 1 ≤ 7) (hsm : o.length * (cl (adds (wP W) 1 [] acc)).length ≤ 1000) (Kp : ∀ T, Fg tOp S T → Rz T (cl (adds (wP W) 1 [] (prds i o (cl (adds (wP W) 1 [] acc))))) → gI T 12 0 48 = nI (lv + m - 1) → gI T 12 0 13 = nI 0 → gI T 12 0 2 = nI 0 → OwS S T → Ok mX12_keepSum 0 (ent 2 [zr 12 0]) [] T (fun r S4 => r = some (zi (nI (cl (adds (wP W) 1 [] (prds i o (cl (adds (wP W) 1 [] acc))))).length)) ∧ Po (some (zi (nI (cl (adds (wP W) 1 [] (prds i o (cl (adds (wP W) 1 [] acc))))).length))) S4)) : Ok mX12_plug 0 (ent 5 [zr 12 0, zi (nI i)]) [] S Po := by
  have n7 := hSo.2.1
  show Ok mX12_plug 0 [some (zr 12 0), some (zi (nI i)), none, none, none] [] S _
  refine r_aload_n (q := 1) dX12_plug_0 rfl rfl rfl ?_
  refine r_iconst (q := 2) (nI 0) dX12_plug_1 rfl (by decide) ?_
  refine r_puti (q := 5) ck12 dX12_plug_2 rfl (k := 0) (by decide) wt1278 (Or.inl rfl) rfl (hs.e (by decide)) ?_
  refine r_aload_n (q := 6) dX12_plug_5 rfl rfl rfl ?_
  refine r_callV (Mc := mX12_readOwn) (q := 9) (As := []) (st := []) ck12 dX12_plug_6 rfl rfl mkX12_readOwn wt1722 wt1724 wp96 rfl (Nat.le_of_ble_eq_true rfl) (Nat.le_of_ble_eq_true rfl) (by decide) (by decide) (by decide) (Or.inl rfl) (hs.e (by decide)) (ok_readOwn (S := sI S 12 0 0 (nI 0)) hs (fun z k hk h3 => hO z k hk h3) hW hR hbl h2 hb) (fun r6 S6 hp6 => ?_)
  rw [qa] at hp6
  obtain ⟨rfl, y1, y2, y3, y4, y5, y6⟩ := hp6
  have gF : Fg tOwn S S6 := (Fg.of22 (S1 := sI S 12 0 0 (nI 0)) hs rfl (fun a b k _ hz => by rw [gI_sI, if_neg (fun z => hz (Or.inl (by unfold tRef; omega)))]) (fun _ _ _ _ _ => rfl)).tr y1
  have gO : OwS S S6 := y4.imp (fun z => ⟨z.1, z.2.1, fun k hk => z.2.2.1 k hk, z.2.2.2⟩) (fun z => ⟨z.1, z.2.1, z.2.2.1, fun k hk => z.2.2.2 k hk⟩)
  show Ok _ _ _ [zi (nI 1)] _ _
  refine r_if_neN (q := 12) (t := 19) (by omega) dX12_plug_9 (by decide) rfl (fun h9 => ?_) (fun h9 => absurd h9 (by omega))
  have b1 := (gF.I (by omega) (tOwn_4 (x := 1306) (y := 0) (k := 1173) (by omega))).trans a1
  have b2 := (gF.I (by omega) (tOwn_4 (x := 1306) (y := 0) (k := 1174) (by omega))).trans a2
  have lo := hSo.len
  have ll := hSm.len
  obtain ⟨n1, n7, _⟩ := id hSo
  obtain ⟨m1, m7, _⟩ := id hSm
  have hml : o.length * (cl (adds (wP W) 1 [] acc)).length ≤ 1200 * 1200 := Nat.mul_le_mul lo ll
  refine r_iload_n (q := 20) dX12_plug_19 rfl rfl rfl ?_
  refine r_iconst (q := 21) (nI 0) dX12_plug_20 rfl (by decide) ?_
  refine r_aload_n (q := 22) dX12_plug_21 rfl rfl rfl ?_
  refine r_getr (q := 25) (some (1306, 0)) ck12 dX12_plug_22 rfl (k := 6) (by decide) wt1284 rfl (y1.sd.e (by decide)) (y1.sd.r (by decide) (by decide)) ?_
  refine r_sipush (q := 28) (nI 1173) dX12_plug_25 rfl (by decide) ?_
  refine r_ialdN (q := 29) 3775 (by decide) rfl dX12_plug_28 rfl (y1.sd.e (by decide)) (y1.sd.n rfl (by decide)) (by omega) (by decide) ?_
  refine r_topi (y := nI lv) b1 ?_
  refine r_iconst (q := 30) (nI 1) dX12_plug_29 rfl (by decide) ?_
  refine r_isubN (q := 31) (by omega) dX12_plug_30 rfl ?_
  refine r_callS (Mc := mX12_isIn) (q := 34) (As := [zi (nI i), zi (nI 0), zi (nI (lv - 1))]) (st := []) dX12_plug_31 rfl rfl mkX12_isIn wt1614 wt1615 rfl (Nat.le_of_ble_eq_true rfl) (Nat.le_of_ble_eq_true rfl) (by decide) (by decide) (by decide) (Or.inl rfl) y1.sd.some (ok_X12_isIn_in (by omega) (by omega) (by omega)) (fun r31 S31 hp31 => ?_)
  obtain ⟨rfl, hq31⟩ := hp31
  rw [hq31]
  show Ok _ _ _ [zi (nI 1)] _ _
  refine r_if_neN (q := 37) (t := 41) (by omega) dX12_plug_34 (by decide) rfl (fun h34 => ?_) (fun h34 => absurd h34 (by omega))
  refine r_aload_n (q := 42) dX12_plug_41 rfl rfl rfl ?_
  refine r_getr (q := 45) (some (1306, 0)) ck12 dX12_plug_42 rfl (k := 6) (by decide) wt1284 rfl (y1.sd.e (by decide)) (y1.sd.r (by decide) (by decide)) ?_
  refine r_sipush (q := 48) (nI 1173) dX12_plug_45 rfl (by decide) ?_
  refine r_ialdN (q := 49) 3775 (by decide) rfl dX12_plug_48 rfl (y1.sd.e (by decide)) (y1.sd.n rfl (by decide)) (by omega) (by decide) ?_
  refine r_topi (y := nI lv) b1 ?_
  refine r_aload_n (q := 50) dX12_plug_49 rfl rfl rfl ?_
  refine r_geti (q := 53) ck12 dX12_plug_50 rfl (k := 48) (by decide) wt1326 (Or.inl rfl) (y1.sd.e (by decide)) ?_
  refine r_topi (y := nI m) y5 ?_
  refine r_iaddN (q := 54) dX12_plug_53 rfl ?_
  refine r_iconst (q := 55) (nI 1) dX12_plug_54 rfl (by decide) ?_
  refine r_isubN (q := 56) (by omega) dX12_plug_55 rfl ?_
  refine r_bipush (q := 58) (nI 7) dX12_plug_56 rfl (by decide) ?_
  refine r_icmp_gtN (q := 61) (t := 80) (by omega) (by omega) dX12_plug_58 (by decide) rfl (fun h58 => absurd h58 (by omega)) (fun h58 => ?_)
  refine r_aload_n (q := 62) dX12_plug_61 rfl rfl rfl ?_
  refine r_getr (q := 65) (some (1306, 0)) ck12 dX12_plug_62 rfl (k := 6) (by decide) wt1284 rfl (y1.sd.e (by decide)) (y1.sd.r (by decide) (by decide)) ?_
  refine r_sipush (q := 68) (nI 1174) dX12_plug_65 rfl (by decide) ?_
  refine r_ialdN (q := 69) 3775 (by decide) rfl dX12_plug_68 rfl (y1.sd.e (by decide)) (y1.sd.n rfl (by decide)) (by omega) (by decide) ?_
  refine r_topi (y := nI o.length) b2 ?_
  refine r_aload_n (q := 70) dX12_plug_69 rfl rfl rfl ?_
  refine r_geti (q := 73) ck12 dX12_plug_70 rfl (k := 47) (by decide) wt1325 (Or.inl rfl) (y1.sd.e (by decide)) ?_
  refine r_topi (y := nI ((cl (adds (wP W) 1 [] acc)).length)) y6.1 ?_
  refine r_imulN (q := 74) dX12_plug_73 rfl ?_
  refine r_sipush (q := 77) (nI 1000) dX12_plug_74 rfl (by decide) ?_
  refine r_icmp_leN (q := 80) (t := 84) (by omega) (by omega) dX12_plug_77 (by decide) rfl (fun h77 => ?_) (fun h77 => absurd h77 (by omega))
  have hU := sm_plug (i := i) hW hi hn hSo hSm hsm
  have hO6 : Cw S6 := gO.cw hO (fun k hk => gF.I (by omega) (tOwn_4 (by omega)))
  have h33 : gI S6 12 0 33 = nI 1 := gO.elim (fun z => z.2.1) (fun z => z.2.1)
  have hA3 := hW.2.1
  have hwe : ∀ a, a < wA W → gI S6 1322 0 (4 + a) = nI (we W a) := fun a ha => by
    rw [hO6 h33 (4 + a) (by have := hA3.1; omega) (by omega), gF.I (by omega) (tOwn_4 (by omega))]
    exact (hR.2.2.2.1 a ha).1
  refine lp_plugA y1.sd hW.2.1 hn hi hW.1.1 hW.1.2.1 lo ll hSo.2.2.1.1.2 hSm.2.2.1.1.2 hU.1.1 hU.2.1 m1 ((gF.I (by omega) (tOwn_4 (by omega))).trans hR.1) b2 (fun k hk => ⟨(gF.I (by omega) (tOwn_4 (by omega))).trans (a3 k hk).1, (gF.I (by omega) (tOwn_4 (by omega))).trans (a3 k hk).2⟩) y6 hwe b1 y5 (fun S7 f7 r7 l7 => ?_)
  have gT : Fg tOp S S7 := (gF.mono fun _ _ _ z => Or.inl z).tr (f7.mono fun _ _ _ z => Or.inr z)
  have gO7 : OwS S S7 := OwS.post f7 (fun k => by unfold tPr; simp [tPl, tAT, tPa]) gO
  refine r_aload_n (q := 243) dX12_plug_242 rfl rfl rfl ?_
  refine r_callV (Mc := mX12_keepSum) (q := 246) (As := []) (st := []) ck12 dX12_plug_243 rfl rfl mkX12_keepSum wt1710 wt1712 wp94 rfl (Nat.le_of_ble_eq_true rfl) (Nat.le_of_ble_eq_true rfl) (by decide) (by decide) (by decide) (Or.inl rfl) (f7.sd.e (by decide)) (Kp S7 gT r7 l7 ((f7.I (by omega) (by unfold tPr; simp [tPl, tAT, tPa])).trans y2) ((f7.I (by omega) (by unfold tPr; simp [tPl, tAT, tPa])).trans y3) gO7) (fun r243 S243 hp243 => ?_)
  obtain ⟨rfl, kk⟩ := hp243
  show Ok _ _ _ [zi (nI ((cl (adds (wP W) 1 [] (prds i o (cl (adds (wP W) 1 [] acc))))).length))] _ _
  refine r_ireturn dX12_plug_246 rfl ?_
  exact kk

theorem read_y {S S1 S2 : zS} {x : Nat} (hT : TLs S) (hO : Cw S) (z1 : Fg tSu S S1) (z2 : gI S1 11 0 1 = nI 0) (z3 : gI S1 4 0 14 = nI x) (z4 : TL S1 12) (y1 : Fg tOwn S1 S2) (y2 : gI S2 12 0 13 = nI x) (y3 : gI S2 12 0 2 = nI 0) (y4 : OwS S1 S2) : Read S S2 := by
  have f : Fg tRd S S2 := (z1.mono fun _ _ _ z => Or.inr (Or.inl z)).tr (y1.mono fun _ _ _ z => Or.inr (Or.inr (Or.inr (Or.inl z))))
  have o : OwS S S2 := y4.pre z1 (fun k => ⟨tSu_n (by omega), tSu_n (by omega), tSu_n (by omega), fun _ => tSu_n (by omega)⟩)
  have t1 : TLs S1 := tls_12 hT z1 z4
  refine ⟨f, ⟨by simp, (y1.I (by omega) (tOwn_4 (by omega))).trans z2, y3, ⟨fun k hk => absurd hk (by simp), fun c hc => absurd hc List.not_mem_nil⟩, ⟨fun k hk => absurd hk (by simp), fun c hc => absurd hc List.not_mem_nil⟩⟩, ?_, o, o.cw hO (fun k hk => (y1.I (by omega) (tOwn_4 (by omega))).trans (z1.I (by omega) (tSu_n (by omega)))), t1.fg y1 fun j hj => Or.inl fun k => ⟨tOwn_4 (by omega), tOwn_4 (by omega), tOwn_4 (by omega)⟩⟩
  rw [y1.I (by omega) (tOwn_4 (by omega)), z3, y2]
/-- what plug may touch besides -/
def tRp (a b k : Nat) : Prop := tRd a b k ∨ tSh 4 a b k = true ∨ tPl a b k = true
def ReadP (S S2 : zS) : Prop := Fg tRp S S2 ∧ TapeR S2 [] ∧ gI S2 4 0 14 = gI S2 12 0 13 ∧ OwS S S2 ∧ Cw S2 ∧ TLs S2
theorem Read.p {S S2 : zS} (h : Read S S2) : ReadP S S2 := ⟨h.1.mono fun _ _ _ z => Or.inl z, h.2⟩
theorem pair_su {S S1 S2 : zS} {W : zWd} {h q : Nat} (hP : Pst sq S W h q) (hA : SR sq S W 0 1306 1173) (z : Fg tSu S S1) (y : Fg tOwn S1 S2) : SR sq S2 W 0 1306 1173 ∧ Pst sq S2 W h q := by
  have a1 : SR sq S1 W 0 1306 1173 := hA.fg lo_sq z (by omega) (fun k hk => tSu_n (by omega)) (fun k => ⟨tSu_n (by omega), tSu_n (by omega)⟩) (fun k _ _ => tSu_n (by omega))
  have a2 : Pst sq S1 W h q := hP.fg lo_sq z ⟨tSu_n (by omega), tSu_n (by omega), tSu_n (by omega)⟩ (fun j k _ _ => ⟨fun _ => tSu_n (by omega), tSu_n (by omega), tSu_n (by omega)⟩) (fun k => tSu_n (by omega))
  exact ⟨a1.fg lo_sq y (by omega) (fun k hk => tOwn_4 (by omega)) (fun k => ⟨tOwn_4 (by omega), tOwn_4 (by omega)⟩) (fun k _ _ => tOwn_4 (by omega)), a2.fg lo_sq y ⟨tOwn_4 (by omega), tOwn_4 (by omega), tOwn_58⟩ (fun j k _ _ => ⟨fun _ => tOwn_4 (by omega), tOwn_4 (by omega), tOwn_4 (by omega)⟩) (fun k => tOwn_4 (by omega))⟩
/-- the reference's premises after the class's reading -/
theorem ref_su {T0 : Nat → Nat → Nat → Prop} {S S1 : zS} {W : zWd} (hW : Wok W) (hR : wqR W (fun k => gI S 1306 0 k) (fun i => gJ S 1308 0 i)) (hO : Cw S) {bs : List Nat} (hTp : TapeR S bs) (z : Fg T0 S S1) (tn : ∀ x y k, x = 12 ∨ 1300 ≤ x ∧ x < 1400 → ¬ T0 x y k) : wqR W (fun k => gI S1 1306 0 k) (fun i => gJ S1 1308 0 i) ∧ Cw S1 ∧ Bs S1 1301 bs ∧ gI S1 12 0 2 = nI bs.length :=
  ⟨hR.cong hW (fun k _ _ => (z.I (by omega) (tn _ _ _ (by omega))).symm) (fun i _ => (z.J (by omega) (tn _ _ _ (by omega))).symm), fun y k hk h3 => by
      rw [z.I (by omega) (tn _ _ _ (by omega)), z.I (by omega) (tn _ _ _ (by omega))]
      exact hO ((z.I (by omega) (tn _ _ _ (by omega))).symm.trans y) k hk h3, ⟨fun k hk => (z.I (by omega) (tn _ _ _ (by omega))).trans (hTp.2.2.2.2.1 k hk), hTp.2.2.2.2.2⟩, (z.I (by omega) (tn _ _ _ (by omega))).trans hTp.2.2.1⟩

theorem tRp_c {a b k : Nat} (h : (tJm 4 11 a b k ∨ tSu a b k) ∨ tKp a b k) : tRp a b k := by
  rcases h with (h | h) | h
  · rcases h with h | h | h
    · exact Or.inl (Or.inl (by unfold tMd; omega))
    · exact Or.inl (Or.inl (by unfold tTy at h; unfold tMd; omega))
    · exact Or.inr (Or.inl h)
  · exact Or.inl (Or.inr (Or.inl h))
  · exact Or.inl (Or.inr (Or.inr (Or.inl h)))
theorem tRp_r {a b k : Nat} (h : tOp a b k) : tRp a b k := by
  rcases h with h | h | h | h
  · exact Or.inl (Or.inr (Or.inr (Or.inr (Or.inl h))))
  · exact Or.inr (Or.inr h)
  · exact Or.inl (Or.inr (Or.inr (Or.inr (Or.inl (Or.inr (Or.inl (by unfold tRs; rw [h]; simp)))))))
  · exact Or.inl (Or.inr (Or.inr (Or.inr (Or.inl (Or.inr (Or.inl (by unfold tRs; simp [h])))))))

theorem pg_plug {S : zS} (hs : Sd S) {W : zWd} {cc : Nat} (hcc : gI S 11 0 3 = nI cc) (hc4 : cc < 4) (hw : WR wq S W cc 1306 0 1308 0) {h q : Nat} (hP : Pst sq S W h q) (hA : SR sq S W 0 1306 1173) (hT : TLs S) (hO : Cw S) {bs : List Nat} (hTp : TapeR S bs) (y : Int32) : Pg mX11_plug 3 [zr 11 0, zi y] mX12_plug 5 [zr 12 0, zi y] S (fun S2 => ReadP S S2 ∧ SR sq S2 W 0 1306 1173 ∧ ∃ h' q', Pst sq S2 W h' q') := by
  obtain ⟨hW, hC, hR⟩ := hw.c
  obtain ⟨lv, o, hSo, a1, r1, a2, r2, a3⟩ := hA.get
  have ts : ∀ x y k, x = 12 ∨ 1300 ≤ x ∧ x < 1400 → ¬ tSu x y k := fun x y k hx => tSu_n (by omega)
  cases qa : sumA (wn W) (we W) (wA W) (wP W) (lexA bs 400 0) with
  | inl x =>
    refine Ok.mono (cm_plug_x hs hcc hc4 hW hC hP hA hT hTp y qa) fun r S1 z => ⟨_, z.1, z.2.1.sd, ?_⟩
    obtain ⟨hR1, hO1, hb1, hl1⟩ := ref_su hW hR hO hTp z.2.1 ts
    exact Ok.mono (rm_plug_x z.2.1.sd hO1 hW hR1 hTp.1 hl1 hb1 y qa) fun r2 S2 w => ⟨w.1, (read_y hT hO z.2.1 z.2.2.1 z.2.2.2.1.1 z.2.2.2.2 w.2.1 w.2.2.1.1 w.2.2.2.1 w.2.2.2.2).p, (pair_su hP hA z.2.1 w.2.1).1, h, q, (pair_su hP hA z.2.1 w.2.1).2⟩
  | inr x =>
    obtain ⟨m, acc⟩ := x
    have hlv : lv ≤ 7 := hSo.2.1
    by_cases ha : 0 ≤ y ∧ y < nI lv
    · obtain ⟨i, hi, rfl⟩ := zz_of ha (by omega)
      by_cases hbig : 7 < lv + m - 1 ∨ 1000 < o.length * (cl (adds (wP W) 1 [] acc)).length
      · refine Ok.mono (cm_plug_b hs hcc hc4 hW hC hP hA hT hTp hSo a1 a2 hi qa hbig) fun r S1 z => ⟨_, z.1, z.2.1.sd, ?_⟩
        obtain ⟨hR1, hO1, hb1, hl1⟩ := ref_su hW hR hO hTp z.2.1 ts
        exact Ok.mono (rm_plug_b z.2.1.sd hO1 hW hR1 hTp.1 hl1 hb1 hSo ((z.2.1.I (by omega) (ts _ _ _ (by omega))).trans r1) ((z.2.1.I (by omega) (ts _ _ _ (by omega))).trans r2) hi qa z.2.2.2.2.2 hbig) fun r2 S2 w => ⟨w.1, (read_y hT hO z.2.1 z.2.2.1 z.2.2.2.1 z.2.2.2.2.1 w.2.1 w.2.2.1 w.2.2.2.1 w.2.2.2.2).p, (pair_su hP hA z.2.1 w.2.1).1, h, q, (pair_su hP hA z.2.1 w.2.1).2⟩
      · have hn : lv + m - 1 ≤ 7 := by omega
        have hsm : o.length * (cl (adds (wP W) 1 [] acc)).length ≤ 1000 := by omega
        refine Ok.mono (cm_plug_r hs hcc hc4 hW hC hP hA hT hTp hSo a1 a2 (fun k hk => ⟨(a3 k hk).1, (a3 k hk).2.1⟩) hi qa hn hsm) fun r S3 z => ⟨_, z.1, z.2.1.sd, ?_⟩
        have tn : ∀ x y k, x = 12 ∨ 1300 ≤ x ∧ x < 1400 → ¬ ((tJm 4 11 x y k ∨ tSu x y k) ∨ tKp x y k) := fun x y k hx hz => by
          rcases hz with (hz | hz) | hz
          · exact tJm_n (by omega) hz
          · exact tSu_n (by omega) hz
          · unfold tKp at hz; omega
        obtain ⟨hR1, hO1, hb1, hl1⟩ := ref_su hW hR hO hTp z.2.1 tn
        refine rm_plug_r z.2.1.sd hO1 hW hR1 hTp.1 hl1 hb1 hSo ((z.2.1.I (by omega) (tn _ _ _ (by omega))).trans r1) ((z.2.1.I (by omega) (tn _ _ _ (by omega))).trans r2) (fun k hk => ⟨(z.2.1.I (by omega) (tn _ _ _ (by omega))).trans (a3 k hk).2.2.1, (z.2.1.I (by omega) (tn _ _ _ (by omega))).trans (a3 k hk).2.2.2⟩) hi qa z.2.2.2.2.1 hn hsm (fun T f3 g1 g2 g3 g4 g5 => Ok.mono (z.2.2.2.2.2 T f3 g1 g2) fun r S4 y4 => ⟨y4.1, rfl, ⟨?_, ?_, ?_, ?_, ?_, y4.2.2.2.2⟩, y4.2.2.1, _, _, y4.2.2.2.1⟩)
        · exact ((z.2.1.mono fun _ _ _ w => tRp_c w).tr (f3.mono fun _ _ _ w => tRp_r w)).tr (y4.2.1.mono fun _ _ _ w => Or.inl (Or.inr (Or.inr (Or.inr (Or.inr w)))))
        · exact ⟨by simp, (y4.2.1.I (by omega) (by unfold tKs; omega)).trans ((f3.I (by omega) (tOp_4 (by omega))).trans z.2.2.1), (y4.2.1.I (by omega) (by unfold tKs; omega)).trans g4, ⟨fun k hk => absurd hk (by simp), fun c hc => absurd hc List.not_mem_nil⟩, ⟨fun k hk => absurd hk (by simp), fun c hc => absurd hc List.not_mem_nil⟩⟩
        · rw [y4.2.1.I (by omega) (by unfold tKs; omega), y4.2.1.I (by omega) (by unfold tKs; omega), f3.I (by omega) (tOp_4 (by omega)), z.2.2.2.1, g3]
        · exact (g5.pre z.2.1 (fun k => ⟨tn _ _ _ (by omega), tn _ _ _ (by omega), tn _ _ _ (by omega), fun _ => tn _ _ _ (by omega)⟩)).post y4.2.1 (fun k => by unfold tKs; omega)
        · have o : OwS S S4 := (g5.pre z.2.1 (fun k => ⟨tn _ _ _ (by omega), tn _ _ _ (by omega), tn _ _ _ (by omega), fun _ => tn _ _ _ (by omega)⟩)).post y4.2.1 (fun k => by unfold tKs; omega)
          exact o.cw hO (fun k hk => (y4.2.1.I (by omega) (by unfold tKs; omega)).trans ((f3.I (by omega) (tOp_4 (by omega))).trans (z.2.1.I (by omega) (tn _ _ _ (by omega)))))
    · refine Ok.mono (cm_plug_a hs hcc hc4 hW hC hP hA hT hTp hSo a1 a2 ha qa) fun r S1 z => ⟨_, z.1, z.2.1.sd, ?_⟩
      obtain ⟨hR1, hO1, hb1, hl1⟩ := ref_su hW hR hO hTp z.2.1 ts
      exact Ok.mono (rm_plug_a z.2.1.sd hO1 hW hR1 hTp.1 hl1 hb1 hSo ((z.2.1.I (by omega) (ts _ _ _ (by omega))).trans r1) ((z.2.1.I (by omega) (ts _ _ _ (by omega))).trans r2) ha qa z.2.2.2.2.2) fun r2 S2 w => ⟨w.1, (read_y hT hO z.2.1 z.2.2.1 z.2.2.2.1 z.2.2.2.2.1 w.2.1 w.2.2.1 w.2.2.2.1 w.2.2.2.2).p, (pair_su hP hA z.2.1 w.2.1).1, h, q, (pair_su hP hA z.2.1 w.2.1).2⟩

