theorem keep3 {T0 T1 : Nat → Nat → Nat → Prop} {S S2 : zS} {W : zWd} {h q lv : Nat} {c : List zT} (hP : Pst sq S W h q) (hA : SR sq S W 0 1306 1173) (hf : Fg T0 S S2)
    (ht : ∀ j k, j ≠ 11 → j < 12 → (k < 2 → ¬ T0 8 j k) ∧ ¬ T0 902 j k ∧ ¬ T0 903 j k) (ht1 : ¬ T0 11 0 10 ∧ ¬ T0 11 0 11 ∧ ¬ T0 12 0 58) (ht2 : ∀ k, (1173 ≤ k → ¬ T0 1306 0 k) ∧ ¬ T0 1357 0 k) (hTL : TLs S2)
    (hu : ∀ x y k, x = 8 ∨ x = 902 ∨ x = 903 ∨ x = 11 ∨ x = 1306 ∨ x = 1357 → ¬ T1 x y k) (hu2 : ¬ T1 12 0 58)
    (hc : Ty S2 11 c) (hl : gI S2 8 11 0 = nI lv) (hS : Sm W lv c) : Ok mX11_keepMade 0 (ent 1 [zr 11 0]) [] S2 (fun r S3 => r = some (zi (nI c.length)) ∧ Fg tKp S2 S3 ∧ ∀ T, Fg T1 S3 T → Rz T c → gI T 12 0 48 = nI lv → Ok mX12_keepSum 0 (ent 2 [zr 12 0]) [] T (fun r S4 => r = some (zi (nI c.length)) ∧ Fg tKs T S4 ∧ SR sq S4 W 0 1306 1173 ∧ Pst sq S4 W (min 8 (h + 1)) ((q + 1) % 8) ∧ TLs S4)) := by
  have hs2 := hf.sd
  have hP2 : Pst sq S2 W h q := hP.fg lo_sq hf ht1 (fun j k h1 h2 => ht j k (by omega) (by omega)) (fun k => (ht2 k).2)
  have hA2 : SR sq S2 W 0 1306 1173 := hA.fg lo_sq hf (by omega) (fun k hk => (ht 0 k (by omega) (by omega)).1 hk) (fun k => (ht 0 k (by omega) (by omega)).2) (fun k hk _ => (ht2 k).1 hk)
  obtain ⟨p1, p2, p3, p4, p5, p6⟩ := hP2
  obtain ⟨n1, e9, a1, a2, a3, a4, a5, a6⟩ := hTL (q + 3) (by omega)
  obtain ⟨o, e0, b1, b2, b3, b4, b5, b6⟩ := hTL 0 (by omega)
  obtain ⟨c1, c2, m, c3, c4, c5, c6, c7⟩ := hc
  have hlen := hS.len
  refine Ok.mono (ok_X11_keepMade hs2 p1 p4 p3 p5 rfl a1 a2 (by omega) a4 b5 b1 b2 b6 (by omega) b4 c1 c3 c4 c7 c6 hlen) fun r S3 z => ⟨z.1, ?_, fun T f3 hR hl2 => ?_⟩
  · rw [z.2]
    exact fg_kpM hs2 p5 a1 a2 (by omega) a4 b1 b2 (by omega) b4 (by omega) hlen
  · obtain ⟨z1, rfl⟩ := z
    have h58 : gI T 12 0 58 = nI h := by
      rw [f3.I (by omega) hu2, kp_x (by omega) (by omega) (by omega) (by omega)]
      exact p2
    refine Ok.mono (ok_X12_keepSum f3.sd h58 p3 hR.1 (by omega)) fun r2 S4 z2 => ⟨z2.1, by rw [z2.2]; exact fg_kpS f3.sd, ?_⟩
    rw [z2.2]
    refine keep_rel lo_sq ⟨p1, p2, p3, p4, p5, p6⟩ hA2 hTL rfl a1 a2 b1 b2 b5 (by omega) hl hlen (fun x y k hx => f3.I (by omega) (hu x y k hx)) (fun x y hx => f3.N (by omega) (hu x y 0 (by omega))) hl2 ⟨c, rfl, hS, fun k hk => ?_⟩
    show (gI S2 902 11 k, gI S2 903 11 k, gI T 1344 0 k, gI T 1345 0 k) = _
    rw [(c2 k hk).1, (c2 k hk).2, (hR.2 k hk).1, (hR.2 k hk).2]
theorem tOwn_n {x y k : Nat} (hx : x = 8 ∨ x = 902 ∨ x = 903 ∨ x = 11 ∨ x = 1306 ∨ x = 1357) : ¬ tOwn x y k := by
  unfold tOwn tRef
  rcases hx with rfl | rfl | rfl | rfl | rfl | rfl <;> simp [tRs, tRq, tNb, tNx, tAT, tPa]
theorem tOwn_58 : ¬ tOwn 12 0 58 := by unfold tOwn tRef; simp [tRs, tRq, tNb, tNx, tAT, tPa]
theorem tSu_n {x y k : Nat} (hx : x = 8 ∧ y ≠ 12 ∨ x = 902 ∧ y ≠ 12 ∨ x = 903 ∧ y ≠ 12 ∨ x = 11 ∧ k ≠ 1 ∨ x = 12 ∨ 1300 ≤ x ∧ x < 1400 ∨ x = 9 ∨ x = 1003 ∨ x = 1002) : ¬ tSu x y k := by
  unfold tSu tTm tTy
  simp [tTr, tCa, tSk, tBg]
  omega
/-- all that a reading of a sum may touch -/
def tRd (a b k : Nat) : Prop := tMd a b k ∨ tSu a b k ∨ tKp a b k ∨ tOwn a b k ∨ tKs a b k
theorem tls_12 {S S1 : zS} (hT : TLs S) (f : Fg tSu S S1) (h12 : TL S1 12) : TLs S1 := hT.fg f fun j hj => by
  by_cases h : j = 12
  · subst h; exact Or.inr h12
  · exact Or.inl fun k => ⟨tSu_n (by omega), tSu_n (by omega), tSu_n (by omega)⟩
theorem sm_read {W : zWd} (hW : Wok W) {n : Nat} {acc : List zT} {ts : List zTk} (hk : Tks ts) (hl : Lk ts) (hlen : ts.length ≤ 901) (h : sumA (wn W) (we W) (wA W) (wP W) ts = Sum.inr (n, acc)) (hacc : ∀ p, p ∈ acc → Tr (wA W) (we W) n p.1 ∧ p.2 < wP W) : Sm W n (cl (adds (wP W) 1 [] acc)) := by
  obtain ⟨ts', q, _⟩ := sumA_r h
  have l1 := len_if ts ((hdT ts).1 = 45)
  obtain ⟨c1, c2, c3, c4, c5, c6, c7, c8⟩ := termsP_tks hW.2.1 _ _ _ _ _ _ _ (tks_if hk ((hdT ts).1 = 45)) (lk_if hl ((hdT ts).1 = 45)) q
  rw [List.length_nil] at c6
  have c6 : acc.length ≤ 0 + (if (hdT ts).1 = 45 then adv ts else ts).length := c6
  have c4 : 1 ≤ n := c4
  have c5 : n ≤ 7 := c5
  refine sm_puts hW c4 c5 (uok_mk hW n (acc.map Prod.fst) (by rw [List.length_map]; omega)) ce_nil.1 (fun p hp => absurd hp List.not_mem_nil) (fun p hp => (hacc p hp).1) (fun p hp => List.mem_append.mpr (Or.inr (List.mem_map.mpr ⟨p, hp, rfl⟩)))

set_option maxRecDepth 100000 in
theorem cm_sum_x {S : zS} (hs : Sd S) {W : zWd} {cc : Nat} (hcc : gI S 11 0 3 = nI cc) (hc4 : cc < 4) (hW : Wok W) (hC : wqC W (fun a k => gI S a cc k) (fun a k => gJ S a cc k)) {h q : Nat} (hP : Pst sq S W h q) (hA : SR sq S W 0 1306 1173) (hT : TLs S) {bs : List Nat} (hTp : TapeR S bs) {x : zEr} (qa : sumA (wn W) (we W) (wA W) (wP W) (lexA bs 400 0) = Sum.inl x) : Ok mX11_sum 0 (ent 1 [zr 11 0]) [] S (fun r S1 => r = some (zi (-1 - nI x.2)) ∧ Fg tSu S S1 ∧ gI S1 11 0 1 = nI 0 ∧ Fl S1 x ∧ TL S1 12) := by
  show Ok mX11_sum 0 [some (zr 11 0)] [] S _
  refine r_aload_n (q := 1) dX11_sum_0 rfl rfl rfl ?_
  refine r_callV (Mc := mX11_readSumHere) (q := 4) (As := []) (st := []) ck11 dX11_sum_1 rfl rfl mkX11_readSumHere wt721 wt723 wp22 rfl (Nat.le_of_ble_eq_true rfl) (Nat.le_of_ble_eq_true rfl) (by decide) (by decide) (by decide) (Or.inr ⟨Nat.le_of_ble_eq_true rfl, rfl, rfl⟩) (hs.e (by decide)) (ok_readSumHere hs hcc hc4 hW hC hTp.1 hTp.2.1 hTp.2.2.2.1 (hT 12 (by omega))) (fun r1 S1 hp1 => ?_)
  rw [qa] at hp1
  obtain ⟨rfl, y1, y2, y3, y4⟩ := hp1
  show Ok _ _ _ [zi (nI 0)] _ _
  refine r_if_neN (q := 7) (t := 17) (by omega) dX11_sum_4 (by decide) rfl (fun h4 => absurd h4 (by omega)) (fun h4 => ?_)
  refine r_iconst (q := 8) ((-1 : Int32)) dX11_sum_7 rfl (by decide) ?_
  refine r_aload_n (q := 9) dX11_sum_8 rfl rfl rfl ?_
  refine r_getr (q := 12) (some (4, 0)) ck11 dX11_sum_9 rfl (k := 14) (by decide) wt436 rfl (y1.sd.e (by decide)) (y1.sd.r (by decide) (by decide)) ?_
  refine r_geti (q := 15) ck4 dX11_sum_12 rfl (k := 15) (by decide) wt139 (Or.inl rfl) (y1.sd.e (by decide)) ?_
  refine r_topi (y := nI x.2) y3.2 ?_
  refine r_isub (q := 16) dX11_sum_15 rfl ?_
  refine r_ireturn dX11_sum_16 rfl ?_
  exact ⟨rfl, y1, y2, y3, y4⟩

set_option maxRecDepth 100000 in
theorem cm_sum_r {S : zS} (hs : Sd S) {W : zWd} {cc : Nat} (hcc : gI S 11 0 3 = nI cc) (hc4 : cc < 4) (hW : Wok W) (hC : wqC W (fun a k => gI S a cc k) (fun a k => gJ S a cc k)) {h q : Nat} (hP : Pst sq S W h q) (hA : SR sq S W 0 1306 1173) (hT : TLs S) {bs : List Nat} (hTp : TapeR S bs) {n : Nat} {acc : List zT} (qa : sumA (wn W) (we W) (wA W) (wP W) (lexA bs 400 0) = Sum.inr (n, acc)) : Ok mX11_sum 0 (ent 1 [zr 11 0]) [] S (fun r S3 => r = some (zi (nI (cl (adds (wP W) 1 [] acc)).length)) ∧ Fg (fun a b k => (tMd a b k ∨ tSu a b k) ∨ tKp a b k) S S3 ∧ gI S3 11 0 1 = nI 0 ∧ gI S3 4 0 14 = nI 0 ∧ ∀ T, Fg tOwn S3 T → Rz T (cl (adds (wP W) 1 [] acc)) → gI T 12 0 48 = nI n → Ok mX12_keepSum 0 (ent 2 [zr 12 0]) [] T (fun r S4 => r = some (zi (nI (cl (adds (wP W) 1 [] acc)).length)) ∧ Fg tKs T S4 ∧ SR sq S4 W 0 1306 1173 ∧ Pst sq S4 W (min 8 (h + 1)) ((q + 1) % 8) ∧ TLs S4)) := by
  show Ok mX11_sum 0 [some (zr 11 0)] [] S _
  refine r_aload_n (q := 1) dX11_sum_0 rfl rfl rfl ?_
  refine r_callV (Mc := mX11_readSumHere) (q := 4) (As := []) (st := []) ck11 dX11_sum_1 rfl rfl mkX11_readSumHere wt721 wt723 wp22 rfl (Nat.le_of_ble_eq_true rfl) (Nat.le_of_ble_eq_true rfl) (by decide) (by decide) (by decide) (Or.inr ⟨Nat.le_of_ble_eq_true rfl, rfl, rfl⟩) (hs.e (by decide)) (ok_readSumHere hs hcc hc4 hW hC hTp.1 hTp.2.1 hTp.2.2.2.1 (hT 12 (by omega))) (fun r1 S1 hp1 => ?_)
  rw [qa] at hp1
  obtain ⟨rfl, y1, y2, y3, y4⟩ := hp1
  show Ok _ _ _ [zi (nI 1)] _ _
  refine r_if_neN (q := 7) (t := 17) (by omega) dX11_sum_4 (by decide) rfl (fun h4 => ?_) (fun h4 => absurd h4 (by omega))
  have hTL1 : TLs S1 := tls_12 hT y1 y4.2.1.tl
  have hSm : Sm W n (cl (adds (wP W) 1 [] acc)) := sm_read hW (lex_tks hTp.2.2.2.1.2 hTp.1) (lex_lk _ _) (lex_len (by omega)) qa y4.2.2
  obtain ⟨m, e9, m1, m2, m3, m4, m5, m6⟩ := hTL1 11 (by omega)
  obtain ⟨t1, t2, o, o1, o2, o3, o4, o5⟩ := id y4.2.1
  refine r_aload_n (q := 18) dX11_sum_17 rfl rfl rfl ?_
  refine r_getr (q := 21) (some (8, 11)) ck11 dX11_sum_18 rfl (k := 12) (by decide) wt434 rfl (y1.sd.e (by decide)) (y1.sd.r (by decide) (by decide)) ?_
  refine r_aload_n (q := 22) dX11_sum_21 rfl rfl rfl ?_
  refine r_getr (q := 25) (some (4, 0)) ck11 dX11_sum_22 rfl (k := 14) (by decide) wt436 rfl (y1.sd.e (by decide)) (y1.sd.r (by decide) (by decide)) ?_
  refine r_getr (q := 28) (some (8, 12)) ck4 dX11_sum_25 rfl (k := 13) (by decide) wt135 rfl (y1.sd.e (by decide)) (y1.sd.r (by decide) (by decide)) ?_
  refine r_callV (Mc := mX8_copy) (q := 31) (As := [zr 8 12]) (st := []) ck8 dX11_sum_28 rfl rfl mkX8_copy wt707 wt708 wt709 rfl (Nat.le_of_ble_eq_true rfl) (Nat.le_of_ble_eq_true rfl) (by decide) (by decide) (by decide) (Or.inr ⟨Nat.le_of_ble_eq_true rfl, rfl, rfl⟩) (y1.sd.e (by decide)) (ok_X8_copy y1.sd (show 11 < 19 by omega) m1 m2 (by omega) m4 hSm.len (show 12 < 19 by omega) (by omega) y4.2.1.1 o1 o2 o5 o4) (fun r28 S28 hp28 => ?_)
  obtain ⟨rfl, hq28⟩ := hp28
  rw [hq28]
  have ft : Fg tMd S1 (tcp S1 11 12 (cl (adds (wP W) 1 [] acc)).length m) := Fg.tcp y1.sd (by omega) m1 m2 (by omega) m4 hSm.len (fun k => ⟨fun _ => by unfold tMd; omega, by unfold tMd; omega, by unfold tMd; omega⟩)
  have hty : Ty (tcp S1 11 12 (cl (adds (wP W) 1 [] acc)).length m) 11 (cl (adds (wP W) 1 [] acc)) := ty_copy (by omega) y4.2.1 m1 m2 m3 m4 hSm.len
  have fk : Fg (fun a b k => tMd a b k ∨ tSu a b k) S (tcp S1 11 12 (cl (adds (wP W) 1 [] acc)).length m) := (y1.mono fun _ _ _ z => Or.inr z).tr (ft.mono fun _ _ _ z => Or.inl z)
  have hTL2 : TLs (tcp S1 11 12 (cl (adds (wP W) 1 [] acc)).length m) := tls_md hTL1 ft (fun j k h1 h2 => by unfold tMd; omega) hty
  show Ok _ _ _ [] _ _
  refine r_aload_n (q := 32) dX11_sum_31 rfl rfl rfl ?_
  refine r_callV (Mc := mX11_keepMade) (q := 35) (As := []) (st := []) ck11 dX11_sum_32 rfl rfl mkX11_keepMade wt703 wt705 wp21 rfl (Nat.le_of_ble_eq_true rfl) (Nat.le_of_ble_eq_true rfl) (by decide) (by decide) (by decide) (Or.inr ⟨Nat.le_of_ble_eq_true rfl, rfl, rfl⟩) (ft.sd.e (by decide)) (keep3 (T1 := tOwn) hP hA fk (fun j k h1 h2 => ⟨fun hk => fun z => z.elim (fun y => by unfold tMd at y; omega) (tSu_n (by omega)), fun z => z.elim (fun y => by unfold tMd at y; omega) (tSu_n (by omega)), fun z => z.elim (fun y => by unfold tMd at y; omega) (tSu_n (by omega))⟩) ⟨fun z => z.elim (fun y => by unfold tMd at y; omega) (tSu_n (by omega)), fun z => z.elim (fun y => by unfold tMd at y; omega) (tSu_n (by omega)), fun z => z.elim (fun y => by unfold tMd at y; omega) (tSu_n (by omega))⟩ (fun k => ⟨fun hk => fun z => z.elim (fun y => by unfold tMd at y; omega) (tSu_n (by omega)), fun z => z.elim (fun y => by unfold tMd at y; omega) (tSu_n (by omega))⟩) hTL2 (fun x y k hx => tOwn_n hx) tOwn_58 hty (by rw [tcp_0]; exact y4.1) hSm) (fun r32 S32 hp32 => ?_)
  obtain ⟨rfl, k32, kk32⟩ := hp32
  show Ok _ _ _ [zi (nI ((cl (adds (wP W) 1 [] acc)).length))] _ _
  refine r_ireturn dX11_sum_35 rfl ?_
  exact ⟨rfl, (fk.mono fun _ _ _ z => Or.inl z).tr (k32.mono fun _ _ _ z => Or.inr z), (k32.I (by omega) (by unfold tKp; omega)).trans ((ft.I (by omega) (by unfold tMd; omega)).trans y2), (k32.I (by omega) (by unfold tKp; omega)).trans ((ft.I (by omega) (by unfold tMd; omega)).trans y3), kk32⟩

set_option maxRecDepth 100000 in
theorem rm_sum_x {S : zS} (hs : Sd S) {W : zWd} (hO : Cw S) (hW : Wok W) (hR : wqR W (fun k => gI S 1306 0 k) (fun i => gJ S 1308 0 i)) {bs : List Nat} (hbl : bs.length ≤ 940) (h2 : gI S 12 0 2 = nI bs.length) (hb : Bs S 1301 bs) {x : zEr} (qa : sumA (wn W) (we W) (wA W) (wP W) (lexA bs 400 0) = Sum.inl x) : Ok mX12_sum 0 (ent 1 [zr 12 0]) [] S (fun r S1 => r = some (zi (-1 - nI x.2)) ∧ Fg tOwn S S1 ∧ Fq S1 x ∧ gI S1 12 0 2 = nI 0 ∧ OwS S S1) := by
  show Ok mX12_sum 0 [some (zr 12 0)] [] S _
  refine r_aload_n (q := 1) dX12_sum_0 rfl rfl rfl ?_
  refine r_iconst (q := 2) (nI 0) dX12_sum_1 rfl (by decide) ?_
  refine r_puti (q := 5) ck12 dX12_sum_2 rfl (k := 0) (by decide) wt1278 (Or.inl rfl) rfl (hs.e (by decide)) ?_
  refine r_aload_n (q := 6) dX12_sum_5 rfl rfl rfl ?_
  refine r_callV (Mc := mX12_readOwn) (q := 9) (As := []) (st := []) ck12 dX12_sum_6 rfl rfl mkX12_readOwn wt1722 wt1724 wp96 rfl (Nat.le_of_ble_eq_true rfl) (Nat.le_of_ble_eq_true rfl) (by decide) (by decide) (by decide) (Or.inl rfl) (hs.e (by decide)) (ok_readOwn (S := sI S 12 0 0 (nI 0)) hs (fun z k hk h3 => hO z k hk h3) hW hR hbl h2 hb) (fun r6 S6 hp6 => ?_)
  rw [qa] at hp6
  obtain ⟨rfl, y1, y2, y3, y4⟩ := hp6
  have gF : Fg tOwn S S6 := (Fg.of22 (S1 := sI S 12 0 0 (nI 0)) hs rfl (fun a b k _ hz => by rw [gI_sI, if_neg (fun z => hz (Or.inl (by unfold tRef; omega)))]) (fun _ _ _ _ _ => rfl)).tr y1
  have gO : OwS S S6 := y4.imp (fun z => ⟨z.1, z.2.1, fun k hk => z.2.2.1 k hk, z.2.2.2⟩) (fun z => ⟨z.1, z.2.1, z.2.2.1, fun k hk => z.2.2.2 k hk⟩)
  show Ok _ _ _ [zi (nI 0)] _ _
  refine r_if_eqN (q := 12) (t := 19) (by omega) dX12_sum_9 (by decide) rfl (fun h9 => ?_) (fun h9 => absurd h9 (by omega))
  refine r_iconst (q := 20) ((-1 : Int32)) dX12_sum_19 rfl (by decide) ?_
  refine r_aload_n (q := 21) dX12_sum_20 rfl rfl rfl ?_
  refine r_geti (q := 24) ck12 dX12_sum_21 rfl (k := 14) (by decide) wt1292 (Or.inl rfl) (y1.sd.e (by decide)) ?_
  refine r_topi (y := nI x.2) y2.2 ?_
  refine r_isub (q := 25) dX12_sum_24 rfl ?_
  refine r_ireturn dX12_sum_25 rfl ?_
  exact ⟨rfl, gF, y2, y3, gO⟩

set_option maxRecDepth 100000 in
theorem rm_sum_r {S : zS} (hs : Sd S) {W : zWd} (hO : Cw S) (hW : Wok W) (hR : wqR W (fun k => gI S 1306 0 k) (fun i => gJ S 1308 0 i)) {bs : List Nat} (hbl : bs.length ≤ 940) (h2 : gI S 12 0 2 = nI bs.length) (hb : Bs S 1301 bs) {Po : Option zV → zS → Prop} {n : Nat} {acc : List zT} (qa : sumA (wn W) (we W) (wA W) (wP W) (lexA bs 400 0) = Sum.inr (n, acc)) (Kp : ∀ T, Fg tOwn S T → Rz T (cl (adds (wP W) 1 [] acc)) → gI T 12 0 48 = nI n → gI T 12 0 13 = nI 0 → gI T 12 0 2 = nI 0 → OwS S T → Ok mX12_keepSum 0 (ent 2 [zr 12 0]) [] T (fun r S4 => r = some (zi (nI (cl (adds (wP W) 1 [] acc)).length)) ∧ Po (some (zi (nI (cl (adds (wP W) 1 [] acc)).length))) S4)) : Ok mX12_sum 0 (ent 1 [zr 12 0]) [] S Po := by
  show Ok mX12_sum 0 [some (zr 12 0)] [] S _
  refine r_aload_n (q := 1) dX12_sum_0 rfl rfl rfl ?_
  refine r_iconst (q := 2) (nI 0) dX12_sum_1 rfl (by decide) ?_
  refine r_puti (q := 5) ck12 dX12_sum_2 rfl (k := 0) (by decide) wt1278 (Or.inl rfl) rfl (hs.e (by decide)) ?_
  refine r_aload_n (q := 6) dX12_sum_5 rfl rfl rfl ?_
  refine r_callV (Mc := mX12_readOwn) (q := 9) (As := []) (st := []) ck12 dX12_sum_6 rfl rfl mkX12_readOwn wt1722 wt1724 wp96 rfl (Nat.le_of_ble_eq_true rfl) (Nat.le_of_ble_eq_true rfl) (by decide) (by decide) (by decide) (Or.inl rfl) (hs.e (by decide)) (ok_readOwn (S := sI S 12 0 0 (nI 0)) hs (fun z k hk h3 => hO z k hk h3) hW hR hbl h2 hb) (fun r6 S6 hp6 => ?_)
  rw [qa] at hp6
  obtain ⟨rfl, y1, y2, y3, y4, y5, y6⟩ := hp6
  have gF : Fg tOwn S S6 := (Fg.of22 (S1 := sI S 12 0 0 (nI 0)) hs rfl (fun a b k _ hz => by rw [gI_sI, if_neg (fun z => hz (Or.inl (by unfold tRef; omega)))]) (fun _ _ _ _ _ => rfl)).tr y1
  have gO : OwS S S6 := y4.imp (fun z => ⟨z.1, z.2.1, fun k hk => z.2.2.1 k hk, z.2.2.2⟩) (fun z => ⟨z.1, z.2.1, z.2.2.1, fun k hk => z.2.2.2 k hk⟩)
  show Ok _ _ _ [zi (nI 1)] _ _
  refine r_if_eqN (q := 12) (t := 19) (by omega) dX12_sum_9 (by decide) rfl (fun h9 => absurd h9 (by omega)) (fun h9 => ?_)
  refine r_aload_n (q := 13) dX12_sum_12 rfl rfl rfl ?_
  refine r_callV (Mc := mX12_keepSum) (q := 16) (As := []) (st := []) ck12 dX12_sum_13 rfl rfl mkX12_keepSum wt1710 wt1712 wp94 rfl (Nat.le_of_ble_eq_true rfl) (Nat.le_of_ble_eq_true rfl) (by decide) (by decide) (by decide) (Or.inl rfl) (y1.sd.e (by decide)) (Kp S6 gF y6 y5 y2 y3 gO) (fun r13 S13 hp13 => ?_)
  obtain ⟨rfl, kk⟩ := hp13
  show Ok _ _ _ [zi (nI ((cl (adds (wP W) 1 [] acc)).length))] _ _
  refine r_goto (q := 25) dX12_sum_16 (by decide) ?_
  refine r_ireturn dX12_sum_25 rfl ?_
  exact kk

theorem tOwn_4 {x y k : Nat} (hx : x = 4 ∨ x = 11 ∨ x = 8 ∨ x = 902 ∨ x = 903 ∨ x = 1306 ∨ x = 1357 ∨ x = 9 ∨ x = 1003) : ¬ tOwn x y k := by
  unfold tOwn tRef
  rcases hx with rfl | rfl | rfl | rfl | rfl | rfl | rfl | rfl | rfl <;> simp [tRs, tRq, tNb, tNx, tAT, tPa]
/-- a call that read a sum: the tape is empty, faults are alike, the reference's own world stands -/
def Read (S S2 : zS) : Prop := Fg tRd S S2 ∧ TapeR S2 [] ∧ gI S2 4 0 14 = gI S2 12 0 13 ∧ OwS S S2 ∧ Cw S2 ∧ TLs S2
theorem read_x {S S1 S2 : zS} {x : zEr} (hT : TLs S) (hO : Cw S) (z1 : Fg tSu S S1) (z2 : gI S1 11 0 1 = nI 0) (z3 : Fl S1 x) (z4 : TL S1 12) (y1 : Fg tOwn S1 S2) (y2 : Fq S2 x) (y3 : gI S2 12 0 2 = nI 0) (y4 : OwS S1 S2) : Read S S2 := by
  have f : Fg tRd S S2 := (z1.mono fun _ _ _ z => Or.inr (Or.inl z)).tr (y1.mono fun _ _ _ z => Or.inr (Or.inr (Or.inr (Or.inl z))))
  have o : OwS S S2 := y4.pre z1 (fun k => ⟨tSu_n (by omega), tSu_n (by omega), tSu_n (by omega), fun _ => tSu_n (by omega)⟩)
  have t1 : TLs S1 := tls_12 hT z1 z4
  refine ⟨f, ⟨by simp, (y1.I (by omega) (tOwn_4 (by omega))).trans z2, y3, ⟨fun k hk => absurd hk (by simp), fun c hc => absurd hc List.not_mem_nil⟩, ⟨fun k hk => absurd hk (by simp), fun c hc => absurd hc List.not_mem_nil⟩⟩, ?_, o, o.cw hO (fun k hk => (y1.I (by omega) (tOwn_4 (by omega))).trans (z1.I (by omega) (tSu_n (by omega)))), t1.fg y1 fun j hj => Or.inl fun k => ⟨tOwn_4 (by omega), tOwn_4 (by omega), tOwn_4 (by omega)⟩⟩
  rw [y1.I (by omega) (tOwn_4 (by omega)), z3.1, y2.1]

theorem pg_sum {S : zS} (hs : Sd S) {W : zWd} {cc : Nat} (hcc : gI S 11 0 3 = nI cc) (hc4 : cc < 4) (hw : WR wq S W cc 1306 0 1308 0) {h q : Nat} (hP : Pst sq S W h q) (hA : SR sq S W 0 1306 1173) (hT : TLs S) (hO : Cw S) {bs : List Nat} (hTp : TapeR S bs) : Pg mX11_sum 1 [zr 11 0] mX12_sum 1 [zr 12 0] S (fun S2 => Read S S2 ∧ SR sq S2 W 0 1306 1173 ∧ ∃ h' q', Pst sq S2 W h' q') := by
  obtain ⟨hW, hC, hR⟩ := hw.c
  cases qa : sumA (wn W) (we W) (wA W) (wP W) (lexA bs 400 0) with
  | inl x =>
    refine Ok.mono (cm_sum_x hs hcc hc4 hW hC hP hA hT hTp qa) fun r S1 z => ⟨_, z.1, z.2.1.sd, ?_⟩
    have hR1 : wqR W (fun k => gI S1 1306 0 k) (fun i => gJ S1 1308 0 i) := hR.cong hW (fun k _ _ => (z.2.1.I (by omega) (tSu_n (by omega))).symm) (fun i _ => (z.2.1.J (by omega) (tSu_n (by omega))).symm)
    have hO1 : Cw S1 := fun y k hk h3 => by
      rw [z.2.1.I (by omega) (tSu_n (by omega)), z.2.1.I (by omega) (tSu_n (by omega))]
      exact hO ((z.2.1.I (by omega) (tSu_n (by omega))).symm.trans y) k hk h3
    have hb1 : Bs S1 1301 bs := ⟨fun k hk => (z.2.1.I (by omega) (tSu_n (by omega))).trans (hTp.2.2.2.2.1 k hk), hTp.2.2.2.2.2⟩
    refine Ok.mono (rm_sum_x z.2.1.sd hO1 hW hR1 hTp.1 ((z.2.1.I (by omega) (tSu_n (by omega))).trans hTp.2.2.1) hb1 qa) fun r2 S2 y => ⟨y.1, read_x hT hO z.2.1 z.2.2.1 z.2.2.2.1 z.2.2.2.2 y.2.1 y.2.2.1 y.2.2.2.1 y.2.2.2.2, ?_, h, q, ?_⟩
    · have a1 : SR sq S1 W 0 1306 1173 := hA.fg lo_sq z.2.1 (by omega) (fun k hk => tSu_n (by omega)) (fun k => ⟨tSu_n (by omega), tSu_n (by omega)⟩) (fun k _ _ => tSu_n (by omega))
      exact a1.fg lo_sq y.2.1 (by omega) (fun k hk => tOwn_4 (by omega)) (fun k => ⟨tOwn_4 (by omega), tOwn_4 (by omega)⟩) (fun k _ _ => tOwn_4 (by omega))
    · have a1 : Pst sq S1 W h q := hP.fg lo_sq z.2.1 ⟨tSu_n (by omega), tSu_n (by omega), tSu_n (by omega)⟩ (fun j k _ _ => ⟨fun _ => tSu_n (by omega), tSu_n (by omega), tSu_n (by omega)⟩) (fun k => tSu_n (by omega))
      exact a1.fg lo_sq y.2.1 ⟨tOwn_4 (by omega), tOwn_4 (by omega), tOwn_58⟩ (fun j k _ _ => ⟨fun _ => tOwn_4 (by omega), tOwn_4 (by omega), tOwn_4 (by omega)⟩) (fun k => tOwn_4 (by omega))
  | inr x =>
    obtain ⟨n, acc⟩ := x
    refine Ok.mono (cm_sum_r hs hcc hc4 hW hC hP hA hT hTp qa) fun r S3 z => ⟨_, z.1, z.2.1.sd, ?_⟩
    have tn : ∀ x y k, x = 12 ∨ 1300 ≤ x ∧ x < 1400 → ¬ ((tMd x y k ∨ tSu x y k) ∨ tKp x y k) := fun x y k hx hz => by
      rcases hz with (hz | hz) | hz
      · unfold tMd at hz; omega
      · exact tSu_n (by omega) hz
      · unfold tKp at hz; omega
    have hR1 : wqR W (fun k => gI S3 1306 0 k) (fun i => gJ S3 1308 0 i) := hR.cong hW (fun k _ _ => (z.2.1.I (by omega) (tn _ _ _ (by omega))).symm) (fun i _ => (z.2.1.J (by omega) (tn _ _ _ (by omega))).symm)
    have hO1 : Cw S3 := fun y k hk h3 => by
      rw [z.2.1.I (by omega) (tn _ _ _ (by omega)), z.2.1.I (by omega) (tn _ _ _ (by omega))]
      exact hO ((z.2.1.I (by omega) (tn _ _ _ (by omega))).symm.trans y) k hk h3
    have hb1 : Bs S3 1301 bs := ⟨fun k hk => (z.2.1.I (by omega) (tn _ _ _ (by omega))).trans (hTp.2.2.2.2.1 k hk), hTp.2.2.2.2.2⟩
    refine rm_sum_r z.2.1.sd hO1 hW hR1 hTp.1 ((z.2.1.I (by omega) (tn _ _ _ (by omega))).trans hTp.2.2.1) hb1 qa (fun T f3 g1 g2 g3 g4 g5 => Ok.mono (z.2.2.2.2 T f3 g1 g2) fun r S4 y4 => ⟨y4.1, rfl, ⟨?_, ?_, ?_, ?_, ?_, y4.2.2.2.2⟩, y4.2.2.1, _, _, y4.2.2.2.1⟩)
    · exact ((z.2.1.mono fun _ _ _ w => w.elim (fun w => w.elim (fun w => Or.inl w) (fun w => Or.inr (Or.inl w))) (fun w => Or.inr (Or.inr (Or.inl w)))).tr (f3.mono fun _ _ _ w => Or.inr (Or.inr (Or.inr (Or.inl w))))).tr (y4.2.1.mono fun _ _ _ w => Or.inr (Or.inr (Or.inr (Or.inr w))))
    · exact ⟨by simp, (y4.2.1.I (by omega) (by unfold tKs; omega)).trans ((f3.I (by omega) (tOwn_4 (by omega))).trans z.2.2.1), (y4.2.1.I (by omega) (by unfold tKs; omega)).trans g4, ⟨fun k hk => absurd hk (by simp), fun c hc => absurd hc List.not_mem_nil⟩, ⟨fun k hk => absurd hk (by simp), fun c hc => absurd hc List.not_mem_nil⟩⟩
    · rw [y4.2.1.I (by omega) (by unfold tKs; omega), y4.2.1.I (by omega) (by unfold tKs; omega), f3.I (by omega) (tOwn_4 (by omega)), z.2.2.2.1, g3]
    · exact (g5.pre z.2.1 (fun k => ⟨tn _ _ _ (by omega), tn _ _ _ (by omega), tn _ _ _ (by omega), fun _ => tn _ _ _ (by omega)⟩)).post y4.2.1 (fun k => by unfold tKs; omega)
    · have o : OwS S S4 := (g5.pre z.2.1 (fun k => ⟨tn _ _ _ (by omega), tn _ _ _ (by omega), tn _ _ _ (by omega), fun _ => tn _ _ _ (by omega)⟩)).post y4.2.1 (fun k => by unfold tKs; omega)
      exact o.cw hO (fun k hk => (y4.2.1.I (by omega) (by unfold tKs; omega)).trans ((f3.I (by omega) (tOwn_4 (by omega))).trans (z.2.1.I (by omega) (tn _ _ _ (by omega)))))

