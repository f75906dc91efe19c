/-! actMapped, whole -/

set_option maxRecDepth 100000 in
theorem lp_am90 {Wk : zWd} (hK : Wok Wk) {a e n : Nat} {Lo : List zV2} (hL7 : Lo.length ≤ 7) (he2 : 2 ≤ e) (he4 : e ≤ 4) (heL : e ≤ Lo.length) (ha3 : a < 3) (hn : ((lvl Lo).take e).sum = n) (hn7 : n ≤ 7) {N : Nat} (hN7 : N ≤ 7) (hnN : n ≤ N) (hlN : ∀ k, k < Lo.length → (Lo.getD k zv0).1 ≤ N) (hn1 : 1 ≤ n) {Ss : List zL} (hSs : SvR Wk Lo Ss) {c : List zT} (hc : ∀ p, p ∈ c → Tr (wA Wk) (we Wk) e p.1 ∧ p.2 < wP Wk) (hc57 : c.length ≤ 64) {Po : Option zV → zS → Prop} : ∀ (d t : Nat) (S : zS) (mv : Nat → Nat), t + d = c.length → Sd S → WS S Wk 1 → LVS S Wk N → Stk S Wk 1373 1374 Lo → gI S 12 0 80 = nI Lo.length → gI S 1372 0 a = nI c.length → (∀ k, k < c.length → gI S 1370 0 (64 * a + k) = nI (cd (c.getD k zd).1) ∧ gI S 1371 0 (64 * a + k) = nI (c.getD k zd).2) → (∀ j, j < (tl Wk n).length → gI S 1383 0 j = nI (mv j) ∧ mv j < wP Wk) → AccV (wP Wk) (tl Wk n) mv (bd (fun v => (ins (we Wk) v (Ss.take e)).headD []) (lz (c.take t))) → (∀ S1 mv1, Fr tAm S S1 → Stk S1 Wk 1373 1374 Lo → gI S1 12 0 80 = nI Lo.length → (∀ j, j < (tl Wk n).length → gI S1 1383 0 j = nI (mv1 j) ∧ mv1 j < wP Wk) → AccV (wP Wk) (tl Wk n) mv1 (bd (fun v => (ins (we Wk) v (Ss.take e)).headD []) (lz c)) → (∀ k, gI S1 1373 0 k = gI S 1373 0 k) → (∀ k, gI S1 1374 0 k = gI S 1374 0 k) → Ok mX12_actMapped 338 [some (zr 12 0), some (zi (nI a)), some (zi (nI e)), some (zi (nI (wP Wk))), some (zi (nI n)), some (zi (nI c.length)), none, none, none, none] [] S1 Po) → Ok mX12_actMapped 90 [some (zr 12 0), some (zi (nI a)), some (zi (nI e)), some (zi (nI (wP Wk))), some (zi (nI n)), some (zi (nI t)), none, none, none, none] [] S Po := by
  intro d
  have hE := hK.2.1
  have hP2 := hK.1.1
  have hP97 := hK.1.2.1
  have hslt : (Ss.take e).length = e := by rw [List.length_take, hSs.len]; omega
  induction d with
  | zero =>
    intro t S mv ht hs hws hlv hst h80 h72 hrw hmv hacc K
    obtain rfl : t = c.length := by omega
    refine r_iload (q := 92) dX12_actMapped_90 rfl rfl ?_
    refine r_aload_n (q := 93) dX12_actMapped_92 rfl rfl rfl ?_
    refine r_getr (q := 96) (some (1372, 0)) ck12 dX12_actMapped_93 rfl (k := 72) (by decide) wt1350 rfl (hs.e (by decide)) (hs.r (by decide) (by decide)) ?_
    refine r_iload_n (q := 97) dX12_actMapped_96 rfl rfl rfl ?_
    refine r_ialdN (q := 98) 3 (by decide) rfl dX12_actMapped_97 rfl (hs.e (by decide)) (hs.n rfl (by decide)) (by omega) (by decide) ?_
    refine r_topi (y := nI c.length) h72 ?_
    refine r_icmp_geN (q := 101) (t := 338) (by omega) (by omega) dX12_actMapped_98 (by decide) rfl (fun h98 => ?_) (fun h98 => absurd h98 (by omega))
    rw [List.take_length] at hacc
    exact K S mv Fr.rf hst h80 hmv hacc (fun _ => rfl) (fun _ => rfl)
  | succ d ih =>
    intro t S mv ht hs hws hlv hst h80 h72 hrw hmv hacc K
    have htc : t < c.length := by omega
    obtain ⟨r1, r2⟩ := hrw t htc
    obtain ⟨hv, hx⟩ := hc _ (mem_getD htc)
    have hvl := hv.len hE
    obtain ⟨⟨l1, l2, l3, l4⟩, l5, l6⟩ := hlv n hn1 hnN
    have l2 : gI S 1324 0 (8 + n) = nI (tl Wk n).length := l2
    refine r_iload (q := 92) dX12_actMapped_90 rfl rfl ?_
    refine r_aload_n (q := 93) dX12_actMapped_92 rfl rfl rfl ?_
    refine r_getr (q := 96) (some (1372, 0)) ck12 dX12_actMapped_93 rfl (k := 72) (by decide) wt1350 rfl (hs.e (by decide)) (hs.r (by decide) (by decide)) ?_
    refine r_iload_n (q := 97) dX12_actMapped_96 rfl rfl rfl ?_
    refine r_ialdN (q := 98) 3 (by decide) rfl dX12_actMapped_97 rfl (hs.e (by decide)) (hs.n rfl (by decide)) (by omega) (by decide) ?_
    refine r_topi (y := nI c.length) h72 ?_
    refine r_icmp_geN (q := 101) (t := 338) (by omega) (by omega) dX12_actMapped_98 (by decide) rfl (fun h98 => absurd h98 (by omega)) (fun h98 => ?_)
    refine r_aload_n (q := 102) dX12_actMapped_101 rfl rfl rfl ?_
    refine r_aload_n (q := 103) dX12_actMapped_102 rfl rfl rfl ?_
    refine r_getr (q := 106) (some (1370, 0)) ck12 dX12_actMapped_103 rfl (k := 70) (by decide) wt1348 rfl (hs.e (by decide)) (hs.r (by decide) (by decide)) ?_
    refine r_bipush (q := 108) (nI 64) dX12_actMapped_106 rfl (by decide) ?_
    refine r_iload_n (q := 109) dX12_actMapped_108 rfl rfl rfl ?_
    refine r_imulN (q := 110) dX12_actMapped_109 rfl ?_
    refine r_iload (q := 112) dX12_actMapped_110 rfl rfl ?_
    refine r_iaddN (q := 113) dX12_actMapped_112 rfl ?_
    refine r_ialdN (q := 114) 192 (by decide) rfl dX12_actMapped_113 rfl (hs.e (by decide)) (hs.n rfl (by decide)) (by omega) (by decide) ?_
    refine r_topi (y := nI (cd (c.getD t zd).1)) r1 ?_
    refine r_callV (Mc := mX12_tokens) (q := 117) (As := [zi (nI (cd (c.getD t zd).1))]) (st := []) ck12 dX12_actMapped_114 rfl rfl mkX12_tokens wt1649 wt1651 wp85 rfl (Nat.le_of_ble_eq_true rfl) (Nat.le_of_ble_eq_true rfl) (by decide) (by decide) (by decide) (Or.inl rfl) (hs.e (by decide)) (ok_X12_tokens hs (hv.tok hE) (by omega)) (fun r114 S114 hp114 => ?_)
    obtain ⟨rfl, hq114⟩ := hp114
    rw [hq114]
    have f0 : Fr tAm S (stR (sI S 12 0 20 (nI (c.getD t zd).1.length)) 1316 0 (c.getD t zd).1) := ⟨fun a b k z => by rw [gI_stR, if_neg (fun y => by rw [y.1, y.2.1] at z; simp [tAm] at z), gI_sI, if_neg (fun y => by rw [y.1, y.2.1, y.2.2] at z; simp [tAm] at z)], fun _ _ _ _ => rfl, rfl⟩
    have hs0 : Sd (stR (sI S 12 0 20 (nI (c.getD t zd).1.length)) 1316 0 (c.getD t zd).1) := hs.fr f0
    have k20 : gI (stR (sI S 12 0 20 (nI (c.getD t zd).1.length)) 1316 0 (c.getD t zd).1) 12 0 20 = nI (c.getD t zd).1.length := by rw [gI_stR_x (by omega), gI_sI, if_pos ⟨rfl, rfl, rfl⟩]
    show Ok _ _ _ [] _ _
    refine r_aload_n (q := 118) dX12_actMapped_117 rfl rfl rfl ?_
    refine r_iconst (q := 119) (nI 0) dX12_actMapped_118 rfl (by decide) ?_
    refine r_puti (q := 122) ck12 dX12_actMapped_119 rfl (k := 81) (by decide) wt1359 (Or.inl rfl) rfl (hs0.e (by decide)) ?_
    refine r_iload_n (q := 123) dX12_actMapped_122 rfl rfl rfl ?_
    refine r_iconst (q := 124) (nI 1) dX12_actMapped_123 rfl (by decide) ?_
    refine r_isub (q := 125) dX12_actMapped_124 rfl ?_
    refine r_istore (q := 127) (L' := [some (zr 12 0), some (zi (nI a)), some (zi (nI e)), some (zi (nI (wP Wk))), some (zi (nI n)), some (zi (nI t)), some (zi ((nI e) - (nI 1))), none, none, none]) dX12_actMapped_125 rfl (by decide) rfl ?_
    refine r_aload_n (q := 128) dX12_actMapped_127 rfl rfl rfl ?_
    refine r_geti (q := 131) ck12 dX12_actMapped_128 rfl (k := 20) (by decide) wt1298 (Or.inl rfl) (hs0.e (by decide)) ?_
    refine r_topi (y := gI (stR (sI S 12 0 20 (nI (c.getD t zd).1.length)) 1316 0 (c.getD t zd).1) 12 0 20) (by simp [gI_sI, gJ_sJ, gI_sJ, gJ_sI]) ?_
    refine r_topi (y := nI ((c.getD t zd).1.length)) k20 ?_
    refine r_iconst (q := 132) (nI 1) dX12_actMapped_131 rfl (by decide) ?_
    refine r_isub (q := 133) dX12_actMapped_132 rfl ?_
    refine r_istore (q := 135) (L' := [some (zr 12 0), some (zi (nI a)), some (zi (nI e)), some (zi (nI (wP Wk))), some (zi (nI n)), some (zi (nI t)), some (zi ((nI e) - (nI 1))), some (zi ((nI ((c.getD t zd).1.length)) - (nI 1))), none, none]) dX12_actMapped_133 rfl (by decide) rfl ?_
    have f1 : Fr tAm (stR (sI S 12 0 20 (nI (c.getD t zd).1.length)) 1316 0 (c.getD t zd).1) (sI (stR (sI S 12 0 20 (nI (c.getD t zd).1.length)) 1316 0 (c.getD t zd).1) 12 0 81 (nI 0)) := Fr.rf.i rfl
    have f01 : Fr tAm S (sI (stR (sI S 12 0 20 (nI (c.getD t zd).1.length)) 1316 0 (c.getD t zd).1) 12 0 81 (nI 0)) := f0.tr f1
    have hs1 : Sd (sI (stR (sI S 12 0 20 (nI (c.getD t zd).1.length)) 1316 0 (c.getD t zd).1) 12 0 81 (nI 0)) := hs0.fr f1
    have hst1 : Stk (sI (stR (sI S 12 0 20 (nI (c.getD t zd).1.length)) 1316 0 (c.getD t zd).1) 12 0 81 (nI 0)) Wk 1373 1374 Lo := fun k hk => ⟨(hst k hk).1, by rw [gI_sI, if_neg (by omega), gI_stR_x (by omega), gI_sI, if_neg (by omega)]; exact (hst k hk).2.1, fun j hj => ⟨by rw [gI_sI, if_neg (by omega), gI_stR_x (by omega), gI_sI, if_neg (by omega)]; exact ((hst k hk).2.2 j hj).1, ((hst k hk).2.2 j hj).2⟩⟩
    have h801 : gI (sI (stR (sI S 12 0 20 (nI (c.getD t zd).1.length)) 1316 0 (c.getD t zd).1) 12 0 81 (nI 0)) 12 0 80 = nI Lo.length := by rw [gI_sI, if_neg (by omega), gI_stR_x (by omega), gI_sI, if_neg (by omega)]; exact h80
    have hld : ((lvl Lo).take e).length = e := by rw [List.length_take, lvl_len]; omega
    refine lp_am135 hK hL7 he2 he4 heL ha3 hn hn7 hN7 hnN hlN (fun k k1 k2 => (hlv k k1 k2).2.1) (t := t) hv hSs (c.getD t zd).1.length _ _ (sI (stR (sI S 12 0 20 (nI (c.getD t zd).1.length)) 1316 0 (c.getD t zd).1) 12 0 81 (nI 0)) [] rfl (by rw [List.drop_length]; rfl) (Nat.le_refl _) hs1 (hws.fr f01 (fun _ => rfl)) (hlv.fr f01 (fun _ => ⟨rfl, rfl, rfl, rfl⟩)) hst1 h801 (fun i hi => by rw [gI_sI, if_neg (by omega), gI_stR_k hi]) (fun k hk => absurd hk (by simp)) (by rw [gI_sI, if_pos ⟨rfl, rfl, rfl⟩]; rfl) (by rw [List.drop_length]; rfl) (by rw [List.drop_length]; show 0 = _; rw [show e - lvs [] = e from rfl, List.drop_of_length_le (by omega)]; rfl) (fun S2 Li f2 a1 a2 a3 => ?_)
    have hs2 := hs1.fr f2
    have f02 : Fr tAm S S2 := f01.tr (f2.mono tAm_g)
    obtain ⟨x, rfl⟩ : ∃ x, Li = [x] := by
      have h1 := a2.len
      rw [ins_len hv.1] at h1
      match Li, h1 with
      | [x], _ => exact ⟨x, rfl⟩
    have hx1 : x.1 = n := by
      have : x.1 + 0 = _ := a3
      omega
    obtain ⟨w, w0, hw, y1, y2⟩ : ∃ w : Nat → Nat, w = x.2 ∧ (∀ j, j < (tl Wk n).length → gI S2 1375 0 j = nI (w j) ∧ w j < wP Wk) ∧ AccV (wP Wk) (tl Wk n) w ((fun v => (ins (we Wk) v (Ss.take e)).headD []) (c.getD t zd).1) ∧ True := by
      refine ⟨x.2, rfl, fun j hj => ?_, ?_, trivial⟩
      · have := (a1 0 (by simp)).2.2 j (by rw [← hx1] at hj; exact hj)
        rw [show 300 * ([x].length - 1 - 0) + j = j by simp] at this
        exact this
      · obtain ⟨s, Ts, e1, e2, -⟩ := a2
        show AccV (wP Wk) (tl Wk n) x.2 ((ins (we Wk) (c.getD t zd).1 (Ss.take e)).headD [])
        rw [e1, ← hx1]; exact e2
    refine r_iconst (q := 272) (nI 0) dX12_actMapped_271 rfl (by decide) ?_
    refine r_istore (q := 274) (L' := [some (zr 12 0), some (zi (nI a)), some (zi (nI e)), some (zi (nI (wP Wk))), some (zi (nI n)), some (zi (nI t)), none, some (zi (nI 0)), none, none]) dX12_actMapped_272 rfl (by decide) rfl ?_
    refine r_mask [true, true, true, true, true, true, false, true, false, false] rfl ?_
    refine lp_am274 hn7 l5 ha3 (by omega) hP2 hP97 hx (fun j hj => (hw j hj).2) (fun j hj => (hmv j hj).2) (tl Wk n).length 0 S2 (by omega) hs2 ((f02.1 _ _ _ rfl).trans l2) ((f02.1 _ _ _ rfl).trans r2) (fun j hj => (hw j hj).1) (fun j hj => absurd hj (by omega)) (fun j _ hj => by rw [f2.1 1383 0 j rfl, gI_sI, if_neg (by omega), gI_stR_x (by omega), gI_sI, if_neg (by omega)]; exact (hmv j hj).1) (fun S3 f3 hm3 => ?_)
    have hs3 := hs2.fr f3
    have f03 : Fr tAm S S3 := f02.tr (f3.mono fun a b k z => by simp at z; simp [tAm, z])
    refine r_iincN (q := 335) (L' := [some (zr 12 0), some (zi (nI a)), some (zi (nI e)), some (zi (nI (wP Wk))), some (zi (nI n)), some (zi (nI (t + 1))), none, some (zi (nI ((tl Wk n).length))), none, none]) 1 rfl dX12_actMapped_332 rfl rfl (by decide) rfl ?_
    refine r_goto (q := 90) dX12_actMapped_335 (by decide) ?_
    refine r_mask [true, true, true, true, true, true, false, false, false, false] rfl ?_
    have e73 : ∀ k, gI S3 1373 0 k = gI S 1373 0 k := fun k => by rw [f3.1 1373 0 k rfl, f2.1 1373 0 k rfl, gI_sI, if_neg (by omega), gI_stR_x (by omega), gI_sI, if_neg (by omega)]
    have e74 : ∀ k, gI S3 1374 0 k = gI S 1374 0 k := fun k => by rw [f3.1 1374 0 k rfl, f2.1 1374 0 k rfl, gI_sI, if_neg (by omega), gI_stR_x (by omega), gI_sI, if_neg (by omega)]
    refine ih (t + 1) S3 (fun j => (mv j + (c.getD t zd).2 * w j) % wP Wk) (by omega) hs3 (hws.fr f03 (fun _ => rfl)) (hlv.fr f03 (fun _ => ⟨rfl, rfl, rfl, rfl⟩)) (fun k hk => ⟨(hst k hk).1, (e74 _).trans (hst k hk).2.1, fun j hj => ⟨(e73 _).trans ((hst k hk).2.2 j hj).1, ((hst k hk).2.2 j hj).2⟩⟩) (by rw [f3.1 12 0 80 rfl, f2.1 12 0 80 rfl]; exact h801) ((f03.1 _ _ _ rfl).trans h72) (fun k hk => ⟨(f03.1 _ _ _ rfl).trans (hrw k hk).1, (f03.1 _ _ _ rfl).trans (hrw k hk).2⟩) (fun j hj => ⟨hm3 j hj, Nat.mod_lt _ (by omega)⟩) ?_ (fun S4 mv4 f4 b1 b2 b3 b4 b5 b6 => K S4 mv4 (f03.tr f4) b1 b2 b3 b4 (fun k => (b5 k).trans (e73 k)) (fun k => (b6 k).trans (e74 k)))
    rw [lz_snoc htc, bd_snoc]
    exact acc_bd hacc y1

set_option maxRecDepth 100000 in
theorem lp_am351 {a e n m P to : Nat} (hn7 : n ≤ 7) (hm : m ≤ 300) (hto : to ≤ 7) {Po : Option zV → zS → Prop} : ∀ (d k : Nat) (S : zS), k + d = m → Sd S → gI S 1324 0 (8 + n) = nI m → gI S 12 0 80 = nI to → (∀ S2, Fr (fun a b k => a == 1373 && b == 0) S S2 → (∀ j, k ≤ j → j < m → gI S2 1373 0 (300 * to + j) = gI S 1383 0 j) → (∀ j, (j < 300 * to + k ∨ 300 * to + m ≤ j) → gI S2 1373 0 j = gI S 1373 0 j) → Ok mX12_actMapped 395 [some (zr 12 0), some (zi (nI a)), some (zi (nI e)), some (zi (nI P)), some (zi (nI n)), some (zi (nI m)), none, none, none, none] [] S2 Po) → Ok mX12_actMapped 351 [some (zr 12 0), some (zi (nI a)), some (zi (nI e)), some (zi (nI P)), some (zi (nI n)), some (zi (nI k)), none, none, none, none] [] S Po := by
  intro d
  induction d with
  | zero =>
    intro k S hk hs h24 h80 K
    obtain rfl : k = m := by omega
    refine r_iload (q := 353) dX12_actMapped_351 rfl rfl ?_
    refine r_aload_n (q := 354) dX12_actMapped_353 rfl rfl rfl ?_
    refine r_getr (q := 357) (some (1324, 0)) ck12 dX12_actMapped_354 rfl (k := 24) (by decide) wt1302 rfl (hs.e (by decide)) (hs.r (by decide) (by decide)) ?_
    refine r_bipush (q := 359) (nI 8) dX12_actMapped_357 rfl (by decide) ?_
    refine r_iload (q := 361) dX12_actMapped_359 rfl rfl ?_
    refine r_iaddN (q := 362) dX12_actMapped_361 rfl ?_
    refine r_ialdN (q := 363) 16 (by decide) rfl dX12_actMapped_362 rfl (hs.e (by decide)) (hs.n rfl (by decide)) (by omega) (by decide) ?_
    refine r_topi (y := nI k) h24 ?_
    refine r_icmp_geN (q := 366) (t := 395) (by omega) (by omega) dX12_actMapped_363 (by decide) rfl (fun h363 => ?_) (fun h363 => absurd h363 (by omega))
    exact K S Fr.rf (fun j a b => absurd a (by omega)) (fun j _ => rfl)
  | succ d ih =>
    intro k S hk hs h24 h80 K
    refine r_iload (q := 353) dX12_actMapped_351 rfl rfl ?_
    refine r_aload_n (q := 354) dX12_actMapped_353 rfl rfl rfl ?_
    refine r_getr (q := 357) (some (1324, 0)) ck12 dX12_actMapped_354 rfl (k := 24) (by decide) wt1302 rfl (hs.e (by decide)) (hs.r (by decide) (by decide)) ?_
    refine r_bipush (q := 359) (nI 8) dX12_actMapped_357 rfl (by decide) ?_
    refine r_iload (q := 361) dX12_actMapped_359 rfl rfl ?_
    refine r_iaddN (q := 362) dX12_actMapped_361 rfl ?_
    refine r_ialdN (q := 363) 16 (by decide) rfl dX12_actMapped_362 rfl (hs.e (by decide)) (hs.n rfl (by decide)) (by omega) (by decide) ?_
    refine r_topi (y := nI m) h24 ?_
    refine r_icmp_geN (q := 366) (t := 395) (by omega) (by omega) dX12_actMapped_363 (by decide) rfl (fun h363 => absurd h363 (by omega)) (fun h363 => ?_)
    refine r_aload_n (q := 367) dX12_actMapped_366 rfl rfl rfl ?_
    refine r_getr (q := 370) (some (1373, 0)) ck12 dX12_actMapped_367 rfl (k := 73) (by decide) wt1351 rfl (hs.e (by decide)) (hs.r (by decide) (by decide)) ?_
    refine r_sipush (q := 373) (nI 300) dX12_actMapped_370 rfl (by decide) ?_
    refine r_aload_n (q := 374) dX12_actMapped_373 rfl rfl rfl ?_
    refine r_geti (q := 377) ck12 dX12_actMapped_374 rfl (k := 80) (by decide) wt1358 (Or.inl rfl) (hs.e (by decide)) ?_
    refine r_topi (y := nI to) h80 ?_
    refine r_imulN (q := 378) dX12_actMapped_377 rfl ?_
    refine r_iload (q := 380) dX12_actMapped_378 rfl rfl ?_
    refine r_iaddN (q := 381) dX12_actMapped_380 rfl ?_
    refine r_aload_n (q := 382) dX12_actMapped_381 rfl rfl rfl ?_
    refine r_getr (q := 385) (some (1383, 0)) ck12 dX12_actMapped_382 rfl (k := 83) (by decide) wt1361 rfl (hs.e (by decide)) (hs.r (by decide) (by decide)) ?_
    refine r_iload (q := 387) dX12_actMapped_385 rfl rfl ?_
    refine r_ialdN (q := 388) 300 (by decide) rfl dX12_actMapped_387 rfl (hs.e (by decide)) (hs.n rfl (by decide)) (by omega) (by decide) ?_
    refine r_iastN (q := 389) 2400 (by decide) rfl dX12_actMapped_388 rfl (hs.e (by decide)) (hs.n rfl (by decide)) (by omega) (by decide) ?_
    refine r_iincN (q := 392) (L' := [some (zr 12 0), some (zi (nI a)), some (zi (nI e)), some (zi (nI P)), some (zi (nI n)), some (zi (nI (k + 1))), none, none, none, none]) 1 rfl dX12_actMapped_389 rfl rfl (by decide) rfl ?_
    refine r_goto (q := 351) dX12_actMapped_392 (by decide) ?_
    have f0 : Fr (fun a b k => a == 1373 && b == 0) S (sI S 1373 0 ((300 * to) + k) (gI S 1383 0 k)) := Fr.rf.i rfl
    refine ih (k + 1) (sI S 1373 0 ((300 * to) + k) (gI S 1383 0 k)) (by omega) hs ((f0.1 1324 0 (8 + n) rfl).trans h24) ((f0.1 12 0 80 rfl).trans h80) (fun S2 f h1 h2 => K S2 (f0.tr f) (fun j i1 b => ?_) (fun j i1 => ?_))
    · by_cases e1 : j = k
      · subst e1
        rw [h2 _ (by omega), gI_sI, if_pos ⟨rfl, rfl, rfl⟩]
      · rw [h1 j (by omega) b, gI_sI, if_neg (by omega)]
    · rw [h2 j (by omega), gI_sI, if_neg (by omega)]

set_option maxRecDepth 100000 in
theorem ok_actMapped {Wk : zWd} (hK : Wok Wk) {a e n : Nat} {Lo : List zV2} (hL7 : Lo.length ≤ 7) (he2 : 2 ≤ e) (he4 : e ≤ 4) (heL : e ≤ Lo.length) (ha3 : a < 3) (hn : ((lvl Lo).take e).sum = n) (hn7 : n ≤ 7) {N : Nat} (hN7 : N ≤ 7) (hnN : n ≤ N) (hlN : ∀ k, k < Lo.length → (Lo.getD k zv0).1 ≤ N) {Ss : List zL} (hSs : SvR Wk Lo Ss) {c : List zT} (hc : ∀ p, p ∈ c → Tr (wA Wk) (we Wk) e p.1 ∧ p.2 < wP Wk) (hc57 : c.length ≤ 64) {S : zS} (hs : Sd S) (hws : WS S Wk 1) (hlv : LVS S Wk N) (hst : Stk S Wk 1373 1374 Lo) (h80 : gI S 12 0 80 = nI Lo.length) (h72 : gI S 1372 0 a = nI c.length) (hrw : ∀ k, k < c.length → gI S 1370 0 (64 * a + k) = nI (cd (c.getD k zd).1) ∧ gI S 1371 0 (64 * a + k) = nI (c.getD k zd).2) (hee : gI S 1306 0 (4 + a) = nI e) : Ok mX12_actMapped 0 (ent 10 [zr 12 0, zi (nI a)]) [] S (fun r S1 => r = none ∧ Fr tAm S S1 ∧ ∃ v, AccV (wP Wk) (tl Wk n) v (acM (we Wk) (lz c) (Ss.take e)) ∧ Stk S1 Wk 1373 1374 ((n, v) :: Lo.drop e) ∧ gI S1 12 0 80 = nI (Lo.length - e + 1)) := by
  have hP2 := hK.1.1
  have hP97 := hK.1.2.1
  have hn1 : 1 ≤ n := by
    have := stk_len hst (m := e) heL
    omega
  obtain ⟨⟨l1, l2, l3, l4⟩, l5, l6⟩ := hlv n hn1 hnN
  have l2 : gI S 1324 0 (8 + n) = nI (tl Wk n).length := l2
  show Ok mX12_actMapped 0 [some (zr 12 0), some (zi (nI a)), none, none, none, none, none, none, none, none] [] S _
  refine r_aload_n (q := 1) dX12_actMapped_0 rfl rfl rfl ?_
  refine r_getr (q := 4) (some (1306, 0)) ck12 dX12_actMapped_1 rfl (k := 6) (by decide) wt1284 rfl (hs.e (by decide)) (hs.r (by decide) (by decide)) ?_
  refine r_iconst (q := 5) (nI 4) dX12_actMapped_4 rfl (by decide) ?_
  refine r_iload_n (q := 6) dX12_actMapped_5 rfl rfl rfl ?_
  refine r_iaddN (q := 7) dX12_actMapped_6 rfl ?_
  refine r_ialdN (q := 8) 3775 (by decide) rfl dX12_actMapped_7 rfl (hs.e (by decide)) (hs.n rfl (by decide)) (by omega) (by decide) ?_
  refine r_topi (y := nI e) hee ?_
  refine r_istore_n (q := 9) (L' := [some (zr 12 0), some (zi (nI a)), some (zi (nI e)), none, none, none, none, none, none, none]) dX12_actMapped_8 rfl rfl (by decide) rfl ?_
  refine r_aload_n (q := 10) dX12_actMapped_9 rfl rfl rfl ?_
  refine r_getr (q := 13) (some (1322, 0)) ck12 dX12_actMapped_10 rfl (k := 22) (by decide) wt1300 rfl (hs.e (by decide)) (hs.r (by decide) (by decide)) ?_
  refine r_sipush (q := 16) (nI 1173) dX12_actMapped_13 rfl (by decide) ?_
  refine r_ialdN (q := 17) 2346 (by decide) rfl dX12_actMapped_16 rfl (hs.e (by decide)) (hs.n rfl (by decide)) (by omega) (by decide) ?_
  refine r_topi (y := nI (wP Wk)) hws.2.2 ?_
  refine r_istore_n (q := 18) (L' := [some (zr 12 0), some (zi (nI a)), some (zi (nI e)), some (zi (nI (wP Wk))), none, none, none, none, none, none]) dX12_actMapped_17 rfl rfl (by decide) rfl ?_
  refine r_iconst (q := 19) (nI 0) dX12_actMapped_18 rfl (by decide) ?_
  refine r_istore (q := 21) (L' := [some (zr 12 0), some (zi (nI a)), some (zi (nI e)), some (zi (nI (wP Wk))), some (zi (nI 0)), none, none, none, none, none]) dX12_actMapped_19 rfl (by decide) rfl ?_
  refine r_iconst (q := 22) (nI 0) dX12_actMapped_21 rfl (by decide) ?_
  refine r_istore (q := 24) (L' := [some (zr 12 0), some (zi (nI a)), some (zi (nI e)), some (zi (nI (wP Wk))), some (zi (nI 0)), some (zi (nI 0)), none, none, none, none]) dX12_actMapped_22 rfl (by decide) rfl ?_
  refine lp_am24 hK hL7 he2 he4 heL ha3 hn hn7 hN7 hnN hlN hs hst h80 ?_ e 0 (by omega)
  refine r_iconst (q := 56) (nI 0) dX12_actMapped_55 rfl (by decide) ?_
  refine r_istore (q := 58) (L' := [some (zr 12 0), some (zi (nI a)), some (zi (nI e)), some (zi (nI (wP Wk))), some (zi (nI n)), some (zi (nI 0)), none, none, none, none]) dX12_actMapped_56 rfl (by decide) rfl ?_
  refine lp_am58 hn7 l5 (tl Wk n).length 0 S (by omega) hs l2 (fun j hj => absurd hj (by omega)) (fun S2 f2 hz => ?_)
  have hs2 := hs.fr f2
  refine r_iconst (q := 88) (nI 0) dX12_actMapped_87 rfl (by decide) ?_
  refine r_istore (q := 90) (L' := [some (zr 12 0), some (zi (nI a)), some (zi (nI e)), some (zi (nI (wP Wk))), some (zi (nI n)), some (zi (nI 0)), none, none, none, none]) dX12_actMapped_88 rfl (by decide) rfl ?_
  refine lp_am90 hK hL7 he2 he4 heL ha3 hn hn7 hN7 hnN hlN hn1 hSs hc hc57 c.length 0 S2 (fun _ => 0) (by omega) hs2 (hws.fr f2 (fun _ => rfl)) (hlv.fr f2 (fun _ => ⟨rfl, rfl, rfl, rfl⟩)) (hst.fr f2 (fun _ => ⟨rfl, rfl⟩)) ((f2.1 _ _ _ rfl).trans h80) ((f2.1 _ _ _ rfl).trans h72) (fun k hk => ⟨(f2.1 _ _ _ rfl).trans (hrw k hk).1, (f2.1 _ _ _ rfl).trans (hrw k hk).2⟩) (fun j hj => ⟨hz j hj, by show 0 < wP Wk; omega⟩) acc_nil (fun S3 mv f3 b1 b2 b3 b4 b5 b6 => ?_)
  have hs3 := hs2.fr f3
  have f03 : Fr tAm S S3 := (f2.mono fun a b k z => by simp at z; simp [tAm, z]).tr f3
  refine r_aload_n (q := 339) dX12_actMapped_338 rfl rfl rfl ?_
  refine r_dup (q := 340) dX12_actMapped_339 rfl rfl ?_
  refine r_geti (q := 343) ck12 dX12_actMapped_340 rfl (k := 80) (by decide) wt1358 (Or.inl rfl) (hs3.e (by decide)) ?_
  refine r_topi (y := nI Lo.length) b2 ?_
  refine r_iload_n (q := 344) dX12_actMapped_343 rfl rfl rfl ?_
  refine r_isubN (q := 345) (by omega) dX12_actMapped_344 rfl ?_
  refine r_puti (q := 348) ck12 dX12_actMapped_345 rfl (k := 80) (by decide) wt1358 (Or.inl rfl) rfl (hs3.e (by decide)) ?_
  refine r_iconst (q := 349) (nI 0) dX12_actMapped_348 rfl (by decide) ?_
  refine r_istore (q := 351) (L' := [some (zr 12 0), some (zi (nI a)), some (zi (nI e)), some (zi (nI (wP Wk))), some (zi (nI n)), some (zi (nI 0)), none, none, none, none]) dX12_actMapped_349 rfl (by decide) rfl ?_
  have f4 : Fr tAm S3 (sI S3 12 0 80 (nI (Lo.length - e))) := Fr.rf.i rfl
  have hs4 : Sd (sI S3 12 0 80 (nI (Lo.length - e))) := Sd.fr (S := S3) hs3 f4
  refine lp_am351 hn7 l5 (to := Lo.length - e) (by omega) (tl Wk n).length 0 (sI S3 12 0 80 (nI (Lo.length - e))) (by omega) hs4 (((f03.tr f4).1 _ _ _ rfl).trans l2) (by rw [gI_sI, if_pos ⟨rfl, rfl, rfl⟩]) (fun S5 f5 h1 h2 => ?_)
  have hs5 := hs4.fr f5
  have k80 : gI S5 12 0 80 = nI (Lo.length - e) := by rw [f5.1 12 0 80 rfl, gI_sI, if_pos ⟨rfl, rfl, rfl⟩]
  refine r_aload_n (q := 396) dX12_actMapped_395 rfl rfl rfl ?_
  refine r_getr (q := 399) (some (1374, 0)) ck12 dX12_actMapped_396 rfl (k := 74) (by decide) wt1352 rfl (hs5.e (by decide)) (hs5.r (by decide) (by decide)) ?_
  refine r_aload_n (q := 400) dX12_actMapped_399 rfl rfl rfl ?_
  refine r_geti (q := 403) ck12 dX12_actMapped_400 rfl (k := 80) (by decide) wt1358 (Or.inl rfl) (hs5.e (by decide)) ?_
  refine r_topi (y := nI (Lo.length - e)) k80 ?_
  refine r_iload (q := 405) dX12_actMapped_403 rfl rfl ?_
  refine r_iastN (q := 406) 8 (by decide) rfl dX12_actMapped_405 rfl (hs5.e (by decide)) (hs5.n rfl (by decide)) (by omega) (by decide) ?_
  refine r_aload_n (q := 407) dX12_actMapped_406 rfl rfl rfl ?_
  refine r_dup (q := 408) dX12_actMapped_407 rfl rfl ?_
  refine r_geti (q := 411) ck12 dX12_actMapped_408 rfl (k := 80) (by decide) wt1358 (Or.inl rfl) (hs5.e (by decide)) ?_
  refine r_topi (y := gI S5 12 0 80) (by simp [gI_sI, gJ_sJ, gI_sJ, gJ_sI]) ?_
  refine r_topi (y := nI (Lo.length - e)) k80 ?_
  refine r_iconst (q := 412) (nI 1) dX12_actMapped_411 rfl (by decide) ?_
  refine r_iaddN (q := 413) dX12_actMapped_412 rfl ?_
  refine r_puti (q := 416) ck12 dX12_actMapped_413 rfl (k := 80) (by decide) wt1358 (Or.inl rfl) rfl (hs5.e (by decide)) ?_
  refine r_return dX12_actMapped_416 rfl ?_
  have f6 : Fr tAm S5 (sI (sI S5 1374 0 (Lo.length - e) (nI n)) 12 0 80 (nI ((Lo.length - e) + 1))) := (Fr.rf.i rfl).i rfl
  refine ⟨rfl, ((f03.tr f4).tr (f5.mono fun a b k z => by simp at z; simp [tAm, z])).tr f6, mv, b4, ?_, by rw [gI_sI, if_pos ⟨rfl, rfl, rfl⟩]⟩
  refine b1.put heL hn1 (by rw [gI_sI, if_neg (by omega), gI_sI, if_pos ⟨rfl, rfl, rfl⟩]) (fun k hk => by rw [gI_sI, if_neg (by omega), gI_sI, if_neg (by omega), f5.1 1374 0 k rfl, gI_sI, if_neg (by omega)]) (fun j hj => ⟨by rw [gI_sI, if_neg (by omega), gI_sI, if_neg (by omega), h1 j (by omega) hj, gI_sI, if_neg (by omega)]; exact (b3 j hj).1, (b3 j hj).2⟩) (fun k hk => by rw [gI_sI, if_neg (by omega), gI_sI, if_neg (by omega), h2 k (by omega), gI_sI, if_neg (by omega)]) (fun k hk => (hlv _ (hst k hk).1 (hlN k hk)).2.1)

