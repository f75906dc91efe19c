/-! keeps, whole -/
theorem wqR.frk {S S1 : zS} {W : zWd} {n9 : Nat → Int64} (h : wqR W (fun k => gI S 1306 0 k) n9) {U : Nat → Nat → Nat → Bool} (f : Fr U S S1) (t : ∀ k, U 1306 0 k = false) : wqR W (fun k => gI S1 1306 0 k) n9 := by
  have : (fun k => gI S1 1306 0 k) = fun k => gI S 1306 0 k := funext fun k => f.1 _ _ _ (t k)
  rw [this]; exact h

set_option maxRecDepth 100000 in
theorem lp_kp65 {W Wk : zWd} (hW : Wok W) (hK : Wok Wk) {im : Nat → List zT} (him : ImW W Wk im) (h57 : ∀ a, a < wA W → (im a).length ≤ 64) {N l : Nat} (hN7 : N ≤ 7) (hl : l < wL W) (hnN : (lw W l).1 ≤ N) (hPP : wP W = wP Wk) {n9 : Nat → Int64} {Po : Option zV → zS → Prop} : ∀ (d k : Nat) (S : zS) (mv : Nat → Nat), k + d = (lw W l).2.length → Sd S → WS S Wk 1 → LVS S Wk N → (∀ a, a < wA W → gI S 1372 0 a = nI (im a).length ∧ ∀ k, k < (im a).length → gI S 1370 0 (64 * a + k) = nI (cd ((im a).getD k zd).1) ∧ gI S 1371 0 (64 * a + k) = nI ((im a).getD k zd).2) → wqR W (fun k => gI S 1306 0 k) n9 → (∀ j, j < (tl Wk (lw W l).1).length → gI S 1384 0 j = nI (mv j) ∧ mv j < wP Wk) → AccV (wP Wk) (tl Wk (lw W l).1) mv (bd (buT (we W) (we Wk) (lzi im)) (lz ((lw W l).2.take k))) → (∀ S1 mv1, Fr tKe S S1 → (∀ j, j < (tl Wk (lw W l).1).length → gI S1 1384 0 j = nI (mv1 j) ∧ mv1 j < wP Wk) → AccV (wP Wk) (tl Wk (lw W l).1) mv1 (bd (buT (we W) (we Wk) (lzi im)) (lz (lw W l).2)) → Ok mX12_keeps 274 [some (zr 12 0), some (zi (nI l)), some (zi (nI ((lw W l).1))), some (zi (nI (wP Wk))), some (zr 1384 0), some (zi (nI (lf W (l + 1)))), none, none] [] S1 Po) → Ok mX12_keeps 65 [some (zr 12 0), some (zi (nI l)), some (zi (nI ((lw W l).1))), some (zi (nI (wP Wk))), some (zr 1384 0), some (zi (nI (lf W l + k))), none, none] [] S Po := by
  intro d
  obtain ⟨g1, g2, g3⟩ := hW.2.2.2.2.2 l hl
  have hlf1 : lf W (l + 1) = lf W l + (lw W l).2.length := lf_succ hl
  have hlf2 := hW.2.2.2.2.1
  have hlf3 := lf_mono (W := W) (show l + 1 ≤ wL W by omega)
  have h18 := hW.2.2.2.1
  have hP2 := hK.1.1
  have hP97 := hK.1.2.1
  have hE := hW.2.1
  induction d with
  | zero =>
    intro k S mv hk hs hws hlv hI hR hmv hacc K
    have ek : k = (lw W l).2.length := by omega
    have e1 := hR.2.2.2.2.2.1 (l + 1) (by omega)
    have e1 : gI S 1306 0 (25 + l + 1) = nI (lf W (l + 1)) := e1
    subst ek
    rw [List.take_length] at hacc
    rw [show lf W l + (lw W l).2.length = lf W (l + 1) by omega]
    refine r_iload (q := 67) dX12_keeps_65 rfl rfl ?_
    refine r_aload_n (q := 68) dX12_keeps_67 rfl rfl rfl ?_
    refine r_getr (q := 71) (some (1306, 0)) ck12 dX12_keeps_68 rfl (k := 6) (by decide) wt1284 rfl (hs.e (by decide)) (hs.r (by decide) (by decide)) ?_
    refine r_bipush (q := 73) (nI 25) dX12_keeps_71 rfl (by decide) ?_
    refine r_iload_n (q := 74) dX12_keeps_73 rfl rfl rfl ?_
    refine r_iaddN (q := 75) dX12_keeps_74 rfl ?_
    refine r_iconst (q := 76) (nI 1) dX12_keeps_75 rfl (by decide) ?_
    refine r_iaddN (q := 77) dX12_keeps_76 rfl ?_
    refine r_ialdN (q := 78) 3775 (by decide) rfl dX12_keeps_77 rfl (hs.e (by decide)) (hs.n rfl (by decide)) (by omega) (by decide) ?_
    refine r_topi (y := nI (lf W (l + 1))) e1 ?_
    refine r_icmp_geN (q := 81) (t := 274) (by omega) (by omega) dX12_keeps_78 (by decide) rfl (fun h78 => ?_) (fun h78 => absurd h78 (by omega))
    exact K S mv Fr.rf hmv hacc
  | succ d ih =>
    intro k S mv hk hs hws hlv hI hR hmv hacc K
    have e1 := hR.2.2.2.2.2.1 (l + 1) (by omega)
    have e1 : gI S 1306 0 (25 + l + 1) = nI (lf W (l + 1)) := e1
    have hkl : k < (lw W l).2.length := by omega
    obtain ⟨e3, e4⟩ := hR.2.2.2.2.2.2 l k hl hkl
    have e3 : gI S 1306 0 (44 + (lf W l + k)) = nI (cd ((lw W l).2.getD k zd).1) := e3
    have e4 : gI S 1306 0 (244 + (lf W l + k)) = nI ((lw W l).2.getD k zd).2 := e4
    obtain ⟨hv, hx⟩ := g3.1.2 _ (mem_getD hkl)
    have hvl := hv.len hE
    obtain ⟨⟨l1, l2, l3, l4⟩, l5, l6⟩ := hlv (lw W l).1 (by omega) hnN
    have l2 : gI S 1324 0 (8 + (lw W l).1) = nI (tl Wk (lw W l).1).length := l2
    refine r_iload (q := 67) dX12_keeps_65 rfl rfl ?_
    refine r_aload_n (q := 68) dX12_keeps_67 rfl rfl rfl ?_
    refine r_getr (q := 71) (some (1306, 0)) ck12 dX12_keeps_68 rfl (k := 6) (by decide) wt1284 rfl (hs.e (by decide)) (hs.r (by decide) (by decide)) ?_
    refine r_bipush (q := 73) (nI 25) dX12_keeps_71 rfl (by decide) ?_
    refine r_iload_n (q := 74) dX12_keeps_73 rfl rfl rfl ?_
    refine r_iaddN (q := 75) dX12_keeps_74 rfl ?_
    refine r_iconst (q := 76) (nI 1) dX12_keeps_75 rfl (by decide) ?_
    refine r_iaddN (q := 77) dX12_keeps_76 rfl ?_
    refine r_ialdN (q := 78) 3775 (by decide) rfl dX12_keeps_77 rfl (hs.e (by decide)) (hs.n rfl (by decide)) (by omega) (by decide) ?_
    refine r_topi (y := nI (lf W (l + 1))) e1 ?_
    refine r_icmp_geN (q := 81) (t := 274) (by omega) (by omega) dX12_keeps_78 (by decide) rfl (fun h78 => absurd h78 (by omega)) (fun h78 => ?_)
    refine r_aload_n (q := 82) dX12_keeps_81 rfl rfl rfl ?_
    refine r_aload_n (q := 83) dX12_keeps_82 rfl rfl rfl ?_
    refine r_getr (q := 86) (some (1306, 0)) ck12 dX12_keeps_83 rfl (k := 6) (by decide) wt1284 rfl (hs.e (by decide)) (hs.r (by decide) (by decide)) ?_
    refine r_bipush (q := 88) (nI 44) dX12_keeps_86 rfl (by decide) ?_
    refine r_iload (q := 90) dX12_keeps_88 rfl rfl ?_
    refine r_iaddN (q := 91) dX12_keeps_90 rfl ?_
    refine r_ialdN (q := 92) 3775 (by decide) rfl dX12_keeps_91 rfl (hs.e (by decide)) (hs.n rfl (by decide)) (by omega) (by decide) ?_
    refine r_topi (y := nI (cd ((lw W l).2.getD k zd).1)) e3 ?_
    refine r_callV (Mc := mX12_tokens) (q := 95) (As := [zi (nI (cd ((lw W l).2.getD k zd).1))]) (st := []) ck12 dX12_keeps_92 rfl rfl mkX12_tokens wt1649 wt1651 wp85 rfl (Nat.le_of_ble_eq_true rfl) (Nat.le_of_ble_eq_true rfl) (by decide) (by decide) (by decide) (Or.inl rfl) (hs.e (by decide)) (ok_X12_tokens hs (hv.tok hE) (by omega)) (fun r92 S92 hp92 => ?_)
    obtain ⟨rfl, hq92⟩ := hp92
    rw [hq92]
    have f0 : Fr tKe S (stR (sI S 12 0 20 (nI ((lw W l).2.getD k zd).1.length)) 1316 0 ((lw W l).2.getD k zd).1) := ⟨fun a b k z => by rw [gI_stR, if_neg (fun y => by rw [y.1, y.2.1] at z; simp [tKe, tAm] at z), gI_sI, if_neg (fun y => by rw [y.1, y.2.1, y.2.2] at z; simp [tKe, tAm] at z)], fun _ _ _ _ => rfl, rfl⟩
    have hs0 : Sd (stR (sI S 12 0 20 (nI ((lw W l).2.getD k zd).1.length)) 1316 0 ((lw W l).2.getD k zd).1) := hs.fr f0
    have k20 : gI (stR (sI S 12 0 20 (nI ((lw W l).2.getD k zd).1.length)) 1316 0 ((lw W l).2.getD k zd).1) 12 0 20 = nI ((lw W l).2.getD k zd).1.length := by rw [gI_stR_x (by omega), gI_sI, if_pos ⟨rfl, rfl, rfl⟩]
    show Ok _ _ _ [] _ _
    refine r_aload_n (q := 96) dX12_keeps_95 rfl rfl rfl ?_
    refine r_geti (q := 99) ck12 dX12_keeps_96 rfl (k := 20) (by decide) wt1298 (Or.inl rfl) (hs0.e (by decide)) ?_
    refine r_topi (y := nI (((lw W l).2.getD k zd).1.length)) k20 ?_
    refine r_istore (q := 101) (L' := [some (zr 12 0), some (zi (nI l)), some (zi (nI ((lw W l).1))), some (zi (nI (wP Wk))), some (zr 1384 0), some (zi (nI (lf W l + k))), some (zi (nI (((lw W l).2.getD k zd).1.length))), none]) dX12_keeps_99 rfl (by decide) rfl ?_
    refine r_iconst (q := 102) (nI 0) dX12_keeps_101 rfl (by decide) ?_
    refine r_istore (q := 104) (L' := [some (zr 12 0), some (zi (nI l)), some (zi (nI ((lw W l).1))), some (zi (nI (wP Wk))), some (zr 1384 0), some (zi (nI (lf W l + k))), some (zi (nI (((lw W l).2.getD k zd).1.length))), some (zi (nI 0))]) dX12_keeps_102 rfl (by decide) rfl ?_
    refine lp_kp104 (Wk := Wk) (q5 := lf W l + k) (t := ((lw W l).2.getD k zd).1) (by omega) ((lw W l).2.getD k zd).1.length 0 (stR (sI S 12 0 20 (nI ((lw W l).2.getD k zd).1.length)) 1316 0 ((lw W l).2.getD k zd).1) (by omega) hs0 (fun j hj => gI_stR_k hj) (fun j hj => absurd hj (by omega)) (fun S1 f1 htt => ?_)
    have hs1 := hs0.fr f1
    refine r_aload_n (q := 132) dX12_keeps_131 rfl rfl rfl ?_
    refine r_iconst (q := 133) (nI 0) dX12_keeps_132 rfl (by decide) ?_
    refine r_puti (q := 136) ck12 dX12_keeps_133 rfl (k := 80) (by decide) wt1358 (Or.inl rfl) rfl (hs1.e (by decide)) ?_
    refine r_iload (q := 138) dX12_keeps_136 rfl rfl ?_
    refine r_iconst (q := 139) (nI 1) dX12_keeps_138 rfl (by decide) ?_
    refine r_isub (q := 140) dX12_keeps_139 rfl ?_
    refine r_istore (q := 142) (L' := [some (zr 12 0), some (zi (nI l)), some (zi (nI ((lw W l).1))), some (zi (nI (wP Wk))), some (zr 1384 0), some (zi (nI (lf W l + k))), some (zi (nI (((lw W l).2.getD k zd).1.length))), some (zi ((nI (((lw W l).2.getD k zd).1.length)) - (nI 1)))]) dX12_keeps_140 rfl (by decide) rfl ?_
    have f2 : Fr tKe S1 (sI S1 12 0 80 (nI 0)) := Fr.rf.i rfl
    have f02 : Fr tKe S (sI S1 12 0 80 (nI 0)) := (f0.tr (f1.mono fun a b k z => by simp at z; simp [tKe, z])).tr f2
    have hs2 : Sd (sI S1 12 0 80 (nI 0)) := hs1.fr f2
    refine lp_kp142 hW hK him h57 (show 1 ≤ (lw W l).1 by omega) g2 hN7 hnN hv (q5 := lf W l + k) ((lw W l).2.getD k zd).1.length _ (sI S1 12 0 80 (nI 0)) [] rfl (Nat.le_refl _) hs2 (hws.fr f02 (fun _ => rfl)) (hlv.fr f02 (fun _ => ⟨rfl, rfl, rfl, rfl⟩)) (fun a ha => ⟨(f02.1 _ _ _ rfl).trans (hI a ha).1, fun k hk => ⟨(f02.1 _ _ _ rfl).trans ((hI a ha).2 k hk).1, (f02.1 _ _ _ rfl).trans ((hI a ha).2 k hk).2⟩⟩) (fun a ha => (f02.1 _ _ _ rfl).trans (hR.2.2.2.1 a ha).1) (fun j hj => by rw [gI_sI, if_neg (by omega)]; exact htt j hj) (fun k hk => absurd hk (by simp)) (by rw [gI_sI, if_pos ⟨rfl, rfl, rfl⟩]; rfl) (by rw [List.drop_length]; rfl) (by rw [List.drop_length]; rfl) (fun S3 Lo f3 a1 a2 a3 => ?_)
    have hs3 := hs2.fr f3
    have f03 : Fr tKe S S3 := f02.tr (f3.mono tKe_a)
    obtain ⟨x, rfl⟩ : ∃ x, Lo = [x] := by
      have h1 := a2.len
      rw [bu_len hv.1] at h1
      match Lo, h1 with
      | [x], _ => exact ⟨x, rfl⟩
    have hx1 : x.1 = (lw W l).1 := by
      have : x.1 + 0 = _ := a3
      omega
    obtain ⟨w, hw, y1⟩ : ∃ w : Nat → Nat, (∀ j, j < (tl Wk (lw W l).1).length → gI S3 1373 0 j = nI (w j) ∧ w j < wP Wk) ∧ AccV (wP Wk) (tl Wk (lw W l).1) w ((buT (we W) (we Wk) (lzi im)) ((lw W l).2.getD k zd).1) := by
      refine ⟨x.2, fun j hj => ?_, ?_⟩
      · have := (a1 0 (by simp)).2.2 j (by rw [← hx1] at hj; exact hj)
        rw [show 300 * ([x].length - 1 - 0) + j = j by simp] at this
        exact this
      · obtain ⟨s, Ts, e1, e2, -⟩ := a2
        unfold buT
        rw [e1, ← hx1]; exact e2
    have k84 : ∀ j, gI S3 1384 0 j = gI S 1384 0 j := fun j => by rw [f3.1 1384 0 j rfl, gI_sI, if_neg (by omega), f1.1 1384 0 j rfl, gI_stR_x (by omega), gI_sI, if_neg (by omega)]
    refine r_iconst (q := 214) (nI 0) dX12_keeps_213 rfl (by decide) ?_
    refine r_istore (q := 216) (L' := [some (zr 12 0), some (zi (nI l)), some (zi (nI ((lw W l).1))), some (zi (nI (wP Wk))), some (zr 1384 0), some (zi (nI (lf W l + k))), some (zi (nI (((lw W l).2.getD k zd).1.length))), some (zi (nI 0))]) dX12_keeps_214 rfl (by decide) rfl ?_
    refine r_mask [true, true, true, true, true, true, false, true] rfl ?_
    refine lp_kp216 g2 l5 (by omega) hP2 hP97 (by rw [← hPP]; exact hx) (fun j hj => (hw j hj).2) (fun j hj => (hmv j hj).2) (tl Wk (lw W l).1).length 0 S3 (by omega) hs3 ((f03.1 _ _ _ rfl).trans l2) ((f03.1 _ _ _ rfl).trans e4) (fun j hj => (hw j hj).1) (fun j hj => absurd hj (by omega)) (fun j _ hj => (k84 j).trans (hmv j hj).1) (fun S4 f4 hm4 => ?_)
    have hs4 := hs3.fr f4
    have f04 : Fr tKe S S4 := f03.tr (f4.mono fun a b k z => by simp at z; simp [tKe, z])
    refine r_iincN (q := 271) (L' := [some (zr 12 0), some (zi (nI l)), some (zi (nI ((lw W l).1))), some (zi (nI (wP Wk))), some (zr 1384 0), some (zi (nI (lf W l + k + 1))), none, some (zi (nI ((tl Wk (lw W l).1).length)))]) 1 rfl dX12_keeps_268 rfl rfl (by decide) rfl ?_
    refine r_goto (q := 65) dX12_keeps_271 (by decide) ?_
    refine r_mask [true, true, true, true, true, true, false, false] rfl ?_
    refine ih (k + 1) S4 (fun j => (mv j + ((lw W l).2.getD k zd).2 * w j) % wP Wk) (by omega) hs4 (hws.fr f04 (fun _ => rfl)) (hlv.fr f04 (fun _ => ⟨rfl, rfl, rfl, rfl⟩)) (fun a ha => ⟨(f04.1 _ _ _ rfl).trans (hI a ha).1, fun k hk => ⟨(f04.1 _ _ _ rfl).trans ((hI a ha).2 k hk).1, (f04.1 _ _ _ rfl).trans ((hI a ha).2 k hk).2⟩⟩) (hR.frk f04 (fun _ => rfl)) (fun j hj => ⟨hm4 j hj, Nat.mod_lt _ (by omega)⟩) ?_ (fun S5 mv5 f5 b1 b2 => K S5 mv5 (f04.tr f5) b1 b2)
    rw [lz_snoc hkl, bd_snoc]
    exact acc_bd hacc y1

set_option maxRecDepth 100000 in
theorem ok_keeps {W Wk : zWd} (hW : Wok W) (hK : Wok Wk) {im : Nat → List zT} (him : ImW W Wk im) (h57 : ∀ a, a < wA W → (im a).length ≤ 64) {N l : Nat} (hN7 : N ≤ 7) (hl : l < wL W) (hnN : (lw W l).1 ≤ N) (hPP : wP W = wP Wk) {n9 : Nat → Int64} {S : zS} (hs : Sd S) (hws : WS S Wk 1) (hlv : LVS S Wk N) (hI : (∀ a, a < wA W → gI S 1372 0 a = nI (im a).length ∧ ∀ k, k < (im a).length → gI S 1370 0 (64 * a + k) = nI (cd ((im a).getD k zd).1) ∧ gI S 1371 0 (64 * a + k) = nI ((im a).getD k zd).2)) (hR : wqR W (fun k => gI S 1306 0 k) n9) {F RF : Nat} {pv : Nat → Nat → Bool} {bs : Nat → Nat → Nat → Nat} (hBx : Bx S 1 (lw W l).1 F RF (tl Wk (lw W l).1).length (wP Wk) (pv (lw W l).1) (bs (lw W l).1)) (hLR : LvR Wk pv bs (lw W l).1) : Ok mX12_keeps 0 (ent 8 [zr 12 0, zi (nI l)]) [] S (fun r S1 => r = some (zi (nI (b01 (kpB W Wk im l)))) ∧ Fr tKe S S1) := by
  obtain ⟨g1, g2, g3⟩ := hW.2.2.2.2.2 l hl
  have hlf1 : lf W (l + 1) = lf W l + (lw W l).2.length := lf_succ hl
  have hlf2 := hW.2.2.2.2.1
  have hlf3 := lf_mono (W := W) (show l + 1 ≤ wL W by omega)
  have h18 := hW.2.2.2.1
  have hP2 := hK.1.1
  have hP97 := hK.1.2.1
  have hE := hW.2.1
  have e7 : gI S 1306 0 (7 + l) = nI (lw W l).1 := hR.2.2.2.2.1 l hl
  obtain ⟨⟨l1, l2, l3, l4⟩, l5, l6⟩ := hlv (lw W l).1 (by omega) hnN
  have l2 : gI S 1324 0 (8 + (lw W l).1) = nI (tl Wk (lw W l).1).length := l2
  show Ok mX12_keeps 0 [some (zr 12 0), some (zi (nI l)), none, none, none, none, none, none] [] S _
  refine r_aload_n (q := 1) dX12_keeps_0 rfl rfl rfl ?_
  refine r_getr (q := 4) (some (1306, 0)) ck12 dX12_keeps_1 rfl (k := 6) (by decide) wt1284 rfl (hs.e (by decide)) (hs.r (by decide) (by decide)) ?_
  refine r_bipush (q := 6) (nI 7) dX12_keeps_4 rfl (by decide) ?_
  refine r_iload_n (q := 7) dX12_keeps_6 rfl rfl rfl ?_
  refine r_iaddN (q := 8) dX12_keeps_7 rfl ?_
  refine r_ialdN (q := 9) 3775 (by decide) rfl dX12_keeps_8 rfl (hs.e (by decide)) (hs.n rfl (by decide)) (by omega) (by decide) ?_
  refine r_topi (y := nI ((lw W l).1)) e7 ?_
  refine r_istore_n (q := 10) (L' := [some (zr 12 0), some (zi (nI l)), some (zi (nI ((lw W l).1))), none, none, none, none, none]) dX12_keeps_9 rfl rfl (by decide) rfl ?_
  refine r_aload_n (q := 11) dX12_keeps_10 rfl rfl rfl ?_
  refine r_getr (q := 14) (some (1322, 0)) ck12 dX12_keeps_11 rfl (k := 22) (by decide) wt1300 rfl (hs.e (by decide)) (hs.r (by decide) (by decide)) ?_
  refine r_sipush (q := 17) (nI 1173) dX12_keeps_14 rfl (by decide) ?_
  refine r_ialdN (q := 18) 2346 (by decide) rfl dX12_keeps_17 rfl (hs.e (by decide)) (hs.n rfl (by decide)) (by omega) (by decide) ?_
  refine r_topi (y := nI (wP Wk)) hws.2.2 ?_
  refine r_istore_n (q := 19) (L' := [some (zr 12 0), some (zi (nI l)), some (zi (nI ((lw W l).1))), some (zi (nI (wP Wk))), none, none, none, none]) dX12_keeps_18 rfl rfl (by decide) rfl ?_
  refine r_aload_n (q := 20) dX12_keeps_19 rfl rfl rfl ?_
  refine r_getr (q := 23) (some (1384, 0)) ck12 dX12_keeps_20 rfl (k := 84) (by decide) wt1362 rfl (hs.e (by decide)) (hs.r (by decide) (by decide)) ?_
  refine r_astore (q := 25) (L' := [some (zr 12 0), some (zi (nI l)), some (zi (nI ((lw W l).1))), some (zi (nI (wP Wk))), some (zr 1384 0), none, none, none]) dX12_keeps_23 rfl (by decide) rfl ?_
  refine r_iconst (q := 26) (nI 0) dX12_keeps_25 rfl (by decide) ?_
  refine r_istore (q := 28) (L' := [some (zr 12 0), some (zi (nI l)), some (zi (nI ((lw W l).1))), some (zi (nI (wP Wk))), some (zr 1384 0), some (zi (nI 0)), none, none]) dX12_keeps_26 rfl (by decide) rfl ?_
  refine lp_kp28 (Wk := Wk) g2 l5 (tl Wk (lw W l).1).length 0 S (by omega) hs l2 (fun j hj => absurd hj (by omega)) (fun S2 f2 hz => ?_)
  have hs2 := hs.fr f2
  have f02 : Fr tKe S S2 := f2.mono fun a b k z => by simp at z; simp [tKe, z]
  have e25 : gI S2 1306 0 (25 + l) = nI (lf W l) := (f02.1 _ _ _ rfl).trans (hR.2.2.2.2.2.1 l (by omega))
  refine r_aload_n (q := 55) dX12_keeps_54 rfl rfl rfl ?_
  refine r_getr (q := 58) (some (1306, 0)) ck12 dX12_keeps_55 rfl (k := 6) (by decide) wt1284 rfl (hs2.e (by decide)) (hs2.r (by decide) (by decide)) ?_
  refine r_bipush (q := 60) (nI 25) dX12_keeps_58 rfl (by decide) ?_
  refine r_iload_n (q := 61) dX12_keeps_60 rfl rfl rfl ?_
  refine r_iaddN (q := 62) dX12_keeps_61 rfl ?_
  refine r_ialdN (q := 63) 3775 (by decide) rfl dX12_keeps_62 rfl (hs2.e (by decide)) (hs2.n rfl (by decide)) (by omega) (by decide) ?_
  refine r_topi (y := nI (lf W l)) e25 ?_
  refine r_istore (q := 65) (L' := [some (zr 12 0), some (zi (nI l)), some (zi (nI ((lw W l).1))), some (zi (nI (wP Wk))), some (zr 1384 0), some (zi (nI (lf W l))), none, none]) dX12_keeps_63 rfl (by decide) rfl ?_
  refine lp_kp65 hW hK him h57 hN7 hl hnN hPP (lw W l).2.length 0 S2 (fun _ => 0) (by omega) hs2 (hws.fr f02 (fun _ => rfl)) (hlv.fr f02 (fun _ => ⟨rfl, rfl, rfl, rfl⟩)) (fun a ha => ⟨(f02.1 _ _ _ rfl).trans (hI a ha).1, fun k hk => ⟨(f02.1 _ _ _ rfl).trans ((hI a ha).2 k hk).1, (f02.1 _ _ _ rfl).trans ((hI a ha).2 k hk).2⟩⟩) (hR.frk f02 (fun _ => rfl)) (fun j hj => ⟨hz j hj, by show 0 < wP Wk; omega⟩) acc_nil (fun S3 mv f3 hm3 ha => ?_)
  have hs3 := hs2.fr f3
  have f03 : Fr tKe S S3 := f02.tr f3
  refine r_iconst (q := 275) (nI 0) dX12_keeps_274 rfl (by decide) ?_
  refine r_istore (q := 277) (L' := [some (zr 12 0), some (zi (nI l)), some (zi (nI ((lw W l).1))), some (zi (nI (wP Wk))), some (zr 1384 0), some (zi (nI 0)), none, none]) dX12_keeps_275 rfl (by decide) rfl ?_
  refine lp_kp277 (Wk := Wk) g2 l5 (v := mv) (tl Wk (lw W l).1).length 0 S3 (by omega) hs3 ((f03.1 _ _ _ rfl).trans l2) (fun j hj => (hm3 j hj).1) (fun j hj => absurd hj (by omega)) (fun S4 f4 hv4 => ?_)
  have hs4 := hs3.fr f4
  have f04 : Fr tKe S S4 := f03.tr (f4.mono fun a b k z => by simp [tRv] at z; simp [tKe, z])
  have hVr : Vr S4 (tl Wk (lw W l).1).length (wP Wk) mv := fun j hj => ⟨hv4 j hj, (hm3 j hj).2⟩
  have hBx4 := hBx.fr2 f04 ⟨rfl, rfl, rfl, rfl, fun _ _ _ => rfl, fun _ _ _ => rfl⟩
  refine r_aload_n (q := 310) dX12_keeps_309 rfl rfl rfl ?_
  refine r_iconst (q := 311) (nI 1) dX12_keeps_310 rfl (by decide) ?_
  refine r_iload_n (q := 312) dX12_keeps_311 rfl rfl rfl ?_
  refine r_callV (Mc := mX12_lessen) (q := 315) (As := [zi (nI 1), zi (nI ((lw W l).1))]) (st := []) ck12 dX12_keeps_312 rfl rfl mkX12_lessen wt1824 wt1826 wp116 rfl (Nat.le_of_ble_eq_true rfl) (Nat.le_of_ble_eq_true rfl) (by decide) (by decide) (by decide) (Or.inl rfl) (hs4.e (by decide)) (ok_lessen (q := 1) hs4 (by decide) g2 tl_nodup hP2 hP97 hBx4 hVr) (fun r312 S312 hp312 => ?_)
  obtain ⟨rfl, f5, v1, hv1, hred⟩ := hp312
  have hs5 := hs4.fr f5
  have f05 : Fr tKe S S312 := f04.tr (f5.mono fun a b k z => by simp [tRv] at z; simp [tKe, z])
  show Ok _ _ _ [] _ _
  refine r_iconst (q := 316) (nI 0) dX12_keeps_315 rfl (by decide) ?_
  refine r_istore (q := 318) (L' := [some (zr 12 0), some (zi (nI l)), some (zi (nI ((lw W l).1))), some (zi (nI (wP Wk))), some (zr 1384 0), some (zi (nI 0)), none, none]) dX12_keeps_316 rfl (by decide) rfl ?_
  refine Ok.mono (lp_kp318 (Wk := Wk) g2 l5 hP97 hs5 ((f05.1 _ _ _ rfl).trans l2) (fun j hj => hv1 j hj) (tl Wk (lw W l).1).length 0 (by omega) (fun j hj => absurd hj (by omega))) (fun r S6 z => ?_)
  obtain ⟨rfl, z⟩ := z
  have hid := red_id hK hLR (u := bd (buT (we W) (we Wk) (lzi im)) (lz (lw W l).2)) (fun p hp => by
    obtain ⟨q, hq, r', hr', e⟩ := mem_bd hp
    obtain ⟨q', hq', e'⟩ := lz_mem hq
    rw [e]
    rw [e'] at hr'
    exact (tl_mem hK.2.1).mpr (buT_tr him.ok (g3.1.2 q' hq').1 r' hr')) ha hred (fun j hj => (hv1 j hj).2)
  have hkp : kpB W Wk im l = true ↔ ∀ i, i < (tl Wk (lw W l).1).length → v1 i = 0 := kpB_t.trans ((id_td hK him (fun p hp => (g3.1.2 p hp).1)).trans hid.symm)
  rcases z with ⟨z1, z2⟩ | ⟨z1, z2⟩
  · exact ⟨by rw [z2, hkp.mpr z1]; rfl, f05⟩
  · have hb : kpB W Wk im l = false := by
      cases q : kpB W Wk im l with
      | false => rfl
      | true => exact absurd (hkp.mp q) z1
    exact ⟨by rw [z2, hb]; rfl, f05⟩

