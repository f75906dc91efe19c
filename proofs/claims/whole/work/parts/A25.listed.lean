/-! list -/
def tLf (F M q n x y k : Nat) : Bool := tLiR F M (8 * q + n) x y k || tSo F M x y k || y == 0 && x == 1325 && k == 8 * q + n
theorem tLf_li {F M q n : Nat} (x y k : Nat) (h : tLiR F M (8 * q + n) x y k = true) : tLf F M q n x y k = true := by simp [tLf, h]
theorem tLf_so {F M q n : Nat} (x y k : Nat) (h : tSo F M x y k = true) : tLf F M q n x y k = true := by simp [tLf, h]
/-- a level as it is listed -/
def LrR (S : zS) (W : zWd) (q n F : Nat) : Prop := gI S 1325 0 (8 * q + n) = nI F ∧ gI S 1324 0 (8 * q + n) = nI (tl W n).length ∧ Co S F (tl W n) ∧ ∃ r, r.length = (tl W n).length ∧ SrR S F (tl W n) r
theorem cd_injT {W : zWd} (hE : Eok (wA W) (we W)) {n : Nat} : ∀ i j, i < (tl W n).length → j < (tl W n).length → cd ((tl W n).getD i []) = cd ((tl W n).getD j []) → i = j := fun i j hi hj h => getD_inj tl_nodup hi hj (cd_inj hE (tl_tr hE hi) (tl_tr hE hj) h)
theorem lp_ls197 {W : zWd} (hE : Eok (wA W) (we W)) {q n F : Nat} (hq : q ≤ 1) (hn7 : n ≤ 7) (hc3 : tc W n ≤ 300) (hF4 : F + tc W n ≤ 4400) {S0 S : zS} (f0 : Fr (tLf F (tl W n).length q n) S0 S) (hs : Sd S) (h5 : gI S 1325 0 (8 * q + n) = nI F) (h4 : gI S 1324 0 (8 * q + n) = nI (tl W n).length) (hR : ∀ i, i < (tl W n).length → Rr1 (we W) S (F + i) ((tl W n).getD i [])) {w4 w5 w6 w7 w8 : Option zV} : Ok mX12_list 197 [some (zr 12 0), some (zi (nI q)), some (zi (nI n)), some (zi (nI (8 * q + n))), w4, w5, w6, w7, w8] [] S (fun r S1 => r = none ∧ Fr (tLf F (tl W n).length q n) S0 S1 ∧ LrR S1 W q n F) := by
  have hl : (tl W n).length = tc W n := tl_len hE
  have hC := Co.of hE hn7 hR
  refine r_mask [true, true, true, true, false, false, false, false, false] rfl ?_
  refine r_iconst (q := 198) (nI 0) dX12_list_197 rfl (by decide) ?_
  refine r_istore (q := 200) (L' := [some (zr 12 0), some (zi (nI q)), some (zi (nI n)), some (zi (nI (8 * q + n))), some (zi (nI 0)), none, none, none, none]) dX12_list_198 rfl (by decide) rfl ?_
  exact lp_so200 (show 8 * q + n < 16 by omega) (by omega) (by omega) (cd_injT hE) _ [] S none (show 0 + (tl W n).length = _ by omega) hs h5 h4 hC ⟨fun i hi => absurd hi (by simp), fun j => by simp, List.Pairwise.nil⟩ (fun S1 r1 y1 y2 y3 => ⟨rfl, f0.tr (y1.mono tLf_so), (y1.1 _ _ _ rfl).trans h5, (y1.1 _ _ _ rfl).trans h4, hC.fr y1 (fun _ _ => rfl), r1, y2, y3⟩)

set_option maxRecDepth 100000 in
theorem ok_list_n {W : zWd} (hE : Eok (wA W) (we W)) {q n F : Nat} (hq : q ≤ 1) (hn7 : n ≤ 7) (hF : F = 2200 * q + sm (tc W) n) (hc3 : tc W n ≤ 300) (hF4 : F + tc W n ≤ 4400) {S : zS} (hs : Sd S) (hw : WrR S q W) (hC : Cd S q n W (fun s => 2200 * q + sm (tc W) s)) (hMn : Mn S q n (bdW W)) (htt : gJ S 1334 0 (11 * q + n) = lN (tc W n)) (hn2 : 2 ≤ n) : Ok mX12_list 0 (ent 9 [zr 12 0, zi (nI q), zi (nI n)]) [] S (fun r S1 => r = none ∧ Fr (tLf F (tl W n).length q n) S S1 ∧ LrR S1 W q n F) := by
  have hl : (tl W n).length = tc W n := tl_len hE
  have hl1 : (tl W (n - 1)).length = tc W (n - 1) := tl_len hE
  obtain ⟨c1', c2', _⟩ := hC (n - 1) (by omega) (by omega)
  have m1' := (hMn (n - 1) (by omega) (by omega))
  obtain ⟨F1, hF1⟩ : ∃ F1, F1 = 2200 * q + sm (tc W) (n - 1) := ⟨_, rfl⟩
  obtain ⟨m1, hm1⟩ : ∃ m1, m1 = (tl W (n - 1)).length := ⟨_, rfl⟩
  have c1 : gI S 1325 0 (8 * q + n - 1) = nI F1 := by rw [show 8 * q + n - 1 = 8 * q + (n - 1) by omega, hF1]; exact c1'
  have c2 : gI S 1324 0 (8 * q + n - 1) = nI m1 := by rw [show 8 * q + n - 1 = 8 * q + (n - 1) by omega, hm1]; exact m1'.1
  have hFF : F1 + m1 = F := by
    rw [hF, hF1, hm1, hl1, show n = n - 1 + 1 by omega, sm, show n - 1 + 1 - 1 = n - 1 by omega]
    omega
  show Ok mX12_list 0 [some (zr 12 0), some (zi (nI q)), some (zi (nI n)), none, none, none, none, none, none] [] S _
  refine r_bipush (q := 2) (nI 8) dX12_list_0 rfl (by decide) ?_
  refine r_iload_n (q := 3) dX12_list_2 rfl rfl rfl ?_
  refine r_imulN (q := 4) dX12_list_3 rfl ?_
  refine r_iload_n (q := 5) dX12_list_4 rfl rfl rfl ?_
  refine r_iaddN (q := 6) dX12_list_5 rfl ?_
  refine r_istore_n (q := 7) (L' := [some (zr 12 0), some (zi (nI q)), some (zi (nI n)), some (zi (nI ((8 * q) + n))), none, none, none, none, none]) dX12_list_6 rfl rfl (by decide) rfl ?_
  refine r_aload_n (q := 8) dX12_list_7 rfl rfl rfl ?_
  refine r_getr (q := 11) (some (1325, 0)) ck12 dX12_list_8 rfl (k := 25) (by decide) wt1303 rfl (hs.e (by decide)) (hs.r (by decide) (by decide)) ?_
  refine r_iload_n (q := 12) dX12_list_11 rfl rfl rfl ?_
  refine r_iload_n (q := 13) dX12_list_12 rfl rfl rfl ?_
  refine r_iconst (q := 14) (nI 1) dX12_list_13 rfl (by decide) ?_
  refine r_icmp_neN (q := 17) (t := 25) (by omega) (by omega) dX12_list_14 (by decide) rfl (fun h14 => ?_) (fun h14 => absurd h14 (by omega))
  refine r_aload_n (q := 26) dX12_list_25 rfl rfl rfl ?_
  refine r_getr (q := 29) (some (1325, 0)) ck12 dX12_list_26 rfl (k := 25) (by decide) wt1303 rfl (hs.e (by decide)) (hs.r (by decide) (by decide)) ?_
  refine r_iload_n (q := 30) dX12_list_29 rfl rfl rfl ?_
  refine r_iconst (q := 31) (nI 1) dX12_list_30 rfl (by decide) ?_
  refine r_isubN (q := 32) (by omega) dX12_list_31 rfl ?_
  refine r_ialdN (q := 33) 16 (by decide) rfl dX12_list_32 rfl (hs.e (by decide)) (hs.n rfl (by decide)) (by omega) (by decide) ?_
  refine r_topi (y := nI F1) c1 ?_
  refine r_aload_n (q := 34) dX12_list_33 rfl rfl rfl ?_
  refine r_getr (q := 37) (some (1324, 0)) ck12 dX12_list_34 rfl (k := 24) (by decide) wt1302 rfl (hs.e (by decide)) (hs.r (by decide) (by decide)) ?_
  refine r_iload_n (q := 38) dX12_list_37 rfl rfl rfl ?_
  refine r_iconst (q := 39) (nI 1) dX12_list_38 rfl (by decide) ?_
  refine r_isubN (q := 40) (by omega) dX12_list_39 rfl ?_
  refine r_ialdN (q := 41) 16 (by decide) rfl dX12_list_40 rfl (hs.e (by decide)) (hs.n rfl (by decide)) (by omega) (by decide) ?_
  refine r_topi (y := nI m1) c2 ?_
  refine r_iaddN (q := 42) dX12_list_41 rfl ?_
  refine r_topi (y := nI F) (congrArg nI hFF) ?_
  refine r_iastN (q := 43) 16 (by decide) rfl dX12_list_42 rfl (hs.e (by decide)) (hs.n rfl (by decide)) (by omega) (by decide) ?_
  refine r_aload_n (q := 44) dX12_list_43 rfl rfl rfl ?_
  refine r_getr (q := 47) (some (1324, 0)) ck12 dX12_list_44 rfl (k := 24) (by decide) wt1302 rfl (hs.e (by decide)) (hs.r (by decide) (by decide)) ?_
  refine r_iload_n (q := 48) dX12_list_47 rfl rfl rfl ?_
  refine r_iconst (q := 49) (nI 0) dX12_list_48 rfl (by decide) ?_
  refine r_iastN (q := 50) 16 (by decide) rfl dX12_list_49 rfl (hs.e (by decide)) (hs.n rfl (by decide)) (by omega) (by decide) ?_
  refine r_iload_n (q := 51) dX12_list_50 rfl rfl rfl ?_
  refine r_iconst (q := 52) (nI 1) dX12_list_51 rfl (by decide) ?_
  refine r_icmp_neN (q := 55) (t := 62) (by omega) (by omega) dX12_list_52 (by decide) rfl (fun h52 => ?_) (fun h52 => absurd h52 (by omega))
  refine r_iconst (q := 63) (nI 0) dX12_list_62 rfl (by decide) ?_
  refine r_istore (q := 65) (L' := [some (zr 12 0), some (zi (nI q)), some (zi (nI n)), some (zi (nI ((8 * q) + n))), some (zi (nI 0)), none, none, none, none]) dX12_list_63 rfl (by decide) rfl ?_
  have hS2 : LsI (sI (sI S 1325 0 (8 * q + n) (nI F)) 1324 0 (8 * q + n) (nI 0)) W q n F [] := ⟨hs, by rw [gI_sI, if_neg (by omega), gI_sI, if_pos ⟨rfl, rfl, rfl⟩], by rw [gI_sI, if_pos ⟨rfl, rfl, rfl⟩]; rfl, fun i hi => absurd hi (by simp), ⟨by rw [gI_sI, if_neg (by omega), gI_sI, if_neg (by omega)]; exact hw.1, fun a ha => by rw [gI_sI, if_neg (by omega), gI_sI, if_neg (by omega)]; exact hw.2 a ha⟩, fun s a b => ⟨by rw [gI_sI, if_neg (by omega), gI_sI, if_neg (by omega)]; exact (hC s a b).1, (hC s a b).2.1, fun j hj => by rw [gI_sI, if_neg (by omega), gI_sI, if_neg (by omega)]; exact (hC s a b).2.2 j hj⟩, fun s a b => ⟨by rw [gI_sI, if_neg (by omega), gI_sI, if_neg (by omega)]; exact (hMn s a b).1, (hMn s a b).2⟩, htt⟩
  have f0 : Fr (tLf F (tl W n).length q n) S (sI (sI S 1325 0 (8 * q + n) (nI F)) 1324 0 (8 * q + n) (nI 0)) := ((Fr.rf).i (by simp [tLf])).i (by simp [tLf, tLiR, tPu])
  refine lp_ls65 hE hq hn7 hn2 hF rfl (by omega) hc3 (wA W) 0 _ [] none none none none (by omega) hS2 (fun z => (tl_none hE hn2 z).symm) (fun z => LkR.first hE hn7 hn2 z) (fun S1 w5 w6 w7 w8 y1 y2 => ?_)
  exact lp_ls197 hE hq hn7 hc3 hF4 (f0.tr (y1.mono tLf_li)) y2.1 y2.2.1 y2.2.2.1 y2.2.2.2.1

set_option maxRecDepth 100000 in
theorem ok_list_1 {W : zWd} (hE : Eok (wA W) (we W)) {q F : Nat} (hq : q ≤ 1) (hF : F = 2200 * q + sm (tc W) 1) (hc3 : tc W 1 ≤ 300) (hF4 : F + tc W 1 ≤ 4400) {S : zS} (hs : Sd S) (hw : WrR S q W) (hC : Cd S q 1 W (fun s => 2200 * q + sm (tc W) s)) (hMn : Mn S q 1 (bdW W)) (htt : gJ S 1334 0 (11 * q + 1) = lN (tc W 1)) : Ok mX12_list 0 (ent 9 [zr 12 0, zi (nI q), zi (nI 1)]) [] S (fun r S1 => r = none ∧ Fr (tLf F (tl W 1).length q 1) S S1 ∧ LrR S1 W q 1 F) := by
  have hF1 : F = 2200 * q := by rw [hF]; simp [sm, tc, tcT]
  have hone := tl_one hE
  have hA3 := hE.1
  have ht0 : Tr (wA W) (we W) 1 [0] := (tl_mem hE).mp (by rw [hone]; simp)
  show Ok mX12_list 0 [some (zr 12 0), some (zi (nI q)), some (zi (nI 1)), none, none, none, none, none, none] [] S _
  refine r_bipush (q := 2) (nI 8) dX12_list_0 rfl (by decide) ?_
  refine r_iload_n (q := 3) dX12_list_2 rfl rfl rfl ?_
  refine r_imulN (q := 4) dX12_list_3 rfl ?_
  refine r_iload_n (q := 5) dX12_list_4 rfl rfl rfl ?_
  refine r_iaddN (q := 6) dX12_list_5 rfl ?_
  refine r_istore_n (q := 7) (L' := [some (zr 12 0), some (zi (nI q)), some (zi (nI 1)), some (zi (nI ((8 * q) + 1))), none, none, none, none, none]) dX12_list_6 rfl rfl (by decide) rfl ?_
  refine r_aload_n (q := 8) dX12_list_7 rfl rfl rfl ?_
  refine r_getr (q := 11) (some (1325, 0)) ck12 dX12_list_8 rfl (k := 25) (by decide) wt1303 rfl (hs.e (by decide)) (hs.r (by decide) (by decide)) ?_
  refine r_iload_n (q := 12) dX12_list_11 rfl rfl rfl ?_
  refine r_iload_n (q := 13) dX12_list_12 rfl rfl rfl ?_
  refine r_iconst (q := 14) (nI 1) dX12_list_13 rfl (by decide) ?_
  refine r_icmp_neN (q := 17) (t := 25) (by omega) (by omega) dX12_list_14 (by decide) rfl (fun h14 => absurd h14 (by omega)) (fun h14 => ?_)
  refine r_sipush (q := 20) (nI 2200) dX12_list_17 rfl (by decide) ?_
  refine r_iload_n (q := 21) dX12_list_20 rfl rfl rfl ?_
  refine r_imulN (q := 22) dX12_list_21 rfl ?_
  refine r_topi (y := nI F) (congrArg nI hF1.symm) ?_
  refine r_goto (q := 42) dX12_list_22 (by decide) ?_
  refine r_iastN (q := 43) 16 (by decide) rfl dX12_list_42 rfl (hs.e (by decide)) (hs.n rfl (by decide)) (by omega) (by decide) ?_
  refine r_aload_n (q := 44) dX12_list_43 rfl rfl rfl ?_
  refine r_getr (q := 47) (some (1324, 0)) ck12 dX12_list_44 rfl (k := 24) (by decide) wt1302 rfl (hs.e (by decide)) (hs.r (by decide) (by decide)) ?_
  refine r_iload_n (q := 48) dX12_list_47 rfl rfl rfl ?_
  refine r_iconst (q := 49) (nI 0) dX12_list_48 rfl (by decide) ?_
  refine r_iastN (q := 50) 16 (by decide) rfl dX12_list_49 rfl (hs.e (by decide)) (hs.n rfl (by decide)) (by omega) (by decide) ?_
  refine r_iload_n (q := 51) dX12_list_50 rfl rfl rfl ?_
  refine r_iconst (q := 52) (nI 1) dX12_list_51 rfl (by decide) ?_
  refine r_icmp_neN (q := 55) (t := 62) (by omega) (by omega) dX12_list_52 (by decide) rfl (fun h52 => absurd h52 (by omega)) (fun h52 => ?_)
  refine r_aload_n (q := 56) dX12_list_55 rfl rfl rfl ?_
  refine r_iload_n (q := 57) dX12_list_56 rfl rfl rfl ?_
  refine r_iconst (q := 58) (nI 1) dX12_list_57 rfl (by decide) ?_
  refine r_iconst (q := 59) (nI 4) dX12_list_58 rfl (by decide) ?_
  refine r_callV (Mc := mX12_putTree) (q := 62) (As := [zi (nI q), zi (nI 1), zi (nI 4)]) (st := []) ck12 dX12_list_59 rfl rfl mkX12_putTree wt1768 wt1770 wp103 rfl (Nat.le_of_ble_eq_true rfl) (Nat.le_of_ble_eq_true rfl) (by decide) (by decide) (by decide) (Or.inl rfl) (hs.e (by decide)) (ok_putTree (S := sI (sI S 1325 0 (8 * q + 1) (nI F)) 1324 0 (8 * q + 1) (nI 0)) (M := (tl W 1).length) (T := []) (t := [0]) hq (show 1 ≤ 7 by omega) hE ht0 (fun u hu => absurd hu List.not_mem_nil) List.Pairwise.nil List.not_mem_nil (by rw [hone]; decide) (by rw [hone]; show F + 1 ≤ 4400; omega) hs (fun a ha => by rw [gI_sI, if_neg (by omega), gI_sI, if_neg (by omega)]; exact hw.2 a ha) (by rw [gI_sI, if_neg (by omega), gI_sI, if_pos ⟨rfl, rfl, rfl⟩]) (by rw [gI_sI, if_pos ⟨rfl, rfl, rfl⟩]; rfl) (fun i hi => absurd hi (by simp))) (fun r59 S59 hp59 => ?_)
  obtain ⟨rfl, f1, T1, t1, t2, t3, t4, t5⟩ := hp59
  have f0 : Fr (tLf F (tl W 1).length q 1) S (sI (sI S 1325 0 (8 * q + 1) (nI F)) 1324 0 (8 * q + 1) (nI 0)) := ((Fr.rf).i (by simp [tLf])).i (by simp [tLf, tLiR, tPu])
  have g1 : Fr (tLf F (tl W 1).length q 1) S S59 := f0.tr (f1.mono (fun x y k z => tLf_li x y k (tLi_pu x y k z)))
  have hs1 : Sd S59 := hs.fr g1
  have eT : T1 = tl W 1 := sorted_uniq t4 (tl_sorted hE (by omega)) (fun u => by rw [t5, hone]; simp)
  rw [eT] at t2 t3
  have hwA : gI S59 1322 0 (1173 * q + 1) = nI (wA W) := (g1.1 _ _ _ (by simp [tLf, tLiR, tPu, tPa, tPt, tSo])).trans hw.1
  have htt1 : gJ S59 1334 0 (11 * q + 1) = lN (tc W 1) := (g1.2.1 _ _ _ (by simp [tLf, tLiR, tPu, tPa, tPt, tSo])).trans htt
  have h51 : gI S59 1325 0 (8 * q + 1) = nI F := (f1.1 _ _ _ (by simp [tPu, tPa])).trans (by rw [gI_sI, if_neg (by omega), gI_sI, if_pos ⟨rfl, rfl, rfl⟩])
  show Ok _ _ _ [] _ _
  refine r_iconst (q := 63) (nI 0) dX12_list_62 rfl (by decide) ?_
  refine r_istore (q := 65) (L' := [some (zr 12 0), some (zi (nI q)), some (zi (nI 1)), some (zi (nI ((8 * q) + 1))), some (zi (nI 0)), none, none, none, none]) dX12_list_63 rfl (by decide) rfl ?_
  refine r_iload (q := 67) dX12_list_65 rfl rfl ?_
  refine r_aload_n (q := 68) dX12_list_67 rfl rfl rfl ?_
  refine r_getr (q := 71) (some (1322, 0)) ck12 dX12_list_68 rfl (k := 22) (by decide) wt1300 rfl (hs1.e (by decide)) (hs1.r (by decide) (by decide)) ?_
  refine r_sipush (q := 74) (nI 1173) dX12_list_71 rfl (by decide) ?_
  refine r_iload_n (q := 75) dX12_list_74 rfl rfl rfl ?_
  refine r_imulN (q := 76) dX12_list_75 rfl ?_
  refine r_iconst (q := 77) (nI 1) dX12_list_76 rfl (by decide) ?_
  refine r_iaddN (q := 78) dX12_list_77 rfl ?_
  refine r_ialdN (q := 79) 2346 (by decide) rfl dX12_list_78 rfl (hs1.e (by decide)) (hs1.n rfl (by decide)) (by omega) (by decide) ?_
  refine r_topi (y := nI (wA W)) hwA ?_
  refine r_icmp_geN (q := 82) (t := 197) (by omega) (by omega) dX12_list_79 (by decide) rfl (fun h79 => ?_) (fun h79 => ?_)
  · skip
    exact lp_ls197 hE hq (by omega) hc3 hF4 g1 hs1 h51 t2 t3
  · skip
    refine r_aload_n (q := 83) dX12_list_82 rfl rfl rfl ?_
    refine r_getr (q := 86) (some (1334, 0)) ck12 dX12_list_83 rfl (k := 34) (by decide) wt1312 rfl (hs1.e (by decide)) (hs1.r (by decide) (by decide)) ?_
    refine r_bipush (q := 88) (nI 11) dX12_list_86 rfl (by decide) ?_
    refine r_iload_n (q := 89) dX12_list_88 rfl rfl rfl ?_
    refine r_imulN (q := 90) dX12_list_89 rfl ?_
    refine r_iload_n (q := 91) dX12_list_90 rfl rfl rfl ?_
    refine r_iaddN (q := 92) dX12_list_91 rfl ?_
    refine r_laldN (q := 93) 22 (by decide) rfl dX12_list_92 rfl (hs1.e (by decide)) (hs1.n rfl (by decide)) (by omega) (by decide) ?_
    refine r_topl (y := lN (tc W 1)) htt1 ?_
    refine r_ldc2 (q := 96) (300 : Int64) dX12_list_93 rfl wt1755 ?_
    refine r_topl (y := lN 300) rfl ?_
    refine r_lcmp (q := 97) dX12_list_96 rfl ?_
    refine r_if_gt (q := 100) (t := 197) dX12_list_97 (by decide) rfl (fun h97 => absurd h97 (Int32.not_lt.mpr ((lcmp_le (by omega) (by omega)).mpr hc3))) (fun h97 => ?_)
    refine r_iload_n (q := 101) dX12_list_100 rfl rfl rfl ?_
    refine r_iconst (q := 102) (nI 1) dX12_list_101 rfl (by decide) ?_
    refine r_icmp_leN (q := 105) (t := 197) (by omega) (by omega) dX12_list_102 (by decide) rfl (fun h102 => ?_) (fun h102 => absurd h102 (by omega))
    exact lp_ls197 hE hq (by omega) hc3 hF4 g1 hs1 h51 t2 t3

theorem ok_list {W : zWd} (hE : Eok (wA W) (we W)) {q n F : Nat} (hq : q ≤ 1) (hn7 : n ≤ 7) (hF : F = 2200 * q + sm (tc W) n) (hc3 : tc W n ≤ 300) (hF4 : F + tc W n ≤ 4400) {S : zS} (hs : Sd S) (hw : WrR S q W) (hC : Cd S q n W (fun s => 2200 * q + sm (tc W) s)) (hMn : Mn S q n (bdW W)) (htt : gJ S 1334 0 (11 * q + n) = lN (tc W n)) (hn1 : 1 ≤ n) : Ok mX12_list 0 (ent 9 [zr 12 0, zi (nI q), zi (nI n)]) [] S (fun r S1 => r = none ∧ Fr (tLf F (tl W n).length q n) S S1 ∧ LrR S1 W q n F) := by
  by_cases h : n = 1
  · subst h
    exact ok_list_1 hE hq hF hc3 hF4 hs hw hC hMn htt
  · exact ok_list_n hE hq hn7 hF hc3 hF4 hs hw hC hMn htt (by omega)

