/-- behind the places of these sizes -/
def NsR (S S1 : zS) (q e n i : Nat) (bnd : Nat → Nat) (r : Option zV) : Prop := Fr tP2 S S1 ∧ (r = some (zi (nI 0)) ∧ allF bnd ((cmp e n).drop (i + 1)) = [] ∨ r = some (zi (nI 1)) ∧ ∃ i', i' < (cmp e n).length ∧ Ps S1 e ((cmp e n).getD i' []) ∧ Pk S1 e (List.replicate e 0) ∧ (∀ s, s ∈ (cmp e n).getD i' [] → bnd s ≠ 0) ∧ allF bnd ((cmp e n).drop (i + 1)) = ((cmp e n).getD i' [], List.replicate e 0) :: RM bnd e n i' (List.replicate e 0))
theorem Mn.f2 {S S1 : zS} {q n : Nat} {bnd : Nat → Nat} (h : Mn S q n bnd) (f : Fr tP2 S S1) : Mn S1 q n bnd := h.fr (f.mono tPt_2)

set_option maxRecDepth 100000 in
theorem lp_ns {q e n : Nat} (hq : q ≤ 1) (he7 : e ≤ 7) (he2 : 2 ≤ e) (hn7 : n ≤ 7) {bnd : Nat → Nat} : ∀ (d i : Nat) (S : zS) (w1 w2 w3 : Option zV), i + d = (cmp e n).length → i < (cmp e n).length → Sd S → Pw S q e → Ps S e ((cmp e n).getD i []) → Mn S q n bnd → Ok mX12_nextSizes 0 [some (zr 12 0), w1, w2, w3] [] S (fun r S1 => NsR S S1 q e n i bnd r) := by
  intro d
  induction d with
  | zero => intro i S w1 w2 w3 hd hi; omega
  | succ d ih =>
    intro i S w1 w2 w3 hd hi hs hw hS hM
    obtain ⟨g1, g2, g3⟩ := cmp_get hi he2
    have p1 := hS (e - 1) (by omega)
    have hds := drop_sum (ss := ((cmp e n).getD i [])) (k := e - 1) (by omega)
    have hde : ((cmp e n).getD i []).drop (e - 1 + 1) = [] := List.drop_eq_nil_of_le (by omega)
    rw [hde] at hds
    have hds : (((cmp e n).getD i []).drop (e - 1)).sum = ((cmp e n).getD i []).getD (e - 1) 0 + 0 := hds
    refine r_mask [true, false, false, false] rfl ?_
    refine r_aload_n (q := 1) dX12_nextSizes_0 rfl rfl rfl ?_
    refine r_geti (q := 4) ck12 dX12_nextSizes_1 rfl (k := 38) (by decide) wt1316 (Or.inl rfl) (hs.e (by decide)) ?_
    refine r_topi (y := nI e) hw.1 ?_
    refine r_iconst (q := 5) (nI 2) dX12_nextSizes_4 rfl (by decide) ?_
    refine r_isubN (q := 6) (by omega) dX12_nextSizes_5 rfl ?_
    refine r_istore_n (q := 7) (L' := [some (zr 12 0), some (zi (nI (e - 2))), none, none]) dX12_nextSizes_6 rfl rfl (by decide) rfl ?_
    refine r_aload_n (q := 8) dX12_nextSizes_7 rfl rfl rfl ?_
    refine r_geti (q := 11) ck12 dX12_nextSizes_8 rfl (k := 38) (by decide) wt1316 (Or.inl rfl) (hs.e (by decide)) ?_
    refine r_topi (y := nI e) hw.1 ?_
    refine r_if_leN (q := 14) (t := 28) (by omega) dX12_nextSizes_11 (by decide) rfl (fun h11 => absurd h11 (by omega)) (fun h11 => ?_)
    refine r_aload_n (q := 15) dX12_nextSizes_14 rfl rfl rfl ?_
    refine r_getr (q := 18) (some (1336, 0)) ck12 dX12_nextSizes_15 rfl (k := 36) (by decide) wt1314 rfl (hs.e (by decide)) (hs.r (by decide) (by decide)) ?_
    refine r_aload_n (q := 19) dX12_nextSizes_18 rfl rfl rfl ?_
    refine r_geti (q := 22) ck12 dX12_nextSizes_19 rfl (k := 38) (by decide) wt1316 (Or.inl rfl) (hs.e (by decide)) ?_
    refine r_topi (y := nI e) hw.1 ?_
    refine r_iconst (q := 23) (nI 1) dX12_nextSizes_22 rfl (by decide) ?_
    refine r_isubN (q := 24) (by omega) dX12_nextSizes_23 rfl ?_
    refine r_ialdN (q := 25) 8 (by decide) rfl dX12_nextSizes_24 rfl (hs.e (by decide)) (hs.n rfl (by decide)) (by omega) (by decide) ?_
    refine r_topi (y := nI (((cmp e n).getD i []).getD (e - 1) 0)) p1 ?_
    refine r_goto (q := 29) dX12_nextSizes_25 (by decide) ?_
    refine r_istore_n (q := 30) (L' := [some (zr 12 0), some (zi (nI (e - 2))), some (zi (nI (((cmp e n).getD i []).getD (e - 1) 0))), none]) dX12_nextSizes_29 rfl rfl (by decide) rfl ?_
    rw [show ((cmp e n).getD i []).getD (e - 1) 0 = (((cmp e n).getD i []).drop (e - 1)).sum by omega]
    refine lp_ns1 hq he7 he2 hn7 hi hs hw hS (fun hlast w2 => ?_) (fun k hk hi2 hf hlt => ?_) (e - 1) _ (by rw [show e - 1 = e - 2 + 1 by omega, nI_prd]) (Nat.le_refl _) (fun k' a b => absurd a (by omega))
    · refine r_mask [true, true, false, false] rfl ?_
      refine r_iload_n (q := 62) dX12_nextSizes_61 rfl rfl rfl ?_
      refine r_if_ge (q := 65) (t := 67) dX12_nextSizes_62 (by decide) rfl (fun h62 => absurd h62 (by decide)) (fun h62 => ?_)
      refine r_iconst (q := 66) (nI 0) dX12_nextSizes_65 rfl (by decide) ?_
      refine r_zreturn (by decide) dX12_nextSizes_66 rfl ?_
      exact ⟨Fr.rf, Or.inl ⟨rfl, by rw [hlast, List.drop_length]; rfl⟩⟩
    · have p2 := hS k (by omega)
      have hdl := drop_le (ss := ((cmp e n).getD i [])) (k := k + 1)
      have hk9 := (g3 k (by omega)).2
      refine r_iload_n (q := 62) dX12_nextSizes_61 rfl rfl rfl ?_
      refine r_if_geN (q := 65) (t := 67) (by omega) dX12_nextSizes_62 (by decide) rfl ?_
      refine r_aload_n (q := 68) dX12_nextSizes_67 rfl rfl rfl ?_
      refine r_getr (q := 71) (some (1336, 0)) ck12 dX12_nextSizes_68 rfl (k := 36) (by decide) wt1314 rfl (hs.e (by decide)) (hs.r (by decide) (by decide)) ?_
      refine r_iload_n (q := 72) dX12_nextSizes_71 rfl rfl rfl ?_
      refine r_dup2 (q := 73) dX12_nextSizes_72 rfl rfl rfl ?_
      refine r_ialdN (q := 74) 8 (by decide) rfl dX12_nextSizes_73 rfl (hs.e (by decide)) (hs.n rfl (by decide)) (by omega) (by decide) ?_
      refine r_topi (y := nI (((cmp e n).getD i []).getD k 0)) p2 ?_
      refine r_iconst (q := 75) (nI 1) dX12_nextSizes_74 rfl (by decide) ?_
      refine r_iaddN (q := 76) dX12_nextSizes_75 rfl ?_
      refine r_iastN (q := 77) 8 (by decide) rfl dX12_nextSizes_76 rfl (hs.e (by decide)) (hs.n rfl (by decide)) (by omega) (by decide) ?_
      refine r_idecN (q := 80) (L' := [some (zr 12 0), some (zi (nI k)), some (zi (nI ((((cmp e n).getD i []).drop (k + 1)).sum - 1))), none]) 1 (by omega) rfl dX12_nextSizes_77 rfl rfl (by decide) rfl ?_
      refine r_iload_n (q := 81) dX12_nextSizes_80 rfl rfl rfl ?_
      refine r_iconst (q := 82) (nI 1) dX12_nextSizes_81 rfl (by decide) ?_
      refine r_iaddN (q := 83) dX12_nextSizes_82 rfl ?_
      refine r_istore_n (q := 84) (L' := [some (zr 12 0), some (zi (nI k)), some (zi (nI ((((cmp e n).getD i []).drop (k + 1)).sum - 1))), some (zi (nI (k + 1)))]) dX12_nextSizes_83 rfl rfl (by decide) rfl ?_
      have q1 : Fr tP2 S (sI S 1336 0 k (nI (((cmp e n).getD i []).getD k 0 + 1))) := (Fr.rf).i rfl
      have e0 : ((((cmp e n).getD i []).drop (k + 1)).sum - 1) - (k + 1 - (k + 1)) = (((cmp e n).getD i []).drop (k + 1)).sum - 1 := by omega
      rw [← e0]
      refine lp_ns2 he7 he2 hk (B := (((cmp e n).getD i []).drop (k + 1)).sum - 1) (by omega) (by omega) (e - 1 - (k + 1)) (k + 1) (sI S 1336 0 k (nI (((cmp e n).getD i []).getD k 0 + 1))) (by omega) (Nat.le_refl _) hs ((hw.fr q1).1) (fun S1 f1 a1 a2 => ?_)
      have q2 := q1.tr f1
      have hw1 := hw.fr q2
      refine r_aload_n (q := 111) dX12_nextSizes_110 rfl rfl rfl ?_
      refine r_getr (q := 114) (some (1336, 0)) ck12 dX12_nextSizes_111 rfl (k := 36) (by decide) wt1314 rfl ((hs.fr q2).e (by decide)) ((hs.fr q2).r (by decide) (by decide)) ?_
      refine r_aload_n (q := 115) dX12_nextSizes_114 rfl rfl rfl ?_
      refine r_geti (q := 118) ck12 dX12_nextSizes_115 rfl (k := 38) (by decide) wt1316 (Or.inl rfl) ((hs.fr q2).e (by decide)) ?_
      refine r_topi (y := nI e) hw1.1 ?_
      refine r_iconst (q := 119) (nI 1) dX12_nextSizes_118 rfl (by decide) ?_
      refine r_isubN (q := 120) (by omega) dX12_nextSizes_119 rfl ?_
      refine r_iload_n (q := 121) dX12_nextSizes_120 rfl rfl rfl ?_
      refine r_iastN (q := 122) 8 (by decide) rfl dX12_nextSizes_121 rfl ((hs.fr q2).e (by decide)) ((hs.fr q2).n rfl (by decide)) (by omega) (by decide) ?_
      refine r_iconst (q := 123) (nI 0) dX12_nextSizes_122 rfl (by decide) ?_
      refine r_istore_n (q := 124) (L' := [some (zr 12 0), some (zi (nI k)), some (zi (nI (((((cmp e n).getD i []).drop (k + 1)).sum - 1) - (e - 2 - k)))), some (zi (nI 0))]) dX12_nextSizes_123 rfl rfl (by decide) rfl ?_
      have q3 : Fr tP2 S (sI S1 1336 0 (e - 1) (nI (((((cmp e n).getD i []).drop (k + 1)).sum - 1) - (e - 2 - k)))) := q2.i rfl
      refine lp_ns3 he7 e 0 (sI S1 1336 0 (e - 1) (nI (((((cmp e n).getD i []).drop (k + 1)).sum - 1) - (e - 2 - k)))) (by omega) (hs.fr q3) ((hw.fr q3).1) (fun S2 f2 b1 b2 b3 => ?_)
      have q4 := q3.tr f2
      have hw2 := hw.fr q4
      have hM2 := hM.f2 q4
      have hS2 : Ps S2 e ((cmp e n).getD (i + 1) []) := fun j hj => by
        rw [b1 j, hf, fmS_get g1 hk hj, gI_sI]
        by_cases c1 : j = e - 1
        · rw [if_pos ⟨rfl, rfl, c1⟩, if_neg (by omega), if_neg (by omega), if_neg (by omega)]
        · rw [if_neg (fun z => c1 z.2.2), a1 j]
          by_cases c2 : j < k
          · rw [if_neg (by omega), gI_sI, if_neg (by omega), if_pos c2]; exact hS j hj
          · by_cases c3 : j = k
            · rw [if_neg (by omega), gI_sI, if_pos ⟨rfl, rfl, c3⟩, if_neg c2, if_pos c3]
            · rw [if_pos (by omega), if_neg c2, if_neg c3, if_pos (by omega)]
      have hK2 : Pk S2 e (List.replicate e 0) := fun j hj => by
        rw [b2 j (by omega) hj, List.getD_eq_getElem?_getD, List.getElem?_replicate, if_pos hj]; rfl
      refine r_aload_n (q := 146) dX12_nextSizes_145 rfl rfl rfl ?_
      refine r_callV (Mc := mX12_hasParts) (q := 149) (As := []) (st := []) ck12 dX12_nextSizes_146 rfl rfl mkX12_hasParts wt1780 wt1782 wp106 rfl (Nat.le_of_ble_eq_true rfl) (Nat.le_of_ble_eq_true rfl) (by decide) (by decide) (by decide) (Or.inl rfl) ((hs.fr q4).e (by decide)) (ok_hasParts hq he7 he2 hn7 hi2 (hs.fr q4) hw2 hS2 hM2) (fun r146 S146 hp146 => ?_)
      obtain ⟨hq146, hz⟩ := hp146
      rw [hq146]
      obtain ⟨v, rfl⟩ : ∃ v, r146 = some (zi v) := hz.elim (fun z => ⟨_, z.1⟩) (fun z => ⟨_, z.1⟩)
      show Ok _ _ _ [zi v] _ _
      refine r_if_eq (q := 152) (t := 154) dX12_nextSizes_149 (by decide) rfl (fun h149 => ?_) (fun h149 => ?_)
      · skip
        rcases hz with ⟨z1, hN⟩ | ⟨z1, hN⟩
        · cases z1; exact absurd h149 (by decide)
        refine r_goto (q := 0) dX12_nextSizes_154 (by decide) ?_
        refine Ok.mono (ih (i + 1) S2 _ _ _ (by omega) hi2 (hs.fr q4) hw2 hS2 hM2) fun r S3 z => ⟨q4.tr z.1, ?_⟩
        rw [allF_skip hi2 hN]
        exact z.2
      · skip
        rcases hz with ⟨z1, hN⟩ | ⟨z1, hN⟩
        rotate_left
        · cases z1; exact absurd rfl h149
        refine r_iconst (q := 153) (nI 1) dX12_nextSizes_152 rfl (by decide) ?_
        refine r_zreturn (by decide) dX12_nextSizes_153 rfl ?_
        exact ⟨q4, Or.inr ⟨rfl, i + 1, hi2, hS2, hK2, hN, allF_go hi2 hN⟩⟩

