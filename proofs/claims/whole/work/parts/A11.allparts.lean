/-- the reference stands at a parting with places -/
def PS (S : zS) (q e n : Nat) (bnd : Nat → Nat) (i : Nat) (ks : List Nat) : Prop := i < (cmp e n).length ∧ Pw S q e ∧ Ps S e ((cmp e n).getD i []) ∧ Pk S e ks ∧ ks.length = e ∧ ∀ k, k < e → ks.getD k 0 < bnd (((cmp e n).getD i []).getD k 0)
def NpR (S S1 : zS) (q e n i : Nat) (bnd : Nat → Nat) (ks : List Nat) (r : Option zV) : Prop := Fr tP2 S S1 ∧ (r = some (zi (nI 0)) ∧ RM bnd e n i ks = [] ∨ r = some (zi (nI 1)) ∧ ∃ i' ks', PS S1 q e n bnd i' ks' ∧ RM bnd e n i ks = ((cmp e n).getD i' [], ks') :: RM bnd e n i' ks')
theorem getD_mapB {ss : List Nat} {bnd : Nat → Nat} {k : Nat} (h : k < ss.length) : (ss.map bnd).getD k 0 = bnd (ss.getD k 0) := by
  rw [List.getD_eq_getElem?_getD, List.getElem?_map, List.getElem?_eq_getElem h, List.getD_eq_getElem?_getD, List.getElem?_eq_getElem h]; rfl
theorem getD_rep0 {e k : Nat} : (List.replicate e 0).getD k 0 = 0 := by
  rw [List.getD_eq_getElem?_getD, List.getElem?_replicate]
  split <;> rfl
theorem PS.nz {S : zS} {q e n i : Nat} {bnd : Nat → Nat} {ks : List Nat} (he2 : 2 ≤ e) (h : PS S q e n bnd i ks) : ∀ s, s ∈ (cmp e n).getD i [] → bnd s ≠ 0 := fun s hs => by
  obtain ⟨k, hk, rfl⟩ := List.mem_iff_getElem.mp hs
  have hl := (cmp_get h.1 he2).1
  have := h.2.2.2.2.2 k (by omega)
  rw [List.getD_eq_getElem?_getD (l := (cmp e n).getD i []), List.getElem?_eq_getElem hk] at this
  have this : ks.getD k 0 < bnd (((cmp e n).getD i [])[k]) := this
  omega
theorem PS.zero {S : zS} {q e n i : Nat} {bnd : Nat → Nat} (he2 : 2 ≤ e) (hi : i < (cmp e n).length) (hw : Pw S q e) (hS : Ps S e ((cmp e n).getD i [])) (hK : Pk S e (List.replicate e 0)) (hN : ∀ s, s ∈ (cmp e n).getD i [] → bnd s ≠ 0) : PS S q e n bnd i (List.replicate e 0) := ⟨hi, hw, hS, hK, by simp, fun k hk => by
  rw [getD_rep0]
  have := hN _ (getD_mem (t := (cmp e n).getD i []) (j := k) (by rw [(cmp_get hi he2).1]; exact hk))
  omega⟩

set_option maxRecDepth 100000 in
theorem lp_np {q e n i : Nat} (hq : q ≤ 1) (he7 : e ≤ 7) (he2 : 2 ≤ e) (hn7 : n ≤ 7) {bnd : Nat → Nat} {ks : List Nat} (hi : i < (cmp e n).length) (hkl : ks.length = e) (hkv : ∀ k, k < e → ks.getD k 0 < bnd (((cmp e n).getD i []).getD k 0)) : ∀ (d : Nat) (x : Int32) (S : zS), x = nI d - 1 → d ≤ e → Sd S → Pw S q e → Ps S e ((cmp e n).getD i []) → Mn S q n bnd → (∀ z, z < d → gI S 1337 0 z = nI (ks.getD z 0)) → (∀ z, d ≤ z → z < e → gI S 1337 0 z = nI 0) → (∀ z, d ≤ z → z < e → ks.getD z 0 + 1 = bnd (((cmp e n).getD i []).getD z 0)) → Ok mX12_nextParts 7 [some (zr 12 0), some (zi x)] [] S (fun r S1 => NpR S S1 q e n i bnd ks r) := by
  obtain ⟨g1, g2, g3⟩ := cmp_get hi he2
  have hnz : ∀ b, b ∈ ((cmp e n).getD i []).map bnd → b ≠ 0 := fun b hb => by
    obtain ⟨s, hs, rfl⟩ := List.mem_map.mp hb
    obtain ⟨k, hk, rfl⟩ := List.mem_iff_getElem.mp hs
    have := hkv k (by omega)
    rw [List.getD_eq_getElem?_getD (l := ((cmp e n).getD i [])), List.getElem?_eq_getElem hk] at this
    have this : ks.getD k 0 < bnd (((cmp e n).getD i [])[k]) := this
    omega
  intro d
  induction d with
  | zero =>
    intro x S hx hd hs hw hS hM h1 h2 h3
    obtain rfl : x = -1 := hx.trans (by decide)
    have hp0 : pst (((cmp e n).getD i []).map bnd) ks = [] := pst_none (by rw [List.length_map, g1, hkl]) (fun z hz => by rw [List.length_map] at hz; rw [getD_mapB hz]; exact h3 z (by omega) (by omega))
    have hRM : RM bnd e n i ks = allF bnd ((cmp e n).drop (i + 1)) := by unfold RM; rw [hp0]; rfl
    refine r_iload_n (q := 8) dX12_nextParts_7 rfl rfl rfl ?_
    refine r_if_lt (q := 11) (t := 64) dX12_nextParts_8 (by decide) rfl (fun h8 => ?_) (fun h8 => absurd h8 (by decide))
    refine r_aload_n (q := 65) dX12_nextParts_64 rfl rfl rfl ?_
    refine r_callV (Mc := mX12_nextSizes) (q := 68) (As := []) (st := []) ck12 dX12_nextParts_65 rfl rfl mkX12_nextSizes wt1784 wt1786 wp107 rfl (Nat.le_of_ble_eq_true rfl) (Nat.le_of_ble_eq_true rfl) (by decide) (by decide) (by decide) (Or.inl rfl) (hs.e (by decide)) (lp_ns hq he7 he2 hn7 _ i S none none none (show i + ((cmp e n).length - i) = _ by omega) hi hs hw hS hM) (fun r65 S65 hp65 => ?_)
    obtain ⟨f1, hz⟩ := hp65
    obtain ⟨v, rfl, hv⟩ : ∃ v, r65 = some (zi v) ∧ (v = nI 0 ∨ v = nI 1) := hz.elim (fun z => ⟨_, z.1, Or.inl rfl⟩) (fun z => ⟨_, z.1, Or.inr rfl⟩)
    show Ok _ _ _ [zi v] _ _
    refine r_zreturn (hv.elim (fun z => by rw [z]; decide) (fun z => by rw [z]; decide)) dX12_nextParts_68 rfl ?_
    refine ⟨f1, hz.imp (fun z => ⟨z.1, hRM.trans z.2⟩) (fun z => ?_)⟩
    obtain ⟨z1, i', z2, z3, z4, z5, z6⟩ := z
    exact ⟨z1, i', List.replicate e 0, PS.zero he2 z2 (hw.fr f1) z3 z4 z5, hRM.trans z6⟩
  | succ k ih =>
    intro x S hx hd hs hw hS hM h1 h2 h3
    obtain rfl : x = nI k := hx.trans (nI_prd k)
    obtain ⟨s1, s2⟩ := g3 k (by omega)
    have p1 := hS k (by omega)
    have p2 := h1 k (by omega)
    obtain ⟨m1, m2⟩ := hM _ s1 s2
    have hkk := hkv k (by omega)
    by_cases hlt : ks.getD k 0 + 1 < bnd (((cmp e n).getD i []).getD k 0)
    · skip
      refine r_iload_n (q := 8) dX12_nextParts_7 rfl rfl rfl ?_
      refine r_if_ltN (q := 11) (t := 64) (by omega) dX12_nextParts_8 (by decide) rfl ?_
      refine r_aload_n (q := 12) dX12_nextParts_11 rfl rfl rfl ?_
      refine r_getr (q := 15) (some (1337, 0)) ck12 dX12_nextParts_12 rfl (k := 37) (by decide) wt1315 rfl (hs.e (by decide)) (hs.r (by decide) (by decide)) ?_
      refine r_iload_n (q := 16) dX12_nextParts_15 rfl rfl rfl ?_
      refine r_dup2 (q := 17) dX12_nextParts_16 rfl rfl rfl ?_
      refine r_ialdN (q := 18) 8 (by decide) rfl dX12_nextParts_17 rfl (hs.e (by decide)) (hs.n rfl (by decide)) (by omega) (by decide) ?_
      refine r_topi (y := nI (ks.getD k 0)) p2 ?_
      refine r_iconst (q := 19) (nI 1) dX12_nextParts_18 rfl (by decide) ?_
      refine r_iaddN (q := 20) dX12_nextParts_19 rfl ?_
      refine r_iastN (q := 21) 8 (by decide) rfl dX12_nextParts_20 rfl (hs.e (by decide)) (hs.n rfl (by decide)) (by omega) (by decide) ?_
      refine r_aload_n (q := 22) dX12_nextParts_21 rfl rfl rfl ?_
      refine r_getr (q := 25) (some (1337, 0)) ck12 dX12_nextParts_22 rfl (k := 37) (by decide) wt1315 rfl (hs.e (by decide)) (hs.r (by decide) (by decide)) ?_
      refine r_iload_n (q := 26) dX12_nextParts_25 rfl rfl rfl ?_
      refine r_ialdN (q := 27) 8 (by decide) rfl dX12_nextParts_26 rfl (hs.e (by decide)) (hs.n rfl (by decide)) (by omega) (by decide) ?_
      refine r_topi (y := nI ((ks.getD k 0) + 1)) (by simp [gI_sI, gJ_sJ, gI_sJ, gJ_sI]) ?_
      refine r_aload_n (q := 28) dX12_nextParts_27 rfl rfl rfl ?_
      refine r_getr (q := 31) (some (1324, 0)) ck12 dX12_nextParts_28 rfl (k := 24) (by decide) wt1302 rfl (hs.e (by decide)) (hs.r (by decide) (by decide)) ?_
      refine r_bipush (q := 33) (nI 8) dX12_nextParts_31 rfl (by decide) ?_
      refine r_aload_n (q := 34) dX12_nextParts_33 rfl rfl rfl ?_
      refine r_geti (q := 37) ck12 dX12_nextParts_34 rfl (k := 40) (by decide) wt1318 (Or.inl rfl) (hs.e (by decide)) ?_
      refine r_topi (y := gI S 12 0 40) (by simp [gI_sI, gJ_sJ, gI_sJ, gJ_sI]) ?_
      refine r_topi (y := nI q) hw.2 ?_
      refine r_imulN (q := 38) dX12_nextParts_37 rfl ?_
      refine r_aload_n (q := 39) dX12_nextParts_38 rfl rfl rfl ?_
      refine r_getr (q := 42) (some (1336, 0)) ck12 dX12_nextParts_39 rfl (k := 36) (by decide) wt1314 rfl (hs.e (by decide)) (hs.r (by decide) (by decide)) ?_
      refine r_iload_n (q := 43) dX12_nextParts_42 rfl rfl rfl ?_
      refine r_ialdN (q := 44) 8 (by decide) rfl dX12_nextParts_43 rfl (hs.e (by decide)) (hs.n rfl (by decide)) (by omega) (by decide) ?_
      refine r_topi (y := gI S 1336 0 k) (by simp [gI_sI, gJ_sJ, gI_sJ, gJ_sI]) ?_
      refine r_topi (y := nI (((cmp e n).getD i []).getD k 0)) p1 ?_
      refine r_iaddN (q := 45) dX12_nextParts_44 rfl ?_
      refine r_ialdN (q := 46) 16 (by decide) rfl dX12_nextParts_45 rfl (hs.e (by decide)) (hs.n rfl (by decide)) (by omega) (by decide) ?_
      refine r_topi (y := gI S 1324 0 ((8 * q) + (((cmp e n).getD i []).getD k 0))) (by simp [gI_sI, gJ_sJ, gI_sJ, gJ_sI]) ?_
      refine r_topi (y := nI (bnd (((cmp e n).getD i []).getD k 0))) m1 ?_
      refine r_icmp_geN (q := 49) (t := 51) (by omega) (by omega) dX12_nextParts_46 (by decide) rfl (fun h46 => absurd h46 (by omega)) (fun h46 => ?_)
      refine r_iconst (q := 50) (nI 1) dX12_nextParts_49 rfl (by decide) ?_
      refine r_zreturn (by decide) dX12_nextParts_50 rfl ?_
      have f1 : Fr tP2 S (sI S 1337 0 k (nI (ks.getD k 0 + 1))) := (Fr.rf).i rfl
      have hps := pst_some (ks := ks) (k := k) hnz (by rw [List.length_map, g1, hkl]) (show k < (((cmp e n).getD i []).map bnd).length by rw [List.length_map]; omega) (by rw [getD_mapB (by omega)]; exact hlt) (fun z a b => by rw [List.length_map] at b; rw [getD_mapB b]; exact h3 z (by omega) (by omega))
      rw [List.length_map, g1] at hps
      have hgd : ∀ z, z < e → (ks.take k ++ (ks.getD k 0 + 1) :: List.replicate (e - 1 - k) 0).getD z 0 = if z < k then ks.getD z 0 else if z = k then ks.getD k 0 + 1 else 0 := fun z hz => by
        rw [getD_appN, List.length_take, Nat.min_eq_left (by omega)]
        by_cases q1 : z < k
        · rw [if_pos q1, if_pos q1, List.getD_eq_getElem?_getD, List.getElem?_take, if_pos q1, List.getD_eq_getElem?_getD]
        · rw [if_neg q1, if_neg q1]
          by_cases q2 : z = k
          · rw [if_pos q2, q2, Nat.sub_self]; rfl
          · rw [if_neg q2]
            obtain ⟨d', hd'⟩ : ∃ d', z - k = d' + 1 := ⟨z - k - 1, by omega⟩
            rw [hd']
            exact getD_rep0
      refine ⟨f1, Or.inr ⟨rfl, i, ks.take k ++ (ks.getD k 0 + 1) :: List.replicate (e - 1 - k) 0, ⟨hi, hw.fr f1, fun z hz => by rw [gI_sI, if_neg (by omega)]; exact hS z hz, fun z hz => ?_, by simp; omega, fun z hz => ?_⟩, ?_⟩⟩
      · rw [hgd z hz, gI_sI]
        by_cases q2 : z = k
        · rw [if_pos ⟨rfl, rfl, q2⟩, if_neg (by omega), if_pos q2]
        · rw [if_neg (fun y => q2 y.2.2)]
          by_cases q1 : z < k
          · rw [if_pos q1]; exact h1 z (by omega)
          · rw [if_neg q1, if_neg q2]; exact h2 z (by omega) hz
      · rw [hgd z hz]
        have := hkv z hz
        by_cases q1 : z < k
        · rw [if_pos q1]; exact this
        · rw [if_neg q1]
          by_cases q2 : z = k
          · rw [if_pos q2, q2]; exact hlt
          · rw [if_neg q2]; omega
      · unfold RM
        rw [hps]
        rfl
    · skip
      refine r_iload_n (q := 8) dX12_nextParts_7 rfl rfl rfl ?_
      refine r_if_ltN (q := 11) (t := 64) (by omega) dX12_nextParts_8 (by decide) rfl ?_
      refine r_aload_n (q := 12) dX12_nextParts_11 rfl rfl rfl ?_
      refine r_getr (q := 15) (some (1337, 0)) ck12 dX12_nextParts_12 rfl (k := 37) (by decide) wt1315 rfl (hs.e (by decide)) (hs.r (by decide) (by decide)) ?_
      refine r_iload_n (q := 16) dX12_nextParts_15 rfl rfl rfl ?_
      refine r_dup2 (q := 17) dX12_nextParts_16 rfl rfl rfl ?_
      refine r_ialdN (q := 18) 8 (by decide) rfl dX12_nextParts_17 rfl (hs.e (by decide)) (hs.n rfl (by decide)) (by omega) (by decide) ?_
      refine r_topi (y := nI (ks.getD k 0)) p2 ?_
      refine r_iconst (q := 19) (nI 1) dX12_nextParts_18 rfl (by decide) ?_
      refine r_iaddN (q := 20) dX12_nextParts_19 rfl ?_
      refine r_iastN (q := 21) 8 (by decide) rfl dX12_nextParts_20 rfl (hs.e (by decide)) (hs.n rfl (by decide)) (by omega) (by decide) ?_
      refine r_aload_n (q := 22) dX12_nextParts_21 rfl rfl rfl ?_
      refine r_getr (q := 25) (some (1337, 0)) ck12 dX12_nextParts_22 rfl (k := 37) (by decide) wt1315 rfl (hs.e (by decide)) (hs.r (by decide) (by decide)) ?_
      refine r_iload_n (q := 26) dX12_nextParts_25 rfl rfl rfl ?_
      refine r_ialdN (q := 27) 8 (by decide) rfl dX12_nextParts_26 rfl (hs.e (by decide)) (hs.n rfl (by decide)) (by omega) (by decide) ?_
      refine r_topi (y := nI ((ks.getD k 0) + 1)) (by simp [gI_sI, gJ_sJ, gI_sJ, gJ_sI]) ?_
      refine r_aload_n (q := 28) dX12_nextParts_27 rfl rfl rfl ?_
      refine r_getr (q := 31) (some (1324, 0)) ck12 dX12_nextParts_28 rfl (k := 24) (by decide) wt1302 rfl (hs.e (by decide)) (hs.r (by decide) (by decide)) ?_
      refine r_bipush (q := 33) (nI 8) dX12_nextParts_31 rfl (by decide) ?_
      refine r_aload_n (q := 34) dX12_nextParts_33 rfl rfl rfl ?_
      refine r_geti (q := 37) ck12 dX12_nextParts_34 rfl (k := 40) (by decide) wt1318 (Or.inl rfl) (hs.e (by decide)) ?_
      refine r_topi (y := gI S 12 0 40) (by simp [gI_sI, gJ_sJ, gI_sJ, gJ_sI]) ?_
      refine r_topi (y := nI q) hw.2 ?_
      refine r_imulN (q := 38) dX12_nextParts_37 rfl ?_
      refine r_aload_n (q := 39) dX12_nextParts_38 rfl rfl rfl ?_
      refine r_getr (q := 42) (some (1336, 0)) ck12 dX12_nextParts_39 rfl (k := 36) (by decide) wt1314 rfl (hs.e (by decide)) (hs.r (by decide) (by decide)) ?_
      refine r_iload_n (q := 43) dX12_nextParts_42 rfl rfl rfl ?_
      refine r_ialdN (q := 44) 8 (by decide) rfl dX12_nextParts_43 rfl (hs.e (by decide)) (hs.n rfl (by decide)) (by omega) (by decide) ?_
      refine r_topi (y := gI S 1336 0 k) (by simp [gI_sI, gJ_sJ, gI_sJ, gJ_sI]) ?_
      refine r_topi (y := nI (((cmp e n).getD i []).getD k 0)) p1 ?_
      refine r_iaddN (q := 45) dX12_nextParts_44 rfl ?_
      refine r_ialdN (q := 46) 16 (by decide) rfl dX12_nextParts_45 rfl (hs.e (by decide)) (hs.n rfl (by decide)) (by omega) (by decide) ?_
      refine r_topi (y := gI S 1324 0 ((8 * q) + (((cmp e n).getD i []).getD k 0))) (by simp [gI_sI, gJ_sJ, gI_sJ, gJ_sI]) ?_
      refine r_topi (y := nI (bnd (((cmp e n).getD i []).getD k 0))) m1 ?_
      refine r_icmp_geN (q := 49) (t := 51) (by omega) (by omega) dX12_nextParts_46 (by decide) rfl (fun h46 => ?_) (fun h46 => absurd h46 (by omega))
      refine r_aload_n (q := 52) dX12_nextParts_51 rfl rfl rfl ?_
      refine r_getr (q := 55) (some (1337, 0)) ck12 dX12_nextParts_52 rfl (k := 37) (by decide) wt1315 rfl (hs.e (by decide)) (hs.r (by decide) (by decide)) ?_
      refine r_iload_n (q := 56) dX12_nextParts_55 rfl rfl rfl ?_
      refine r_iconst (q := 57) (nI 0) dX12_nextParts_56 rfl (by decide) ?_
      refine r_iastN (q := 58) 8 (by decide) rfl dX12_nextParts_57 rfl (hs.e (by decide)) (hs.n rfl (by decide)) (by omega) (by decide) ?_
      refine r_iinc (q := 61) (L' := [some (zr 12 0), some (zi ((nI k) + (-1)))]) ((nI k) + (-1)) dX12_nextParts_58 rfl rfl (by decide) rfl rfl ?_
      refine r_goto (q := 7) dX12_nextParts_61 (by decide) ?_
      have f1 : Fr tP2 S (sI (sI S 1337 0 k (nI ((ks.getD k 0) + 1))) 1337 0 k (nI 0)) := ((Fr.rf).i rfl).i rfl
      refine Ok.mono (ih _ _ (Int32.sub_eq_add_neg _ _).symm (by omega) (hs.fr f1) (hw.fr f1) (fun z hz => by rw [gI_sI, if_neg (by omega), gI_sI, if_neg (by omega)]; exact hS z hz) (hM.f2 f1) (fun z hz => by rw [gI_sI, if_neg (by omega), gI_sI, if_neg (by omega)]; exact h1 z (by omega)) (fun z a b => ?_) (fun z a b => if e3 : z = k then by rw [e3]; omega else h3 z (by omega) b)) fun r S2 y => ⟨f1.tr y.1, y.2⟩
      by_cases e3 : z = k
      · rw [gI_sI, if_pos ⟨rfl, rfl, e3⟩]
      · rw [gI_sI, if_neg (fun y => e3 y.2.2), gI_sI, if_neg (fun y => e3 y.2.2)]; exact h2 z (by omega) b

set_option maxRecDepth 100000 in
theorem ok_nextParts {q e n i : Nat} (hq : q ≤ 1) (he7 : e ≤ 7) (he2 : 2 ≤ e) (hn7 : n ≤ 7) {bnd : Nat → Nat} {ks : List Nat} {S : zS} (hs : Sd S) (hP : PS S q e n bnd i ks) (hM : Mn S q n bnd) : Ok mX12_nextParts 0 (ent 2 [zr 12 0]) [] S (fun r S1 => NpR S S1 q e n i bnd ks r) := by
  show Ok mX12_nextParts 0 [some (zr 12 0), none] [] S _
  refine r_aload_n (q := 1) dX12_nextParts_0 rfl rfl rfl ?_
  refine r_geti (q := 4) ck12 dX12_nextParts_1 rfl (k := 38) (by decide) wt1316 (Or.inl rfl) (hs.e (by decide)) ?_
  refine r_topi (y := nI e) hP.2.1.1 ?_
  refine r_iconst (q := 5) (nI 1) dX12_nextParts_4 rfl (by decide) ?_
  refine r_isubN (q := 6) (by omega) dX12_nextParts_5 rfl ?_
  refine r_istore_n (q := 7) (L' := [some (zr 12 0), some (zi (nI (e - 1)))]) dX12_nextParts_6 rfl rfl (by decide) rfl ?_
  exact lp_np hq he7 he2 hn7 hP.1 hP.2.2.2.2.1 hP.2.2.2.2.2 e _ S (by rw [show e = e - 1 + 1 by omega, nI_prd]; rfl) (Nat.le_refl _) hs hP.2.1 hP.2.2.1 hM (fun z hz => hP.2.2.2.1 z hz) (fun z a b => absurd a (by omega)) (fun z a b => absurd a (by omega))

set_option maxRecDepth 100000 in
theorem lp_fp1 {q e n : Nat} (hq : q ≤ 1) (he7 : e ≤ 7) (he2 : 2 ≤ e) (hn7 : n ≤ 7) {bnd : Nat → Nat} (hen : e ≤ n) {Po : Option zV → zS → Prop} : ∀ (d k : Nat) (S : zS), k + d = e → Sd S → (∀ S1, Fr tP2 S S1 → (∀ z, z < e → gI S1 1336 0 z = if k ≤ z then (if z = e - 1 then nI (n - e + 1) else nI 1) else gI S 1336 0 z) → Ok mX12_firstParts 61 [some (zr 12 0), some (zi (nI q)), some (zi (nI e)), some (zi (nI n)), some (zi (nI e))] [] S1 Po) → Ok mX12_firstParts 25 [some (zr 12 0), some (zi (nI q)), some (zi (nI e)), some (zi (nI n)), some (zi (nI k))] [] S Po := by
  intro d
  induction d with
  | zero =>
    intro k S hk hs K
    obtain rfl : k = e := by omega
    refine r_iload (q := 27) dX12_firstParts_25 rfl rfl ?_
    refine r_iload_n (q := 28) dX12_firstParts_27 rfl rfl rfl ?_
    refine r_icmp_geN (q := 31) (t := 61) (by omega) (by omega) dX12_firstParts_28 (by decide) rfl (fun h28 => ?_) (fun h28 => absurd h28 (by omega))
    exact K S Fr.rf (fun z hz => (if_neg (by omega)).symm)
  | succ d ih =>
    intro k S hk hs K
    by_cases hl : k = e - 1
    · skip
      refine r_iload (q := 27) dX12_firstParts_25 rfl rfl ?_
      refine r_iload_n (q := 28) dX12_firstParts_27 rfl rfl rfl ?_
      refine r_icmp_geN (q := 31) (t := 61) (by omega) (by omega) dX12_firstParts_28 (by decide) rfl (fun h28 => absurd h28 (by omega)) (fun h28 => ?_)
      refine r_aload_n (q := 32) dX12_firstParts_31 rfl rfl rfl ?_
      refine r_getr (q := 35) (some (1336, 0)) ck12 dX12_firstParts_32 rfl (k := 36) (by decide) wt1314 rfl (hs.e (by decide)) (hs.r (by decide) (by decide)) ?_
      refine r_iload (q := 37) dX12_firstParts_35 rfl rfl ?_
      refine r_iload (q := 39) dX12_firstParts_37 rfl rfl ?_
      refine r_iload_n (q := 40) dX12_firstParts_39 rfl rfl rfl ?_
      refine r_iconst (q := 41) (nI 1) dX12_firstParts_40 rfl (by decide) ?_
      refine r_isubN (q := 42) (by omega) dX12_firstParts_41 rfl ?_
      refine r_icmp_neN (q := 45) (t := 53) (by omega) (by omega) dX12_firstParts_42 (by decide) rfl (fun h42 => absurd h42 (by omega)) (fun h42 => ?_)
      refine r_iload_n (q := 46) dX12_firstParts_45 rfl rfl rfl ?_
      refine r_iload_n (q := 47) dX12_firstParts_46 rfl rfl rfl ?_
      refine r_isubN (q := 48) (by omega) dX12_firstParts_47 rfl ?_
      refine r_iconst (q := 49) (nI 1) dX12_firstParts_48 rfl (by decide) ?_
      refine r_iaddN (q := 50) dX12_firstParts_49 rfl ?_
      refine r_goto (q := 54) dX12_firstParts_50 (by decide) ?_
      refine r_iastN (q := 55) 8 (by decide) rfl dX12_firstParts_54 rfl (hs.e (by decide)) (hs.n rfl (by decide)) (by omega) (by decide) ?_
      refine r_iincN (q := 58) (L' := [some (zr 12 0), some (zi (nI q)), some (zi (nI e)), some (zi (nI n)), some (zi (nI (k + 1)))]) 1 rfl dX12_firstParts_55 rfl rfl (by decide) rfl ?_
      refine r_goto (q := 25) dX12_firstParts_58 (by decide) ?_
      have f1 : Fr tP2 S (sI S 1336 0 k (nI ((n - e) + 1))) := (Fr.rf).i rfl
      refine ih (k + 1) _ (by omega) hs (fun S1 g1 g2 => K S1 (f1.tr g1) (fun z hz => ?_))
      rw [g2 z hz]
      by_cases a : k + 1 ≤ z
      · rw [if_pos a, if_pos (show k ≤ z by omega)]
      · rw [if_neg a, gI_sI]
        by_cases b : z = k
        · rw [if_pos ⟨rfl, rfl, b⟩, if_pos (show k ≤ z by omega), if_pos (by omega)]
        · rw [if_neg (fun y => b y.2.2), if_neg (by omega)]
    · skip
      refine r_iload (q := 27) dX12_firstParts_25 rfl rfl ?_
      refine r_iload_n (q := 28) dX12_firstParts_27 rfl rfl rfl ?_
      refine r_icmp_geN (q := 31) (t := 61) (by omega) (by omega) dX12_firstParts_28 (by decide) rfl (fun h28 => absurd h28 (by omega)) (fun h28 => ?_)
      refine r_aload_n (q := 32) dX12_firstParts_31 rfl rfl rfl ?_
      refine r_getr (q := 35) (some (1336, 0)) ck12 dX12_firstParts_32 rfl (k := 36) (by decide) wt1314 rfl (hs.e (by decide)) (hs.r (by decide) (by decide)) ?_
      refine r_iload (q := 37) dX12_firstParts_35 rfl rfl ?_
      refine r_iload (q := 39) dX12_firstParts_37 rfl rfl ?_
      refine r_iload_n (q := 40) dX12_firstParts_39 rfl rfl rfl ?_
      refine r_iconst (q := 41) (nI 1) dX12_firstParts_40 rfl (by decide) ?_
      refine r_isubN (q := 42) (by omega) dX12_firstParts_41 rfl ?_
      refine r_icmp_neN (q := 45) (t := 53) (by omega) (by omega) dX12_firstParts_42 (by decide) rfl (fun h42 => ?_) (fun h42 => absurd h42 (by omega))
      refine r_iconst (q := 54) (nI 1) dX12_firstParts_53 rfl (by decide) ?_
      refine r_iastN (q := 55) 8 (by decide) rfl dX12_firstParts_54 rfl (hs.e (by decide)) (hs.n rfl (by decide)) (by omega) (by decide) ?_
      refine r_iincN (q := 58) (L' := [some (zr 12 0), some (zi (nI q)), some (zi (nI e)), some (zi (nI n)), some (zi (nI (k + 1)))]) 1 rfl dX12_firstParts_55 rfl rfl (by decide) rfl ?_
      refine r_goto (q := 25) dX12_firstParts_58 (by decide) ?_
      have f1 : Fr tP2 S (sI S 1336 0 k (nI 1)) := (Fr.rf).i rfl
      refine ih (k + 1) _ (by omega) hs (fun S1 g1 g2 => K S1 (f1.tr g1) (fun z hz => ?_))
      rw [g2 z hz]
      by_cases a : k + 1 ≤ z
      · rw [if_pos a, if_pos (show k ≤ z by omega)]
      · rw [if_neg a, gI_sI]
        by_cases b : z = k
        · rw [if_pos ⟨rfl, rfl, b⟩, if_pos (show k ≤ z by omega), if_neg (by omega)]
        · rw [if_neg (fun y => b y.2.2), if_neg (by omega)]

set_option maxRecDepth 100000 in
theorem lp_fp2 {q e n : Nat} (he7 : e ≤ 7) {Po : Option zV → zS → Prop} : ∀ (d k : Nat) (S : zS), k + d = e → Sd S → (∀ S1, Fr tP2 S S1 → (∀ z, gI S1 1336 0 z = gI S 1336 0 z) → (∀ z, k ≤ z → z < e → gI S1 1337 0 z = nI 0) → (∀ z, z < k → gI S1 1337 0 z = gI S 1337 0 z) → Ok mX12_firstParts 84 [some (zr 12 0), some (zi (nI q)), some (zi (nI e)), some (zi (nI n)), some (zi (nI e))] [] S1 Po) → Ok mX12_firstParts 64 [some (zr 12 0), some (zi (nI q)), some (zi (nI e)), some (zi (nI n)), some (zi (nI k))] [] S Po := by
  intro d
  induction d with
  | zero =>
    intro k S hk hs K
    obtain rfl : k = e := by omega
    refine r_iload (q := 66) dX12_firstParts_64 rfl rfl ?_
    refine r_iload_n (q := 67) dX12_firstParts_66 rfl rfl rfl ?_
    refine r_icmp_geN (q := 70) (t := 84) (by omega) (by omega) dX12_firstParts_67 (by decide) rfl (fun h67 => ?_) (fun h67 => absurd h67 (by omega))
    exact K S Fr.rf (fun z => rfl) (fun z a b => absurd a (by omega)) (fun z _ => rfl)
  | succ d ih =>
    intro k S hk hs K
    refine r_iload (q := 66) dX12_firstParts_64 rfl rfl ?_
    refine r_iload_n (q := 67) dX12_firstParts_66 rfl rfl rfl ?_
    refine r_icmp_geN (q := 70) (t := 84) (by omega) (by omega) dX12_firstParts_67 (by decide) rfl (fun h67 => absurd h67 (by omega)) (fun h67 => ?_)
    refine r_aload_n (q := 71) dX12_firstParts_70 rfl rfl rfl ?_
    refine r_getr (q := 74) (some (1337, 0)) ck12 dX12_firstParts_71 rfl (k := 37) (by decide) wt1315 rfl (hs.e (by decide)) (hs.r (by decide) (by decide)) ?_
    refine r_iload (q := 76) dX12_firstParts_74 rfl rfl ?_
    refine r_iconst (q := 77) (nI 0) dX12_firstParts_76 rfl (by decide) ?_
    refine r_iastN (q := 78) 8 (by decide) rfl dX12_firstParts_77 rfl (hs.e (by decide)) (hs.n rfl (by decide)) (by omega) (by decide) ?_
    refine r_iincN (q := 81) (L' := [some (zr 12 0), some (zi (nI q)), some (zi (nI e)), some (zi (nI n)), some (zi (nI (k + 1)))]) 1 rfl dX12_firstParts_78 rfl rfl (by decide) rfl ?_
    refine r_goto (q := 64) dX12_firstParts_81 (by decide) ?_
    have f1 : Fr tP2 S (sI S 1337 0 k (nI 0)) := (Fr.rf).i rfl
    refine ih (k + 1) _ (by omega) hs (fun S1 g1 g2 g3 g4 => K S1 (f1.tr g1) (fun z => by rw [g2 z, gI_sI, if_neg (by omega)]) (fun z a b => ?_) (fun z a => by rw [g4 z (by omega), gI_sI, if_neg (by omega)]))
    by_cases q : z = k
    · rw [q, g4 k (by omega), gI_sI, if_pos ⟨rfl, rfl, rfl⟩]
    · exact g3 z (by omega) b

set_option maxRecDepth 100000 in
theorem ok_firstParts_n {q e n : Nat} (hq : q ≤ 1) (he7 : e ≤ 7) (he2 : 2 ≤ e) (hn7 : n ≤ 7) {bnd : Nat → Nat} {S : zS} (hs : Sd S) (hM : Mn S q n bnd) (hen : ¬ e ≤ n) : Ok mX12_firstParts 0 (ent 5 [zr 12 0, zi (nI q), zi (nI e), zi (nI n)]) [] S (fun r S1 => Fr tPt S S1 ∧ (r = some (zi (nI 0)) ∧ allF bnd (cmp e n) = [] ∨ r = some (zi (nI 1)) ∧ ∃ i ks, PS S1 q e n bnd i ks ∧ allF bnd (cmp e n) = ((cmp e n).getD i [], ks) :: RM bnd e n i ks)) := by
  have f0 : Fr tPt S (sI (sI (sI S 12 0 40 (nI q)) 12 0 38 (nI e)) 12 0 39 (nI n)) := (((Fr.rf).i rfl).i rfl).i rfl
  have hw0 : Pw (sI (sI (sI S 12 0 40 (nI q)) 12 0 38 (nI e)) 12 0 39 (nI n)) q e := ⟨by rw [gI_sI, if_neg (by omega), gI_sI, if_pos ⟨rfl, rfl, rfl⟩], by rw [gI_sI, if_neg (by omega), gI_sI, if_neg (by omega), gI_sI, if_pos ⟨rfl, rfl, rfl⟩]⟩
  have hs0 : Sd (sI (sI (sI S 12 0 40 (nI q)) 12 0 38 (nI e)) 12 0 39 (nI n)) := hs.fr f0
  show Ok mX12_firstParts 0 [some (zr 12 0), some (zi (nI q)), some (zi (nI e)), some (zi (nI n)), none] [] S _
  refine r_aload_n (q := 1) dX12_firstParts_0 rfl rfl rfl ?_
  refine r_iload_n (q := 2) dX12_firstParts_1 rfl rfl rfl ?_
  refine r_puti (q := 5) ck12 dX12_firstParts_2 rfl (k := 40) (by decide) wt1318 (Or.inl rfl) rfl (hs.e (by decide)) ?_
  refine r_aload_n (q := 6) dX12_firstParts_5 rfl rfl rfl ?_
  refine r_iload_n (q := 7) dX12_firstParts_6 rfl rfl rfl ?_
  refine r_puti (q := 10) ck12 dX12_firstParts_7 rfl (k := 38) (by decide) wt1316 (Or.inl rfl) rfl (hs.e (by decide)) ?_
  refine r_aload_n (q := 11) dX12_firstParts_10 rfl rfl rfl ?_
  refine r_iload_n (q := 12) dX12_firstParts_11 rfl rfl rfl ?_
  refine r_puti (q := 15) ck12 dX12_firstParts_12 rfl (k := 39) (by decide) wt1317 (Or.inl rfl) rfl (hs.e (by decide)) ?_
  refine r_iload_n (q := 16) dX12_firstParts_15 rfl rfl rfl ?_
  refine r_iload_n (q := 17) dX12_firstParts_16 rfl rfl rfl ?_
  refine r_icmp_leN (q := 20) (t := 22) (by omega) (by omega) dX12_firstParts_17 (by decide) rfl (fun h17 => absurd h17 (by omega)) (fun h17 => ?_)
  refine r_iconst (q := 21) (nI 0) dX12_firstParts_20 rfl (by decide) ?_
  refine r_zreturn (by decide) dX12_firstParts_21 rfl ?_
  exact ⟨f0, Or.inl ⟨rfl, by rw [cmp_none he7 hn7 hen]; rfl⟩⟩

set_option maxRecDepth 100000 in
theorem ok_firstParts_y {q e n : Nat} (hq : q ≤ 1) (he7 : e ≤ 7) (he2 : 2 ≤ e) (hn7 : n ≤ 7) {bnd : Nat → Nat} {S : zS} (hs : Sd S) (hM : Mn S q n bnd) (hen : e ≤ n) : Ok mX12_firstParts 0 (ent 5 [zr 12 0, zi (nI q), zi (nI e), zi (nI n)]) [] S (fun r S1 => Fr tPt S S1 ∧ (r = some (zi (nI 0)) ∧ allF bnd (cmp e n) = [] ∨ r = some (zi (nI 1)) ∧ ∃ i ks, PS S1 q e n bnd i ks ∧ allF bnd (cmp e n) = ((cmp e n).getD i [], ks) :: RM bnd e n i ks)) := by
  have f0 : Fr tPt S (sI (sI (sI S 12 0 40 (nI q)) 12 0 38 (nI e)) 12 0 39 (nI n)) := (((Fr.rf).i rfl).i rfl).i rfl
  have hw0 : Pw (sI (sI (sI S 12 0 40 (nI q)) 12 0 38 (nI e)) 12 0 39 (nI n)) q e := ⟨by rw [gI_sI, if_neg (by omega), gI_sI, if_pos ⟨rfl, rfl, rfl⟩], by rw [gI_sI, if_neg (by omega), gI_sI, if_neg (by omega), gI_sI, if_pos ⟨rfl, rfl, rfl⟩]⟩
  have hs0 : Sd (sI (sI (sI S 12 0 40 (nI q)) 12 0 38 (nI e)) 12 0 39 (nI n)) := hs.fr f0
  show Ok mX12_firstParts 0 [some (zr 12 0), some (zi (nI q)), some (zi (nI e)), some (zi (nI n)), none] [] S _
  refine r_aload_n (q := 1) dX12_firstParts_0 rfl rfl rfl ?_
  refine r_iload_n (q := 2) dX12_firstParts_1 rfl rfl rfl ?_
  refine r_puti (q := 5) ck12 dX12_firstParts_2 rfl (k := 40) (by decide) wt1318 (Or.inl rfl) rfl (hs.e (by decide)) ?_
  refine r_aload_n (q := 6) dX12_firstParts_5 rfl rfl rfl ?_
  refine r_iload_n (q := 7) dX12_firstParts_6 rfl rfl rfl ?_
  refine r_puti (q := 10) ck12 dX12_firstParts_7 rfl (k := 38) (by decide) wt1316 (Or.inl rfl) rfl (hs.e (by decide)) ?_
  refine r_aload_n (q := 11) dX12_firstParts_10 rfl rfl rfl ?_
  refine r_iload_n (q := 12) dX12_firstParts_11 rfl rfl rfl ?_
  refine r_puti (q := 15) ck12 dX12_firstParts_12 rfl (k := 39) (by decide) wt1317 (Or.inl rfl) rfl (hs.e (by decide)) ?_
  refine r_iload_n (q := 16) dX12_firstParts_15 rfl rfl rfl ?_
  refine r_iload_n (q := 17) dX12_firstParts_16 rfl rfl rfl ?_
  refine r_icmp_leN (q := 20) (t := 22) (by omega) (by omega) dX12_firstParts_17 (by decide) rfl (fun h17 => ?_) (fun h17 => absurd h17 (by omega))
  refine r_iconst (q := 23) (nI 0) dX12_firstParts_22 rfl (by decide) ?_
  refine r_istore (q := 25) (L' := [some (zr 12 0), some (zi (nI q)), some (zi (nI e)), some (zi (nI n)), some (zi (nI 0))]) dX12_firstParts_23 rfl (by decide) rfl ?_
  refine lp_fp1 hq he7 he2 hn7 hen (bnd := bnd) e 0 (sI (sI (sI S 12 0 40 (nI q)) 12 0 38 (nI e)) 12 0 39 (nI n)) (by omega) hs0 (fun S1 f1 a1 => ?_)
  refine r_iconst (q := 62) (nI 0) dX12_firstParts_61 rfl (by decide) ?_
  refine r_istore (q := 64) (L' := [some (zr 12 0), some (zi (nI q)), some (zi (nI e)), some (zi (nI n)), some (zi (nI 0))]) dX12_firstParts_62 rfl (by decide) rfl ?_
  refine lp_fp2 he7 e 0 S1 (by omega) (hs0.fr f1) (fun S2 f2 b1 b2 b3 => ?_)
  have q4 := f1.tr f2
  have hw2 := hw0.fr q4
  obtain ⟨i0, e0⟩ := cmp_first he7 hn7 (by omega) hen
  have f5 : Fr tPt S S2 := f0.tr (q4.mono tPt_2)
  have hM2 := hM.fr f5
  have hS2 : Ps S2 e ((cmp e n).getD 0 []) := fun z hz => by
    rw [b1 z, a1 z hz, if_pos (by omega), e0, getD_appN, List.length_replicate]
    by_cases c1 : z = e - 1
    · rw [if_pos c1, if_neg (by omega), c1, Nat.sub_self]; rfl
    · rw [if_neg c1, if_pos (by omega), List.getD_eq_getElem?_getD, List.getElem?_replicate, if_pos (by omega)]; rfl
  have hK2 : Pk S2 e (List.replicate e 0) := fun z hz => by rw [b2 z (by omega) hz, getD_rep0]
  refine r_aload_n (q := 85) dX12_firstParts_84 rfl rfl rfl ?_
  refine r_callV (Mc := mX12_hasParts) (q := 88) (As := []) (st := []) ck12 dX12_firstParts_85 rfl rfl mkX12_hasParts wt1780 wt1782 wp106 rfl (Nat.le_of_ble_eq_true rfl) (Nat.le_of_ble_eq_true rfl) (by decide) (by decide) (by decide) (Or.inl rfl) ((hs0.fr q4).e (by decide)) (ok_hasParts hq he7 he2 hn7 i0 (hs0.fr q4) hw2 hS2 hM2) (fun r85 S85 hp85 => ?_)
  obtain ⟨hq85, hz⟩ := hp85
  rw [hq85]
  obtain ⟨v, rfl⟩ : ∃ v, r85 = some (zi v) := hz.elim (fun z => ⟨_, z.1⟩) (fun z => ⟨_, z.1⟩)
  show Ok _ _ _ [zi v] _ _
  refine r_if_ne (q := 91) (t := 98) dX12_firstParts_88 (by decide) rfl (fun h88 => ?_) (fun h88 => ?_)
  · skip
    refine r_iconst (q := 99) (nI 1) dX12_firstParts_98 rfl (by decide) ?_
    refine r_goto (q := 103) dX12_firstParts_99 (by decide) ?_
    refine r_zreturn (by decide) dX12_firstParts_103 rfl ?_
    rcases hz with ⟨z1, hN⟩ | ⟨z1, hN⟩
    rotate_left
    · cases z1; exact absurd rfl h88
    exact ⟨f5, Or.inr ⟨rfl, 0, List.replicate e 0, PS.zero he2 i0 hw2 hS2 hK2 hN, by have := allF_go i0 hN; rw [List.drop_zero] at this; exact this⟩⟩
  · skip
    rcases hz with ⟨z1, hN⟩ | ⟨z1, hN⟩
    · cases z1; exact absurd h88 (by decide)
    refine r_aload_n (q := 92) dX12_firstParts_91 rfl rfl rfl ?_
    refine r_callV (Mc := mX12_nextSizes) (q := 95) (As := []) (st := []) ck12 dX12_firstParts_92 rfl rfl mkX12_nextSizes wt1784 wt1786 wp107 rfl (Nat.le_of_ble_eq_true rfl) (Nat.le_of_ble_eq_true rfl) (by decide) (by decide) (by decide) (Or.inl rfl) ((hs0.fr q4).e (by decide)) (lp_ns hq he7 he2 hn7 _ 0 S2 none none none (show 0 + ((cmp e n).length - 0) = _ by omega) i0 (hs0.fr q4) hw2 hS2 hM2) (fun r92 S92 hp92 => ?_)
    obtain ⟨f9, hy⟩ := hp92
    obtain ⟨v2, rfl⟩ : ∃ v, r92 = some (zi v) := hy.elim (fun z => ⟨_, z.1⟩) (fun z => ⟨_, z.1⟩)
    show Ok _ _ _ [zi v2] _ _
    refine r_if_eq (q := 98) (t := 102) dX12_firstParts_95 (by decide) rfl (fun h95 => ?_) (fun h95 => ?_)
    · skip
      refine r_iconst (q := 103) (nI 0) dX12_firstParts_102 rfl (by decide) ?_
      refine r_zreturn (by decide) dX12_firstParts_103 rfl ?_
      have hsk := allF_skip i0 hN
      rw [List.drop_zero] at hsk
      rcases hy with ⟨z2, hy⟩ | ⟨z2, hy⟩
      rotate_left
      · cases z2; exact absurd h95 (by decide)
      exact ⟨f5.tr (f9.mono tPt_2), Or.inl ⟨rfl, hsk.trans hy⟩⟩
    · skip
      refine r_iconst (q := 99) (nI 1) dX12_firstParts_98 rfl (by decide) ?_
      refine r_goto (q := 103) dX12_firstParts_99 (by decide) ?_
      refine r_zreturn (by decide) dX12_firstParts_103 rfl ?_
      have hsk := allF_skip i0 hN
      rw [List.drop_zero] at hsk
      rcases hy with ⟨z2, hy⟩ | ⟨z2, hy⟩
      · cases z2; exact absurd rfl h95
      obtain ⟨i', y2, y3, y4, y5, y6⟩ := hy
      exact ⟨f5.tr (f9.mono tPt_2), Or.inr ⟨rfl, i', List.replicate e 0, PS.zero he2 y2 (hw2.fr f9) y3 y4 y5, hsk.trans y6⟩⟩

theorem ok_firstParts {q e n : Nat} (hq : q ≤ 1) (he7 : e ≤ 7) (he2 : 2 ≤ e) (hn7 : n ≤ 7) {bnd : Nat → Nat} {S : zS} (hs : Sd S) (hM : Mn S q n bnd) : Ok mX12_firstParts 0 (ent 5 [zr 12 0, zi (nI q), zi (nI e), zi (nI n)]) [] S (fun r S1 => Fr tPt S S1 ∧ (r = some (zi (nI 0)) ∧ allF bnd (cmp e n) = [] ∨ r = some (zi (nI 1)) ∧ ∃ i ks, PS S1 q e n bnd i ks ∧ allF bnd (cmp e n) = ((cmp e n).getD i [], ks) :: RM bnd e n i ks)) := by
  by_cases h : e ≤ n
  · exact ok_firstParts_y hq he7 he2 hn7 hs hM h
  · exact ok_firstParts_n hq he7 he2 hn7 hs hM h

