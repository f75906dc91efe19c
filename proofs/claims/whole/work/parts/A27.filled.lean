/-! a law's tree with trees in its leaves, as the reference makes it -/
theorem PS.mem {S : zS} {W : zWd} {q e n i : Nat} {ks : List Nat} (he2 : 2 ≤ e) (h : PS S q e n (bdW W) i ks) : ((cmp e n).getD i [], ks) ∈ allF (bdW W) (cmp e n) := by
  have hg := cmp_get h.1 he2
  refine mem_allF.mpr ⟨mem_gd h.1, mem_odo.mpr ⟨by rw [List.length_map, hg.1]; exact h.2.2.2.2.1, fun z hz => ?_⟩⟩
  rw [List.length_map, hg.1] at hz
  rw [getD_mapB (by rw [hg.1]; exact hz)]
  exact h.2.2.2.2.2 z hz
theorem PS.fr {S S1 : zS} {q e n i : Nat} {bnd : Nat → Nat} {ks : List Nat} {U : Nat → Nat → Nat → Bool} (h : PS S q e n bnd i ks) (f : Fr U S S1) (t : U 12 0 38 = false ∧ U 12 0 40 = false ∧ ∀ k, U 1336 0 k = false ∧ U 1337 0 k = false) : PS S1 q e n bnd i ks := ⟨h.1, ⟨(f.1 _ _ _ t.1).trans h.2.1.1, (f.1 _ _ _ t.2.1).trans h.2.1.2⟩, fun z hz => (f.1 _ _ _ (t.2.2 _).1).trans (h.2.2.1 z hz), fun z hz => (f.1 _ _ _ (t.2.2 _).2).trans (h.2.2.2.1 z hz), h.2.2.2.2⟩
theorem Cd.fr {S S1 : zS} {W : zWd} {q n : Nat} {fr : Nat → Nat} {U : Nat → Nat → Nat → Bool} (h : Cd S q n W fr) (f : Fr U S S1) (t : ∀ k, U 1325 0 k = false ∧ U 1328 0 k = false) : Cd S1 q n W fr := fun s a b => ⟨(f.1 _ _ _ (t _).1).trans (h s a b).1, (h s a b).2.1, fun j hj => (f.1 _ _ _ (t _).2).trans ((h s a b).2.2 j hj)⟩
theorem fl_tok {us : List (List Nat)} (hu : ∀ u, u ∈ us → ∀ k, k ∈ u → k ≤ 3) : ∀ {t : List Nat} {vs : List (List Nat)}, (∀ v, v ∈ vs → v ∈ us) → (∀ k, k ∈ t → k ≤ 3) → ∀ k, k ∈ fl t vs → k ≤ 3
  | [], _, _, _, k, hk => absurd hk List.not_mem_nil
  | x :: r, vs, hv, ht, k, hk => by
    rw [fl] at hk
    split at hk
    · rcases List.mem_append.mp hk with z | z
      · cases vs with
        | nil => exact absurd z List.not_mem_nil
        | cons v vs => exact hu v (hv v List.mem_cons_self) k z
      · exact fl_tok hu (t := r) (vs := vs.tail) (fun v hv' => hv v (List.mem_of_mem_tail hv')) (fun q hq => ht q (List.mem_cons_of_mem _ hq)) k z
    · rcases List.mem_cons.mp hk with z | z
      · rw [z]; exact ht x List.mem_cons_self
      · exact fl_tok hu (t := r) (vs := vs) hv (fun q hq => ht q (List.mem_cons_of_mem _ hq)) k z

set_option maxRecDepth 100000 in
theorem lp_filled {S : zS} (hs : Sd S) {W : zWd} (hE : Eok (wA W) (we W)) {q e n i : Nat} (hq : q ≤ 1) (he7 : e ≤ 7) (he2 : 2 ≤ e) (hn7 : n ≤ 7) {ks : List Nat} (hPS : PS S q e n (bdW W) i ks) (hC : Cd S q n W (FqR q W)) {us : List (List Nat)} (hus : us = pt W ((cmp e n).getD i [], ks)) {cnt : Nat} (hcnt : cnt ≤ 13) {c : Int32} (hm : gI S 12 0 20 = nI cnt) : ∀ (r acc : List Nat) (m k : Nat), k + r.length = cnt → m + lvs r ≤ e → (∀ x, x ∈ r → x ≤ 3) → (∀ x, x ∈ acc → x ≤ 3) → acc.length + (fl r (us.drop m)).length ≤ 13 → (∀ j, j < r.length → gI S 1316 0 (k + j) = nI (r.getD j 0)) → Ok mX12_filled 12 [some (zr 12 0), some (zi c), some (zi (nI (cd acc))), some (zi (nI m)), some (zi (nI k))] [] S (fun x S1 => x = some (zi (nI (cd (acc ++ fl r (us.drop m))))) ∧ S1 = S) := by
  have hmem := PS.mem he2 hPS
  have hall := allF_get hmem
  have hsp := pt_spec hE _ _ hall.2.1 hall.2.2.2.2
  have hul : us.length = e := by rw [hus]; exact hsp.1.trans hall.1
  have hu3 : ∀ u, u ∈ us → ∀ k, k ∈ u → k ≤ 3 := fun u hu k hk => by
    rw [hus] at hu
    exact Nat.le_trans ((hsp.2.1 u hu).tok k hk) hE.1
  intro r
  induction r with
  | nil =>
    intro acc m k hk hml h3 ha3 hl hr
    obtain rfl : k = cnt := by simpa using hk
    rw [fl, List.append_nil]
    refine r_iload (q := 14) dX12_filled_12 rfl rfl ?_
    refine r_aload_n (q := 15) dX12_filled_14 rfl rfl rfl ?_
    refine r_geti (q := 18) ck12 dX12_filled_15 rfl (k := 20) (by decide) wt1298 (Or.inl rfl) (hs.e (by decide)) ?_
    refine r_topi (y := nI k) hm ?_
    refine r_icmp_geN (q := 21) (t := 65) (by omega) (by omega) dX12_filled_18 (by decide) rfl (fun h18 => ?_) (fun h18 => absurd h18 (by omega))
    refine r_iload_n (q := 66) dX12_filled_65 rfl rfl rfl ?_
    refine r_ireturn dX12_filled_66 rfl ?_
    exact ⟨rfl, rfl⟩
  | cons x r ih =>
    intro acc m k hk hml h3 ha3 hl hr
    rw [List.length_cons] at hk
    have hx := h3 x List.mem_cons_self
    have h3' := fun q hq => h3 q (List.mem_cons_of_mem _ hq)
    have r0 : gI S 1316 0 k = nI x := by have := hr 0 (by simp); rw [Nat.add_zero] at this; exact this
    have hr' : ∀ j, j < r.length → gI S 1316 0 (k + 1 + j) = nI (r.getD j 0) := fun j hj => by have := hr (j + 1) (by simp; omega); rw [show k + 1 + j = k + (j + 1) by omega]; exact this
    have hb := cd_le ha3 (by omega)
    rw [lvs] at hml
    rw [fl] at hl ⊢
    by_cases h0 : x = 0
    · subst h0
      rw [if_pos rfl] at hl ⊢ hml
      have hmu : m < us.length := by omega
      have hd : us.drop m = us.getD m [] :: us.drop (m + 1) := drop_cons hmu
      have e1 : (us.drop m).headD [] = us.getD m [] := by rw [hd]; rfl
      have e2 : (us.drop m).tail = us.drop (m + 1) := by rw [hd]; rfl
      rw [e1, e2] at hl ⊢
      rw [List.length_append] at hl
      have hg3 := hu3 _ (mem_gd hmu)
      have hget : us.getD m [] = (tl W (((cmp e n).getD i []).getD m 0)).getD (ks.getD m 0) [] := by
        rw [hus]; exact pt_get _ _ m hall.2.1 (by have h1 : ((cmp e n).getD i []).length = e := hall.1; show m < ((cmp e n).getD i []).length; omega)
      refine r_iload (q := 14) dX12_filled_12 rfl rfl ?_
      refine r_aload_n (q := 15) dX12_filled_14 rfl rfl rfl ?_
      refine r_geti (q := 18) ck12 dX12_filled_15 rfl (k := 20) (by decide) wt1298 (Or.inl rfl) (hs.e (by decide)) ?_
      refine r_topi (y := nI cnt) hm ?_
      refine r_icmp_geN (q := 21) (t := 65) (by omega) (by omega) dX12_filled_18 (by decide) rfl (fun h18 => absurd h18 (by omega)) (fun h18 => ?_)
      refine r_aload_n (q := 22) dX12_filled_21 rfl rfl rfl ?_
      refine r_getr (q := 25) (some (1316, 0)) ck12 dX12_filled_22 rfl (k := 16) (by decide) wt1294 rfl (hs.e (by decide)) (hs.r (by decide) (by decide)) ?_
      refine r_iload (q := 27) dX12_filled_25 rfl rfl ?_
      refine r_ialdN (q := 28) 16 (by decide) rfl dX12_filled_27 rfl (hs.e (by decide)) (hs.n rfl (by decide)) (by omega) (by decide) ?_
      refine r_topi (y := nI 0) r0 ?_
      refine r_if_leN (q := 31) (t := 46) (by omega) dX12_filled_28 (by decide) rfl (fun h28 => ?_) (fun h28 => absurd h28 (by omega))
      refine r_iload_n (q := 47) dX12_filled_46 rfl rfl rfl ?_
      refine r_aload_n (q := 48) dX12_filled_47 rfl rfl rfl ?_
      refine r_iload_n (q := 49) dX12_filled_48 rfl rfl rfl ?_
      refine r_callV (Mc := mX12_partCode) (q := 52) (As := [zi (nI m)]) (st := [zi (nI (cd acc))]) ck12 dX12_filled_49 rfl rfl mkX12_partCode wt1788 wt1790 wp108 rfl (Nat.le_of_ble_eq_true rfl) (Nat.le_of_ble_eq_true rfl) (by decide) (by decide) (by decide) (Or.inl rfl) (hs.e (by decide)) (ok_partCode hs hq he7 he2 hn7 hPS hC (show m < e by omega)) (fun r49 S49 hp49 => ?_)
      rw [← hget] at hp49
      obtain ⟨rfl, hq49⟩ := hp49
      rw [hq49]
      show Ok _ _ _ [zi (nI (cd (us.getD m []))), zi (nI (cd acc))] _ _
      refine r_callS (Mc := mX12_join) (q := 55) (As := [zi (nI (cd acc)), zi (nI (cd (us.getD m [])))]) (st := []) dX12_filled_52 rfl rfl mkX12_join wt1792 wt1793 rfl (Nat.le_of_ble_eq_true rfl) (Nat.le_of_ble_eq_true rfl) (by decide) (by decide) (by decide) (Or.inl rfl) hs.some (ok_X12_join ha3 hg3 (by omega)) (fun r52 S52 hp52 => ?_)
      obtain ⟨rfl, hq52⟩ := hp52
      rw [hq52]
      show Ok _ _ _ [zi (nI (cd (acc ++ us.getD m [])))] _ _
      refine r_istore_n (q := 56) (L' := [some (zr 12 0), some (zi c), some (zi (nI (cd (acc ++ us.getD m [])))), some (zi (nI m)), some (zi (nI k))]) dX12_filled_55 rfl rfl (by decide) rfl ?_
      refine r_iincN (q := 59) (L' := [some (zr 12 0), some (zi c), some (zi (nI (cd (acc ++ us.getD m [])))), some (zi (nI (m + 1))), some (zi (nI k))]) 1 rfl dX12_filled_56 rfl rfl (by decide) rfl ?_
      refine r_iincN (q := 62) (L' := [some (zr 12 0), some (zi c), some (zi (nI (cd (acc ++ us.getD m [])))), some (zi (nI (m + 1))), some (zi (nI (k + 1)))]) 1 rfl dX12_filled_59 rfl rfl (by decide) rfl ?_
      refine r_goto (q := 12) dX12_filled_62 (by decide) ?_
      have q := ih (acc ++ us.getD m []) (m + 1) (k + 1) (by omega) (by omega) h3' (fun y hy => by rcases List.mem_append.mp hy with z | z; exact ha3 y z; exact hg3 y z) (by rw [List.length_append]; omega) hr'
      rw [List.append_assoc] at q
      exact q
    · rw [if_neg h0] at hl ⊢ hml
      rw [List.length_cons] at hl
      refine r_iload (q := 14) dX12_filled_12 rfl rfl ?_
      refine r_aload_n (q := 15) dX12_filled_14 rfl rfl rfl ?_
      refine r_geti (q := 18) ck12 dX12_filled_15 rfl (k := 20) (by decide) wt1298 (Or.inl rfl) (hs.e (by decide)) ?_
      refine r_topi (y := nI cnt) hm ?_
      refine r_icmp_geN (q := 21) (t := 65) (by omega) (by omega) dX12_filled_18 (by decide) rfl (fun h18 => absurd h18 (by omega)) (fun h18 => ?_)
      refine r_aload_n (q := 22) dX12_filled_21 rfl rfl rfl ?_
      refine r_getr (q := 25) (some (1316, 0)) ck12 dX12_filled_22 rfl (k := 16) (by decide) wt1294 rfl (hs.e (by decide)) (hs.r (by decide) (by decide)) ?_
      refine r_iload (q := 27) dX12_filled_25 rfl rfl ?_
      refine r_ialdN (q := 28) 16 (by decide) rfl dX12_filled_27 rfl (hs.e (by decide)) (hs.n rfl (by decide)) (by omega) (by decide) ?_
      refine r_topi (y := nI x) r0 ?_
      refine r_if_leN (q := 31) (t := 46) (by omega) dX12_filled_28 (by decide) rfl (fun h28 => absurd h28 (by omega)) (fun h28 => ?_)
      refine r_iload_n (q := 32) dX12_filled_31 rfl rfl rfl ?_
      refine r_iconst (q := 33) (nI 2) dX12_filled_32 rfl (by decide) ?_
      refine r_ishl (q := 34) dX12_filled_33 rfl ?_
      refine r_topi (y := nI ((cd acc) * 4)) (pk_shlN _ 2 (by decide) (show (cd acc) * 2 ^ 2 < 2 ^ 32 by omega)) ?_
      refine r_aload_n (q := 35) dX12_filled_34 rfl rfl rfl ?_
      refine r_getr (q := 38) (some (1316, 0)) ck12 dX12_filled_35 rfl (k := 16) (by decide) wt1294 rfl (hs.e (by decide)) (hs.r (by decide) (by decide)) ?_
      refine r_iload (q := 40) dX12_filled_38 rfl rfl ?_
      refine r_ialdN (q := 41) 16 (by decide) rfl dX12_filled_40 rfl (hs.e (by decide)) (hs.n rfl (by decide)) (by omega) (by decide) ?_
      refine r_topi (y := nI x) r0 ?_
      refine r_ior (q := 42) dX12_filled_41 rfl ?_
      refine r_topi (y := nI (4 * cd acc + x)) (by rw [show cd acc * 4 = cd acc * 2 ^ 2 from rfl, or_addN (by omega)]; congr 1; omega) ?_
      refine r_istore_n (q := 43) (L' := [some (zr 12 0), some (zi c), some (zi (nI (4 * cd acc + x))), some (zi (nI m)), some (zi (nI k))]) dX12_filled_42 rfl rfl (by decide) rfl ?_
      refine r_goto (q := 59) dX12_filled_43 (by decide) ?_
      refine r_iincN (q := 62) (L' := [some (zr 12 0), some (zi c), some (zi (nI (4 * cd acc + x))), some (zi (nI m)), some (zi (nI (k + 1)))]) 1 rfl dX12_filled_59 rfl rfl (by decide) rfl ?_
      refine r_goto (q := 12) dX12_filled_62 (by decide) ?_
      have q := ih (acc ++ [x]) m (k + 1) (by omega) (by omega) h3' (fun y hy => by rcases List.mem_append.mp hy with z | z; exact ha3 y z; rw [List.mem_singleton.mp z]; omega) (by rw [List.length_append, List.length_singleton]; omega) hr'
      rw [cd_snoc, List.append_assoc, List.singleton_append] at q
      exact q

set_option maxRecDepth 100000 in
theorem ok_filled {S : zS} (hs : Sd S) {W : zWd} (hE : Eok (wA W) (we W)) {q e n i : Nat} (hq : q ≤ 1) (he7 : e ≤ 7) (he2 : 2 ≤ e) (hn7 : n ≤ 7) {ks : List Nat} (hPS : PS S q e n (bdW W) i ks) (hC : Cd S q n W (FqR q W)) {t : List Nat} (ht : Tr (wA W) (we W) e t) : Ok mX12_filled 0 (ent 5 [zr 12 0, zi (nI (cd t))]) [] S (fun r S1 => r = some (zi (nI (cd (fl t (pt W ((cmp e n).getD i [], ks)))))) ∧ Fr tPa S S1) := by
  have hmem := PS.mem he2 hPS
  have hall := allF_get hmem
  have hsp := pt_spec hE _ _ hall.2.1 hall.2.2.2.2
  have hft := fl_tr (us := pt W ((cmp e n).getD i [], ks)) hsp.2.1 ht (hsp.1.trans hall.1) (hsp.2.2.1.trans hall.2.2.1)
  have hlf := (hft.len hE).1
  have hlt := (ht.len hE).1
  have hbt := cd_le (ht.tok hE) (by omega)
  show Ok mX12_filled 0 [some (zr 12 0), some (zi (nI (cd t))), none, none, none] [] S _
  refine r_aload_n (q := 1) dX12_filled_0 rfl rfl rfl ?_
  refine r_iload_n (q := 2) dX12_filled_1 rfl rfl rfl ?_
  refine r_callV (Mc := mX12_tokens) (q := 5) (As := [zi (nI (cd t))]) (st := []) ck12 dX12_filled_2 rfl rfl mkX12_tokens wt1649 wt1651 wp85 rfl (Nat.le_of_ble_eq_true rfl) (Nat.le_of_ble_eq_true rfl) (by decide) (by decide) (by decide) (Or.inl rfl) (hs.e (by decide)) (ok_X12_tokens hs (ht.tok hE) (by omega)) (fun r2 S2 hp2 => ?_)
  obtain ⟨rfl, hq2⟩ := hp2
  rw [hq2]
  show Ok _ _ _ [] _ _
  refine r_iconst (q := 6) (nI 1) dX12_filled_5 rfl (by decide) ?_
  refine r_istore_n (q := 7) (L' := [some (zr 12 0), some (zi (nI (cd t))), some (zi (nI 1)), none, none]) dX12_filled_6 rfl rfl (by decide) rfl ?_
  refine r_iconst (q := 8) (nI 0) dX12_filled_7 rfl (by decide) ?_
  refine r_istore_n (q := 9) (L' := [some (zr 12 0), some (zi (nI (cd t))), some (zi (nI 1)), some (zi (nI 0)), none]) dX12_filled_8 rfl rfl (by decide) rfl ?_
  refine r_iconst (q := 10) (nI 0) dX12_filled_9 rfl (by decide) ?_
  refine r_istore (q := 12) (L' := [some (zr 12 0), some (zi (nI (cd t))), some (zi (nI 1)), some (zi (nI 0)), some (zi (nI 0))]) dX12_filled_10 rfl (by decide) rfl ?_
  have fX : Fr tPa S (stR (sI S 12 0 20 (nI t.length)) 1316 0 t) := Fr.stR (Fr.i Fr.rf rfl) (fun _ => rfl)
  have q := lp_filled (S := stR (sI S 12 0 20 (nI t.length)) 1316 0 t) hs hE hq he7 he2 hn7 (hPS.fr fX ⟨rfl, rfl, fun _ => ⟨rfl, rfl⟩⟩) (hC.fr fX (fun _ => ⟨rfl, rfl⟩)) rfl (c := nI (cd t)) (cnt := t.length) (by omega) (by rw [gI_stR_x (by omega), gI_sI, if_pos ⟨rfl, rfl, rfl⟩]) t [] 0 0 (by omega) (by rw [ht.2]; omega) (ht.tok hE) (fun x hx => absurd hx List.not_mem_nil) (by rw [List.drop_zero, List.length_nil, Nat.zero_add]; omega) (fun j hj => by rw [Nat.zero_add]; exact gI_stR_k hj)
  rw [List.nil_append, List.drop_zero] at q
  exact Ok.mono q (fun r S1 z => ⟨z.1, by rw [z.2]; exact fX⟩)

