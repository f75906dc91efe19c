/-! doTree of the reference -/
theorem lvs_take {t : List Nat} {i : Nat} (h : i < t.length) : lvs (t.take (i + 1)) = lvs (t.take i) + (if t.getD i 0 = 0 then 1 else 0) := by
  have e : t.take (i + 1) = t.take i ++ [t.getD i 0] := by
    rw [List.take_succ, List.getD_eq_getElem?_getD, List.getElem?_eq_getElem h]; rfl
  rw [e, lvs_app]; rfl
theorem lvs_le (t : List Nat) : lvs t ≤ t.length := by have := len_la t; omega
def tRds (x y _k : Nat) : Bool := x == 1389 && y == 0
def tRdt (x y k : Nat) : Bool := y == 0 && (x == 12 && k == 20 || x == 1316 || x == 1385 || x == 1386 || x == 1389)
theorem RSt.top {S : zS} {w P : Nat} {v : Nat → Nat → Nat} {sz : Nat} (h : RSt S w P v sz) (hz : sz = 1) {j : Nat} (hj : j < w) : gI S 1385 0 j = nI (v 0 j) ∧ v 0 j < P := by
  have := h 0 j (by omega) hj
  rw [Nat.mul_zero, Nat.zero_add] at this
  exact this

set_option maxRecDepth 100000 in
theorem lp_rd21 {S : zS} (hs : Sd S) {w : Nat} {t : List Nat} (hl14 : t.length ≤ 14) (hm : gI S 12 0 20 = nI t.length) (hnd : ∀ i, i < t.length → gI S 1316 0 i = nI (t.getD i 0)) (h3t : ∀ k, k ∈ t → k ≤ 3) {cd0 num : Int32} {Po : Option zV → zS → Prop} (K : Ok mX12_doTree 56 [some (zr 12 0), some (zi cd0), some (zi num), some (zi (nI w)), some (zi (nI 0)), some (zi (nI (lvs t))), some (zi (nI t.length)), none, none, none, none, none, none, none] [] S Po) : ∀ (d i : Nat), i + d = t.length → Ok mX12_doTree 21 [some (zr 12 0), some (zi cd0), some (zi num), some (zi (nI w)), some (zi (nI 0)), some (zi (nI (lvs (t.take i)))), some (zi (nI i)), none, none, none, none, none, none, none] [] S Po := by
  intro d
  induction d with
  | zero =>
    intro i hi
    have ei : i = t.length := by omega
    subst ei
    rw [List.take_length]
    refine r_iload (q := 23) dX12_doTree_21 rfl rfl ?_
    refine r_aload_n (q := 24) dX12_doTree_23 rfl rfl rfl ?_
    refine r_geti (q := 27) ck12 dX12_doTree_24 rfl (k := 20) (by decide) wt1298 (Or.inl rfl) (hs.e (by decide)) ?_
    refine r_topi (y := nI t.length) hm ?_
    refine r_icmp_geN (q := 30) (t := 56) (by omega) (by omega) dX12_doTree_27 (by decide) rfl (fun h27 => ?_) (fun h27 => absurd h27 (by omega))
    exact K
  | succ d ih =>
    intro i hi
    have hn := hnd i (by omega)
    have ht := lvs_take (show i < t.length by omega)
    have h2 := ih (i + 1) (by omega)
    rw [ht] at h2
    by_cases e0 : t.getD i 0 = 0
    · rw [if_pos e0] at h2
      rw [e0] at hn
      refine r_iload (q := 23) dX12_doTree_21 rfl rfl ?_
      refine r_aload_n (q := 24) dX12_doTree_23 rfl rfl rfl ?_
      refine r_geti (q := 27) ck12 dX12_doTree_24 rfl (k := 20) (by decide) wt1298 (Or.inl rfl) (hs.e (by decide)) ?_
      refine r_topi (y := nI t.length) hm ?_
      refine r_icmp_geN (q := 30) (t := 56) (by omega) (by omega) dX12_doTree_27 (by decide) rfl (fun h27 => absurd h27 (by omega)) (fun h27 => ?_)
      refine r_iload (q := 32) dX12_doTree_30 rfl rfl ?_
      refine r_aload_n (q := 33) dX12_doTree_32 rfl rfl rfl ?_
      refine r_getr (q := 36) (some (1316, 0)) ck12 dX12_doTree_33 rfl (k := 16) (by decide) wt1294 rfl (hs.e (by decide)) (hs.r (by decide) (by decide)) ?_
      refine r_iload (q := 38) dX12_doTree_36 rfl rfl ?_
      refine r_ialdN (q := 39) 16 (by decide) rfl dX12_doTree_38 rfl (hs.e (by decide)) (hs.n rfl (by decide)) (by omega) (by decide) ?_
      refine r_topi (y := nI 0) hn ?_
      refine r_if_neN (q := 42) (t := 46) (by omega) dX12_doTree_39 (by decide) rfl (fun h39 => absurd h39 (by omega)) (fun h39 => ?_)
      refine r_iconst (q := 43) (nI 1) dX12_doTree_42 rfl (by decide) ?_
      refine r_goto (q := 47) dX12_doTree_43 (by decide) ?_
      refine r_iaddN (q := 48) dX12_doTree_47 rfl ?_
      refine r_istore (q := 50) (L' := [some (zr 12 0), some (zi cd0), some (zi num), some (zi (nI w)), some (zi (nI 0)), some (zi (nI ((lvs (t.take i)) + 1))), some (zi (nI i)), none, none, none, none, none, none, none]) dX12_doTree_48 rfl (by decide) rfl ?_
      refine r_iincN (q := 53) (L' := [some (zr 12 0), some (zi cd0), some (zi num), some (zi (nI w)), some (zi (nI 0)), some (zi (nI ((lvs (t.take i)) + 1))), some (zi (nI (i + 1))), none, none, none, none, none, none, none]) 1 rfl dX12_doTree_50 rfl rfl (by decide) rfl ?_
      refine r_goto (q := 21) dX12_doTree_53 (by decide) ?_
      exact h2
    · rw [if_neg e0] at h2
      obtain ⟨x, hx⟩ : ∃ x, x = t.getD i 0 := ⟨_, rfl⟩
      have hx3 : x ≤ 3 := by rw [hx]; exact h3t _ (getD_mem (by omega))
      rw [← hx] at hn e0
      refine r_iload (q := 23) dX12_doTree_21 rfl rfl ?_
      refine r_aload_n (q := 24) dX12_doTree_23 rfl rfl rfl ?_
      refine r_geti (q := 27) ck12 dX12_doTree_24 rfl (k := 20) (by decide) wt1298 (Or.inl rfl) (hs.e (by decide)) ?_
      refine r_topi (y := nI t.length) hm ?_
      refine r_icmp_geN (q := 30) (t := 56) (by omega) (by omega) dX12_doTree_27 (by decide) rfl (fun h27 => absurd h27 (by omega)) (fun h27 => ?_)
      refine r_iload (q := 32) dX12_doTree_30 rfl rfl ?_
      refine r_aload_n (q := 33) dX12_doTree_32 rfl rfl rfl ?_
      refine r_getr (q := 36) (some (1316, 0)) ck12 dX12_doTree_33 rfl (k := 16) (by decide) wt1294 rfl (hs.e (by decide)) (hs.r (by decide) (by decide)) ?_
      refine r_iload (q := 38) dX12_doTree_36 rfl rfl ?_
      refine r_ialdN (q := 39) 16 (by decide) rfl dX12_doTree_38 rfl (hs.e (by decide)) (hs.n rfl (by decide)) (by omega) (by decide) ?_
      refine r_topi (y := nI x) hn ?_
      refine r_if_neN (q := 42) (t := 46) (by omega) dX12_doTree_39 (by decide) rfl (fun h39 => ?_) (fun h39 => absurd h39 (by omega))
      refine r_iconst (q := 47) (nI 0) dX12_doTree_46 rfl (by decide) ?_
      refine r_iaddN (q := 48) dX12_doTree_47 rfl ?_
      refine r_istore (q := 50) (L' := [some (zr 12 0), some (zi cd0), some (zi num), some (zi (nI w)), some (zi (nI 0)), some (zi (nI ((lvs (t.take i)) + 0))), some (zi (nI i)), none, none, none, none, none, none, none]) dX12_doTree_48 rfl (by decide) rfl ?_
      refine r_iincN (q := 53) (L' := [some (zr 12 0), some (zi cd0), some (zi num), some (zi (nI w)), some (zi (nI 0)), some (zi (nI ((lvs (t.take i)) + 0))), some (zi (nI (i + 1))), none, none, none, none, none, none, none]) 1 rfl dX12_doTree_50 rfl rfl (by decide) rfl ?_
      refine r_goto (q := 21) dX12_doTree_53 (by decide) ?_
      exact h2

set_option maxRecDepth 100000 in
theorem lp_rd385 {w P m : Nat} (h3 : w ≤ 3) (hP2 : 2 ≤ P) (hP97 : P ≤ 97) (hmP : m < P) {cd0 z4 z5 : Int32} {vv D : Nat → Nat} (hD : ∀ i, i < w → D i < P) : ∀ (d j : Nat) (S : zS), j + d = w → Sd S → gI S 1306 0 0 = nI P → (∀ i, i < w → gI S 1385 0 i = nI (vv i) ∧ vv i < P) → (∀ i, i < j → gI S 1389 0 i = nI ((D i + m * vv i) % P)) → (∀ i, j ≤ i → i < w → gI S 1389 0 i = nI (D i)) → Ok mX12_doTree 385 [some (zr 12 0), some (zi cd0), some (zi (nI m)), some (zi (nI w)), some (zi z4), some (zi z5), some (zi (nI j)), none, none, none, none, none, none, none] [] S (fun r S1 => r = none ∧ Fr tRds S S1 ∧ ∀ i, i < w → gI S1 1389 0 i = nI ((D i + m * vv i) % P)) := by
  intro d
  induction d with
  | zero =>
    intro j S hj hs hp0 hv hlo hhi
    obtain rfl : w = j := by omega
    refine r_iload (q := 387) dX12_doTree_385 rfl rfl ?_
    refine r_iload_n (q := 388) dX12_doTree_387 rfl rfl rfl ?_
    refine r_icmp_geN (q := 391) (t := 428) (by omega) (by omega) dX12_doTree_388 (by decide) rfl (fun h388 => ?_) (fun h388 => absurd h388 (by omega))
    refine r_return dX12_doTree_428 rfl ?_
    exact ⟨rfl, Fr.rf, hlo⟩
  | succ d ih =>
    intro j S hj hs hp0 hv hlo hhi
    obtain ⟨v1, v2⟩ := hv j (by omega)
    have hr := hhi j (Nat.le_refl _) (by omega)
    have hDj := hD j (by omega)
    have hmul : m * vv j ≤ 97 * 97 := Nat.mul_le_mul (by omega) (by omega)
    have f1 : Fr tRds S (sI S 1389 0 j (nI ((D j + m * vv j) % P))) := (Fr.rf).i rfl
    refine r_iload (q := 387) dX12_doTree_385 rfl rfl ?_
    refine r_iload_n (q := 388) dX12_doTree_387 rfl rfl rfl ?_
    refine r_icmp_geN (q := 391) (t := 428) (by omega) (by omega) dX12_doTree_388 (by decide) rfl (fun h388 => absurd h388 (by omega)) (fun h388 => ?_)
    refine r_aload_n (q := 392) dX12_doTree_391 rfl rfl rfl ?_
    refine r_getr (q := 395) (some (1389, 0)) ck12 dX12_doTree_392 rfl (k := 89) (by decide) wt1367 rfl (hs.e (by decide)) (hs.r (by decide) (by decide)) ?_
    refine r_iload (q := 397) dX12_doTree_395 rfl rfl ?_
    refine r_aload_n (q := 398) dX12_doTree_397 rfl rfl rfl ?_
    refine r_getr (q := 401) (some (1389, 0)) ck12 dX12_doTree_398 rfl (k := 89) (by decide) wt1367 rfl (hs.e (by decide)) (hs.r (by decide) (by decide)) ?_
    refine r_iload (q := 403) dX12_doTree_401 rfl rfl ?_
    refine r_ialdN (q := 404) 3 (by decide) rfl dX12_doTree_403 rfl (hs.e (by decide)) (hs.n rfl (by decide)) (by omega) (by decide) ?_
    refine r_topi (y := nI (D j)) hr ?_
    refine r_iload_n (q := 405) dX12_doTree_404 rfl rfl rfl ?_
    refine r_aload_n (q := 406) dX12_doTree_405 rfl rfl rfl ?_
    refine r_getr (q := 409) (some (1385, 0)) ck12 dX12_doTree_406 rfl (k := 85) (by decide) wt1363 rfl (hs.e (by decide)) (hs.r (by decide) (by decide)) ?_
    refine r_iload (q := 411) dX12_doTree_409 rfl rfl ?_
    refine r_ialdN (q := 412) 24 (by decide) rfl dX12_doTree_411 rfl (hs.e (by decide)) (hs.n rfl (by decide)) (by omega) (by decide) ?_
    refine r_topi (y := nI (vv j)) v1 ?_
    refine r_imulN (q := 413) dX12_doTree_412 rfl ?_
    refine r_iaddN (q := 414) dX12_doTree_413 rfl ?_
    refine r_aload_n (q := 415) dX12_doTree_414 rfl rfl rfl ?_
    refine r_getr (q := 418) (some (1306, 0)) ck12 dX12_doTree_415 rfl (k := 6) (by decide) wt1284 rfl (hs.e (by decide)) (hs.r (by decide) (by decide)) ?_
    refine r_iconst (q := 419) (nI 0) dX12_doTree_418 rfl (by decide) ?_
    refine r_ialdN (q := 420) 3775 (by decide) rfl dX12_doTree_419 rfl (hs.e (by decide)) (hs.n rfl (by decide)) (by omega) (by decide) ?_
    refine r_topi (y := nI P) hp0 ?_
    refine r_iremN (q := 421) (by omega) (by omega) (by omega) dX12_doTree_420 rfl ?_
    refine r_iastN (q := 422) 3 (by decide) rfl dX12_doTree_421 rfl (hs.e (by decide)) (hs.n rfl (by decide)) (by omega) (by decide) ?_
    refine r_iincN (q := 425) (L' := [some (zr 12 0), some (zi cd0), some (zi (nI m)), some (zi (nI w)), some (zi z4), some (zi z5), some (zi (nI (j + 1))), none, none, none, none, none, none, none]) 1 rfl dX12_doTree_422 rfl rfl (by decide) rfl ?_
    refine r_goto (q := 385) dX12_doTree_425 (by decide) ?_
    refine Ok.mono (ih (j + 1) (sI S 1389 0 j (nI ((D j + m * vv j) % P))) (by omega) (hs.fr f1) hp0 (fun i hi => ⟨(f1.1 _ _ _ rfl).trans (hv i hi).1, (hv i hi).2⟩) (fun i hi => ?_) (fun i a b => ?_)) (fun r S2 z => ⟨z.1, f1.tr z.2.1, z.2.2⟩)
    · rw [gI_sI]
      by_cases e1 : i = j
      · rw [if_pos ⟨rfl, rfl, e1⟩, e1]
      · rw [if_neg (by omega)]; exact hlo i (by omega)
    · rw [gI_sI, if_neg (by omega)]; exact hhi i (by omega) b

set_option maxRecDepth 100000 in
theorem ok_doTreeR {S : zS} (hs : Sd S) {w P m : Nat} (h1 : 1 ≤ w) (h3 : w ≤ 3) (hP2 : 2 ≤ P) (hP97 : P ≤ 97) (hmP : m < P) {n A : Nat} (hn7 : n ≤ 7) {e : Nat → Nat} (hE : Eok A e) {tb : Nat → Nat → Nat} {way : Nat → Nat} {t : List Nat} (ht : Tr A e n t) (hp0 : gI S 1306 0 0 = nI P) (he : ∀ a, a < A → gI S 1306 0 (4 + a) = nI (e a)) (hw : gI S 1306 0 3 = nI w) (hT : ∀ a, a < A → TbR S a P (tb a)) (hway : ∀ i, i < n → gI S 1387 0 i = nI (way i) ∧ way i ≤ 3) {D : Nat → Nat} (hD : ∀ i, i < w → gI S 1389 0 i = nI (D i) ∧ D i < P) : Ok mX12_doTree 0 (ent 14 [zr 12 0, zi (nI (cd t)), zi (nI m)]) [] S (fun r S1 => r = none ∧ Fr tRdt S S1 ∧ ∀ i, i < w → gI S1 1389 0 i = nI ((D i + m * (dvS w P e tb way n (t)).1 0 i) % P)) := by
  have hA3 := hE.1
  have h3t : ∀ k, k ∈ t → k ≤ 3 := fun k hk => Nat.le_trans (ht.1.tok k hk) hE.1
  have hl1 : 1 ≤ t.length := by have := len_la t; have := ht.1.cnt (fun a ha => (hE.2 a ha).1); omega
  have hl13 : t.length ≤ 13 := by have := len_la t; have := ht.1.cnt (fun a ha => (hE.2 a ha).1); have := ht.2; omega
  show Ok mX12_doTree 0 [some (zr 12 0), some (zi (nI (cd t))), some (zi (nI m)), none, none, none, none, none, none, none, none, none, none, none] [] S _
  refine r_aload_n (q := 1) dX12_doTree_0 rfl rfl rfl ?_
  refine r_iload_n (q := 2) dX12_doTree_1 rfl rfl rfl ?_
  refine r_callV (Mc := mX12_tokens) (q := 5) (As := [zi (nI (cd t))]) (st := []) ck12 dX12_doTree_2 rfl rfl mkX12_tokens wt1649 wt1651 wp85 rfl (Nat.le_of_ble_eq_true rfl) (Nat.le_of_ble_eq_true rfl) (by decide) (by decide) (by decide) (Or.inl rfl) (hs.e (by decide)) (ok_X12_tokens hs h3t (by omega)) (fun r2 S2 hp2 => ?_)
  obtain ⟨rfl, hq2⟩ := hp2
  rw [hq2]
  have f0 : Fr tRdt S (stR (sI S 12 0 20 (nI t.length)) 1316 0 t) := ⟨fun x y k h => by rw [gI_stR_x (fun z => by simp [tRdt, z.1, z.2] at h), gI_sI, if_neg (fun z => by simp [tRdt, z.1, z.2.1, z.2.2] at h)], fun _ _ _ _ => rfl, rfl⟩
  obtain ⟨S2, hS2⟩ : ∃ S2, S2 = stR (sI S 12 0 20 (nI t.length)) 1316 0 t := ⟨_, rfl⟩
  rw [← hS2] at f0 ⊢
  have hs2 : Sd S2 := hs.fr f0
  have hm2 : gI S2 12 0 20 = nI t.length := by rw [hS2, gI_stR_x (by omega), gI_sI, if_pos ⟨rfl, rfl, rfl⟩]
  have hnd2 : ∀ i, i < t.length → gI S2 1316 0 i = nI (t.getD i 0) := fun i hi => by rw [hS2]; exact gI_stR_k hi
  have hw2 : gI S2 1306 0 3 = nI w := (f0.1 _ _ _ rfl).trans hw
  show Ok _ _ _ [] _ _
  refine r_aload_n (q := 6) dX12_doTree_5 rfl rfl rfl ?_
  refine r_getr (q := 9) (some (1306, 0)) ck12 dX12_doTree_6 rfl (k := 6) (by decide) wt1284 rfl (hs2.e (by decide)) (hs2.r (by decide) (by decide)) ?_
  refine r_iconst (q := 10) (nI 3) dX12_doTree_9 rfl (by decide) ?_
  refine r_ialdN (q := 11) 3775 (by decide) rfl dX12_doTree_10 rfl (hs2.e (by decide)) (hs2.n rfl (by decide)) (by omega) (by decide) ?_
  refine r_topi (y := nI w) hw2 ?_
  refine r_istore_n (q := 12) (L' := [some (zr 12 0), some (zi (nI (cd t))), some (zi (nI m)), some (zi (nI w)), none, none, none, none, none, none, none, none, none, none]) dX12_doTree_11 rfl rfl (by decide) rfl ?_
  refine r_iconst (q := 13) (nI 0) dX12_doTree_12 rfl (by decide) ?_
  refine r_istore (q := 15) (L' := [some (zr 12 0), some (zi (nI (cd t))), some (zi (nI m)), some (zi (nI w)), some (zi (nI 0)), none, none, none, none, none, none, none, none, none]) dX12_doTree_13 rfl (by decide) rfl ?_
  refine r_iconst (q := 16) (nI 0) dX12_doTree_15 rfl (by decide) ?_
  refine r_istore (q := 18) (L' := [some (zr 12 0), some (zi (nI (cd t))), some (zi (nI m)), some (zi (nI w)), some (zi (nI 0)), some (zi (nI 0)), none, none, none, none, none, none, none, none]) dX12_doTree_16 rfl (by decide) rfl ?_
  refine r_iconst (q := 19) (nI 0) dX12_doTree_18 rfl (by decide) ?_
  refine r_istore (q := 21) (L' := [some (zr 12 0), some (zi (nI (cd t))), some (zi (nI m)), some (zi (nI w)), some (zi (nI 0)), some (zi (nI 0)), some (zi (nI 0)), none, none, none, none, none, none, none]) dX12_doTree_19 rfl (by decide) rfl ?_
  refine lp_rd21 hs2 (by omega) hm2 hnd2 h3t ?_ t.length 0 (by omega)
  rw [ht.2]
  refine r_aload_n (q := 57) dX12_doTree_56 rfl rfl rfl ?_
  refine r_geti (q := 60) ck12 dX12_doTree_57 rfl (k := 20) (by decide) wt1298 (Or.inl rfl) (hs2.e (by decide)) ?_
  refine r_topi (y := nI t.length) hm2 ?_
  refine r_iconst (q := 61) (nI 1) dX12_doTree_60 rfl (by decide) ?_
  refine r_isubN (q := 62) (by omega) dX12_doTree_61 rfl ?_
  refine r_istore (q := 64) (L' := [some (zr 12 0), some (zi (nI (cd t))), some (zi (nI m)), some (zi (nI w)), some (zi (nI 0)), some (zi (nI n)), some (zi (nI (t.length - 1))), none, none, none, none, none, none, none]) dX12_doTree_62 rfl (by decide) rfl ?_
  have KK := fun Po => lp_rd64 (w := w) (P := P) h1 h3 hP2 hP97 (cd0 := nI (cd t)) (num := nI m) hn7 hE (tb := tb) (way := way) ht (Po := Po) t.length (nI (t.length - 1)) S2 (by obtain ⟨q, hq⟩ : ∃ q, t.length = q + 1 := ⟨t.length - 1, by omega⟩; rw [hq, nI_pred, Nat.add_sub_cancel]) (Nat.le_refl _) hs2 ((f0.1 _ _ _ rfl).trans hp0) (fun a ha => (f0.1 _ _ _ (by simp [tRdt])).trans (he a ha)) hw2 (fun a ha => (hT a ha).fr f0 (fun _ => rfl)) (fun i hi => ⟨(f0.1 _ _ _ rfl).trans (hway i hi).1, (hway i hi).2⟩) hnd2 (by rw [List.drop_length]; exact fun p j hp _ => absurd hp (Nat.not_lt_zero _))
  rw [List.drop_length] at KK
  refine KK _ (fun S3 lf' g3 hv3 => ?_)
  have hs3 : Sd S3 := hs2.fr g3
  refine r_iconst (q := 383) (nI 0) dX12_doTree_382 rfl (by decide) ?_
  refine r_istore (q := 385) (L' := [some (zr 12 0), some (zi (nI (cd t))), some (zi (nI m)), some (zi (nI w)), some (zi (nI (dvS w P e tb way n (t)).2)), some (zi lf'), some (zi (nI 0)), none, none, none, none, none, none, none]) dX12_doTree_383 rfl (Nat.le_of_ble_eq_true rfl) rfl ?_
  have g4 : Fr tRdt S2 S3 := g3.mono (fun x y k h => by simp [tRst] at h; simp [tRdt]; omega)
  refine Ok.mono (lp_rd385 (vv := (dvS w P e tb way n (t)).1 0) (D := D) h3 hP2 hP97 hmP (fun i hi => (hD i hi).2) w 0 S3 (by omega) hs3 ((g3.1 _ _ _ rfl).trans ((f0.1 _ _ _ rfl).trans hp0)) (fun i hi => hv3.top (dvS_sz ht.1) hi) (fun i hi => absurd hi (by omega)) (fun i _ hi => (g3.1 _ _ _ rfl).trans (by rw [hS2, gI_stR_x (by omega), gI_sI, if_neg (by omega)]; exact (hD i hi).1))) (fun r S4 z => ⟨z.1, (f0.tr g4).tr (z.2.1.mono (fun x y k h => by simp [tRds] at h; simp [tRdt]; omega)), z.2.2⟩)

