/-! small methods of the reference: a row cleared, whether a level is full, the code of a part -/

set_option maxRecDepth 100000 in
theorem lp_clearRow {m P : Nat} (hP : 0 < P) (hm3 : m ≤ 300) : ∀ (d k : Nat) (S : zS), k + d = m → Sd S → (∀ j, j < k → gI S 1341 0 j = nI 0) → Ok mX12_clearRow 2 [some (zr 12 0), some (zi (nI m)), some (zi (nI k))] [] S (fun r S1 => r = none ∧ Fr tRv S S1 ∧ Vr S1 m P (fun _ => 0)) := by
  intro d
  induction d with
  | zero =>
    intro k S hk hs hz
    obtain rfl : k = m := by omega
    refine r_iload_n (q := 3) dX12_clearRow_2 rfl rfl rfl ?_
    refine r_iload_n (q := 4) dX12_clearRow_3 rfl rfl rfl ?_
    refine r_icmp_geN (q := 7) (t := 20) (by omega) (by omega) dX12_clearRow_4 (by decide) rfl (fun h4 => ?_) (fun h4 => absurd h4 (by omega))
    refine r_return dX12_clearRow_20 rfl ?_
    exact ⟨rfl, Fr.rf, fun j hj => ⟨hz j hj, hP⟩⟩
  | succ d ih =>
    intro k S hk hs hz
    refine r_iload_n (q := 3) dX12_clearRow_2 rfl rfl rfl ?_
    refine r_iload_n (q := 4) dX12_clearRow_3 rfl rfl rfl ?_
    refine r_icmp_geN (q := 7) (t := 20) (by omega) (by omega) dX12_clearRow_4 (by decide) rfl (fun h4 => absurd h4 (by omega)) (fun h4 => ?_)
    refine r_aload_n (q := 8) dX12_clearRow_7 rfl rfl rfl ?_
    refine r_getr (q := 11) (some (1341, 0)) ck12 dX12_clearRow_8 rfl (k := 41) (by decide) wt1319 rfl (hs.e (by decide)) (hs.r (by decide) (by decide)) ?_
    refine r_iload_n (q := 12) dX12_clearRow_11 rfl rfl rfl ?_
    refine r_iconst (q := 13) (nI 0) dX12_clearRow_12 rfl (by decide) ?_
    refine r_iastN (q := 14) 300 (by decide) rfl dX12_clearRow_13 rfl (hs.e (by decide)) (hs.n rfl (by decide)) (by omega) (by decide) ?_
    refine r_iincN (q := 17) (L' := [some (zr 12 0), some (zi (nI m)), some (zi (nI (k + 1)))]) 1 rfl dX12_clearRow_14 rfl rfl (by decide) rfl ?_
    refine r_goto (q := 2) dX12_clearRow_17 (by decide) ?_
    have f1 : Fr tRv S (sI S 1341 0 k (nI 0)) := (Fr.rf).i rfl
    exact Ok.mono (ih (k + 1) _ (by omega) hs (fun j hj => by
      rw [gI_sI]
      by_cases e : j = k
      · rw [if_pos ⟨rfl, rfl, e⟩]
      · rw [if_neg (fun z => e z.2.2)]; exact hz j (by omega))) fun r S1 z => ⟨z.1, f1.tr z.2.1, z.2.2⟩

set_option maxRecDepth 100000 in
theorem ok_clearRow {S : zS} (hs : Sd S) {m P : Nat} (hP : 0 < P) (hm3 : m ≤ 300) : Ok mX12_clearRow 0 (ent 3 [zr 12 0, zi (nI m)]) [] S (fun r S1 => r = none ∧ Fr tRv S S1 ∧ Vr S1 m P (fun _ => 0)) := by
  show Ok mX12_clearRow 0 [some (zr 12 0), some (zi (nI m)), none] [] S _
  refine r_iconst (q := 1) (nI 0) dX12_clearRow_0 rfl (by decide) ?_
  refine r_istore_n (q := 2) (L' := [some (zr 12 0), some (zi (nI m)), some (zi (nI 0))]) dX12_clearRow_1 rfl rfl (by decide) rfl ?_
  exact lp_clearRow hP hm3 m 0 S (by omega) hs (fun j hj => absurd hj (by omega))

set_option maxRecDepth 100000 in
theorem ok_isFull_y {S : zS} (hs : Sd S) {q n rk m : Nat} (hq : q ≤ 1) (hn7 : n ≤ 7) (hm3 : m ≤ 300) (hrk : rk ≤ m) (h6 : gI S 1326 0 (8 * q + n) = nI rk) (h4 : gI S 1324 0 (8 * q + n) = nI m) (hf : rk = m) : Ok mX12_isFull 0 (ent 3 [zr 12 0, zi (nI q), zi (nI n)]) [] S (fun r S1 => r = some (zi (nI 1)) ∧ S1 = S) := by
  show Ok mX12_isFull 0 [some (zr 12 0), some (zi (nI q)), some (zi (nI n))] [] S _
  refine r_aload_n (q := 1) dX12_isFull_0 rfl rfl rfl ?_
  refine r_getr (q := 4) (some (1326, 0)) ck12 dX12_isFull_1 rfl (k := 26) (by decide) wt1304 rfl (hs.e (by decide)) (hs.r (by decide) (by decide)) ?_
  refine r_bipush (q := 6) (nI 8) dX12_isFull_4 rfl (by decide) ?_
  refine r_iload_n (q := 7) dX12_isFull_6 rfl rfl rfl ?_
  refine r_imulN (q := 8) dX12_isFull_7 rfl ?_
  refine r_iload_n (q := 9) dX12_isFull_8 rfl rfl rfl ?_
  refine r_iaddN (q := 10) dX12_isFull_9 rfl ?_
  refine r_ialdN (q := 11) 16 (by decide) rfl dX12_isFull_10 rfl (hs.e (by decide)) (hs.n rfl (by decide)) (by omega) (by decide) ?_
  refine r_topi (y := nI rk) h6 ?_
  refine r_aload_n (q := 12) dX12_isFull_11 rfl rfl rfl ?_
  refine r_getr (q := 15) (some (1324, 0)) ck12 dX12_isFull_12 rfl (k := 24) (by decide) wt1302 rfl (hs.e (by decide)) (hs.r (by decide) (by decide)) ?_
  refine r_bipush (q := 17) (nI 8) dX12_isFull_15 rfl (by decide) ?_
  refine r_iload_n (q := 18) dX12_isFull_17 rfl rfl rfl ?_
  refine r_imulN (q := 19) dX12_isFull_18 rfl ?_
  refine r_iload_n (q := 20) dX12_isFull_19 rfl rfl rfl ?_
  refine r_iaddN (q := 21) dX12_isFull_20 rfl ?_
  refine r_ialdN (q := 22) 16 (by decide) rfl dX12_isFull_21 rfl (hs.e (by decide)) (hs.n rfl (by decide)) (by omega) (by decide) ?_
  refine r_topi (y := nI m) h4 ?_
  refine r_icmp_neN (q := 25) (t := 29) (by omega) (by omega) dX12_isFull_22 (by decide) rfl (fun h22 => absurd h22 (by omega)) (fun h22 => ?_)
  refine r_iconst (q := 26) (nI 1) dX12_isFull_25 rfl (by decide) ?_
  refine r_goto (q := 30) dX12_isFull_26 (by decide) ?_
  refine r_zreturn (by decide) dX12_isFull_30 rfl ?_
  exact ⟨rfl, rfl⟩

set_option maxRecDepth 100000 in
theorem ok_isFull_n {S : zS} (hs : Sd S) {q n rk m : Nat} (hq : q ≤ 1) (hn7 : n ≤ 7) (hm3 : m ≤ 300) (hrk : rk ≤ m) (h6 : gI S 1326 0 (8 * q + n) = nI rk) (h4 : gI S 1324 0 (8 * q + n) = nI m) (hf : rk ≠ m) : Ok mX12_isFull 0 (ent 3 [zr 12 0, zi (nI q), zi (nI n)]) [] S (fun r S1 => r = some (zi (nI 0)) ∧ S1 = S) := by
  show Ok mX12_isFull 0 [some (zr 12 0), some (zi (nI q)), some (zi (nI n))] [] S _
  refine r_aload_n (q := 1) dX12_isFull_0 rfl rfl rfl ?_
  refine r_getr (q := 4) (some (1326, 0)) ck12 dX12_isFull_1 rfl (k := 26) (by decide) wt1304 rfl (hs.e (by decide)) (hs.r (by decide) (by decide)) ?_
  refine r_bipush (q := 6) (nI 8) dX12_isFull_4 rfl (by decide) ?_
  refine r_iload_n (q := 7) dX12_isFull_6 rfl rfl rfl ?_
  refine r_imulN (q := 8) dX12_isFull_7 rfl ?_
  refine r_iload_n (q := 9) dX12_isFull_8 rfl rfl rfl ?_
  refine r_iaddN (q := 10) dX12_isFull_9 rfl ?_
  refine r_ialdN (q := 11) 16 (by decide) rfl dX12_isFull_10 rfl (hs.e (by decide)) (hs.n rfl (by decide)) (by omega) (by decide) ?_
  refine r_topi (y := nI rk) h6 ?_
  refine r_aload_n (q := 12) dX12_isFull_11 rfl rfl rfl ?_
  refine r_getr (q := 15) (some (1324, 0)) ck12 dX12_isFull_12 rfl (k := 24) (by decide) wt1302 rfl (hs.e (by decide)) (hs.r (by decide) (by decide)) ?_
  refine r_bipush (q := 17) (nI 8) dX12_isFull_15 rfl (by decide) ?_
  refine r_iload_n (q := 18) dX12_isFull_17 rfl rfl rfl ?_
  refine r_imulN (q := 19) dX12_isFull_18 rfl ?_
  refine r_iload_n (q := 20) dX12_isFull_19 rfl rfl rfl ?_
  refine r_iaddN (q := 21) dX12_isFull_20 rfl ?_
  refine r_ialdN (q := 22) 16 (by decide) rfl dX12_isFull_21 rfl (hs.e (by decide)) (hs.n rfl (by decide)) (by omega) (by decide) ?_
  refine r_topi (y := nI m) h4 ?_
  refine r_icmp_neN (q := 25) (t := 29) (by omega) (by omega) dX12_isFull_22 (by decide) rfl (fun h22 => ?_) (fun h22 => absurd h22 (by omega))
  refine r_iconst (q := 30) (nI 0) dX12_isFull_29 rfl (by decide) ?_
  refine r_zreturn (by decide) dX12_isFull_30 rfl ?_
  exact ⟨rfl, rfl⟩

/-- the trees of fewer than n leaves, as the reference lists them -/
def Cd (S : zS) (q n : Nat) (W : zWd) (fr : Nat → Nat) : Prop := ∀ s, 1 ≤ s → s < n → gI S 1325 0 (8 * q + s) = nI (fr s) ∧ fr s + (tl W s).length ≤ 4400 ∧ ∀ j, j < (tl W s).length → gI S 1328 0 (fr s + j) = nI (cd ((tl W s).getD j []))

set_option maxRecDepth 100000 in
theorem ok_partCode {S : zS} (hs : Sd S) {W : zWd} {q e n i k : Nat} (hq : q ≤ 1) (he7 : e ≤ 7) (he2 : 2 ≤ e) (hn7 : n ≤ 7) {ks : List Nat} {fr : Nat → Nat} (hPS : PS S q e n (fun s => (tl W s).length) i ks) (hC : Cd S q n W fr) (hk : k < e) : Ok mX12_partCode 0 (ent 2 [zr 12 0, zi (nI k)]) [] S (fun r S1 => r = some (zi (nI (cd ((tl W (((cmp e n).getD i []).getD k 0)).getD (ks.getD k 0) [])))) ∧ S1 = S) := by
  obtain ⟨hi, hw, hS, hK, hkl, hkv⟩ := hPS
  obtain ⟨s1, s2⟩ := (cmp_get hi he2).2.2 k hk
  have p1 := hS k hk
  have p2 := hK k hk
  have hkk : ks.getD k 0 < (tl W (((cmp e n).getD i []).getD k 0)).length := hkv k hk
  obtain ⟨c1, c2, c3'⟩ := hC _ s1 s2
  have c3 := c3' _ hkk
  show Ok mX12_partCode 0 [some (zr 12 0), some (zi (nI k))] [] S _
  refine r_aload_n (q := 1) dX12_partCode_0 rfl rfl rfl ?_
  refine r_getr (q := 4) (some (1328, 0)) ck12 dX12_partCode_1 rfl (k := 28) (by decide) wt1306 rfl (hs.e (by decide)) (hs.r (by decide) (by decide)) ?_
  refine r_aload_n (q := 5) dX12_partCode_4 rfl rfl rfl ?_
  refine r_getr (q := 8) (some (1325, 0)) ck12 dX12_partCode_5 rfl (k := 25) (by decide) wt1303 rfl (hs.e (by decide)) (hs.r (by decide) (by decide)) ?_
  refine r_bipush (q := 10) (nI 8) dX12_partCode_8 rfl (by decide) ?_
  refine r_aload_n (q := 11) dX12_partCode_10 rfl rfl rfl ?_
  refine r_geti (q := 14) ck12 dX12_partCode_11 rfl (k := 40) (by decide) wt1318 (Or.inl rfl) (hs.e (by decide)) ?_
  refine r_topi (y := nI q) hw.2 ?_
  refine r_imulN (q := 15) dX12_partCode_14 rfl ?_
  refine r_aload_n (q := 16) dX12_partCode_15 rfl rfl rfl ?_
  refine r_getr (q := 19) (some (1336, 0)) ck12 dX12_partCode_16 rfl (k := 36) (by decide) wt1314 rfl (hs.e (by decide)) (hs.r (by decide) (by decide)) ?_
  refine r_iload_n (q := 20) dX12_partCode_19 rfl rfl rfl ?_
  refine r_ialdN (q := 21) 8 (by decide) rfl dX12_partCode_20 rfl (hs.e (by decide)) (hs.n rfl (by decide)) (by omega) (by decide) ?_
  refine r_topi (y := nI (((cmp e n).getD i []).getD k 0)) p1 ?_
  refine r_iaddN (q := 22) dX12_partCode_21 rfl ?_
  refine r_ialdN (q := 23) 16 (by decide) rfl dX12_partCode_22 rfl (hs.e (by decide)) (hs.n rfl (by decide)) (by omega) (by decide) ?_
  refine r_topi (y := nI (fr (((cmp e n).getD i []).getD k 0))) c1 ?_
  refine r_aload_n (q := 24) dX12_partCode_23 rfl rfl rfl ?_
  refine r_getr (q := 27) (some (1337, 0)) ck12 dX12_partCode_24 rfl (k := 37) (by decide) wt1315 rfl (hs.e (by decide)) (hs.r (by decide) (by decide)) ?_
  refine r_iload_n (q := 28) dX12_partCode_27 rfl rfl rfl ?_
  refine r_ialdN (q := 29) 8 (by decide) rfl dX12_partCode_28 rfl (hs.e (by decide)) (hs.n rfl (by decide)) (by omega) (by decide) ?_
  refine r_topi (y := nI (ks.getD k 0)) p2 ?_
  refine r_iaddN (q := 30) dX12_partCode_29 rfl ?_
  refine r_ialdN (q := 31) 4400 (by decide) rfl dX12_partCode_30 rfl (hs.e (by decide)) (hs.n rfl (by decide)) (by omega) (by decide) ?_
  refine r_topi (y := nI (cd ((tl W (((cmp e n).getD i []).getD k 0)).getD (ks.getD k 0) []))) c3 ?_
  refine r_ireturn dX12_partCode_31 rfl ?_
  exact ⟨rfl, rfl⟩

