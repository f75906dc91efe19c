/-- the sum that the reference is making -/
def Rs (e : Nat → Nat) (S : zS) (r : List zT) : Prop := gI S 12 0 47 = nI r.length ∧ ∀ k, k < r.length → gI S 1344 0 k = nI (cd (r.getD k zd).1) ∧ gI S 1345 0 k = nI (r.getD k zd).2 ∧ ∀ j, j < lvs (r.getD k zd).1 → gI S 1346 0 (7 * k + j) = nI ((pth e [] 1 (r.getD k zd).1).getD j 0)
def tAT (a b k : Nat) : Bool := tPa a b k || (a == 1344 || a == 1345 || a == 1346) && b == 0 || a == 12 && b == 0 && k == 47
theorem tAT_pa (a b k : Nat) (h : tPa a b k = true) : tAT a b k = true := by simp [tAT, h]
theorem Rs.fr {e : Nat → Nat} {S S1 : zS} {r : List zT} (h : Rs e S r) (hf : Fr tPa S S1) : Rs e S1 r := ⟨(hf.1 12 0 47 rfl).trans h.1, fun k hk => ⟨(hf.1 1344 0 k rfl).trans (h.2 k hk).1, (hf.1 1345 0 k rfl).trans (h.2 k hk).2.1, fun j hj => (hf.1 1346 0 _ rfl).trans ((h.2 k hk).2.2 j hj)⟩⟩

set_option maxRecDepth 100000 in
theorem lp_isGreater {S : zS} (hs : Sd S) {n k : Nat} (hn : n ≤ 7) (hk : k < 1400) (hm : gI S 12 0 21 = nI n) : ∀ (p q : List Nat) (j : Nat), p.length = q.length → j + p.length = n → (∀ i, i < p.length → p.getD i 0 < 8192 ∧ q.getD i 0 < 8192 ∧ gI S 1317 0 (j + i) = nI (p.getD i 0) ∧ gI S 1346 0 (7 * k + (j + i)) = nI (q.getD i 0)) → Ok mX12_isGreater 2 [some (zr 12 0), some (zi (nI k)), some (zi (nI j))] [] S (fun r S1 => r = some (zi (nI (if ltL p q then 1 else 0))) ∧ S1 = S) := by
  intro p
  induction p with
  | nil =>
    intro q j hl hj hr
    obtain rfl : q = [] := List.length_eq_zero_iff.mp hl.symm
    obtain rfl : n = j := by simpa using hj.symm
    refine r_iload_n (q := 3) dX12_isGreater_2 rfl rfl rfl ?_
    refine r_aload_n (q := 4) dX12_isGreater_3 rfl rfl rfl ?_
    refine r_geti (q := 7) ck12 dX12_isGreater_4 rfl (k := 21) (by decide) wt1299 (Or.inl rfl) (hs.e (by decide)) ?_
    refine r_topi (y := nI n) hm ?_
    refine r_icmp_geN (q := 10) (t := 62) (by omega) (by omega) dX12_isGreater_7 (by decide) rfl (fun h7 => ?_) (fun h7 => absurd h7 (by omega))
    refine r_iconst (q := 63) (nI 0) dX12_isGreater_62 rfl (by decide) ?_
    refine r_zreturn (by decide) dX12_isGreater_63 rfl ?_
    exact ⟨rfl, rfl⟩
  | cons x p ih =>
    intro q j hl hj hr
    cases q with
    | nil => simp at hl
    | cons y q =>
      rw [List.length_cons] at hj
      obtain ⟨b1, b2, h1, h2⟩ := hr 0 (by simp)
      have b1 : x < 8192 := b1
      have b2 : y < 8192 := b2
      have h1 : gI S 1317 0 j = nI x := h1
      have h2 : gI S 1346 0 (7 * k + j) = nI y := h2
      have hr' : ∀ i, i < p.length → p.getD i 0 < 8192 ∧ q.getD i 0 < 8192 ∧ gI S 1317 0 (j + 1 + i) = nI (p.getD i 0) ∧ gI S 1346 0 (7 * k + (j + 1 + i)) = nI (q.getD i 0) := fun i hi => by
        have := hr (i + 1) (by rw [List.length_cons]; omega)
        rw [show j + 1 + i = j + (i + 1) by omega]
        exact this
      refine r_iload_n (q := 3) dX12_isGreater_2 rfl rfl rfl ?_
      refine r_aload_n (q := 4) dX12_isGreater_3 rfl rfl rfl ?_
      refine r_geti (q := 7) ck12 dX12_isGreater_4 rfl (k := 21) (by decide) wt1299 (Or.inl rfl) (hs.e (by decide)) ?_
      refine r_topi (y := nI n) hm ?_
      refine r_icmp_geN (q := 10) (t := 62) (by omega) (by omega) dX12_isGreater_7 (by decide) rfl (fun h7 => absurd h7 (by omega)) (fun h7 => ?_)
      refine r_aload_n (q := 11) dX12_isGreater_10 rfl rfl rfl ?_
      refine r_getr (q := 14) (some (1346, 0)) ck12 dX12_isGreater_11 rfl (k := 46) (by decide) wt1324 rfl (hs.e (by decide)) (hs.r (by decide) (by decide)) ?_
      refine r_bipush (q := 16) (nI 7) dX12_isGreater_14 rfl (by decide) ?_
      refine r_iload_n (q := 17) dX12_isGreater_16 rfl rfl rfl ?_
      refine r_imulN (q := 18) dX12_isGreater_17 rfl ?_
      refine r_iload_n (q := 19) dX12_isGreater_18 rfl rfl rfl ?_
      refine r_iaddN (q := 20) dX12_isGreater_19 rfl ?_
      refine r_topi (y := nI (7 * k + j)) (congrArg nI (by omega)) ?_
      refine r_ialdN (q := 21) 9800 (by decide) rfl dX12_isGreater_20 rfl (hs.e (by decide)) (hs.n rfl (by decide)) (by omega) (by decide) ?_
      refine r_topi (y := nI y) h2 ?_
      refine r_aload_n (q := 22) dX12_isGreater_21 rfl rfl rfl ?_
      refine r_getr (q := 25) (some (1317, 0)) ck12 dX12_isGreater_22 rfl (k := 17) (by decide) wt1295 rfl (hs.e (by decide)) (hs.r (by decide) (by decide)) ?_
      refine r_iload_n (q := 26) dX12_isGreater_25 rfl rfl rfl ?_
      refine r_ialdN (q := 27) 8 (by decide) rfl dX12_isGreater_26 rfl (hs.e (by decide)) (hs.n rfl (by decide)) (by omega) (by decide) ?_
      refine r_topi (y := nI x) h1 ?_
      refine r_icmp_eqN (q := 30) (t := 56) (by omega) (by omega) dX12_isGreater_27 (by decide) rfl (fun h27 => ?_) (fun h27 => ?_)
      · skip
        refine r_iincN (q := 59) (L' := [some (zr 12 0), some (zi (nI k)), some (zi (nI (j + 1)))]) 1 rfl dX12_isGreater_56 rfl rfl (by decide) rfl ?_
        refine r_goto (q := 2) dX12_isGreater_59 (by decide) ?_
        have e0 : ltL (x :: p) (y :: q) = ltL p q := by rw [ltL, decide_eq_false (by omega), decide_eq_true (by omega)]; rfl
        rw [e0]
        exact ih q (j + 1) (by simpa using hl) (by omega) hr'
      · skip
        refine r_aload_n (q := 31) dX12_isGreater_30 rfl rfl rfl ?_
        refine r_getr (q := 34) (some (1346, 0)) ck12 dX12_isGreater_31 rfl (k := 46) (by decide) wt1324 rfl (hs.e (by decide)) (hs.r (by decide) (by decide)) ?_
        refine r_bipush (q := 36) (nI 7) dX12_isGreater_34 rfl (by decide) ?_
        refine r_iload_n (q := 37) dX12_isGreater_36 rfl rfl rfl ?_
        refine r_imulN (q := 38) dX12_isGreater_37 rfl ?_
        refine r_iload_n (q := 39) dX12_isGreater_38 rfl rfl rfl ?_
        refine r_iaddN (q := 40) dX12_isGreater_39 rfl ?_
        refine r_topi (y := nI (7 * k + j)) (congrArg nI (by omega)) ?_
        refine r_ialdN (q := 41) 9800 (by decide) rfl dX12_isGreater_40 rfl (hs.e (by decide)) (hs.n rfl (by decide)) (by omega) (by decide) ?_
        refine r_topi (y := nI y) h2 ?_
        refine r_aload_n (q := 42) dX12_isGreater_41 rfl rfl rfl ?_
        refine r_getr (q := 45) (some (1317, 0)) ck12 dX12_isGreater_42 rfl (k := 17) (by decide) wt1295 rfl (hs.e (by decide)) (hs.r (by decide) (by decide)) ?_
        refine r_iload_n (q := 46) dX12_isGreater_45 rfl rfl rfl ?_
        refine r_ialdN (q := 47) 8 (by decide) rfl dX12_isGreater_46 rfl (hs.e (by decide)) (hs.n rfl (by decide)) (by omega) (by decide) ?_
        refine r_topi (y := nI x) h1 ?_
        refine r_icmp_leN (q := 50) (t := 54) (by omega) (by omega) dX12_isGreater_47 (by decide) rfl (fun h47 => ?_) (fun h47 => ?_)
        · skip
          refine r_iconst (q := 55) (nI 0) dX12_isGreater_54 rfl (by decide) ?_
          refine r_zreturn (by decide) dX12_isGreater_55 rfl ?_
          refine ⟨?_, rfl⟩
          rw [show ltL (x :: p) (y :: q) = false from by rw [ltL, decide_eq_false (by omega), decide_eq_false (by omega)]; rfl]; rfl
        · skip
          refine r_iconst (q := 51) (nI 1) dX12_isGreater_50 rfl (by decide) ?_
          refine r_goto (q := 55) dX12_isGreater_51 (by decide) ?_
          refine r_zreturn (by decide) dX12_isGreater_55 rfl ?_
          refine ⟨?_, rfl⟩
          rw [show ltL (x :: p) (y :: q) = true from by rw [ltL, decide_eq_true (by omega)]; rfl]; rfl

set_option maxRecDepth 100000 in
theorem ok_X12_isGreater {S : zS} (hs : Sd S) {n k : Nat} (hn : n ≤ 7) (hk : k < 1400) (hm : gI S 12 0 21 = nI n) {p q : List Nat} (hp : p.length = n) (hq : q.length = n) (hr : ∀ i, i < n → p.getD i 0 < 8192 ∧ q.getD i 0 < 8192 ∧ gI S 1317 0 i = nI (p.getD i 0) ∧ gI S 1346 0 (7 * k + i) = nI (q.getD i 0)) : Ok mX12_isGreater 0 (ent 3 [zr 12 0, zi (nI k)]) [] S (fun r S1 => r = some (zi (nI (if ltL p q then 1 else 0))) ∧ S1 = S) := by
  show Ok mX12_isGreater 0 [some (zr 12 0), some (zi (nI k)), none] [] S _
  refine r_iconst (q := 1) (nI 0) dX12_isGreater_0 rfl (by decide) ?_
  refine r_istore_n (q := 2) (L' := [some (zr 12 0), some (zi (nI k)), some (zi (nI 0))]) dX12_isGreater_1 rfl rfl (by decide) rfl ?_
  exact lp_isGreater hs hn hk hm p q 0 (hp.trans hq.symm) (by omega) (fun i hi => by rw [Nat.zero_add]; exact hr i (by omega))

set_option maxRecDepth 100000 in
theorem lp_atC {Po : Option zV → zS → Prop} {t : List Nat} {e : Nat → Nat} {ct v q P : Int32} {n k : Nat} (hn : n ≤ 7) (hk : k < 1400) : ∀ (d i : Nat) (S : zS), i + d = n → Sd S → gI S 12 0 21 = nI n → (∀ i, i < n → gI S 1317 0 i = nI ((pth e [] 1 t).getD i 0)) → (∀ S2, S2 = fm S 1346 0 (7 * k) i n (fun j => nI ((pth e [] 1 t).getD j 0)) → Ok mX12_addTerm 229 [some (zr 12 0), some (zi ct), some (zi v), some (zi q), some (zi P), some (zi (nI k)), some (zi (nI n)), some (zi (nI 7))] [] S2 Po) → Ok mX12_addTerm 194 [some (zr 12 0), some (zi ct), some (zi v), some (zi q), some (zi P), some (zi (nI k)), some (zi (nI i)), some (zi (nI 7))] [] S Po := by
  intro d
  induction d with
  | zero =>
    intro i S hi hs hm hp K
    obtain rfl : n = i := by omega
    refine r_iload (q := 196) dX12_addTerm_194 rfl rfl ?_
    refine r_aload_n (q := 197) dX12_addTerm_196 rfl rfl rfl ?_
    refine r_geti (q := 200) ck12 dX12_addTerm_197 rfl (k := 21) (by decide) wt1299 (Or.inl rfl) (hs.e (by decide)) ?_
    refine r_topi (y := nI n) hm ?_
    refine r_icmp_geN (q := 203) (t := 229) (by omega) (by omega) dX12_addTerm_200 (by decide) rfl (fun h200 => ?_) (fun h200 => absurd h200 (by omega))
    exact K _ (fm_all.symm)
  | succ d ih =>
    intro i S hi hs hm hp K
    refine r_iload (q := 196) dX12_addTerm_194 rfl rfl ?_
    refine r_aload_n (q := 197) dX12_addTerm_196 rfl rfl rfl ?_
    refine r_geti (q := 200) ck12 dX12_addTerm_197 rfl (k := 21) (by decide) wt1299 (Or.inl rfl) (hs.e (by decide)) ?_
    refine r_topi (y := nI n) hm ?_
    refine r_icmp_geN (q := 203) (t := 229) (by omega) (by omega) dX12_addTerm_200 (by decide) rfl (fun h200 => absurd h200 (by omega)) (fun h200 => ?_)
    refine r_aload_n (q := 204) dX12_addTerm_203 rfl rfl rfl ?_
    refine r_getr (q := 207) (some (1346, 0)) ck12 dX12_addTerm_204 rfl (k := 46) (by decide) wt1324 rfl (hs.e (by decide)) (hs.r (by decide) (by decide)) ?_
    refine r_bipush (q := 209) (nI 7) dX12_addTerm_207 rfl (by decide) ?_
    refine r_iload (q := 211) dX12_addTerm_209 rfl rfl ?_
    refine r_imulN (q := 212) dX12_addTerm_211 rfl ?_
    refine r_iload (q := 214) dX12_addTerm_212 rfl rfl ?_
    refine r_iaddN (q := 215) dX12_addTerm_214 rfl ?_
    refine r_aload_n (q := 216) dX12_addTerm_215 rfl rfl rfl ?_
    refine r_getr (q := 219) (some (1317, 0)) ck12 dX12_addTerm_216 rfl (k := 17) (by decide) wt1295 rfl (hs.e (by decide)) (hs.r (by decide) (by decide)) ?_
    refine r_iload (q := 221) dX12_addTerm_219 rfl rfl ?_
    refine r_ialdN (q := 222) 8 (by decide) rfl dX12_addTerm_221 rfl (hs.e (by decide)) (hs.n rfl (by decide)) (by omega) (by decide) ?_
    refine r_iastN (q := 223) 9800 (by decide) rfl dX12_addTerm_222 rfl (hs.e (by decide)) (hs.n rfl (by decide)) (by omega) (by decide) ?_
    refine r_iincN (q := 226) (L' := [some (zr 12 0), some (zi ct), some (zi v), some (zi q), some (zi P), some (zi (nI k)), some (zi (nI (i + 1))), some (zi (nI 7))]) 1 rfl dX12_addTerm_223 rfl rfl (by decide) rfl ?_
    refine r_goto (q := 194) dX12_addTerm_226 (by decide) ?_
    exact ih (i + 1) _ (by omega) hs (by rw [gI_sI, if_neg (by omega)]; exact hm) (fun i hi => by rw [gI_sI, if_neg (by omega)]; exact hp i hi) (fun S2 h => K S2 (h.trans (by rw [hp i (by omega)]; exact fm_step (g := fun j => nI ((pth e [] 1 t).getD j 0)) (show i < n by omega))))

set_option maxRecDepth 100000 in
theorem lp_atC2 {Po : Option zV → zS → Prop} {t : List Nat} {e : Nat → Nat} {ct v q P : Int32} {n k : Nat} (hn : n ≤ 7) (hk : k < 1400) : ∀ (d i : Nat) (S : zS), i + d = n → Sd S → gI S 12 0 21 = nI n → (∀ i, i < n → gI S 1317 0 i = nI ((pth e [] 1 t).getD i 0)) → (∀ S2, S2 = fm S 1346 0 (7 * k) i n (fun j => nI ((pth e [] 1 t).getD j 0)) → Ok mX12_addTerm 229 [some (zr 12 0), some (zi ct), some (zi v), some (zi q), some (zi P), some (zi (nI k)), some (zi (nI n)), none] [] S2 Po) → Ok mX12_addTerm 194 [some (zr 12 0), some (zi ct), some (zi v), some (zi q), some (zi P), some (zi (nI k)), some (zi (nI i)), none] [] S Po := by
  intro d
  induction d with
  | zero =>
    intro i S hi hs hm hp K
    obtain rfl : n = i := by omega
    refine r_iload (q := 196) dX12_addTerm_194 rfl rfl ?_
    refine r_aload_n (q := 197) dX12_addTerm_196 rfl rfl rfl ?_
    refine r_geti (q := 200) ck12 dX12_addTerm_197 rfl (k := 21) (by decide) wt1299 (Or.inl rfl) (hs.e (by decide)) ?_
    refine r_topi (y := nI n) hm ?_
    refine r_icmp_geN (q := 203) (t := 229) (by omega) (by omega) dX12_addTerm_200 (by decide) rfl (fun h200 => ?_) (fun h200 => absurd h200 (by omega))
    exact K _ (fm_all.symm)
  | succ d ih =>
    intro i S hi hs hm hp K
    refine r_iload (q := 196) dX12_addTerm_194 rfl rfl ?_
    refine r_aload_n (q := 197) dX12_addTerm_196 rfl rfl rfl ?_
    refine r_geti (q := 200) ck12 dX12_addTerm_197 rfl (k := 21) (by decide) wt1299 (Or.inl rfl) (hs.e (by decide)) ?_
    refine r_topi (y := nI n) hm ?_
    refine r_icmp_geN (q := 203) (t := 229) (by omega) (by omega) dX12_addTerm_200 (by decide) rfl (fun h200 => absurd h200 (by omega)) (fun h200 => ?_)
    refine r_aload_n (q := 204) dX12_addTerm_203 rfl rfl rfl ?_
    refine r_getr (q := 207) (some (1346, 0)) ck12 dX12_addTerm_204 rfl (k := 46) (by decide) wt1324 rfl (hs.e (by decide)) (hs.r (by decide) (by decide)) ?_
    refine r_bipush (q := 209) (nI 7) dX12_addTerm_207 rfl (by decide) ?_
    refine r_iload (q := 211) dX12_addTerm_209 rfl rfl ?_
    refine r_imulN (q := 212) dX12_addTerm_211 rfl ?_
    refine r_iload (q := 214) dX12_addTerm_212 rfl rfl ?_
    refine r_iaddN (q := 215) dX12_addTerm_214 rfl ?_
    refine r_aload_n (q := 216) dX12_addTerm_215 rfl rfl rfl ?_
    refine r_getr (q := 219) (some (1317, 0)) ck12 dX12_addTerm_216 rfl (k := 17) (by decide) wt1295 rfl (hs.e (by decide)) (hs.r (by decide) (by decide)) ?_
    refine r_iload (q := 221) dX12_addTerm_219 rfl rfl ?_
    refine r_ialdN (q := 222) 8 (by decide) rfl dX12_addTerm_221 rfl (hs.e (by decide)) (hs.n rfl (by decide)) (by omega) (by decide) ?_
    refine r_iastN (q := 223) 9800 (by decide) rfl dX12_addTerm_222 rfl (hs.e (by decide)) (hs.n rfl (by decide)) (by omega) (by decide) ?_
    refine r_iincN (q := 226) (L' := [some (zr 12 0), some (zi ct), some (zi v), some (zi q), some (zi P), some (zi (nI k)), some (zi (nI (i + 1))), none]) 1 rfl dX12_addTerm_223 rfl rfl (by decide) rfl ?_
    refine r_goto (q := 194) dX12_addTerm_226 (by decide) ?_
    exact ih (i + 1) _ (by omega) hs (by rw [gI_sI, if_neg (by omega)]; exact hm) (fun i hi => by rw [gI_sI, if_neg (by omega)]; exact hp i hi) (fun S2 h => K S2 (h.trans (by rw [hp i (by omega)]; exact fm_step (g := fun j => nI ((pth e [] 1 t).getD j 0)) (show i < n by omega))))

def Shf (S S' : zS) (k i : Nat) : Prop := (fun (S S' : zS) (k i : Nat) => Fr tAT S S' ∧ (∀ x y z, ¬ ((x = 1344 ∨ x = 1345) ∧ y = 0 ∧ k < z ∧ z ≤ i) → ¬ (x = 1346 ∧ y = 0 ∧ 7 * k + 7 ≤ z ∧ z < 7 * i + 7) → gI S' x y z = gI S x y z) ∧ (∀ z, k < z → z ≤ i → gI S' 1344 0 z = gI S 1344 0 (z - 1) ∧ gI S' 1345 0 z = gI S 1345 0 (z - 1)) ∧ ∀ z, 7 * k + 7 ≤ z → z < 7 * i + 7 → gI S' 1346 0 z = gI S 1346 0 (z - 7)) S S' k i

set_option maxRecDepth 100000 in
theorem lp_atS {Po : Option zV → zS → Prop} {ct v q P : Int32} {k : Nat} : ∀ (d i : Nat) (S : zS) (w7 : Option zV), (w7 = none ∨ w7 = some (zi (nI 7))) → i = k + d → i < 1400 → Sd S → (∀ S', Shf S S' k i → Ok mX12_addTerm 172 [some (zr 12 0), some (zi ct), some (zi v), some (zi q), some (zi P), some (zi (nI k)), some (zi (nI k)), if d = 0 then w7 else some (zi (nI 7))] [] S' Po) → Ok mX12_addTerm 83 [some (zr 12 0), some (zi ct), some (zi v), some (zi q), some (zi P), some (zi (nI k)), some (zi (nI i)), w7] [] S Po := by
  intro d
  induction d with
  | zero =>
    intro i S w7 h7 hi hi4 hs K
    obtain rfl : k = i := by omega
    rcases h7 with rfl | rfl
    · skip
      refine r_iload (q := 85) dX12_addTerm_83 rfl rfl ?_
      refine r_iload (q := 87) dX12_addTerm_85 rfl rfl ?_
      refine r_icmp_leN (q := 90) (t := 172) (by omega) (by omega) dX12_addTerm_87 (by decide) rfl (fun h87 => ?_) (fun h87 => absurd h87 (by omega))
      exact K S ⟨Fr.rf, fun _ _ _ _ _ => rfl, fun z z1 z2 => absurd z1 (by omega), fun z z1 z2 => absurd z1 (by omega)⟩
    · skip
      refine r_iload (q := 85) dX12_addTerm_83 rfl rfl ?_
      refine r_iload (q := 87) dX12_addTerm_85 rfl rfl ?_
      refine r_icmp_leN (q := 90) (t := 172) (by omega) (by omega) dX12_addTerm_87 (by decide) rfl (fun h87 => ?_) (fun h87 => absurd h87 (by omega))
      exact K S ⟨Fr.rf, fun _ _ _ _ _ => rfl, fun z z1 z2 => absurd z1 (by omega), fun z z1 z2 => absurd z1 (by omega)⟩
  | succ d ih =>
    intro i S w7 h7 hi hi4 hs K
    rcases h7 with rfl | rfl
    · skip
      refine r_iload (q := 85) dX12_addTerm_83 rfl rfl ?_
      refine r_iload (q := 87) dX12_addTerm_85 rfl rfl ?_
      refine r_icmp_leN (q := 90) (t := 172) (by omega) (by omega) dX12_addTerm_87 (by decide) rfl (fun h87 => absurd h87 (by omega)) (fun h87 => ?_)
      refine r_aload_n (q := 91) dX12_addTerm_90 rfl rfl rfl ?_
      refine r_getr (q := 94) (some (1344, 0)) ck12 dX12_addTerm_91 rfl (k := 44) (by decide) wt1322 rfl (hs.e (by decide)) (hs.r (by decide) (by decide)) ?_
      refine r_iload (q := 96) dX12_addTerm_94 rfl rfl ?_
      refine r_aload_n (q := 97) dX12_addTerm_96 rfl rfl rfl ?_
      refine r_getr (q := 100) (some (1344, 0)) ck12 dX12_addTerm_97 rfl (k := 44) (by decide) wt1322 rfl (hs.e (by decide)) (hs.r (by decide) (by decide)) ?_
      refine r_iload (q := 102) dX12_addTerm_100 rfl rfl ?_
      refine r_iconst (q := 103) (nI 1) dX12_addTerm_102 rfl (by decide) ?_
      refine r_isubN (q := 104) (by omega) dX12_addTerm_103 rfl ?_
      refine r_ialdN (q := 105) 1400 (by decide) rfl dX12_addTerm_104 rfl (hs.e (by decide)) (hs.n rfl (by decide)) (by omega) (by decide) ?_
      refine r_iastN (q := 106) 1400 (by decide) rfl dX12_addTerm_105 rfl (hs.e (by decide)) (hs.n rfl (by decide)) (by omega) (by decide) ?_
      refine r_aload_n (q := 107) dX12_addTerm_106 rfl rfl rfl ?_
      refine r_getr (q := 110) (some (1345, 0)) ck12 dX12_addTerm_107 rfl (k := 45) (by decide) wt1323 rfl (hs.e (by decide)) (hs.r (by decide) (by decide)) ?_
      refine r_iload (q := 112) dX12_addTerm_110 rfl rfl ?_
      refine r_aload_n (q := 113) dX12_addTerm_112 rfl rfl rfl ?_
      refine r_getr (q := 116) (some (1345, 0)) ck12 dX12_addTerm_113 rfl (k := 45) (by decide) wt1323 rfl (hs.e (by decide)) (hs.r (by decide) (by decide)) ?_
      refine r_iload (q := 118) dX12_addTerm_116 rfl rfl ?_
      refine r_iconst (q := 119) (nI 1) dX12_addTerm_118 rfl (by decide) ?_
      refine r_isubN (q := 120) (by omega) dX12_addTerm_119 rfl ?_
      refine r_ialdN (q := 121) 1400 (by decide) rfl dX12_addTerm_120 rfl (hs.e (by decide)) (hs.n rfl (by decide)) (by omega) (by decide) ?_
      refine r_topi (y := gI S 1345 0 (i - 1)) (by repeat (first | rw [gI_sI, if_neg (by omega)] | rw [gI_sI, if_pos ⟨rfl, rfl, rfl⟩] | rw [gJ_sJ, if_neg (by omega)] | rw [gJ_sJ, if_pos ⟨rfl, rfl, rfl⟩] | rw [gI_sJ] | rw [gJ_sI])) ?_
      refine r_iastN (q := 122) 1400 (by decide) rfl dX12_addTerm_121 rfl (hs.e (by decide)) (hs.n rfl (by decide)) (by omega) (by decide) ?_
      refine r_iconst (q := 123) (nI 0) dX12_addTerm_122 rfl (by decide) ?_
      refine r_istore (q := 125) (L' := [some (zr 12 0), some (zi ct), some (zi v), some (zi q), some (zi P), some (zi (nI k)), some (zi (nI i)), some (zi (nI 0))]) dX12_addTerm_123 rfl (by decide) rfl ?_
      refine r_iload (q := 127) dX12_addTerm_125 rfl rfl ?_
      refine r_bipush (q := 129) (nI 7) dX12_addTerm_127 rfl (by decide) ?_
      refine r_icmp_geN (q := 132) (t := 166) (by omega) (by omega) dX12_addTerm_129 (by decide) rfl (fun h129 => absurd h129 (by omega)) (fun h129 => ?_)
      refine r_aload_n (q := 133) dX12_addTerm_132 rfl rfl rfl ?_
      refine r_getr (q := 136) (some (1346, 0)) ck12 dX12_addTerm_133 rfl (k := 46) (by decide) wt1324 rfl (hs.e (by decide)) (hs.r (by decide) (by decide)) ?_
      refine r_bipush (q := 138) (nI 7) dX12_addTerm_136 rfl (by decide) ?_
      refine r_iload (q := 140) dX12_addTerm_138 rfl rfl ?_
      refine r_imulN (q := 141) dX12_addTerm_140 rfl ?_
      refine r_iload (q := 143) dX12_addTerm_141 rfl rfl ?_
      refine r_iaddN (q := 144) dX12_addTerm_143 rfl ?_
      refine r_aload_n (q := 145) dX12_addTerm_144 rfl rfl rfl ?_
      refine r_getr (q := 148) (some (1346, 0)) ck12 dX12_addTerm_145 rfl (k := 46) (by decide) wt1324 rfl (hs.e (by decide)) (hs.r (by decide) (by decide)) ?_
      refine r_bipush (q := 150) (nI 7) dX12_addTerm_148 rfl (by decide) ?_
      refine r_iload (q := 152) dX12_addTerm_150 rfl rfl ?_
      refine r_iconst (q := 153) (nI 1) dX12_addTerm_152 rfl (by decide) ?_
      refine r_isubN (q := 154) (by omega) dX12_addTerm_153 rfl ?_
      refine r_imulN (q := 155) dX12_addTerm_154 rfl ?_
      refine r_iload (q := 157) dX12_addTerm_155 rfl rfl ?_
      refine r_iaddN (q := 158) dX12_addTerm_157 rfl ?_
      refine r_ialdN (q := 159) 9800 (by decide) rfl dX12_addTerm_158 rfl (hs.e (by decide)) (hs.n rfl (by decide)) (by omega) (by decide) ?_
      refine r_topi (y := gI S 1346 0 ((7 * (i - 1)) + 0)) (by repeat (first | rw [gI_sI, if_neg (by omega)] | rw [gI_sI, if_pos ⟨rfl, rfl, rfl⟩] | rw [gJ_sJ, if_neg (by omega)] | rw [gJ_sJ, if_pos ⟨rfl, rfl, rfl⟩] | rw [gI_sJ] | rw [gJ_sI])) ?_
      refine r_iastN (q := 160) 9800 (by decide) rfl dX12_addTerm_159 rfl (hs.e (by decide)) (hs.n rfl (by decide)) (by omega) (by decide) ?_
      refine r_iincN (q := 163) (L' := [some (zr 12 0), some (zi ct), some (zi v), some (zi q), some (zi P), some (zi (nI k)), some (zi (nI i)), some (zi (nI 1))]) 1 rfl dX12_addTerm_160 rfl rfl (by decide) rfl ?_
      refine r_goto (q := 125) dX12_addTerm_163 (by decide) ?_
      refine r_iload (q := 127) dX12_addTerm_125 rfl rfl ?_
      refine r_bipush (q := 129) (nI 7) dX12_addTerm_127 rfl (by decide) ?_
      refine r_icmp_geN (q := 132) (t := 166) (by omega) (by omega) dX12_addTerm_129 (by decide) rfl (fun h129 => absurd h129 (by omega)) (fun h129 => ?_)
      refine r_aload_n (q := 133) dX12_addTerm_132 rfl rfl rfl ?_
      refine r_getr (q := 136) (some (1346, 0)) ck12 dX12_addTerm_133 rfl (k := 46) (by decide) wt1324 rfl (hs.e (by decide)) (hs.r (by decide) (by decide)) ?_
      refine r_bipush (q := 138) (nI 7) dX12_addTerm_136 rfl (by decide) ?_
      refine r_iload (q := 140) dX12_addTerm_138 rfl rfl ?_
      refine r_imulN (q := 141) dX12_addTerm_140 rfl ?_
      refine r_iload (q := 143) dX12_addTerm_141 rfl rfl ?_
      refine r_iaddN (q := 144) dX12_addTerm_143 rfl ?_
      refine r_aload_n (q := 145) dX12_addTerm_144 rfl rfl rfl ?_
      refine r_getr (q := 148) (some (1346, 0)) ck12 dX12_addTerm_145 rfl (k := 46) (by decide) wt1324 rfl (hs.e (by decide)) (hs.r (by decide) (by decide)) ?_
      refine r_bipush (q := 150) (nI 7) dX12_addTerm_148 rfl (by decide) ?_
      refine r_iload (q := 152) dX12_addTerm_150 rfl rfl ?_
      refine r_iconst (q := 153) (nI 1) dX12_addTerm_152 rfl (by decide) ?_
      refine r_isubN (q := 154) (by omega) dX12_addTerm_153 rfl ?_
      refine r_imulN (q := 155) dX12_addTerm_154 rfl ?_
      refine r_iload (q := 157) dX12_addTerm_155 rfl rfl ?_
      refine r_iaddN (q := 158) dX12_addTerm_157 rfl ?_
      refine r_ialdN (q := 159) 9800 (by decide) rfl dX12_addTerm_158 rfl (hs.e (by decide)) (hs.n rfl (by decide)) (by omega) (by decide) ?_
      refine r_topi (y := gI S 1346 0 ((7 * (i - 1)) + 1)) (by repeat (first | rw [gI_sI, if_neg (by omega)] | rw [gI_sI, if_pos ⟨rfl, rfl, rfl⟩] | rw [gJ_sJ, if_neg (by omega)] | rw [gJ_sJ, if_pos ⟨rfl, rfl, rfl⟩] | rw [gI_sJ] | rw [gJ_sI])) ?_
      refine r_iastN (q := 160) 9800 (by decide) rfl dX12_addTerm_159 rfl (hs.e (by decide)) (hs.n rfl (by decide)) (by omega) (by decide) ?_
      refine r_iincN (q := 163) (L' := [some (zr 12 0), some (zi ct), some (zi v), some (zi q), some (zi P), some (zi (nI k)), some (zi (nI i)), some (zi (nI 2))]) 1 rfl dX12_addTerm_160 rfl rfl (by decide) rfl ?_
      refine r_goto (q := 125) dX12_addTerm_163 (by decide) ?_
      refine r_iload (q := 127) dX12_addTerm_125 rfl rfl ?_
      refine r_bipush (q := 129) (nI 7) dX12_addTerm_127 rfl (by decide) ?_
      refine r_icmp_geN (q := 132) (t := 166) (by omega) (by omega) dX12_addTerm_129 (by decide) rfl (fun h129 => absurd h129 (by omega)) (fun h129 => ?_)
      refine r_aload_n (q := 133) dX12_addTerm_132 rfl rfl rfl ?_
      refine r_getr (q := 136) (some (1346, 0)) ck12 dX12_addTerm_133 rfl (k := 46) (by decide) wt1324 rfl (hs.e (by decide)) (hs.r (by decide) (by decide)) ?_
      refine r_bipush (q := 138) (nI 7) dX12_addTerm_136 rfl (by decide) ?_
      refine r_iload (q := 140) dX12_addTerm_138 rfl rfl ?_
      refine r_imulN (q := 141) dX12_addTerm_140 rfl ?_
      refine r_iload (q := 143) dX12_addTerm_141 rfl rfl ?_
      refine r_iaddN (q := 144) dX12_addTerm_143 rfl ?_
      refine r_aload_n (q := 145) dX12_addTerm_144 rfl rfl rfl ?_
      refine r_getr (q := 148) (some (1346, 0)) ck12 dX12_addTerm_145 rfl (k := 46) (by decide) wt1324 rfl (hs.e (by decide)) (hs.r (by decide) (by decide)) ?_
      refine r_bipush (q := 150) (nI 7) dX12_addTerm_148 rfl (by decide) ?_
      refine r_iload (q := 152) dX12_addTerm_150 rfl rfl ?_
      refine r_iconst (q := 153) (nI 1) dX12_addTerm_152 rfl (by decide) ?_
      refine r_isubN (q := 154) (by omega) dX12_addTerm_153 rfl ?_
      refine r_imulN (q := 155) dX12_addTerm_154 rfl ?_
      refine r_iload (q := 157) dX12_addTerm_155 rfl rfl ?_
      refine r_iaddN (q := 158) dX12_addTerm_157 rfl ?_
      refine r_ialdN (q := 159) 9800 (by decide) rfl dX12_addTerm_158 rfl (hs.e (by decide)) (hs.n rfl (by decide)) (by omega) (by decide) ?_
      refine r_topi (y := gI S 1346 0 ((7 * (i - 1)) + 2)) (by repeat (first | rw [gI_sI, if_neg (by omega)] | rw [gI_sI, if_pos ⟨rfl, rfl, rfl⟩] | rw [gJ_sJ, if_neg (by omega)] | rw [gJ_sJ, if_pos ⟨rfl, rfl, rfl⟩] | rw [gI_sJ] | rw [gJ_sI])) ?_
      refine r_iastN (q := 160) 9800 (by decide) rfl dX12_addTerm_159 rfl (hs.e (by decide)) (hs.n rfl (by decide)) (by omega) (by decide) ?_
      refine r_iincN (q := 163) (L' := [some (zr 12 0), some (zi ct), some (zi v), some (zi q), some (zi P), some (zi (nI k)), some (zi (nI i)), some (zi (nI 3))]) 1 rfl dX12_addTerm_160 rfl rfl (by decide) rfl ?_
      refine r_goto (q := 125) dX12_addTerm_163 (by decide) ?_
      refine r_iload (q := 127) dX12_addTerm_125 rfl rfl ?_
      refine r_bipush (q := 129) (nI 7) dX12_addTerm_127 rfl (by decide) ?_
      refine r_icmp_geN (q := 132) (t := 166) (by omega) (by omega) dX12_addTerm_129 (by decide) rfl (fun h129 => absurd h129 (by omega)) (fun h129 => ?_)
      refine r_aload_n (q := 133) dX12_addTerm_132 rfl rfl rfl ?_
      refine r_getr (q := 136) (some (1346, 0)) ck12 dX12_addTerm_133 rfl (k := 46) (by decide) wt1324 rfl (hs.e (by decide)) (hs.r (by decide) (by decide)) ?_
      refine r_bipush (q := 138) (nI 7) dX12_addTerm_136 rfl (by decide) ?_
      refine r_iload (q := 140) dX12_addTerm_138 rfl rfl ?_
      refine r_imulN (q := 141) dX12_addTerm_140 rfl ?_
      refine r_iload (q := 143) dX12_addTerm_141 rfl rfl ?_
      refine r_iaddN (q := 144) dX12_addTerm_143 rfl ?_
      refine r_aload_n (q := 145) dX12_addTerm_144 rfl rfl rfl ?_
      refine r_getr (q := 148) (some (1346, 0)) ck12 dX12_addTerm_145 rfl (k := 46) (by decide) wt1324 rfl (hs.e (by decide)) (hs.r (by decide) (by decide)) ?_
      refine r_bipush (q := 150) (nI 7) dX12_addTerm_148 rfl (by decide) ?_
      refine r_iload (q := 152) dX12_addTerm_150 rfl rfl ?_
      refine r_iconst (q := 153) (nI 1) dX12_addTerm_152 rfl (by decide) ?_
      refine r_isubN (q := 154) (by omega) dX12_addTerm_153 rfl ?_
      refine r_imulN (q := 155) dX12_addTerm_154 rfl ?_
      refine r_iload (q := 157) dX12_addTerm_155 rfl rfl ?_
      refine r_iaddN (q := 158) dX12_addTerm_157 rfl ?_
      refine r_ialdN (q := 159) 9800 (by decide) rfl dX12_addTerm_158 rfl (hs.e (by decide)) (hs.n rfl (by decide)) (by omega) (by decide) ?_
      refine r_topi (y := gI S 1346 0 ((7 * (i - 1)) + 3)) (by repeat (first | rw [gI_sI, if_neg (by omega)] | rw [gI_sI, if_pos ⟨rfl, rfl, rfl⟩] | rw [gJ_sJ, if_neg (by omega)] | rw [gJ_sJ, if_pos ⟨rfl, rfl, rfl⟩] | rw [gI_sJ] | rw [gJ_sI])) ?_
      refine r_iastN (q := 160) 9800 (by decide) rfl dX12_addTerm_159 rfl (hs.e (by decide)) (hs.n rfl (by decide)) (by omega) (by decide) ?_
      refine r_iincN (q := 163) (L' := [some (zr 12 0), some (zi ct), some (zi v), some (zi q), some (zi P), some (zi (nI k)), some (zi (nI i)), some (zi (nI 4))]) 1 rfl dX12_addTerm_160 rfl rfl (by decide) rfl ?_
      refine r_goto (q := 125) dX12_addTerm_163 (by decide) ?_
      refine r_iload (q := 127) dX12_addTerm_125 rfl rfl ?_
      refine r_bipush (q := 129) (nI 7) dX12_addTerm_127 rfl (by decide) ?_
      refine r_icmp_geN (q := 132) (t := 166) (by omega) (by omega) dX12_addTerm_129 (by decide) rfl (fun h129 => absurd h129 (by omega)) (fun h129 => ?_)
      refine r_aload_n (q := 133) dX12_addTerm_132 rfl rfl rfl ?_
      refine r_getr (q := 136) (some (1346, 0)) ck12 dX12_addTerm_133 rfl (k := 46) (by decide) wt1324 rfl (hs.e (by decide)) (hs.r (by decide) (by decide)) ?_
      refine r_bipush (q := 138) (nI 7) dX12_addTerm_136 rfl (by decide) ?_
      refine r_iload (q := 140) dX12_addTerm_138 rfl rfl ?_
      refine r_imulN (q := 141) dX12_addTerm_140 rfl ?_
      refine r_iload (q := 143) dX12_addTerm_141 rfl rfl ?_
      refine r_iaddN (q := 144) dX12_addTerm_143 rfl ?_
      refine r_aload_n (q := 145) dX12_addTerm_144 rfl rfl rfl ?_
      refine r_getr (q := 148) (some (1346, 0)) ck12 dX12_addTerm_145 rfl (k := 46) (by decide) wt1324 rfl (hs.e (by decide)) (hs.r (by decide) (by decide)) ?_
      refine r_bipush (q := 150) (nI 7) dX12_addTerm_148 rfl (by decide) ?_
      refine r_iload (q := 152) dX12_addTerm_150 rfl rfl ?_
      refine r_iconst (q := 153) (nI 1) dX12_addTerm_152 rfl (by decide) ?_
      refine r_isubN (q := 154) (by omega) dX12_addTerm_153 rfl ?_
      refine r_imulN (q := 155) dX12_addTerm_154 rfl ?_
      refine r_iload (q := 157) dX12_addTerm_155 rfl rfl ?_
      refine r_iaddN (q := 158) dX12_addTerm_157 rfl ?_
      refine r_ialdN (q := 159) 9800 (by decide) rfl dX12_addTerm_158 rfl (hs.e (by decide)) (hs.n rfl (by decide)) (by omega) (by decide) ?_
      refine r_topi (y := gI S 1346 0 ((7 * (i - 1)) + 4)) (by repeat (first | rw [gI_sI, if_neg (by omega)] | rw [gI_sI, if_pos ⟨rfl, rfl, rfl⟩] | rw [gJ_sJ, if_neg (by omega)] | rw [gJ_sJ, if_pos ⟨rfl, rfl, rfl⟩] | rw [gI_sJ] | rw [gJ_sI])) ?_
      refine r_iastN (q := 160) 9800 (by decide) rfl dX12_addTerm_159 rfl (hs.e (by decide)) (hs.n rfl (by decide)) (by omega) (by decide) ?_
      refine r_iincN (q := 163) (L' := [some (zr 12 0), some (zi ct), some (zi v), some (zi q), some (zi P), some (zi (nI k)), some (zi (nI i)), some (zi (nI 5))]) 1 rfl dX12_addTerm_160 rfl rfl (by decide) rfl ?_
      refine r_goto (q := 125) dX12_addTerm_163 (by decide) ?_
      refine r_iload (q := 127) dX12_addTerm_125 rfl rfl ?_
      refine r_bipush (q := 129) (nI 7) dX12_addTerm_127 rfl (by decide) ?_
      refine r_icmp_geN (q := 132) (t := 166) (by omega) (by omega) dX12_addTerm_129 (by decide) rfl (fun h129 => absurd h129 (by omega)) (fun h129 => ?_)
      refine r_aload_n (q := 133) dX12_addTerm_132 rfl rfl rfl ?_
      refine r_getr (q := 136) (some (1346, 0)) ck12 dX12_addTerm_133 rfl (k := 46) (by decide) wt1324 rfl (hs.e (by decide)) (hs.r (by decide) (by decide)) ?_
      refine r_bipush (q := 138) (nI 7) dX12_addTerm_136 rfl (by decide) ?_
      refine r_iload (q := 140) dX12_addTerm_138 rfl rfl ?_
      refine r_imulN (q := 141) dX12_addTerm_140 rfl ?_
      refine r_iload (q := 143) dX12_addTerm_141 rfl rfl ?_
      refine r_iaddN (q := 144) dX12_addTerm_143 rfl ?_
      refine r_aload_n (q := 145) dX12_addTerm_144 rfl rfl rfl ?_
      refine r_getr (q := 148) (some (1346, 0)) ck12 dX12_addTerm_145 rfl (k := 46) (by decide) wt1324 rfl (hs.e (by decide)) (hs.r (by decide) (by decide)) ?_
      refine r_bipush (q := 150) (nI 7) dX12_addTerm_148 rfl (by decide) ?_
      refine r_iload (q := 152) dX12_addTerm_150 rfl rfl ?_
      refine r_iconst (q := 153) (nI 1) dX12_addTerm_152 rfl (by decide) ?_
      refine r_isubN (q := 154) (by omega) dX12_addTerm_153 rfl ?_
      refine r_imulN (q := 155) dX12_addTerm_154 rfl ?_
      refine r_iload (q := 157) dX12_addTerm_155 rfl rfl ?_
      refine r_iaddN (q := 158) dX12_addTerm_157 rfl ?_
      refine r_ialdN (q := 159) 9800 (by decide) rfl dX12_addTerm_158 rfl (hs.e (by decide)) (hs.n rfl (by decide)) (by omega) (by decide) ?_
      refine r_topi (y := gI S 1346 0 ((7 * (i - 1)) + 5)) (by repeat (first | rw [gI_sI, if_neg (by omega)] | rw [gI_sI, if_pos ⟨rfl, rfl, rfl⟩] | rw [gJ_sJ, if_neg (by omega)] | rw [gJ_sJ, if_pos ⟨rfl, rfl, rfl⟩] | rw [gI_sJ] | rw [gJ_sI])) ?_
      refine r_iastN (q := 160) 9800 (by decide) rfl dX12_addTerm_159 rfl (hs.e (by decide)) (hs.n rfl (by decide)) (by omega) (by decide) ?_
      refine r_iincN (q := 163) (L' := [some (zr 12 0), some (zi ct), some (zi v), some (zi q), some (zi P), some (zi (nI k)), some (zi (nI i)), some (zi (nI 6))]) 1 rfl dX12_addTerm_160 rfl rfl (by decide) rfl ?_
      refine r_goto (q := 125) dX12_addTerm_163 (by decide) ?_
      refine r_iload (q := 127) dX12_addTerm_125 rfl rfl ?_
      refine r_bipush (q := 129) (nI 7) dX12_addTerm_127 rfl (by decide) ?_
      refine r_icmp_geN (q := 132) (t := 166) (by omega) (by omega) dX12_addTerm_129 (by decide) rfl (fun h129 => absurd h129 (by omega)) (fun h129 => ?_)
      refine r_aload_n (q := 133) dX12_addTerm_132 rfl rfl rfl ?_
      refine r_getr (q := 136) (some (1346, 0)) ck12 dX12_addTerm_133 rfl (k := 46) (by decide) wt1324 rfl (hs.e (by decide)) (hs.r (by decide) (by decide)) ?_
      refine r_bipush (q := 138) (nI 7) dX12_addTerm_136 rfl (by decide) ?_
      refine r_iload (q := 140) dX12_addTerm_138 rfl rfl ?_
      refine r_imulN (q := 141) dX12_addTerm_140 rfl ?_
      refine r_iload (q := 143) dX12_addTerm_141 rfl rfl ?_
      refine r_iaddN (q := 144) dX12_addTerm_143 rfl ?_
      refine r_aload_n (q := 145) dX12_addTerm_144 rfl rfl rfl ?_
      refine r_getr (q := 148) (some (1346, 0)) ck12 dX12_addTerm_145 rfl (k := 46) (by decide) wt1324 rfl (hs.e (by decide)) (hs.r (by decide) (by decide)) ?_
      refine r_bipush (q := 150) (nI 7) dX12_addTerm_148 rfl (by decide) ?_
      refine r_iload (q := 152) dX12_addTerm_150 rfl rfl ?_
      refine r_iconst (q := 153) (nI 1) dX12_addTerm_152 rfl (by decide) ?_
      refine r_isubN (q := 154) (by omega) dX12_addTerm_153 rfl ?_
      refine r_imulN (q := 155) dX12_addTerm_154 rfl ?_
      refine r_iload (q := 157) dX12_addTerm_155 rfl rfl ?_
      refine r_iaddN (q := 158) dX12_addTerm_157 rfl ?_
      refine r_ialdN (q := 159) 9800 (by decide) rfl dX12_addTerm_158 rfl (hs.e (by decide)) (hs.n rfl (by decide)) (by omega) (by decide) ?_
      refine r_topi (y := gI S 1346 0 ((7 * (i - 1)) + 6)) (by repeat (first | rw [gI_sI, if_neg (by omega)] | rw [gI_sI, if_pos ⟨rfl, rfl, rfl⟩] | rw [gJ_sJ, if_neg (by omega)] | rw [gJ_sJ, if_pos ⟨rfl, rfl, rfl⟩] | rw [gI_sJ] | rw [gJ_sI])) ?_
      refine r_iastN (q := 160) 9800 (by decide) rfl dX12_addTerm_159 rfl (hs.e (by decide)) (hs.n rfl (by decide)) (by omega) (by decide) ?_
      refine r_iincN (q := 163) (L' := [some (zr 12 0), some (zi ct), some (zi v), some (zi q), some (zi P), some (zi (nI k)), some (zi (nI i)), some (zi (nI 7))]) 1 rfl dX12_addTerm_160 rfl rfl (by decide) rfl ?_
      refine r_goto (q := 125) dX12_addTerm_163 (by decide) ?_
      refine r_iload (q := 127) dX12_addTerm_125 rfl rfl ?_
      refine r_bipush (q := 129) (nI 7) dX12_addTerm_127 rfl (by decide) ?_
      refine r_icmp_geN (q := 132) (t := 166) (by omega) (by omega) dX12_addTerm_129 (by decide) rfl (fun h129 => ?_) (fun h129 => absurd h129 (by omega))
      refine r_idecN (q := 169) (L' := [some (zr 12 0), some (zi ct), some (zi v), some (zi q), some (zi P), some (zi (nI k)), some (zi (nI (i - 1))), some (zi (nI 7))]) 1 (by omega) rfl dX12_addTerm_166 rfl rfl (by decide) rfl ?_
      refine r_goto (q := 83) dX12_addTerm_169 (by decide) ?_
      refine ih (i - 1) _ (some (zi (nI 7))) (Or.inr rfl) (by omega) (by omega) hs (fun S' g => ?_)
      have K' := K S' ?_
      · rw [if_neg (by omega)] at K'; rw [show (if d = 0 then some (zi (nI 7)) else some (zi (nI 7))) = some (zi (nI 7)) from ite_self _]; exact K'
      obtain ⟨g1, g2, g3, g4⟩ := g
      refine ⟨(((((((((Fr.rf.i rfl).i rfl).i rfl).i rfl).i rfl).i rfl).i rfl).i rfl).i rfl).tr g1, fun x y z q1 q2 => ?_, fun z z1 z2 => ?_, fun z z1 z2 => ?_⟩
      · rw [g2 x y z (by omega) (by omega)]; simp only [gI_sI]; repeat rw [if_neg (by omega)]
      · by_cases hz : z = i
        · subst hz; rw [g2 1344 0 z (by omega) (by omega), g2 1345 0 z (by omega) (by omega)]; refine ⟨?_, ?_⟩
          · repeat (first | rw [gI_sI, if_neg (by omega)] | rw [gI_sI, if_pos ⟨rfl, rfl, rfl⟩])
          · repeat (first | rw [gI_sI, if_neg (by omega)] | rw [gI_sI, if_pos ⟨rfl, rfl, rfl⟩])
        · obtain ⟨a1, a2⟩ := g3 z z1 (by omega); rw [a1, a2]; refine ⟨?_, ?_⟩
          · repeat (first | rw [gI_sI, if_neg (by omega)])
          · repeat (first | rw [gI_sI, if_neg (by omega)])
      · by_cases hz : z < 7 * i
        · rw [g4 z z1 (by omega)]; repeat (first | rw [gI_sI, if_neg (by omega)])
        · rw [g2 1346 0 z (by omega) (by omega)]
          have hz' : z = 7 * i + 0 ∨ z = 7 * i + 1 ∨ z = 7 * i + 2 ∨ z = 7 * i + 3 ∨ z = 7 * i + 4 ∨ z = 7 * i + 5 ∨ z = 7 * i + 6 := by omega
          rcases hz' with rfl | hz'
          · rw [show 7 * i + 0 - 7 = 7 * (i - 1) + 0 by omega]; repeat (first | rw [gI_sI, if_neg (by omega)] | rw [gI_sI, if_pos ⟨rfl, rfl, rfl⟩])
          rcases hz' with rfl | hz'
          · rw [show 7 * i + 1 - 7 = 7 * (i - 1) + 1 by omega]; repeat (first | rw [gI_sI, if_neg (by omega)] | rw [gI_sI, if_pos ⟨rfl, rfl, rfl⟩])
          rcases hz' with rfl | hz'
          · rw [show 7 * i + 2 - 7 = 7 * (i - 1) + 2 by omega]; repeat (first | rw [gI_sI, if_neg (by omega)] | rw [gI_sI, if_pos ⟨rfl, rfl, rfl⟩])
          rcases hz' with rfl | hz'
          · rw [show 7 * i + 3 - 7 = 7 * (i - 1) + 3 by omega]; repeat (first | rw [gI_sI, if_neg (by omega)] | rw [gI_sI, if_pos ⟨rfl, rfl, rfl⟩])
          rcases hz' with rfl | hz'
          · rw [show 7 * i + 4 - 7 = 7 * (i - 1) + 4 by omega]; repeat (first | rw [gI_sI, if_neg (by omega)] | rw [gI_sI, if_pos ⟨rfl, rfl, rfl⟩])
          rcases hz' with rfl | hz'
          · rw [show 7 * i + 5 - 7 = 7 * (i - 1) + 5 by omega]; repeat (first | rw [gI_sI, if_neg (by omega)] | rw [gI_sI, if_pos ⟨rfl, rfl, rfl⟩])
          subst hz'
          rw [show 7 * i + 6 - 7 = 7 * (i - 1) + 6 by omega]; repeat (first | rw [gI_sI, if_neg (by omega)] | rw [gI_sI, if_pos ⟨rfl, rfl, rfl⟩])
    · skip
      refine r_iload (q := 85) dX12_addTerm_83 rfl rfl ?_
      refine r_iload (q := 87) dX12_addTerm_85 rfl rfl ?_
      refine r_icmp_leN (q := 90) (t := 172) (by omega) (by omega) dX12_addTerm_87 (by decide) rfl (fun h87 => absurd h87 (by omega)) (fun h87 => ?_)
      refine r_aload_n (q := 91) dX12_addTerm_90 rfl rfl rfl ?_
      refine r_getr (q := 94) (some (1344, 0)) ck12 dX12_addTerm_91 rfl (k := 44) (by decide) wt1322 rfl (hs.e (by decide)) (hs.r (by decide) (by decide)) ?_
      refine r_iload (q := 96) dX12_addTerm_94 rfl rfl ?_
      refine r_aload_n (q := 97) dX12_addTerm_96 rfl rfl rfl ?_
      refine r_getr (q := 100) (some (1344, 0)) ck12 dX12_addTerm_97 rfl (k := 44) (by decide) wt1322 rfl (hs.e (by decide)) (hs.r (by decide) (by decide)) ?_
      refine r_iload (q := 102) dX12_addTerm_100 rfl rfl ?_
      refine r_iconst (q := 103) (nI 1) dX12_addTerm_102 rfl (by decide) ?_
      refine r_isubN (q := 104) (by omega) dX12_addTerm_103 rfl ?_
      refine r_ialdN (q := 105) 1400 (by decide) rfl dX12_addTerm_104 rfl (hs.e (by decide)) (hs.n rfl (by decide)) (by omega) (by decide) ?_
      refine r_iastN (q := 106) 1400 (by decide) rfl dX12_addTerm_105 rfl (hs.e (by decide)) (hs.n rfl (by decide)) (by omega) (by decide) ?_
      refine r_aload_n (q := 107) dX12_addTerm_106 rfl rfl rfl ?_
      refine r_getr (q := 110) (some (1345, 0)) ck12 dX12_addTerm_107 rfl (k := 45) (by decide) wt1323 rfl (hs.e (by decide)) (hs.r (by decide) (by decide)) ?_
      refine r_iload (q := 112) dX12_addTerm_110 rfl rfl ?_
      refine r_aload_n (q := 113) dX12_addTerm_112 rfl rfl rfl ?_
      refine r_getr (q := 116) (some (1345, 0)) ck12 dX12_addTerm_113 rfl (k := 45) (by decide) wt1323 rfl (hs.e (by decide)) (hs.r (by decide) (by decide)) ?_
      refine r_iload (q := 118) dX12_addTerm_116 rfl rfl ?_
      refine r_iconst (q := 119) (nI 1) dX12_addTerm_118 rfl (by decide) ?_
      refine r_isubN (q := 120) (by omega) dX12_addTerm_119 rfl ?_
      refine r_ialdN (q := 121) 1400 (by decide) rfl dX12_addTerm_120 rfl (hs.e (by decide)) (hs.n rfl (by decide)) (by omega) (by decide) ?_
      refine r_topi (y := gI S 1345 0 (i - 1)) (by repeat (first | rw [gI_sI, if_neg (by omega)] | rw [gI_sI, if_pos ⟨rfl, rfl, rfl⟩] | rw [gJ_sJ, if_neg (by omega)] | rw [gJ_sJ, if_pos ⟨rfl, rfl, rfl⟩] | rw [gI_sJ] | rw [gJ_sI])) ?_
      refine r_iastN (q := 122) 1400 (by decide) rfl dX12_addTerm_121 rfl (hs.e (by decide)) (hs.n rfl (by decide)) (by omega) (by decide) ?_
      refine r_iconst (q := 123) (nI 0) dX12_addTerm_122 rfl (by decide) ?_
      refine r_istore (q := 125) (L' := [some (zr 12 0), some (zi ct), some (zi v), some (zi q), some (zi P), some (zi (nI k)), some (zi (nI i)), some (zi (nI 0))]) dX12_addTerm_123 rfl (by decide) rfl ?_
      refine r_iload (q := 127) dX12_addTerm_125 rfl rfl ?_
      refine r_bipush (q := 129) (nI 7) dX12_addTerm_127 rfl (by decide) ?_
      refine r_icmp_geN (q := 132) (t := 166) (by omega) (by omega) dX12_addTerm_129 (by decide) rfl (fun h129 => absurd h129 (by omega)) (fun h129 => ?_)
      refine r_aload_n (q := 133) dX12_addTerm_132 rfl rfl rfl ?_
      refine r_getr (q := 136) (some (1346, 0)) ck12 dX12_addTerm_133 rfl (k := 46) (by decide) wt1324 rfl (hs.e (by decide)) (hs.r (by decide) (by decide)) ?_
      refine r_bipush (q := 138) (nI 7) dX12_addTerm_136 rfl (by decide) ?_
      refine r_iload (q := 140) dX12_addTerm_138 rfl rfl ?_
      refine r_imulN (q := 141) dX12_addTerm_140 rfl ?_
      refine r_iload (q := 143) dX12_addTerm_141 rfl rfl ?_
      refine r_iaddN (q := 144) dX12_addTerm_143 rfl ?_
      refine r_aload_n (q := 145) dX12_addTerm_144 rfl rfl rfl ?_
      refine r_getr (q := 148) (some (1346, 0)) ck12 dX12_addTerm_145 rfl (k := 46) (by decide) wt1324 rfl (hs.e (by decide)) (hs.r (by decide) (by decide)) ?_
      refine r_bipush (q := 150) (nI 7) dX12_addTerm_148 rfl (by decide) ?_
      refine r_iload (q := 152) dX12_addTerm_150 rfl rfl ?_
      refine r_iconst (q := 153) (nI 1) dX12_addTerm_152 rfl (by decide) ?_
      refine r_isubN (q := 154) (by omega) dX12_addTerm_153 rfl ?_
      refine r_imulN (q := 155) dX12_addTerm_154 rfl ?_
      refine r_iload (q := 157) dX12_addTerm_155 rfl rfl ?_
      refine r_iaddN (q := 158) dX12_addTerm_157 rfl ?_
      refine r_ialdN (q := 159) 9800 (by decide) rfl dX12_addTerm_158 rfl (hs.e (by decide)) (hs.n rfl (by decide)) (by omega) (by decide) ?_
      refine r_topi (y := gI S 1346 0 ((7 * (i - 1)) + 0)) (by repeat (first | rw [gI_sI, if_neg (by omega)] | rw [gI_sI, if_pos ⟨rfl, rfl, rfl⟩] | rw [gJ_sJ, if_neg (by omega)] | rw [gJ_sJ, if_pos ⟨rfl, rfl, rfl⟩] | rw [gI_sJ] | rw [gJ_sI])) ?_
      refine r_iastN (q := 160) 9800 (by decide) rfl dX12_addTerm_159 rfl (hs.e (by decide)) (hs.n rfl (by decide)) (by omega) (by decide) ?_
      refine r_iincN (q := 163) (L' := [some (zr 12 0), some (zi ct), some (zi v), some (zi q), some (zi P), some (zi (nI k)), some (zi (nI i)), some (zi (nI 1))]) 1 rfl dX12_addTerm_160 rfl rfl (by decide) rfl ?_
      refine r_goto (q := 125) dX12_addTerm_163 (by decide) ?_
      refine r_iload (q := 127) dX12_addTerm_125 rfl rfl ?_
      refine r_bipush (q := 129) (nI 7) dX12_addTerm_127 rfl (by decide) ?_
      refine r_icmp_geN (q := 132) (t := 166) (by omega) (by omega) dX12_addTerm_129 (by decide) rfl (fun h129 => absurd h129 (by omega)) (fun h129 => ?_)
      refine r_aload_n (q := 133) dX12_addTerm_132 rfl rfl rfl ?_
      refine r_getr (q := 136) (some (1346, 0)) ck12 dX12_addTerm_133 rfl (k := 46) (by decide) wt1324 rfl (hs.e (by decide)) (hs.r (by decide) (by decide)) ?_
      refine r_bipush (q := 138) (nI 7) dX12_addTerm_136 rfl (by decide) ?_
      refine r_iload (q := 140) dX12_addTerm_138 rfl rfl ?_
      refine r_imulN (q := 141) dX12_addTerm_140 rfl ?_
      refine r_iload (q := 143) dX12_addTerm_141 rfl rfl ?_
      refine r_iaddN (q := 144) dX12_addTerm_143 rfl ?_
      refine r_aload_n (q := 145) dX12_addTerm_144 rfl rfl rfl ?_
      refine r_getr (q := 148) (some (1346, 0)) ck12 dX12_addTerm_145 rfl (k := 46) (by decide) wt1324 rfl (hs.e (by decide)) (hs.r (by decide) (by decide)) ?_
      refine r_bipush (q := 150) (nI 7) dX12_addTerm_148 rfl (by decide) ?_
      refine r_iload (q := 152) dX12_addTerm_150 rfl rfl ?_
      refine r_iconst (q := 153) (nI 1) dX12_addTerm_152 rfl (by decide) ?_
      refine r_isubN (q := 154) (by omega) dX12_addTerm_153 rfl ?_
      refine r_imulN (q := 155) dX12_addTerm_154 rfl ?_
      refine r_iload (q := 157) dX12_addTerm_155 rfl rfl ?_
      refine r_iaddN (q := 158) dX12_addTerm_157 rfl ?_
      refine r_ialdN (q := 159) 9800 (by decide) rfl dX12_addTerm_158 rfl (hs.e (by decide)) (hs.n rfl (by decide)) (by omega) (by decide) ?_
      refine r_topi (y := gI S 1346 0 ((7 * (i - 1)) + 1)) (by repeat (first | rw [gI_sI, if_neg (by omega)] | rw [gI_sI, if_pos ⟨rfl, rfl, rfl⟩] | rw [gJ_sJ, if_neg (by omega)] | rw [gJ_sJ, if_pos ⟨rfl, rfl, rfl⟩] | rw [gI_sJ] | rw [gJ_sI])) ?_
      refine r_iastN (q := 160) 9800 (by decide) rfl dX12_addTerm_159 rfl (hs.e (by decide)) (hs.n rfl (by decide)) (by omega) (by decide) ?_
      refine r_iincN (q := 163) (L' := [some (zr 12 0), some (zi ct), some (zi v), some (zi q), some (zi P), some (zi (nI k)), some (zi (nI i)), some (zi (nI 2))]) 1 rfl dX12_addTerm_160 rfl rfl (by decide) rfl ?_
      refine r_goto (q := 125) dX12_addTerm_163 (by decide) ?_
      refine r_iload (q := 127) dX12_addTerm_125 rfl rfl ?_
      refine r_bipush (q := 129) (nI 7) dX12_addTerm_127 rfl (by decide) ?_
      refine r_icmp_geN (q := 132) (t := 166) (by omega) (by omega) dX12_addTerm_129 (by decide) rfl (fun h129 => absurd h129 (by omega)) (fun h129 => ?_)
      refine r_aload_n (q := 133) dX12_addTerm_132 rfl rfl rfl ?_
      refine r_getr (q := 136) (some (1346, 0)) ck12 dX12_addTerm_133 rfl (k := 46) (by decide) wt1324 rfl (hs.e (by decide)) (hs.r (by decide) (by decide)) ?_
      refine r_bipush (q := 138) (nI 7) dX12_addTerm_136 rfl (by decide) ?_
      refine r_iload (q := 140) dX12_addTerm_138 rfl rfl ?_
      refine r_imulN (q := 141) dX12_addTerm_140 rfl ?_
      refine r_iload (q := 143) dX12_addTerm_141 rfl rfl ?_
      refine r_iaddN (q := 144) dX12_addTerm_143 rfl ?_
      refine r_aload_n (q := 145) dX12_addTerm_144 rfl rfl rfl ?_
      refine r_getr (q := 148) (some (1346, 0)) ck12 dX12_addTerm_145 rfl (k := 46) (by decide) wt1324 rfl (hs.e (by decide)) (hs.r (by decide) (by decide)) ?_
      refine r_bipush (q := 150) (nI 7) dX12_addTerm_148 rfl (by decide) ?_
      refine r_iload (q := 152) dX12_addTerm_150 rfl rfl ?_
      refine r_iconst (q := 153) (nI 1) dX12_addTerm_152 rfl (by decide) ?_
      refine r_isubN (q := 154) (by omega) dX12_addTerm_153 rfl ?_
      refine r_imulN (q := 155) dX12_addTerm_154 rfl ?_
      refine r_iload (q := 157) dX12_addTerm_155 rfl rfl ?_
      refine r_iaddN (q := 158) dX12_addTerm_157 rfl ?_
      refine r_ialdN (q := 159) 9800 (by decide) rfl dX12_addTerm_158 rfl (hs.e (by decide)) (hs.n rfl (by decide)) (by omega) (by decide) ?_
      refine r_topi (y := gI S 1346 0 ((7 * (i - 1)) + 2)) (by repeat (first | rw [gI_sI, if_neg (by omega)] | rw [gI_sI, if_pos ⟨rfl, rfl, rfl⟩] | rw [gJ_sJ, if_neg (by omega)] | rw [gJ_sJ, if_pos ⟨rfl, rfl, rfl⟩] | rw [gI_sJ] | rw [gJ_sI])) ?_
      refine r_iastN (q := 160) 9800 (by decide) rfl dX12_addTerm_159 rfl (hs.e (by decide)) (hs.n rfl (by decide)) (by omega) (by decide) ?_
      refine r_iincN (q := 163) (L' := [some (zr 12 0), some (zi ct), some (zi v), some (zi q), some (zi P), some (zi (nI k)), some (zi (nI i)), some (zi (nI 3))]) 1 rfl dX12_addTerm_160 rfl rfl (by decide) rfl ?_
      refine r_goto (q := 125) dX12_addTerm_163 (by decide) ?_
      refine r_iload (q := 127) dX12_addTerm_125 rfl rfl ?_
      refine r_bipush (q := 129) (nI 7) dX12_addTerm_127 rfl (by decide) ?_
      refine r_icmp_geN (q := 132) (t := 166) (by omega) (by omega) dX12_addTerm_129 (by decide) rfl (fun h129 => absurd h129 (by omega)) (fun h129 => ?_)
      refine r_aload_n (q := 133) dX12_addTerm_132 rfl rfl rfl ?_
      refine r_getr (q := 136) (some (1346, 0)) ck12 dX12_addTerm_133 rfl (k := 46) (by decide) wt1324 rfl (hs.e (by decide)) (hs.r (by decide) (by decide)) ?_
      refine r_bipush (q := 138) (nI 7) dX12_addTerm_136 rfl (by decide) ?_
      refine r_iload (q := 140) dX12_addTerm_138 rfl rfl ?_
      refine r_imulN (q := 141) dX12_addTerm_140 rfl ?_
      refine r_iload (q := 143) dX12_addTerm_141 rfl rfl ?_
      refine r_iaddN (q := 144) dX12_addTerm_143 rfl ?_
      refine r_aload_n (q := 145) dX12_addTerm_144 rfl rfl rfl ?_
      refine r_getr (q := 148) (some (1346, 0)) ck12 dX12_addTerm_145 rfl (k := 46) (by decide) wt1324 rfl (hs.e (by decide)) (hs.r (by decide) (by decide)) ?_
      refine r_bipush (q := 150) (nI 7) dX12_addTerm_148 rfl (by decide) ?_
      refine r_iload (q := 152) dX12_addTerm_150 rfl rfl ?_
      refine r_iconst (q := 153) (nI 1) dX12_addTerm_152 rfl (by decide) ?_
      refine r_isubN (q := 154) (by omega) dX12_addTerm_153 rfl ?_
      refine r_imulN (q := 155) dX12_addTerm_154 rfl ?_
      refine r_iload (q := 157) dX12_addTerm_155 rfl rfl ?_
      refine r_iaddN (q := 158) dX12_addTerm_157 rfl ?_
      refine r_ialdN (q := 159) 9800 (by decide) rfl dX12_addTerm_158 rfl (hs.e (by decide)) (hs.n rfl (by decide)) (by omega) (by decide) ?_
      refine r_topi (y := gI S 1346 0 ((7 * (i - 1)) + 3)) (by repeat (first | rw [gI_sI, if_neg (by omega)] | rw [gI_sI, if_pos ⟨rfl, rfl, rfl⟩] | rw [gJ_sJ, if_neg (by omega)] | rw [gJ_sJ, if_pos ⟨rfl, rfl, rfl⟩] | rw [gI_sJ] | rw [gJ_sI])) ?_
      refine r_iastN (q := 160) 9800 (by decide) rfl dX12_addTerm_159 rfl (hs.e (by decide)) (hs.n rfl (by decide)) (by omega) (by decide) ?_
      refine r_iincN (q := 163) (L' := [some (zr 12 0), some (zi ct), some (zi v), some (zi q), some (zi P), some (zi (nI k)), some (zi (nI i)), some (zi (nI 4))]) 1 rfl dX12_addTerm_160 rfl rfl (by decide) rfl ?_
      refine r_goto (q := 125) dX12_addTerm_163 (by decide) ?_
      refine r_iload (q := 127) dX12_addTerm_125 rfl rfl ?_
      refine r_bipush (q := 129) (nI 7) dX12_addTerm_127 rfl (by decide) ?_
      refine r_icmp_geN (q := 132) (t := 166) (by omega) (by omega) dX12_addTerm_129 (by decide) rfl (fun h129 => absurd h129 (by omega)) (fun h129 => ?_)
      refine r_aload_n (q := 133) dX12_addTerm_132 rfl rfl rfl ?_
      refine r_getr (q := 136) (some (1346, 0)) ck12 dX12_addTerm_133 rfl (k := 46) (by decide) wt1324 rfl (hs.e (by decide)) (hs.r (by decide) (by decide)) ?_
      refine r_bipush (q := 138) (nI 7) dX12_addTerm_136 rfl (by decide) ?_
      refine r_iload (q := 140) dX12_addTerm_138 rfl rfl ?_
      refine r_imulN (q := 141) dX12_addTerm_140 rfl ?_
      refine r_iload (q := 143) dX12_addTerm_141 rfl rfl ?_
      refine r_iaddN (q := 144) dX12_addTerm_143 rfl ?_
      refine r_aload_n (q := 145) dX12_addTerm_144 rfl rfl rfl ?_
      refine r_getr (q := 148) (some (1346, 0)) ck12 dX12_addTerm_145 rfl (k := 46) (by decide) wt1324 rfl (hs.e (by decide)) (hs.r (by decide) (by decide)) ?_
      refine r_bipush (q := 150) (nI 7) dX12_addTerm_148 rfl (by decide) ?_
      refine r_iload (q := 152) dX12_addTerm_150 rfl rfl ?_
      refine r_iconst (q := 153) (nI 1) dX12_addTerm_152 rfl (by decide) ?_
      refine r_isubN (q := 154) (by omega) dX12_addTerm_153 rfl ?_
      refine r_imulN (q := 155) dX12_addTerm_154 rfl ?_
      refine r_iload (q := 157) dX12_addTerm_155 rfl rfl ?_
      refine r_iaddN (q := 158) dX12_addTerm_157 rfl ?_
      refine r_ialdN (q := 159) 9800 (by decide) rfl dX12_addTerm_158 rfl (hs.e (by decide)) (hs.n rfl (by decide)) (by omega) (by decide) ?_
      refine r_topi (y := gI S 1346 0 ((7 * (i - 1)) + 4)) (by repeat (first | rw [gI_sI, if_neg (by omega)] | rw [gI_sI, if_pos ⟨rfl, rfl, rfl⟩] | rw [gJ_sJ, if_neg (by omega)] | rw [gJ_sJ, if_pos ⟨rfl, rfl, rfl⟩] | rw [gI_sJ] | rw [gJ_sI])) ?_
      refine r_iastN (q := 160) 9800 (by decide) rfl dX12_addTerm_159 rfl (hs.e (by decide)) (hs.n rfl (by decide)) (by omega) (by decide) ?_
      refine r_iincN (q := 163) (L' := [some (zr 12 0), some (zi ct), some (zi v), some (zi q), some (zi P), some (zi (nI k)), some (zi (nI i)), some (zi (nI 5))]) 1 rfl dX12_addTerm_160 rfl rfl (by decide) rfl ?_
      refine r_goto (q := 125) dX12_addTerm_163 (by decide) ?_
      refine r_iload (q := 127) dX12_addTerm_125 rfl rfl ?_
      refine r_bipush (q := 129) (nI 7) dX12_addTerm_127 rfl (by decide) ?_
      refine r_icmp_geN (q := 132) (t := 166) (by omega) (by omega) dX12_addTerm_129 (by decide) rfl (fun h129 => absurd h129 (by omega)) (fun h129 => ?_)
      refine r_aload_n (q := 133) dX12_addTerm_132 rfl rfl rfl ?_
      refine r_getr (q := 136) (some (1346, 0)) ck12 dX12_addTerm_133 rfl (k := 46) (by decide) wt1324 rfl (hs.e (by decide)) (hs.r (by decide) (by decide)) ?_
      refine r_bipush (q := 138) (nI 7) dX12_addTerm_136 rfl (by decide) ?_
      refine r_iload (q := 140) dX12_addTerm_138 rfl rfl ?_
      refine r_imulN (q := 141) dX12_addTerm_140 rfl ?_
      refine r_iload (q := 143) dX12_addTerm_141 rfl rfl ?_
      refine r_iaddN (q := 144) dX12_addTerm_143 rfl ?_
      refine r_aload_n (q := 145) dX12_addTerm_144 rfl rfl rfl ?_
      refine r_getr (q := 148) (some (1346, 0)) ck12 dX12_addTerm_145 rfl (k := 46) (by decide) wt1324 rfl (hs.e (by decide)) (hs.r (by decide) (by decide)) ?_
      refine r_bipush (q := 150) (nI 7) dX12_addTerm_148 rfl (by decide) ?_
      refine r_iload (q := 152) dX12_addTerm_150 rfl rfl ?_
      refine r_iconst (q := 153) (nI 1) dX12_addTerm_152 rfl (by decide) ?_
      refine r_isubN (q := 154) (by omega) dX12_addTerm_153 rfl ?_
      refine r_imulN (q := 155) dX12_addTerm_154 rfl ?_
      refine r_iload (q := 157) dX12_addTerm_155 rfl rfl ?_
      refine r_iaddN (q := 158) dX12_addTerm_157 rfl ?_
      refine r_ialdN (q := 159) 9800 (by decide) rfl dX12_addTerm_158 rfl (hs.e (by decide)) (hs.n rfl (by decide)) (by omega) (by decide) ?_
      refine r_topi (y := gI S 1346 0 ((7 * (i - 1)) + 5)) (by repeat (first | rw [gI_sI, if_neg (by omega)] | rw [gI_sI, if_pos ⟨rfl, rfl, rfl⟩] | rw [gJ_sJ, if_neg (by omega)] | rw [gJ_sJ, if_pos ⟨rfl, rfl, rfl⟩] | rw [gI_sJ] | rw [gJ_sI])) ?_
      refine r_iastN (q := 160) 9800 (by decide) rfl dX12_addTerm_159 rfl (hs.e (by decide)) (hs.n rfl (by decide)) (by omega) (by decide) ?_
      refine r_iincN (q := 163) (L' := [some (zr 12 0), some (zi ct), some (zi v), some (zi q), some (zi P), some (zi (nI k)), some (zi (nI i)), some (zi (nI 6))]) 1 rfl dX12_addTerm_160 rfl rfl (by decide) rfl ?_
      refine r_goto (q := 125) dX12_addTerm_163 (by decide) ?_
      refine r_iload (q := 127) dX12_addTerm_125 rfl rfl ?_
      refine r_bipush (q := 129) (nI 7) dX12_addTerm_127 rfl (by decide) ?_
      refine r_icmp_geN (q := 132) (t := 166) (by omega) (by omega) dX12_addTerm_129 (by decide) rfl (fun h129 => absurd h129 (by omega)) (fun h129 => ?_)
      refine r_aload_n (q := 133) dX12_addTerm_132 rfl rfl rfl ?_
      refine r_getr (q := 136) (some (1346, 0)) ck12 dX12_addTerm_133 rfl (k := 46) (by decide) wt1324 rfl (hs.e (by decide)) (hs.r (by decide) (by decide)) ?_
      refine r_bipush (q := 138) (nI 7) dX12_addTerm_136 rfl (by decide) ?_
      refine r_iload (q := 140) dX12_addTerm_138 rfl rfl ?_
      refine r_imulN (q := 141) dX12_addTerm_140 rfl ?_
      refine r_iload (q := 143) dX12_addTerm_141 rfl rfl ?_
      refine r_iaddN (q := 144) dX12_addTerm_143 rfl ?_
      refine r_aload_n (q := 145) dX12_addTerm_144 rfl rfl rfl ?_
      refine r_getr (q := 148) (some (1346, 0)) ck12 dX12_addTerm_145 rfl (k := 46) (by decide) wt1324 rfl (hs.e (by decide)) (hs.r (by decide) (by decide)) ?_
      refine r_bipush (q := 150) (nI 7) dX12_addTerm_148 rfl (by decide) ?_
      refine r_iload (q := 152) dX12_addTerm_150 rfl rfl ?_
      refine r_iconst (q := 153) (nI 1) dX12_addTerm_152 rfl (by decide) ?_
      refine r_isubN (q := 154) (by omega) dX12_addTerm_153 rfl ?_
      refine r_imulN (q := 155) dX12_addTerm_154 rfl ?_
      refine r_iload (q := 157) dX12_addTerm_155 rfl rfl ?_
      refine r_iaddN (q := 158) dX12_addTerm_157 rfl ?_
      refine r_ialdN (q := 159) 9800 (by decide) rfl dX12_addTerm_158 rfl (hs.e (by decide)) (hs.n rfl (by decide)) (by omega) (by decide) ?_
      refine r_topi (y := gI S 1346 0 ((7 * (i - 1)) + 6)) (by repeat (first | rw [gI_sI, if_neg (by omega)] | rw [gI_sI, if_pos ⟨rfl, rfl, rfl⟩] | rw [gJ_sJ, if_neg (by omega)] | rw [gJ_sJ, if_pos ⟨rfl, rfl, rfl⟩] | rw [gI_sJ] | rw [gJ_sI])) ?_
      refine r_iastN (q := 160) 9800 (by decide) rfl dX12_addTerm_159 rfl (hs.e (by decide)) (hs.n rfl (by decide)) (by omega) (by decide) ?_
      refine r_iincN (q := 163) (L' := [some (zr 12 0), some (zi ct), some (zi v), some (zi q), some (zi P), some (zi (nI k)), some (zi (nI i)), some (zi (nI 7))]) 1 rfl dX12_addTerm_160 rfl rfl (by decide) rfl ?_
      refine r_goto (q := 125) dX12_addTerm_163 (by decide) ?_
      refine r_iload (q := 127) dX12_addTerm_125 rfl rfl ?_
      refine r_bipush (q := 129) (nI 7) dX12_addTerm_127 rfl (by decide) ?_
      refine r_icmp_geN (q := 132) (t := 166) (by omega) (by omega) dX12_addTerm_129 (by decide) rfl (fun h129 => ?_) (fun h129 => absurd h129 (by omega))
      refine r_idecN (q := 169) (L' := [some (zr 12 0), some (zi ct), some (zi v), some (zi q), some (zi P), some (zi (nI k)), some (zi (nI (i - 1))), some (zi (nI 7))]) 1 (by omega) rfl dX12_addTerm_166 rfl rfl (by decide) rfl ?_
      refine r_goto (q := 83) dX12_addTerm_169 (by decide) ?_
      refine ih (i - 1) _ (some (zi (nI 7))) (Or.inr rfl) (by omega) (by omega) hs (fun S' g => ?_)
      have K' := K S' ?_
      · rw [if_neg (by omega)] at K'; rw [show (if d = 0 then some (zi (nI 7)) else some (zi (nI 7))) = some (zi (nI 7)) from ite_self _]; exact K'
      obtain ⟨g1, g2, g3, g4⟩ := g
      refine ⟨(((((((((Fr.rf.i rfl).i rfl).i rfl).i rfl).i rfl).i rfl).i rfl).i rfl).i rfl).tr g1, fun x y z q1 q2 => ?_, fun z z1 z2 => ?_, fun z z1 z2 => ?_⟩
      · rw [g2 x y z (by omega) (by omega)]; simp only [gI_sI]; repeat rw [if_neg (by omega)]
      · by_cases hz : z = i
        · subst hz; rw [g2 1344 0 z (by omega) (by omega), g2 1345 0 z (by omega) (by omega)]; refine ⟨?_, ?_⟩
          · repeat (first | rw [gI_sI, if_neg (by omega)] | rw [gI_sI, if_pos ⟨rfl, rfl, rfl⟩])
          · repeat (first | rw [gI_sI, if_neg (by omega)] | rw [gI_sI, if_pos ⟨rfl, rfl, rfl⟩])
        · obtain ⟨a1, a2⟩ := g3 z z1 (by omega); rw [a1, a2]; refine ⟨?_, ?_⟩
          · repeat (first | rw [gI_sI, if_neg (by omega)])
          · repeat (first | rw [gI_sI, if_neg (by omega)])
      · by_cases hz : z < 7 * i
        · rw [g4 z z1 (by omega)]; repeat (first | rw [gI_sI, if_neg (by omega)])
        · rw [g2 1346 0 z (by omega) (by omega)]
          have hz' : z = 7 * i + 0 ∨ z = 7 * i + 1 ∨ z = 7 * i + 2 ∨ z = 7 * i + 3 ∨ z = 7 * i + 4 ∨ z = 7 * i + 5 ∨ z = 7 * i + 6 := by omega
          rcases hz' with rfl | hz'
          · rw [show 7 * i + 0 - 7 = 7 * (i - 1) + 0 by omega]; repeat (first | rw [gI_sI, if_neg (by omega)] | rw [gI_sI, if_pos ⟨rfl, rfl, rfl⟩])
          rcases hz' with rfl | hz'
          · rw [show 7 * i + 1 - 7 = 7 * (i - 1) + 1 by omega]; repeat (first | rw [gI_sI, if_neg (by omega)] | rw [gI_sI, if_pos ⟨rfl, rfl, rfl⟩])
          rcases hz' with rfl | hz'
          · rw [show 7 * i + 2 - 7 = 7 * (i - 1) + 2 by omega]; repeat (first | rw [gI_sI, if_neg (by omega)] | rw [gI_sI, if_pos ⟨rfl, rfl, rfl⟩])
          rcases hz' with rfl | hz'
          · rw [show 7 * i + 3 - 7 = 7 * (i - 1) + 3 by omega]; repeat (first | rw [gI_sI, if_neg (by omega)] | rw [gI_sI, if_pos ⟨rfl, rfl, rfl⟩])
          rcases hz' with rfl | hz'
          · rw [show 7 * i + 4 - 7 = 7 * (i - 1) + 4 by omega]; repeat (first | rw [gI_sI, if_neg (by omega)] | rw [gI_sI, if_pos ⟨rfl, rfl, rfl⟩])
          rcases hz' with rfl | hz'
          · rw [show 7 * i + 5 - 7 = 7 * (i - 1) + 5 by omega]; repeat (first | rw [gI_sI, if_neg (by omega)] | rw [gI_sI, if_pos ⟨rfl, rfl, rfl⟩])
          subst hz'
          rw [show 7 * i + 6 - 7 = 7 * (i - 1) + 6 by omega]; repeat (first | rw [gI_sI, if_neg (by omega)] | rw [gI_sI, if_pos ⟨rfl, rfl, rfl⟩])

set_option maxRecDepth 100000 in
theorem lp_at172 {S : zS} (hs : Sd S) {A n P v : Nat} {e : Nat → Nat} (hE : Eok A e) {t : List Nat} (ht : Tr A e n t) (hn : n ≤ 7) {r : List zT} (hr : Rs e S r) (hT : ∀ p, p ∈ r → Tr A e n p.1 ∧ p.2 < P) (h2 : 2 ≤ P) (hP : P ≤ 97) (hv : v < 2147483000) (hl : r.length < 1400) (hm : gI S 12 0 21 = nI n) (hp : ∀ i, i < n → gI S 1317 0 i = nI ((pth e [] 1 t).getD i 0)) {k : Nat} {q : Int32} {S' : zS} (hk : k ≤ r.length) (g : Shf S S' k r.length) (hadd : addT P t v r = r.take k ++ (t, v % P) :: r.drop k) : Ok mX12_addTerm 172 [some (zr 12 0), some (zi (nI (cd t))), some (zi (nI v)), some (zi q), some (zi (nI P)), some (zi (nI k)), some (zi (nI k)), some (zi (nI 7))] [] S' (fun x S1 => x = none ∧ Fr tAT S S1 ∧ Rs e S1 (addT P t v r)) := by
  obtain ⟨g1, g2, g3, g4⟩ := g
  have hs' : Sd S' := hs.fr g1
  have hm' : gI S' 12 0 21 = nI n := (g2 _ _ _ (by omega) (by omega)).trans hm
  have hc' : gI S' 12 0 47 = nI r.length := (g2 _ _ _ (by omega) (by omega)).trans hr.1
  have hp' : ∀ i, i < n → gI S' 1317 0 i = nI ((pth e [] 1 t).getD i 0) := fun i hi => (g2 _ _ _ (by omega) (by omega)).trans (hp i hi)
  refine r_aload_n (q := 173) dX12_addTerm_172 rfl rfl rfl ?_
  refine r_getr (q := 176) (some (1344, 0)) ck12 dX12_addTerm_173 rfl (k := 44) (by decide) wt1322 rfl (hs'.e (by decide)) (hs'.r (by decide) (by decide)) ?_
  refine r_iload (q := 178) dX12_addTerm_176 rfl rfl ?_
  refine r_iload_n (q := 179) dX12_addTerm_178 rfl rfl rfl ?_
  refine r_iastN (q := 180) 1400 (by decide) rfl dX12_addTerm_179 rfl (hs'.e (by decide)) (hs'.n rfl (by decide)) (by omega) (by decide) ?_
  refine r_aload_n (q := 181) dX12_addTerm_180 rfl rfl rfl ?_
  refine r_getr (q := 184) (some (1345, 0)) ck12 dX12_addTerm_181 rfl (k := 45) (by decide) wt1323 rfl (hs'.e (by decide)) (hs'.r (by decide) (by decide)) ?_
  refine r_iload (q := 186) dX12_addTerm_184 rfl rfl ?_
  refine r_iload_n (q := 187) dX12_addTerm_186 rfl rfl rfl ?_
  refine r_iload (q := 189) dX12_addTerm_187 rfl rfl ?_
  refine r_iremN (q := 190) (by omega) (by omega) (by omega) dX12_addTerm_189 rfl ?_
  refine r_iastN (q := 191) 1400 (by decide) rfl dX12_addTerm_190 rfl (hs'.e (by decide)) (hs'.n rfl (by decide)) (by omega) (by decide) ?_
  refine r_iconst (q := 192) (nI 0) dX12_addTerm_191 rfl (by decide) ?_
  refine r_istore (q := 194) (L' := [some (zr 12 0), some (zi (nI (cd t))), some (zi (nI v)), some (zi q), some (zi (nI P)), some (zi (nI k)), some (zi (nI 0)), some (zi (nI 7))]) dX12_addTerm_192 rfl (by decide) rfl ?_
  refine lp_atC hn (by omega) n 0 _ (by omega) hs' (by rw [gI_sI, if_neg (by omega), gI_sI, if_neg (by omega)]; exact hm') (fun i hi => by rw [gI_sI, if_neg (by omega), gI_sI, if_neg (by omega)]; exact hp' i hi) (fun S2 h => ?_)
  have hs2 : Sd S2 := by rw [h]; exact hs'
  have e2 : ∀ x y z, ¬ (x = 1344 ∧ y = 0 ∧ z = k) → ¬ (x = 1345 ∧ y = 0 ∧ z = k) → ¬ (x = 1346 ∧ y = 0 ∧ 7 * k ≤ z ∧ z < 7 * k + n) → gI S2 x y z = gI S' x y z := fun x y z q1 q2 q3 => by rw [h, gI_fm, if_neg (by omega), gI_sI, if_neg q2, gI_sI, if_neg q1]
  have e3 : gI S2 1344 0 k = nI (cd t) := by rw [h, gI_fm, if_neg (by omega), gI_sI, if_neg (by omega), gI_sI, if_pos ⟨rfl, rfl, rfl⟩]
  have e4 : gI S2 1345 0 k = nI (v % P) := by rw [h, gI_fm, if_neg (by omega), gI_sI, if_pos ⟨rfl, rfl, rfl⟩]
  have e5 : ∀ j, j < n → gI S2 1346 0 (7 * k + j) = nI ((pth e [] 1 t).getD j 0) := fun j hj => by rw [h, gI_fm, if_pos (by omega), Nat.add_sub_cancel_left]
  have f2 : Fr tAT S S2 := by rw [h]; refine ⟨fun x y z hz => ?_, g1.2.1, g1.2.2⟩; refine Eq.trans ?_ (g1.1 x y z hz); rw [← h]; refine e2 x y z ?_ ?_ ?_ <;> (rintro ⟨rfl, rfl, _⟩; simp [tAT, tPa] at hz)
  have hc2 : gI S2 12 0 47 = nI r.length := (e2 _ _ _ (by omega) (by omega) (by omega)).trans hc'
  refine r_aload_n (q := 230) dX12_addTerm_229 rfl rfl rfl ?_
  refine r_dup (q := 231) dX12_addTerm_230 rfl rfl ?_
  refine r_geti (q := 234) ck12 dX12_addTerm_231 rfl (k := 47) (by decide) wt1325 (Or.inl rfl) (hs2.e (by decide)) ?_
  refine r_topi (y := nI r.length) hc2 ?_
  refine r_iconst (q := 235) (nI 1) dX12_addTerm_234 rfl (by decide) ?_
  refine r_iaddN (q := 236) dX12_addTerm_235 rfl ?_
  refine r_puti (q := 239) ck12 dX12_addTerm_236 rfl (k := 47) (by decide) wt1325 (Or.inl rfl) rfl (hs2.e (by decide)) ?_
  refine r_return dX12_addTerm_239 rfl ?_
  refine ⟨rfl, f2.i rfl, ?_⟩
  rw [hadd]
  refine ⟨by rw [gI_sI, if_pos ⟨rfl, rfl, rfl⟩, len_ins hk], fun i hi => ?_⟩
  rw [len_ins hk] at hi
  rw [gI_sI, if_neg (by omega), gI_sI, if_neg (by omega), getD_ins hk]
  by_cases h1 : i < k
  · rw [if_pos h1, e2 _ _ _ (by omega) (by omega) (by omega), e2 _ _ _ (by omega) (by omega) (by omega), g2 _ _ _ (by omega) (by omega), g2 _ _ _ (by omega) (by omega)]
    refine ⟨(hr.2 i (by omega)).1, (hr.2 i (by omega)).2.1, fun j hj => ?_⟩
    have hj7 := (hT _ (mem_getD (show i < r.length by omega))).1.2
    rw [gI_sI, if_neg (by omega), e2 _ _ _ (by omega) (by omega) (by omega), g2 _ _ _ (by omega) (by omega)]
    exact (hr.2 i (by omega)).2.2 j hj
  · rw [if_neg h1]
    by_cases h3 : i = k
    · subst h3
      rw [if_pos rfl]
      exact ⟨e3, e4, fun j hj => by rw [gI_sI, if_neg (by omega)]; exact e5 j (ht.2 ▸ hj)⟩
    · rw [if_neg h3, e2 _ _ _ (by omega) (by omega) (by omega), e2 _ _ _ (by omega) (by omega) (by omega), (g3 i (by omega) (by omega)).1, (g3 i (by omega) (by omega)).2]
      refine ⟨(hr.2 (i - 1) (by omega)).1, (hr.2 (i - 1) (by omega)).2.1, fun j hj => ?_⟩
      have hj7 := (hT _ (mem_getD (show i - 1 < r.length by omega))).1.2
      rw [gI_sI, if_neg (by omega), e2 _ _ _ (by omega) (by omega) (by omega), g4 _ (by omega) (by omega), show 7 * i + j - 7 = 7 * (i - 1) + j by omega]
      exact (hr.2 (i - 1) (by omega)).2.2 j hj

set_option maxRecDepth 100000 in
theorem lp_at172n {S : zS} (hs : Sd S) {A n P v : Nat} {e : Nat → Nat} (hE : Eok A e) {t : List Nat} (ht : Tr A e n t) (hn : n ≤ 7) {r : List zT} (hr : Rs e S r) (hT : ∀ p, p ∈ r → Tr A e n p.1 ∧ p.2 < P) (h2 : 2 ≤ P) (hP : P ≤ 97) (hv : v < 2147483000) (hl : r.length < 1400) (hm : gI S 12 0 21 = nI n) (hp : ∀ i, i < n → gI S 1317 0 i = nI ((pth e [] 1 t).getD i 0)) {k : Nat} {q : Int32} {S' : zS} (hk : k ≤ r.length) (g : Shf S S' k r.length) (hadd : addT P t v r = r.take k ++ (t, v % P) :: r.drop k) : Ok mX12_addTerm 172 [some (zr 12 0), some (zi (nI (cd t))), some (zi (nI v)), some (zi q), some (zi (nI P)), some (zi (nI k)), some (zi (nI k)), none] [] S' (fun x S1 => x = none ∧ Fr tAT S S1 ∧ Rs e S1 (addT P t v r)) := by
  obtain ⟨g1, g2, g3, g4⟩ := g
  have hs' : Sd S' := hs.fr g1
  have hm' : gI S' 12 0 21 = nI n := (g2 _ _ _ (by omega) (by omega)).trans hm
  have hc' : gI S' 12 0 47 = nI r.length := (g2 _ _ _ (by omega) (by omega)).trans hr.1
  have hp' : ∀ i, i < n → gI S' 1317 0 i = nI ((pth e [] 1 t).getD i 0) := fun i hi => (g2 _ _ _ (by omega) (by omega)).trans (hp i hi)
  refine r_aload_n (q := 173) dX12_addTerm_172 rfl rfl rfl ?_
  refine r_getr (q := 176) (some (1344, 0)) ck12 dX12_addTerm_173 rfl (k := 44) (by decide) wt1322 rfl (hs'.e (by decide)) (hs'.r (by decide) (by decide)) ?_
  refine r_iload (q := 178) dX12_addTerm_176 rfl rfl ?_
  refine r_iload_n (q := 179) dX12_addTerm_178 rfl rfl rfl ?_
  refine r_iastN (q := 180) 1400 (by decide) rfl dX12_addTerm_179 rfl (hs'.e (by decide)) (hs'.n rfl (by decide)) (by omega) (by decide) ?_
  refine r_aload_n (q := 181) dX12_addTerm_180 rfl rfl rfl ?_
  refine r_getr (q := 184) (some (1345, 0)) ck12 dX12_addTerm_181 rfl (k := 45) (by decide) wt1323 rfl (hs'.e (by decide)) (hs'.r (by decide) (by decide)) ?_
  refine r_iload (q := 186) dX12_addTerm_184 rfl rfl ?_
  refine r_iload_n (q := 187) dX12_addTerm_186 rfl rfl rfl ?_
  refine r_iload (q := 189) dX12_addTerm_187 rfl rfl ?_
  refine r_iremN (q := 190) (by omega) (by omega) (by omega) dX12_addTerm_189 rfl ?_
  refine r_iastN (q := 191) 1400 (by decide) rfl dX12_addTerm_190 rfl (hs'.e (by decide)) (hs'.n rfl (by decide)) (by omega) (by decide) ?_
  refine r_iconst (q := 192) (nI 0) dX12_addTerm_191 rfl (by decide) ?_
  refine r_istore (q := 194) (L' := [some (zr 12 0), some (zi (nI (cd t))), some (zi (nI v)), some (zi q), some (zi (nI P)), some (zi (nI k)), some (zi (nI 0)), none]) dX12_addTerm_192 rfl (by decide) rfl ?_
  refine lp_atC2 hn (by omega) n 0 _ (by omega) hs' (by rw [gI_sI, if_neg (by omega), gI_sI, if_neg (by omega)]; exact hm') (fun i hi => by rw [gI_sI, if_neg (by omega), gI_sI, if_neg (by omega)]; exact hp' i hi) (fun S2 h => ?_)
  have hs2 : Sd S2 := by rw [h]; exact hs'
  have e2 : ∀ x y z, ¬ (x = 1344 ∧ y = 0 ∧ z = k) → ¬ (x = 1345 ∧ y = 0 ∧ z = k) → ¬ (x = 1346 ∧ y = 0 ∧ 7 * k ≤ z ∧ z < 7 * k + n) → gI S2 x y z = gI S' x y z := fun x y z q1 q2 q3 => by rw [h, gI_fm, if_neg (by omega), gI_sI, if_neg q2, gI_sI, if_neg q1]
  have e3 : gI S2 1344 0 k = nI (cd t) := by rw [h, gI_fm, if_neg (by omega), gI_sI, if_neg (by omega), gI_sI, if_pos ⟨rfl, rfl, rfl⟩]
  have e4 : gI S2 1345 0 k = nI (v % P) := by rw [h, gI_fm, if_neg (by omega), gI_sI, if_pos ⟨rfl, rfl, rfl⟩]
  have e5 : ∀ j, j < n → gI S2 1346 0 (7 * k + j) = nI ((pth e [] 1 t).getD j 0) := fun j hj => by rw [h, gI_fm, if_pos (by omega), Nat.add_sub_cancel_left]
  have f2 : Fr tAT S S2 := by rw [h]; refine ⟨fun x y z hz => ?_, g1.2.1, g1.2.2⟩; refine Eq.trans ?_ (g1.1 x y z hz); rw [← h]; refine e2 x y z ?_ ?_ ?_ <;> (rintro ⟨rfl, rfl, _⟩; simp [tAT, tPa] at hz)
  have hc2 : gI S2 12 0 47 = nI r.length := (e2 _ _ _ (by omega) (by omega) (by omega)).trans hc'
  refine r_aload_n (q := 230) dX12_addTerm_229 rfl rfl rfl ?_
  refine r_dup (q := 231) dX12_addTerm_230 rfl rfl ?_
  refine r_geti (q := 234) ck12 dX12_addTerm_231 rfl (k := 47) (by decide) wt1325 (Or.inl rfl) (hs2.e (by decide)) ?_
  refine r_topi (y := nI r.length) hc2 ?_
  refine r_iconst (q := 235) (nI 1) dX12_addTerm_234 rfl (by decide) ?_
  refine r_iaddN (q := 236) dX12_addTerm_235 rfl ?_
  refine r_puti (q := 239) ck12 dX12_addTerm_236 rfl (k := 47) (by decide) wt1325 (Or.inl rfl) rfl (hs2.e (by decide)) ?_
  refine r_return dX12_addTerm_239 rfl ?_
  refine ⟨rfl, f2.i rfl, ?_⟩
  rw [hadd]
  refine ⟨by rw [gI_sI, if_pos ⟨rfl, rfl, rfl⟩, len_ins hk], fun i hi => ?_⟩
  rw [len_ins hk] at hi
  rw [gI_sI, if_neg (by omega), gI_sI, if_neg (by omega), getD_ins hk]
  by_cases h1 : i < k
  · rw [if_pos h1, e2 _ _ _ (by omega) (by omega) (by omega), e2 _ _ _ (by omega) (by omega) (by omega), g2 _ _ _ (by omega) (by omega), g2 _ _ _ (by omega) (by omega)]
    refine ⟨(hr.2 i (by omega)).1, (hr.2 i (by omega)).2.1, fun j hj => ?_⟩
    have hj7 := (hT _ (mem_getD (show i < r.length by omega))).1.2
    rw [gI_sI, if_neg (by omega), e2 _ _ _ (by omega) (by omega) (by omega), g2 _ _ _ (by omega) (by omega)]
    exact (hr.2 i (by omega)).2.2 j hj
  · rw [if_neg h1]
    by_cases h3 : i = k
    · subst h3
      rw [if_pos rfl]
      exact ⟨e3, e4, fun j hj => by rw [gI_sI, if_neg (by omega)]; exact e5 j (ht.2 ▸ hj)⟩
    · rw [if_neg h3, e2 _ _ _ (by omega) (by omega) (by omega), e2 _ _ _ (by omega) (by omega) (by omega), (g3 i (by omega) (by omega)).1, (g3 i (by omega) (by omega)).2]
      refine ⟨(hr.2 (i - 1) (by omega)).1, (hr.2 (i - 1) (by omega)).2.1, fun j hj => ?_⟩
      have hj7 := (hT _ (mem_getD (show i - 1 < r.length by omega))).1.2
      rw [gI_sI, if_neg (by omega), e2 _ _ _ (by omega) (by omega) (by omega), g4 _ (by omega) (by omega), show 7 * i + j - 7 = 7 * (i - 1) + j by omega]
      exact (hr.2 (i - 1) (by omega)).2.2 j hj

set_option maxRecDepth 100000 in
theorem lp_at13 {S : zS} (hs : Sd S) {A n P v : Nat} {e : Nat → Nat} (hE : Eok A e) {t : List Nat} (ht : Tr A e n t) (hn : n ≤ 7) {r : List zT} (hr : Rs e S r) (hT : ∀ p, p ∈ r → Tr A e n p.1 ∧ p.2 < P) (h2 : 2 ≤ P) (hP : P ≤ 97) (hv : v < 2147483000) (hl : r.length < 1400) (hm : gI S 12 0 21 = nI n) (hp : ∀ i, i < n → gI S 1317 0 i = nI ((pth e [] 1 t).getD i 0)) {q : Int32} : ∀ (d k : Nat), k + d = r.length → (∀ i, i < k → ky t < ky (r.getD i zd).1) → Ok mX12_addTerm 13 [some (zr 12 0), some (zi (nI (cd t))), some (zi (nI v)), some (zi q), some (zi (nI P)), some (zi (nI k)), none, none] [] S (fun x S1 => x = none ∧ Fr tAT S S1 ∧ Rs e S1 (addT P t v r)) := by
  intro d
  have hb := cd_le (ht.tok hE) (by have := ht.len hE; omega)
  induction d with
  | zero =>
    intro k hk hi
    obtain rfl : r.length = k := by omega
    refine r_iload (q := 15) dX12_addTerm_13 rfl rfl ?_
    refine r_aload_n (q := 16) dX12_addTerm_15 rfl rfl rfl ?_
    refine r_geti (q := 19) ck12 dX12_addTerm_16 rfl (k := 47) (by decide) wt1325 (Or.inl rfl) (hs.e (by decide)) ?_
    refine r_topi (y := nI r.length) hr.1 ?_
    refine r_icmp_geN (q := 22) (t := 37) (by omega) (by omega) dX12_addTerm_19 (by decide) rfl (fun h19 => ?_) (fun h19 => absurd h19 (by omega))
    refine r_iload (q := 39) dX12_addTerm_37 rfl rfl ?_
    refine r_aload_n (q := 40) dX12_addTerm_39 rfl rfl rfl ?_
    refine r_geti (q := 43) ck12 dX12_addTerm_40 rfl (k := 47) (by decide) wt1325 (Or.inl rfl) (hs.e (by decide)) ?_
    refine r_topi (y := nI r.length) hr.1 ?_
    refine r_icmp_geN (q := 46) (t := 77) (by omega) (by omega) dX12_addTerm_43 (by decide) rfl (fun h43 => ?_) (fun h43 => absurd h43 (by omega))
    refine r_aload_n (q := 78) dX12_addTerm_77 rfl rfl rfl ?_
    refine r_geti (q := 81) ck12 dX12_addTerm_78 rfl (k := 47) (by decide) wt1325 (Or.inl rfl) (hs.e (by decide)) ?_
    refine r_topi (y := nI r.length) hr.1 ?_
    refine r_istore (q := 83) (L' := [some (zr 12 0), some (zi (nI (cd t))), some (zi (nI v)), some (zi q), some (zi (nI P)), some (zi (nI r.length)), some (zi (nI r.length)), none]) dX12_addTerm_81 rfl (by decide) rfl ?_
    have hadd : addT P t v r = r.take r.length ++ (t, v % P) :: r.drop r.length := addT_new (by omega) hi (fun hk => absurd hk (by omega))
    refine lp_atS (r.length - r.length) r.length S none (Or.inl rfl) (by omega) (by omega) hs (fun S' g => ?_)
    rw [if_pos (by omega)]; exact lp_at172n hs hE ht hn hr hT h2 hP hv hl hm hp (Nat.le_refl _) g hadd
  | succ d ih =>
    intro k hk hi
    have hu := hT _ (mem_getD (show k < r.length by omega))
    obtain ⟨r1, r2, r3⟩ := hr.2 k (by omega)
    have hbu := cd_le (hu.1.tok hE) (by have := hu.1.len hE; omega)
    have hkp := ky_pth hE ht hu.1 hn
    have hg : Ok mX12_isGreater 0 (ent 3 [zr 12 0, zi (nI k)]) [] S (fun x S1 => x = some (zi (nI (if ltL (pth e [] 1 t) (pth e [] 1 (r.getD k zd).1) then 1 else 0))) ∧ S1 = S) := ok_X12_isGreater hs hn (by omega) hm (by rw [pth_len]; exact ht.2) (by rw [pth_len]; exact hu.1.2) (fun i hi => ⟨pth_lt13 hE ht hn i, pth_lt13 hE hu.1 hn i, hp i hi, r3 i (by rw [hu.1.2]; exact hi)⟩)
    rw [← hkp] at hg
    by_cases hlt : ky t < ky (r.getD k zd).1
    · rw [decide_eq_true hlt] at hg
      refine r_iload (q := 15) dX12_addTerm_13 rfl rfl ?_
      refine r_aload_n (q := 16) dX12_addTerm_15 rfl rfl rfl ?_
      refine r_geti (q := 19) ck12 dX12_addTerm_16 rfl (k := 47) (by decide) wt1325 (Or.inl rfl) (hs.e (by decide)) ?_
      refine r_topi (y := nI r.length) hr.1 ?_
      refine r_icmp_geN (q := 22) (t := 37) (by omega) (by omega) dX12_addTerm_19 (by decide) rfl (fun h19 => absurd h19 (by omega)) (fun h19 => ?_)
      refine r_aload_n (q := 23) dX12_addTerm_22 rfl rfl rfl ?_
      refine r_iload (q := 25) dX12_addTerm_23 rfl rfl ?_
      refine r_callV (Mc := mX12_isGreater) (q := 28) (As := [zi (nI k)]) (st := []) ck12 dX12_addTerm_25 rfl rfl mkX12_isGreater wt1653 wt1655 wp86 rfl (Nat.le_of_ble_eq_true rfl) (Nat.le_of_ble_eq_true rfl) (by decide) (by decide) (by decide) (Or.inl rfl) (hs.e (by decide)) hg (fun r25 S25 hp25 => ?_)
      obtain ⟨rfl, hq25⟩ := hp25
      rw [hq25]
      show Ok _ _ _ [zi (nI 1)] _ _
      refine r_if_eqN (q := 31) (t := 37) (by omega) dX12_addTerm_28 (by decide) rfl (fun h28 => absurd h28 (by omega)) (fun h28 => ?_)
      refine r_iincN (q := 34) (L' := [some (zr 12 0), some (zi (nI (cd t))), some (zi (nI v)), some (zi q), some (zi (nI P)), some (zi (nI (k + 1))), none, none]) 1 rfl dX12_addTerm_31 rfl rfl (by decide) rfl ?_
      refine r_goto (q := 13) dX12_addTerm_34 (by decide) ?_
      exact ih (k + 1) (by omega) (fun i hi2 => by rcases Nat.lt_or_eq_of_le (Nat.le_of_lt_succ hi2) with h | h; exact hi i h; rw [h]; exact hlt)
    · rw [decide_eq_false hlt] at hg
      refine r_iload (q := 15) dX12_addTerm_13 rfl rfl ?_
      refine r_aload_n (q := 16) dX12_addTerm_15 rfl rfl rfl ?_
      refine r_geti (q := 19) ck12 dX12_addTerm_16 rfl (k := 47) (by decide) wt1325 (Or.inl rfl) (hs.e (by decide)) ?_
      refine r_topi (y := nI r.length) hr.1 ?_
      refine r_icmp_geN (q := 22) (t := 37) (by omega) (by omega) dX12_addTerm_19 (by decide) rfl (fun h19 => absurd h19 (by omega)) (fun h19 => ?_)
      refine r_aload_n (q := 23) dX12_addTerm_22 rfl rfl rfl ?_
      refine r_iload (q := 25) dX12_addTerm_23 rfl rfl ?_
      refine r_callV (Mc := mX12_isGreater) (q := 28) (As := [zi (nI k)]) (st := []) ck12 dX12_addTerm_25 rfl rfl mkX12_isGreater wt1653 wt1655 wp86 rfl (Nat.le_of_ble_eq_true rfl) (Nat.le_of_ble_eq_true rfl) (by decide) (by decide) (by decide) (Or.inl rfl) (hs.e (by decide)) hg (fun r25 S25 hp25 => ?_)
      obtain ⟨rfl, hq25⟩ := hp25
      rw [hq25]
      show Ok _ _ _ [zi (nI 0)] _ _
      refine r_if_eqN (q := 31) (t := 37) (by omega) dX12_addTerm_28 (by decide) rfl (fun h28 => ?_) (fun h28 => absurd h28 (by omega))
      refine r_iload (q := 39) dX12_addTerm_37 rfl rfl ?_
      refine r_aload_n (q := 40) dX12_addTerm_39 rfl rfl rfl ?_
      refine r_geti (q := 43) ck12 dX12_addTerm_40 rfl (k := 47) (by decide) wt1325 (Or.inl rfl) (hs.e (by decide)) ?_
      refine r_topi (y := nI r.length) hr.1 ?_
      refine r_icmp_geN (q := 46) (t := 77) (by omega) (by omega) dX12_addTerm_43 (by decide) rfl (fun h43 => absurd h43 (by omega)) (fun h43 => ?_)
      refine r_aload_n (q := 47) dX12_addTerm_46 rfl rfl rfl ?_
      refine r_getr (q := 50) (some (1344, 0)) ck12 dX12_addTerm_47 rfl (k := 44) (by decide) wt1322 rfl (hs.e (by decide)) (hs.r (by decide) (by decide)) ?_
      refine r_iload (q := 52) dX12_addTerm_50 rfl rfl ?_
      refine r_ialdN (q := 53) 1400 (by decide) rfl dX12_addTerm_52 rfl (hs.e (by decide)) (hs.n rfl (by decide)) (by omega) (by decide) ?_
      refine r_topi (y := nI (cd (r.getD k zd).1)) r1 ?_
      refine r_iload_n (q := 54) dX12_addTerm_53 rfl rfl rfl ?_
      refine r_icmp_neN (q := 57) (t := 77) (by omega) (by omega) dX12_addTerm_54 (by decide) rfl (fun h54 => ?_) (fun h54 => ?_)
      · skip
        have hne : (r.getD k zd).1 ≠ t := fun z => h54 (by rw [z])
        refine r_aload_n (q := 78) dX12_addTerm_77 rfl rfl rfl ?_
        refine r_geti (q := 81) ck12 dX12_addTerm_78 rfl (k := 47) (by decide) wt1325 (Or.inl rfl) (hs.e (by decide)) ?_
        refine r_topi (y := nI r.length) hr.1 ?_
        refine r_istore (q := 83) (L' := [some (zr 12 0), some (zi (nI (cd t))), some (zi (nI v)), some (zi q), some (zi (nI P)), some (zi (nI k)), some (zi (nI r.length)), none]) dX12_addTerm_81 rfl (by decide) rfl ?_
        have hadd : addT P t v r = r.take k ++ (t, v % P) :: r.drop k := addT_new (by omega) hi (fun _ => ⟨hlt, hne⟩)
        refine lp_atS (r.length - k) r.length S none (Or.inl rfl) (by omega) (by omega) hs (fun S' g => ?_)
        rw [if_neg (by omega)]; exact lp_at172 hs hE ht hn hr hT h2 hP hv hl hm hp (by omega) g hadd
      · skip
        refine r_aload_n (q := 58) dX12_addTerm_57 rfl rfl rfl ?_
        refine r_getr (q := 61) (some (1345, 0)) ck12 dX12_addTerm_58 rfl (k := 45) (by decide) wt1323 rfl (hs.e (by decide)) (hs.r (by decide) (by decide)) ?_
        refine r_iload (q := 63) dX12_addTerm_61 rfl rfl ?_
        refine r_aload_n (q := 64) dX12_addTerm_63 rfl rfl rfl ?_
        refine r_getr (q := 67) (some (1345, 0)) ck12 dX12_addTerm_64 rfl (k := 45) (by decide) wt1323 rfl (hs.e (by decide)) (hs.r (by decide) (by decide)) ?_
        refine r_iload (q := 69) dX12_addTerm_67 rfl rfl ?_
        refine r_ialdN (q := 70) 1400 (by decide) rfl dX12_addTerm_69 rfl (hs.e (by decide)) (hs.n rfl (by decide)) (by omega) (by decide) ?_
        refine r_topi (y := nI ((r.getD k zd).2)) r2 ?_
        refine r_iload_n (q := 71) dX12_addTerm_70 rfl rfl rfl ?_
        refine r_iaddN (q := 72) dX12_addTerm_71 rfl ?_
        refine r_iload (q := 74) dX12_addTerm_72 rfl rfl ?_
        refine r_iremN (q := 75) (by omega) (by omega) (by omega) dX12_addTerm_74 rfl ?_
        refine r_iastN (q := 76) 1400 (by decide) rfl dX12_addTerm_75 rfl (hs.e (by decide)) (hs.n rfl (by decide)) (by omega) (by decide) ?_
        refine r_return dX12_addTerm_76 rfl ?_
        have hte : (r.getD k zd).1 = t := cd_inj hE hu.1 ht (by omega)
        refine ⟨rfl, Fr.rf.i rfl, ?_⟩
        rw [addT_eq (by omega) hi hte]
        refine ⟨by rw [gI_sI, if_neg (by omega), len_set (by omega)]; exact hr.1, fun i hi => ?_⟩
        rw [len_set (by omega)] at hi
        rw [gI_sI, if_neg (by omega), getD_set (by omega)]
        by_cases h : i = k
        · subst h
          rw [if_pos rfl]
          refine ⟨by rw [r1, hte], by rw [gI_sI, if_pos ⟨rfl, rfl, rfl⟩], fun j hj => ?_⟩
          rw [gI_sI, if_neg (by omega), r3 j (by rw [hte]; exact hj), hte]
        · rw [if_neg h, gI_sI, if_neg (by omega)]
          exact ⟨(hr.2 i hi).1, (hr.2 i hi).2.1, fun j hj => by rw [gI_sI, if_neg (by omega)]; exact (hr.2 i hi).2.2 j hj⟩

set_option maxRecDepth 100000 in
theorem ok_X12_addTerm {S : zS} (hs : Sd S) {A n P v q : Nat} {e : Nat → Nat} (hE : Eok A e) {t : List Nat} (ht : Tr A e n t) (hn : n ≤ 7) {r : List zT} (hr : Rs e S r) (hT : ∀ p, p ∈ r → Tr A e n p.1 ∧ p.2 < P) (h2 : 2 ≤ P) (hP : P ≤ 97) (hv : v < 2147483000) (hl : r.length < 1400) (hq : q ≤ 1) (hw : ∀ a, a < A → gI S 1322 0 (1173 * q + 4 + a) = nI (e a)) : Ok mX12_addTerm 0 (ent 8 [zr 12 0, zi (nI (cd t)), zi (nI v), zi (nI q), zi (nI P)]) [] S (fun x S1 => x = none ∧ Fr tAT S S1 ∧ Rs e S1 (addT P t v r)) := by
  show Ok mX12_addTerm 0 [some (zr 12 0), some (zi (nI (cd t))), some (zi (nI v)), some (zi (nI q)), some (zi (nI P)), none, none, none] [] S _
  refine r_aload_n (q := 1) dX12_addTerm_0 rfl rfl rfl ?_
  refine r_iload_n (q := 2) dX12_addTerm_1 rfl rfl rfl ?_
  refine r_sipush (q := 5) (nI 1173) dX12_addTerm_2 rfl (by decide) ?_
  refine r_iload_n (q := 6) dX12_addTerm_5 rfl rfl rfl ?_
  refine r_imulN (q := 7) dX12_addTerm_6 rfl ?_
  refine r_callV (Mc := mX12_paths) (q := 10) (As := [zi (nI (cd t)), zi (nI (1173 * q))]) (st := []) ck12 dX12_addTerm_7 rfl rfl mkX12_paths wt1645 wt1647 wp84 rfl (Nat.le_of_ble_eq_true rfl) (Nat.le_of_ble_eq_true rfl) (by decide) (by decide) (by decide) (Or.inl rfl) (hs.e (by decide)) (ok_X12_paths hs hE ht hn (show 1173 * q ≤ 1173 by omega) hw) (fun r7 S7 hp7 => ?_)
  obtain ⟨rfl, f1, f2, f3⟩ := hp7
  have hs7 : Sd S7 := hs.fr f1
  show Ok _ _ _ [] _ _
  refine r_iconst (q := 11) (nI 0) dX12_addTerm_10 rfl (by decide) ?_
  refine r_istore (q := 13) (L' := [some (zr 12 0), some (zi (nI (cd t))), some (zi (nI v)), some (zi (nI q)), some (zi (nI P)), some (zi (nI 0)), none, none]) dX12_addTerm_11 rfl (by decide) rfl ?_
  refine Ok.mono (lp_at13 hs7 hE ht hn (hr.fr f1) hT h2 hP hv hl f2 f3 r.length 0 (by omega) (fun i hi => absurd hi (by omega))) (fun x S1 z => ⟨z.1, (f1.mono tAT_pa).tr z.2.1, z.2.2⟩)

def Rz (S : zS) (l : List zT) : Prop := gI S 12 0 47 = nI l.length ∧ ∀ k, k < l.length → gI S 1344 0 k = nI (cd (l.getD k zd).1) ∧ gI S 1345 0 k = nI (l.getD k zd).2
theorem Rs.rz {e : Nat → Nat} {S : zS} {r : List zT} (h : Rs e S r) : Rz S r := ⟨h.1, fun k hk => ⟨(h.2 k hk).1, (h.2 k hk).2.1⟩⟩
theorem getD_app {w u : List zT} {k : Nat} : (w ++ u).getD k zd = if k < w.length then w.getD k zd else u.getD (k - w.length) zd := by
  rw [List.getD_eq_getElem?_getD, List.getD_eq_getElem?_getD, List.getD_eq_getElem?_getD]
  by_cases h : k < w.length
  · rw [if_pos h, List.getElem?_append_left h]
  · rw [if_neg h, List.getElem?_append_right (by omega)]

set_option maxRecDepth 100000 in
theorem lp_noZeros {N P : Nat} (hN : N ≤ 1400) (hP : P ≤ 97) : ∀ (u w : List zT) (S : zS) (k : Nat), Sd S → gI S 12 0 47 = nI N → k + u.length = N → w.length ≤ k → (∀ p, p ∈ u → p.2 < P) → (∀ i, i < w.length → gI S 1344 0 i = nI (cd (w.getD i zd).1) ∧ gI S 1345 0 i = nI (w.getD i zd).2) → (∀ i, i < u.length → gI S 1344 0 (k + i) = nI (cd (u.getD i zd).1) ∧ gI S 1345 0 (k + i) = nI (u.getD i zd).2) → Ok mX12_noZeros 4 [some (zr 12 0), some (zi (nI w.length)), some (zi (nI k))] [] S (fun x S1 => x = none ∧ Fr tAT S S1 ∧ Rz S1 (w ++ cl u)) := by
  intro u
  induction u with
  | nil =>
    intro w S k hs hm hk hw hu h1 h2
    obtain rfl : N = k := by simpa using hk.symm
    refine r_iload_n (q := 5) dX12_noZeros_4 rfl rfl rfl ?_
    refine r_aload_n (q := 6) dX12_noZeros_5 rfl rfl rfl ?_
    refine r_geti (q := 9) ck12 dX12_noZeros_6 rfl (k := 47) (by decide) wt1325 (Or.inl rfl) (hs.e (by decide)) ?_
    refine r_topi (y := nI N) hm ?_
    refine r_icmp_geN (q := 12) (t := 57) (by omega) (by omega) dX12_noZeros_9 (by decide) rfl (fun h9 => ?_) (fun h9 => absurd h9 (by omega))
    refine r_aload_n (q := 58) dX12_noZeros_57 rfl rfl rfl ?_
    refine r_iload_n (q := 59) dX12_noZeros_58 rfl rfl rfl ?_
    refine r_puti (q := 62) ck12 dX12_noZeros_59 rfl (k := 47) (by decide) wt1325 (Or.inl rfl) rfl (hs.e (by decide)) ?_
    refine r_return dX12_noZeros_62 rfl ?_
    exact ⟨rfl, Fr.rf.i rfl, by rw [show w ++ cl [] = w from List.append_nil w]; exact ⟨by rw [gI_sI, if_pos ⟨rfl, rfl, rfl⟩], fun i hi => by rw [gI_sI, if_neg (by omega), gI_sI, if_neg (by omega)]; exact h1 i hi⟩⟩
  | cons p u ih =>
    intro w S k hs hm hk hw hu h1 h2
    rw [List.length_cons] at hk
    have hp := hu p List.mem_cons_self
    obtain ⟨p1, p2⟩ := h2 0 (by simp)
    have p1 : gI S 1344 0 k = nI (cd p.1) := p1
    have p2 : gI S 1345 0 k = nI p.2 := p2
    have h2' : ∀ i, i < u.length → gI S 1344 0 (k + 1 + i) = nI (cd (u.getD i zd).1) ∧ gI S 1345 0 (k + 1 + i) = nI (u.getD i zd).2 := fun i hi => by
      have := h2 (i + 1) (by rw [List.length_cons]; omega)
      rw [show k + 1 + i = k + (i + 1) by omega]
      exact this
    refine r_iload_n (q := 5) dX12_noZeros_4 rfl rfl rfl ?_
    refine r_aload_n (q := 6) dX12_noZeros_5 rfl rfl rfl ?_
    refine r_geti (q := 9) ck12 dX12_noZeros_6 rfl (k := 47) (by decide) wt1325 (Or.inl rfl) (hs.e (by decide)) ?_
    refine r_topi (y := nI N) hm ?_
    refine r_icmp_geN (q := 12) (t := 57) (by omega) (by omega) dX12_noZeros_9 (by decide) rfl (fun h9 => absurd h9 (by omega)) (fun h9 => ?_)
    refine r_aload_n (q := 13) dX12_noZeros_12 rfl rfl rfl ?_
    refine r_getr (q := 16) (some (1345, 0)) ck12 dX12_noZeros_13 rfl (k := 45) (by decide) wt1323 rfl (hs.e (by decide)) (hs.r (by decide) (by decide)) ?_
    refine r_iload_n (q := 17) dX12_noZeros_16 rfl rfl rfl ?_
    refine r_ialdN (q := 18) 1400 (by decide) rfl dX12_noZeros_17 rfl (hs.e (by decide)) (hs.n rfl (by decide)) (by omega) (by decide) ?_
    refine r_topi (y := nI p.2) p2 ?_
    refine r_if_neN (q := 21) (t := 24) (by omega) dX12_noZeros_18 (by decide) rfl (fun h18 => ?_) (fun h18 => ?_)
    · skip
      refine r_aload_n (q := 25) dX12_noZeros_24 rfl rfl rfl ?_
      refine r_getr (q := 28) (some (1344, 0)) ck12 dX12_noZeros_25 rfl (k := 44) (by decide) wt1322 rfl (hs.e (by decide)) (hs.r (by decide) (by decide)) ?_
      refine r_iload_n (q := 29) dX12_noZeros_28 rfl rfl rfl ?_
      refine r_aload_n (q := 30) dX12_noZeros_29 rfl rfl rfl ?_
      refine r_getr (q := 33) (some (1344, 0)) ck12 dX12_noZeros_30 rfl (k := 44) (by decide) wt1322 rfl (hs.e (by decide)) (hs.r (by decide) (by decide)) ?_
      refine r_iload_n (q := 34) dX12_noZeros_33 rfl rfl rfl ?_
      refine r_ialdN (q := 35) 1400 (by decide) rfl dX12_noZeros_34 rfl (hs.e (by decide)) (hs.n rfl (by decide)) (by omega) (by decide) ?_
      refine r_iastN (q := 36) 1400 (by decide) rfl dX12_noZeros_35 rfl (hs.e (by decide)) (hs.n rfl (by decide)) (by omega) (by decide) ?_
      refine r_aload_n (q := 37) dX12_noZeros_36 rfl rfl rfl ?_
      refine r_getr (q := 40) (some (1345, 0)) ck12 dX12_noZeros_37 rfl (k := 45) (by decide) wt1323 rfl (hs.e (by decide)) (hs.r (by decide) (by decide)) ?_
      refine r_iload_n (q := 41) dX12_noZeros_40 rfl rfl rfl ?_
      refine r_aload_n (q := 42) dX12_noZeros_41 rfl rfl rfl ?_
      refine r_getr (q := 45) (some (1345, 0)) ck12 dX12_noZeros_42 rfl (k := 45) (by decide) wt1323 rfl (hs.e (by decide)) (hs.r (by decide) (by decide)) ?_
      refine r_iload_n (q := 46) dX12_noZeros_45 rfl rfl rfl ?_
      refine r_ialdN (q := 47) 1400 (by decide) rfl dX12_noZeros_46 rfl (hs.e (by decide)) (hs.n rfl (by decide)) (by omega) (by decide) ?_
      refine r_topi (y := gI S 1345 0 k) (by repeat (first | rw [gI_sI, if_neg (by omega)] | rw [gI_sI, if_pos ⟨rfl, rfl, rfl⟩] | rw [gJ_sJ, if_neg (by omega)] | rw [gJ_sJ, if_pos ⟨rfl, rfl, rfl⟩] | rw [gI_sJ] | rw [gJ_sI])) ?_
      refine r_topi (y := nI p.2) p2 ?_
      refine r_iastN (q := 48) 1400 (by decide) rfl dX12_noZeros_47 rfl (hs.e (by decide)) (hs.n rfl (by decide)) (by omega) (by decide) ?_
      refine r_iincN (q := 51) (L' := [some (zr 12 0), some (zi (nI (w.length + 1))), some (zi (nI k))]) 1 rfl dX12_noZeros_48 rfl rfl (by decide) rfl ?_
      refine r_iincN (q := 54) (L' := [some (zr 12 0), some (zi (nI (w.length + 1))), some (zi (nI (k + 1)))]) 1 rfl dX12_noZeros_51 rfl rfl (by decide) rfl ?_
      refine r_goto (q := 4) dX12_noZeros_54 (by decide) ?_
      rw [cl_cons, if_neg (by omega), p1, show w ++ p :: cl u = (w ++ [p]) ++ cl u by simp]
      have q := ih (w ++ [p]) (sI (sI S 1344 0 w.length (nI (cd p.1))) 1345 0 w.length (nI p.2)) (k + 1) hs (by rw [gI_sI, if_neg (by omega), gI_sI, if_neg (by omega)]; exact hm) (by omega) (by simp; omega) (fun q hq => hu q (List.mem_cons_of_mem _ hq)) (fun i hi => ?_) (fun i hi => ?_)
      · rw [show (w ++ [p]).length = w.length + 1 by simp] at q
        exact Ok.mono q (fun _ _ z => ⟨z.1, ((Fr.rf.i rfl).i rfl).tr z.2.1, z.2.2⟩)
      · rw [show (w ++ [p]).length = w.length + 1 by simp] at hi
        by_cases hiw : i < w.length
        · rw [getD_app, if_pos hiw, gI_sI, if_neg (by omega), gI_sI, if_neg (by omega), gI_sI, if_neg (by omega), gI_sI, if_neg (by omega)]; exact h1 i hiw
        · obtain rfl : i = w.length := by omega
          rw [getD_app, if_neg hiw, Nat.sub_self, gI_sI, if_neg (by omega), gI_sI, if_pos ⟨rfl, rfl, rfl⟩, gI_sI, if_pos ⟨rfl, rfl, rfl⟩]; exact ⟨rfl, rfl⟩
      · rw [gI_sI, if_neg (by omega), gI_sI, if_neg (by omega), gI_sI, if_neg (by omega), gI_sI, if_neg (by omega)]; exact h2' i hi
    · skip
      refine r_goto (q := 51) dX12_noZeros_21 (by decide) ?_
      refine r_iincN (q := 54) (L' := [some (zr 12 0), some (zi (nI w.length)), some (zi (nI (k + 1)))]) 1 rfl dX12_noZeros_51 rfl rfl (by decide) rfl ?_
      refine r_goto (q := 4) dX12_noZeros_54 (by decide) ?_
      rw [cl_cons, if_pos (by omega)]
      exact ih w S (k + 1) hs hm (by omega) (by omega) (fun q hq => hu q (List.mem_cons_of_mem _ hq)) h1 h2'

set_option maxRecDepth 100000 in
theorem ok_X12_noZeros {S : zS} (hs : Sd S) {r : List zT} {P : Nat} (h : Rz S r) (hN : r.length ≤ 1400) (hP : P ≤ 97) (hu : ∀ p, p ∈ r → p.2 < P) : Ok mX12_noZeros 0 (ent 3 [zr 12 0]) [] S (fun x S1 => x = none ∧ Fr tAT S S1 ∧ Rz S1 (cl r)) := by
  show Ok mX12_noZeros 0 [some (zr 12 0), none, none] [] S _
  refine r_iconst (q := 1) (nI 0) dX12_noZeros_0 rfl (by decide) ?_
  refine r_istore_n (q := 2) (L' := [some (zr 12 0), some (zi (nI 0)), none]) dX12_noZeros_1 rfl rfl (by decide) rfl ?_
  refine r_iconst (q := 3) (nI 0) dX12_noZeros_2 rfl (by decide) ?_
  refine r_istore_n (q := 4) (L' := [some (zr 12 0), some (zi (nI 0)), some (zi (nI 0))]) dX12_noZeros_3 rfl rfl (by decide) rfl ?_
  exact lp_noZeros hN hP r [] S 0 hs h.1 (by omega) (by simp) hu (fun i hi => absurd hi (by simp)) (fun i hi => by rw [Nat.zero_add]; exact h.2 i hi)

