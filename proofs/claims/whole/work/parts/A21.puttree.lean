/-! the reference lists trees by their paths -/
/-- one tree in the reference's list -/
def Rr1 (e : Nat → Nat) (S : zS) (a : Nat) (u : List Nat) : Prop := gI S 1328 0 a = nI (cd u) ∧ ∀ j, j < lvs u → gI S 1329 0 (7 * a + j) = nI ((pth e [] 1 u).getD j 0)
def tPu (F M to x y k : Nat) : Bool := tPa x y k || y == 0 && (x == 1328 && decide (F ≤ k) && decide (k < F + M) || x == 1329 && decide (7 * F ≤ k) && decide (k < 7 * (F + M)) || x == 1324 && k == to)
theorem tPu_pa {F M to : Nat} (a b k : Nat) (h : tPa a b k = true) : tPu F M to a b k = true := by simp [tPu, h]
theorem Rr1.fr {e : Nat → Nat} {S S1 : zS} {a : Nat} {u : List Nat} (h : Rr1 e S a u) (f : Fr tPa S S1) : Rr1 e S1 a u := ⟨(f.1 _ _ _ rfl).trans h.1, fun j hj => (f.1 _ _ _ rfl).trans (h.2 j hj)⟩

set_option maxRecDepth 100000 in
theorem lp_isAhead {S : zS} (hs : Sd S) {n a : Nat} (hn : n ≤ 7) (ha : a < 4400) : ∀ (p q : List Nat) (j : Nat), p.length = q.length → j + p.length = n → (∀ i, i < p.length → p.getD i 0 < 8192 ∧ q.getD i 0 < 8192 ∧ gI S 1317 0 (j + i) = nI (p.getD i 0) ∧ gI S 1329 0 (7 * a + (j + i)) = nI (q.getD i 0)) → Ok mX12_isAhead 2 [some (zr 12 0), some (zi (nI a)), some (zi (nI n)), some (zi (nI j))] [] S (fun r S1 => r = some (zi (nI (if ltL p q then 1 else 0))) ∧ S1 = S) := by
  intro p
  induction p with
  | nil =>
    intro q j hl hj hr
    obtain rfl : q = [] := List.length_eq_zero_iff.mp hl.symm
    obtain rfl : n = j := by simpa using hj.symm
    refine r_iload_n (q := 3) dX12_isAhead_2 rfl rfl rfl ?_
    refine r_iload_n (q := 4) dX12_isAhead_3 rfl rfl rfl ?_
    refine r_icmp_geN (q := 7) (t := 59) (by omega) (by omega) dX12_isAhead_4 (by decide) rfl (fun h4 => ?_) (fun h4 => absurd h4 (by omega))
    refine r_iconst (q := 60) (nI 0) dX12_isAhead_59 rfl (by decide) ?_
    refine r_zreturn (by decide) dX12_isAhead_60 rfl ?_
    exact ⟨rfl, rfl⟩
  | cons x p ih =>
    intro q j hl hj hr
    cases q with
    | nil => simp at hl
    | cons y q =>
      rw [List.length_cons] at hj
      obtain ⟨b1, b2, h1, h2⟩ := hr 0 (by simp)
      have b1 : x < 8192 := b1
      have b2 : y < 8192 := b2
      have h1 : gI S 1317 0 j = nI x := h1
      have h2 : gI S 1329 0 (7 * a + j) = nI y := h2
      have hr' : ∀ i, i < p.length → p.getD i 0 < 8192 ∧ q.getD i 0 < 8192 ∧ gI S 1317 0 (j + 1 + i) = nI (p.getD i 0) ∧ gI S 1329 0 (7 * a + (j + 1 + i)) = nI (q.getD i 0) := fun i hi => by
        have := hr (i + 1) (by rw [List.length_cons]; omega)
        rw [show j + 1 + i = j + (i + 1) by omega]
        exact this
      refine r_iload_n (q := 3) dX12_isAhead_2 rfl rfl rfl ?_
      refine r_iload_n (q := 4) dX12_isAhead_3 rfl rfl rfl ?_
      refine r_icmp_geN (q := 7) (t := 59) (by omega) (by omega) dX12_isAhead_4 (by decide) rfl (fun h4 => absurd h4 (by omega)) (fun h4 => ?_)
      refine r_aload_n (q := 8) dX12_isAhead_7 rfl rfl rfl ?_
      refine r_getr (q := 11) (some (1317, 0)) ck12 dX12_isAhead_8 rfl (k := 17) (by decide) wt1295 rfl (hs.e (by decide)) (hs.r (by decide) (by decide)) ?_
      refine r_iload_n (q := 12) dX12_isAhead_11 rfl rfl rfl ?_
      refine r_ialdN (q := 13) 8 (by decide) rfl dX12_isAhead_12 rfl (hs.e (by decide)) (hs.n rfl (by decide)) (by omega) (by decide) ?_
      refine r_topi (y := nI x) h1 ?_
      refine r_aload_n (q := 14) dX12_isAhead_13 rfl rfl rfl ?_
      refine r_getr (q := 17) (some (1329, 0)) ck12 dX12_isAhead_14 rfl (k := 29) (by decide) wt1307 rfl (hs.e (by decide)) (hs.r (by decide) (by decide)) ?_
      refine r_bipush (q := 19) (nI 7) dX12_isAhead_17 rfl (by decide) ?_
      refine r_iload_n (q := 20) dX12_isAhead_19 rfl rfl rfl ?_
      refine r_imulN (q := 21) dX12_isAhead_20 rfl ?_
      refine r_iload_n (q := 22) dX12_isAhead_21 rfl rfl rfl ?_
      refine r_iaddN (q := 23) dX12_isAhead_22 rfl ?_
      refine r_ialdN (q := 24) 30800 (by decide) rfl dX12_isAhead_23 rfl (hs.e (by decide)) (hs.n rfl (by decide)) (by omega) (by decide) ?_
      refine r_topi (y := nI y) h2 ?_
      refine r_icmp_eqN (q := 27) (t := 53) (by omega) (by omega) dX12_isAhead_24 (by decide) rfl (fun h24 => ?_) (fun h24 => ?_)
      · skip
        refine r_iincN (q := 56) (L' := [some (zr 12 0), some (zi (nI a)), some (zi (nI n)), some (zi (nI (j + 1)))]) 1 rfl dX12_isAhead_53 rfl rfl (by decide) rfl ?_
        refine r_goto (q := 2) dX12_isAhead_56 (by decide) ?_
        have e0 : ltL (x :: p) (y :: q) = ltL p q := by rw [ltL, decide_eq_false (by omega), decide_eq_true (by omega)]; rfl
        rw [e0]
        exact ih q (j + 1) (by simpa using hl) (by omega) hr'
      · skip
        refine r_aload_n (q := 28) dX12_isAhead_27 rfl rfl rfl ?_
        refine r_getr (q := 31) (some (1317, 0)) ck12 dX12_isAhead_28 rfl (k := 17) (by decide) wt1295 rfl (hs.e (by decide)) (hs.r (by decide) (by decide)) ?_
        refine r_iload_n (q := 32) dX12_isAhead_31 rfl rfl rfl ?_
        refine r_ialdN (q := 33) 8 (by decide) rfl dX12_isAhead_32 rfl (hs.e (by decide)) (hs.n rfl (by decide)) (by omega) (by decide) ?_
        refine r_topi (y := nI x) h1 ?_
        refine r_aload_n (q := 34) dX12_isAhead_33 rfl rfl rfl ?_
        refine r_getr (q := 37) (some (1329, 0)) ck12 dX12_isAhead_34 rfl (k := 29) (by decide) wt1307 rfl (hs.e (by decide)) (hs.r (by decide) (by decide)) ?_
        refine r_bipush (q := 39) (nI 7) dX12_isAhead_37 rfl (by decide) ?_
        refine r_iload_n (q := 40) dX12_isAhead_39 rfl rfl rfl ?_
        refine r_imulN (q := 41) dX12_isAhead_40 rfl ?_
        refine r_iload_n (q := 42) dX12_isAhead_41 rfl rfl rfl ?_
        refine r_iaddN (q := 43) dX12_isAhead_42 rfl ?_
        refine r_ialdN (q := 44) 30800 (by decide) rfl dX12_isAhead_43 rfl (hs.e (by decide)) (hs.n rfl (by decide)) (by omega) (by decide) ?_
        refine r_topi (y := nI y) h2 ?_
        refine r_icmp_geN (q := 47) (t := 51) (by omega) (by omega) dX12_isAhead_44 (by decide) rfl (fun h44 => ?_) (fun h44 => ?_)
        · skip
          refine r_iconst (q := 52) (nI 0) dX12_isAhead_51 rfl (by decide) ?_
          refine r_zreturn (by decide) dX12_isAhead_52 rfl ?_
          refine ⟨?_, rfl⟩
          rw [show ltL (x :: p) (y :: q) = false from by rw [ltL, decide_eq_false (by omega), decide_eq_false (by omega)]; rfl]; rfl
        · skip
          refine r_iconst (q := 48) (nI 1) dX12_isAhead_47 rfl (by decide) ?_
          refine r_goto (q := 52) dX12_isAhead_48 (by decide) ?_
          refine r_zreturn (by decide) dX12_isAhead_52 rfl ?_
          refine ⟨?_, rfl⟩
          rw [show ltL (x :: p) (y :: q) = true from by rw [ltL, decide_eq_true (by omega)]; rfl]; rfl

set_option maxRecDepth 100000 in
theorem ok_isAhead {S : zS} (hs : Sd S) {n a : Nat} (hn : n ≤ 7) (ha : a < 4400) {p q : List Nat} (hp : p.length = n) (hq : q.length = n) (hr : ∀ i, i < n → p.getD i 0 < 8192 ∧ q.getD i 0 < 8192 ∧ gI S 1317 0 i = nI (p.getD i 0) ∧ gI S 1329 0 (7 * a + i) = nI (q.getD i 0)) : Ok mX12_isAhead 0 (ent 4 [zr 12 0, zi (nI a), zi (nI n)]) [] S (fun r S1 => r = some (zi (nI (if ltL p q then 1 else 0))) ∧ S1 = S) := by
  show Ok mX12_isAhead 0 [some (zr 12 0), some (zi (nI a)), some (zi (nI n)), none] [] S _
  refine r_iconst (q := 1) (nI 0) dX12_isAhead_0 rfl (by decide) ?_
  refine r_istore_n (q := 2) (L' := [some (zr 12 0), some (zi (nI a)), some (zi (nI n)), some (zi (nI 0))]) dX12_isAhead_1 rfl rfl (by decide) rfl ?_
  exact lp_isAhead hs hn ha p q 0 (hp.trans hq.symm) (by omega) (fun i hi => by rw [Nat.zero_add]; exact hr i (by omega))

set_option maxRecDepth 100000 in
theorem lp_ptC {Po : Option zV → zS → Prop} {q c : Int32} {to n k F : Nat} {p : List Nat} (hn : n ≤ 7) (hto : to < 16) (hF : F + (k + 1) < 4400) : ∀ (d i : Nat) (S : zS), i + d = n → Sd S → gI S 1325 0 to = nI F → (∀ j, j < n → gI S 1329 0 (7 * (F + k) + j) = nI (p.getD j 0)) → (∀ S2, S2 = fm S 1329 0 (7 * (F + (k + 1))) i n (fun j => nI (p.getD j 0)) → Ok mX12_putTree 143 [some (zr 12 0), some (zi q), some (zi (nI n)), some (zi c), some (zi (nI to)), some (zi (nI (k + 1))), some (zi (nI n))] [] S2 Po) → Ok mX12_putTree 87 [some (zr 12 0), some (zi q), some (zi (nI n)), some (zi c), some (zi (nI to)), some (zi (nI (k + 1))), some (zi (nI i))] [] S Po := by
  intro d
  induction d with
  | zero =>
    intro i S hi hs h5 hp K
    obtain rfl : n = i := by omega
    refine r_iload (q := 89) dX12_putTree_87 rfl rfl ?_
    refine r_iload_n (q := 90) dX12_putTree_89 rfl rfl rfl ?_
    refine r_icmp_geN (q := 93) (t := 143) (by omega) (by omega) dX12_putTree_90 (by decide) rfl (fun h90 => ?_) (fun h90 => absurd h90 (by omega))
    exact K _ (fm_all.symm)
  | succ d ih =>
    intro i S hi hs h5 hp K
    refine r_iload (q := 89) dX12_putTree_87 rfl rfl ?_
    refine r_iload_n (q := 90) dX12_putTree_89 rfl rfl rfl ?_
    refine r_icmp_geN (q := 93) (t := 143) (by omega) (by omega) dX12_putTree_90 (by decide) rfl (fun h90 => absurd h90 (by omega)) (fun h90 => ?_)
    refine r_aload_n (q := 94) dX12_putTree_93 rfl rfl rfl ?_
    refine r_getr (q := 97) (some (1329, 0)) ck12 dX12_putTree_94 rfl (k := 29) (by decide) wt1307 rfl (hs.e (by decide)) (hs.r (by decide) (by decide)) ?_
    refine r_bipush (q := 99) (nI 7) dX12_putTree_97 rfl (by decide) ?_
    refine r_aload_n (q := 100) dX12_putTree_99 rfl rfl rfl ?_
    refine r_getr (q := 103) (some (1325, 0)) ck12 dX12_putTree_100 rfl (k := 25) (by decide) wt1303 rfl (hs.e (by decide)) (hs.r (by decide) (by decide)) ?_
    refine r_iload (q := 105) dX12_putTree_103 rfl rfl ?_
    refine r_ialdN (q := 106) 16 (by decide) rfl dX12_putTree_105 rfl (hs.e (by decide)) (hs.n rfl (by decide)) (by omega) (by decide) ?_
    refine r_topi (y := nI F) h5 ?_
    refine r_iload (q := 108) dX12_putTree_106 rfl rfl ?_
    refine r_iaddN (q := 109) dX12_putTree_108 rfl ?_
    refine r_imulN (q := 110) dX12_putTree_109 rfl ?_
    refine r_iload (q := 112) dX12_putTree_110 rfl rfl ?_
    refine r_iaddN (q := 113) dX12_putTree_112 rfl ?_
    refine r_aload_n (q := 114) dX12_putTree_113 rfl rfl rfl ?_
    refine r_getr (q := 117) (some (1329, 0)) ck12 dX12_putTree_114 rfl (k := 29) (by decide) wt1307 rfl (hs.e (by decide)) (hs.r (by decide) (by decide)) ?_
    refine r_bipush (q := 119) (nI 7) dX12_putTree_117 rfl (by decide) ?_
    refine r_aload_n (q := 120) dX12_putTree_119 rfl rfl rfl ?_
    refine r_getr (q := 123) (some (1325, 0)) ck12 dX12_putTree_120 rfl (k := 25) (by decide) wt1303 rfl (hs.e (by decide)) (hs.r (by decide) (by decide)) ?_
    refine r_iload (q := 125) dX12_putTree_123 rfl rfl ?_
    refine r_ialdN (q := 126) 16 (by decide) rfl dX12_putTree_125 rfl (hs.e (by decide)) (hs.n rfl (by decide)) (by omega) (by decide) ?_
    refine r_topi (y := nI F) h5 ?_
    refine r_iload (q := 128) dX12_putTree_126 rfl rfl ?_
    refine r_iaddN (q := 129) dX12_putTree_128 rfl ?_
    refine r_iconst (q := 130) (nI 1) dX12_putTree_129 rfl (by decide) ?_
    refine r_isubN (q := 131) (by omega) dX12_putTree_130 rfl ?_
    refine r_topi (y := nI (F + k)) (congrArg nI (by omega)) ?_
    refine r_imulN (q := 132) dX12_putTree_131 rfl ?_
    refine r_iload (q := 134) dX12_putTree_132 rfl rfl ?_
    refine r_iaddN (q := 135) dX12_putTree_134 rfl ?_
    refine r_ialdN (q := 136) 30800 (by decide) rfl dX12_putTree_135 rfl (hs.e (by decide)) (hs.n rfl (by decide)) (by omega) (by decide) ?_
    refine r_iastN (q := 137) 30800 (by decide) rfl dX12_putTree_136 rfl (hs.e (by decide)) (hs.n rfl (by decide)) (by omega) (by decide) ?_
    refine r_iincN (q := 140) (L' := [some (zr 12 0), some (zi q), some (zi (nI n)), some (zi c), some (zi (nI to)), some (zi (nI (k + 1))), some (zi (nI (i + 1)))]) 1 rfl dX12_putTree_137 rfl rfl (by decide) rfl ?_
    refine r_goto (q := 87) dX12_putTree_140 (by decide) ?_
    exact ih (i + 1) _ (by omega) hs (by rw [gI_sI, if_neg (by omega)]; exact h5) (fun j hj => by rw [gI_sI, if_neg (by omega)]; exact hp j hj) (fun S2 h => K S2 (h.trans (by rw [hp i (by omega)]; exact fm_step (g := fun j => nI (p.getD j 0)) (show i < n by omega))))

set_option maxRecDepth 100000 in
theorem lp_ptD {Po : Option zV → zS → Prop} {q c : Int32} {to n k F : Nat} {p : List Nat} (hn : n ≤ 7) (hto : to < 16) (hF : F + k < 4400) : ∀ (d i : Nat) (S : zS), i + d = n → Sd S → gI S 1325 0 to = nI F → (∀ j, j < n → gI S 1317 0 j = nI (p.getD j 0)) → (∀ S2, S2 = fm S 1329 0 (7 * (F + k)) i n (fun j => nI (p.getD j 0)) → Ok mX12_putTree 208 [some (zr 12 0), some (zi q), some (zi (nI n)), some (zi c), some (zi (nI to)), some (zi (nI k)), some (zi (nI n))] [] S2 Po) → Ok mX12_putTree 168 [some (zr 12 0), some (zi q), some (zi (nI n)), some (zi c), some (zi (nI to)), some (zi (nI k)), some (zi (nI i))] [] S Po := by
  intro d
  induction d with
  | zero =>
    intro i S hi hs h5 hp K
    obtain rfl : n = i := by omega
    refine r_iload (q := 170) dX12_putTree_168 rfl rfl ?_
    refine r_iload_n (q := 171) dX12_putTree_170 rfl rfl rfl ?_
    refine r_icmp_geN (q := 174) (t := 208) (by omega) (by omega) dX12_putTree_171 (by decide) rfl (fun h171 => ?_) (fun h171 => absurd h171 (by omega))
    exact K _ (fm_all.symm)
  | succ d ih =>
    intro i S hi hs h5 hp K
    refine r_iload (q := 170) dX12_putTree_168 rfl rfl ?_
    refine r_iload_n (q := 171) dX12_putTree_170 rfl rfl rfl ?_
    refine r_icmp_geN (q := 174) (t := 208) (by omega) (by omega) dX12_putTree_171 (by decide) rfl (fun h171 => absurd h171 (by omega)) (fun h171 => ?_)
    refine r_aload_n (q := 175) dX12_putTree_174 rfl rfl rfl ?_
    refine r_getr (q := 178) (some (1329, 0)) ck12 dX12_putTree_175 rfl (k := 29) (by decide) wt1307 rfl (hs.e (by decide)) (hs.r (by decide) (by decide)) ?_
    refine r_bipush (q := 180) (nI 7) dX12_putTree_178 rfl (by decide) ?_
    refine r_aload_n (q := 181) dX12_putTree_180 rfl rfl rfl ?_
    refine r_getr (q := 184) (some (1325, 0)) ck12 dX12_putTree_181 rfl (k := 25) (by decide) wt1303 rfl (hs.e (by decide)) (hs.r (by decide) (by decide)) ?_
    refine r_iload (q := 186) dX12_putTree_184 rfl rfl ?_
    refine r_ialdN (q := 187) 16 (by decide) rfl dX12_putTree_186 rfl (hs.e (by decide)) (hs.n rfl (by decide)) (by omega) (by decide) ?_
    refine r_topi (y := nI F) h5 ?_
    refine r_iload (q := 189) dX12_putTree_187 rfl rfl ?_
    refine r_iaddN (q := 190) dX12_putTree_189 rfl ?_
    refine r_imulN (q := 191) dX12_putTree_190 rfl ?_
    refine r_iload (q := 193) dX12_putTree_191 rfl rfl ?_
    refine r_iaddN (q := 194) dX12_putTree_193 rfl ?_
    refine r_aload_n (q := 195) dX12_putTree_194 rfl rfl rfl ?_
    refine r_getr (q := 198) (some (1317, 0)) ck12 dX12_putTree_195 rfl (k := 17) (by decide) wt1295 rfl (hs.e (by decide)) (hs.r (by decide) (by decide)) ?_
    refine r_iload (q := 200) dX12_putTree_198 rfl rfl ?_
    refine r_ialdN (q := 201) 8 (by decide) rfl dX12_putTree_200 rfl (hs.e (by decide)) (hs.n rfl (by decide)) (by omega) (by decide) ?_
    refine r_iastN (q := 202) 30800 (by decide) rfl dX12_putTree_201 rfl (hs.e (by decide)) (hs.n rfl (by decide)) (by omega) (by decide) ?_
    refine r_iincN (q := 205) (L' := [some (zr 12 0), some (zi q), some (zi (nI n)), some (zi c), some (zi (nI to)), some (zi (nI k)), some (zi (nI (i + 1)))]) 1 rfl dX12_putTree_202 rfl rfl (by decide) rfl ?_
    refine r_goto (q := 168) dX12_putTree_205 (by decide) ?_
    exact ih (i + 1) _ (by omega) hs (by rw [gI_sI, if_neg (by omega)]; exact h5) (fun j hj => by rw [gI_sI, if_neg (by omega)]; exact hp j hj) (fun S2 h => K S2 (h.trans (by rw [hp i (by omega)]; exact fm_step (g := fun j => nI (p.getD j 0)) (show i < n by omega))))

set_option maxRecDepth 100000 in
theorem lp_pt149 {q n F M : Nat} (hq : q ≤ 1) (hn7 : n ≤ 7) {A : Nat} {e : Nat → Nat} (hE : Eok A e) {T : List (List Nat)} {t : List Nat} (ht : Tr A e n t) (hT : ∀ u, u ∈ T → Tr A e n u) (hTs : Srt T) (htT : t ∉ T) (hM : T.length < M) (hFM : F + M ≤ 4400) {k : Nat} {S : zS} (hk : k ≤ T.length) (hs : Sd S) (h5 : gI S 1325 0 (8 * q + n) = nI F) (h4 : gI S 1324 0 (8 * q + n) = nI T.length) (hp : ∀ j, j < n → gI S 1317 0 j = nI ((pth e [] 1 t).getD j 0)) (hlo : ∀ i, i < k → Rr1 e S (F + i) (T.getD i [])) (hhi : ∀ i, k ≤ i → i < T.length → Rr1 e S (F + i + 1) (T.getD i []) ∧ ky t < ky (T.getD i [])) (hlt : ∀ i, i < k → ky (T.getD i []) < ky t) : Ok mX12_putTree 149 [some (zr 12 0), some (zi (nI q)), some (zi (nI n)), some (zi (nI (cd t))), some (zi (nI (8 * q + n))), some (zi (nI k)), none] [] S (fun r S1 => r = none ∧ Fr (tPu F M (8 * q + n)) S S1 ∧ ∃ T1 : List (List Nat), T1.length = T.length + 1 ∧ gI S1 1324 0 (8 * q + n) = nI T1.length ∧ (∀ i, i < T1.length → Rr1 e S1 (F + i) (T1.getD i [])) ∧ Srt T1 ∧ ∀ u, u ∈ T1 ↔ u = t ∨ u ∈ T) := by
  refine r_aload_n (q := 150) dX12_putTree_149 rfl rfl rfl ?_
  refine r_getr (q := 153) (some (1328, 0)) ck12 dX12_putTree_150 rfl (k := 28) (by decide) wt1306 rfl (hs.e (by decide)) (hs.r (by decide) (by decide)) ?_
  refine r_aload_n (q := 154) dX12_putTree_153 rfl rfl rfl ?_
  refine r_getr (q := 157) (some (1325, 0)) ck12 dX12_putTree_154 rfl (k := 25) (by decide) wt1303 rfl (hs.e (by decide)) (hs.r (by decide) (by decide)) ?_
  refine r_iload (q := 159) dX12_putTree_157 rfl rfl ?_
  refine r_ialdN (q := 160) 16 (by decide) rfl dX12_putTree_159 rfl (hs.e (by decide)) (hs.n rfl (by decide)) (by omega) (by decide) ?_
  refine r_topi (y := nI F) h5 ?_
  refine r_iload (q := 162) dX12_putTree_160 rfl rfl ?_
  refine r_iaddN (q := 163) dX12_putTree_162 rfl ?_
  refine r_iload_n (q := 164) dX12_putTree_163 rfl rfl rfl ?_
  refine r_iastN (q := 165) 4400 (by decide) rfl dX12_putTree_164 rfl (hs.e (by decide)) (hs.n rfl (by decide)) (by omega) (by decide) ?_
  refine r_iconst (q := 166) (nI 0) dX12_putTree_165 rfl (by decide) ?_
  refine r_istore (q := 168) (L' := [some (zr 12 0), some (zi (nI q)), some (zi (nI n)), some (zi (nI (cd t))), some (zi (nI (8 * q + n))), some (zi (nI k)), some (zi (nI 0))]) dX12_putTree_166 rfl (by decide) rfl ?_
  refine lp_ptD (F := F) (p := pth e [] 1 t) hn7 (by omega) (by omega) n 0 _ (by omega) hs (by rw [gI_sI, if_neg (by omega)]; exact h5) (fun j hj => by rw [gI_sI, if_neg (by omega)]; exact hp j hj) (fun S2 h => ?_)
  have hs2 : Sd S2 := by rw [h]; exact hs
  have e1 : ∀ x y z, ¬ (x = 1328 ∧ y = 0 ∧ z = F + k) → ¬ (x = 1329 ∧ y = 0 ∧ 7 * (F + k) ≤ z ∧ z < 7 * (F + k) + n) → gI S2 x y z = gI S x y z := fun x y z q1 q2 => by rw [h, gI_fm, if_neg (by omega), gI_sI, if_neg q1]
  have e2 : gI S2 1328 0 (F + k) = nI (cd t) := by rw [h, gI_fm, if_neg (by omega), gI_sI, if_pos ⟨rfl, rfl, rfl⟩]
  have e3 : ∀ j, j < n → gI S2 1329 0 (7 * (F + k) + j) = nI ((pth e [] 1 t).getD j 0) := fun j hj => by rw [h, gI_fm, if_pos (by omega), Nat.add_sub_cancel_left]
  have f2 : Fr (tPu F M (8 * q + n)) S S2 := by
    refine ⟨fun x y z hz => e1 x y z (fun w => ?_) (fun w => ?_), fun x y z _ => by rw [h]; rfl, by rw [h]; rfl⟩
    · simp [tPu, w.1, w.2.1] at hz; omega
    · simp [tPu, w.1, w.2.1] at hz; omega
  have c4 : gI S2 1324 0 (8 * q + n) = nI T.length := (e1 _ _ _ (by omega) (by omega)).trans h4
  refine r_aload_n (q := 209) dX12_putTree_208 rfl rfl rfl ?_
  refine r_getr (q := 212) (some (1324, 0)) ck12 dX12_putTree_209 rfl (k := 24) (by decide) wt1302 rfl (hs2.e (by decide)) (hs2.r (by decide) (by decide)) ?_
  refine r_iload (q := 214) dX12_putTree_212 rfl rfl ?_
  refine r_dup2 (q := 215) dX12_putTree_214 rfl rfl rfl ?_
  refine r_ialdN (q := 216) 16 (by decide) rfl dX12_putTree_215 rfl (hs2.e (by decide)) (hs2.n rfl (by decide)) (by omega) (by decide) ?_
  refine r_topi (y := nI T.length) c4 ?_
  refine r_iconst (q := 217) (nI 1) dX12_putTree_216 rfl (by decide) ?_
  refine r_iaddN (q := 218) dX12_putTree_217 rfl ?_
  refine r_iastN (q := 219) 16 (by decide) rfl dX12_putTree_218 rfl (hs2.e (by decide)) (hs2.n rfl (by decide)) (by omega) (by decide) ?_
  refine r_return dX12_putTree_219 rfl ?_
  refine ⟨rfl, f2.i (by simp [tPu]), T.take k ++ t :: T.drop k, by simp; omega, by rw [gI_sI, if_pos ⟨rfl, rfl, rfl⟩]; simp; congr 1; omega, fun i hi => ?_, srt_ins hTs hk hlt (fun i a b => (hhi i a b).2), fun u => mem_insG⟩
  have hi : i < T.length + 1 := by simp at hi; omega
  rw [getD_insG hk]
  have key : ∀ a u, Rr1 e S a u → (∀ j, j < lvs u → j < n) → a ≠ F + k → Rr1 e (sI S2 1324 0 (8 * q + n) (nI (T.length + 1))) a u := fun a u hu hj hne => ⟨by rw [gI_sI, if_neg (by omega), e1 _ _ _ (by omega) (by omega)]; exact hu.1, fun j hj' => by
    have := hj j hj'
    rw [gI_sI, if_neg (by omega), e1 _ _ _ (by omega) (by omega)]; exact hu.2 j hj'⟩
  have hlv : ∀ i, i < T.length → ∀ j, j < lvs (T.getD i []) → j < n := fun i hi j hj => by rw [(hT _ (mem_gd hi)).2] at hj; exact hj
  by_cases h1 : i < k
  · rw [if_pos h1]; exact key _ _ (hlo i h1) (hlv i (by omega)) (by omega)
  · rw [if_neg h1]
    by_cases h2 : i = k
    · rw [if_pos h2, h2]
      refine ⟨by rw [gI_sI, if_neg (by omega)]; exact e2, fun j hj => ?_⟩
      rw [ht.2] at hj
      rw [gI_sI, if_neg (by omega)]; exact e3 j hj
    · rw [if_neg h2]
      have := (hhi (i - 1) (by omega) (by omega)).1
      rw [show F + (i - 1) + 1 = F + i by omega] at this
      exact key _ _ this (hlv (i - 1) (by omega)) (by omega)

set_option maxRecDepth 100000 in
theorem lp_pt27 {q n F M : Nat} (hq : q ≤ 1) (hn7 : n ≤ 7) {A : Nat} {e : Nat → Nat} (hE : Eok A e) {T : List (List Nat)} {t : List Nat} (ht : Tr A e n t) (hT : ∀ u, u ∈ T → Tr A e n u) (hTs : Srt T) (htT : t ∉ T) (hM : T.length < M) (hFM : F + M ≤ 4400) : ∀ (k : Nat) (S : zS) (w6 : Option zV), k ≤ T.length → Sd S → gI S 1325 0 (8 * q + n) = nI F → gI S 1324 0 (8 * q + n) = nI T.length → (∀ j, j < n → gI S 1317 0 j = nI ((pth e [] 1 t).getD j 0)) → (∀ i, i < k → Rr1 e S (F + i) (T.getD i [])) → (∀ i, k ≤ i → i < T.length → Rr1 e S (F + i + 1) (T.getD i []) ∧ ky t < ky (T.getD i [])) → Ok mX12_putTree 27 [some (zr 12 0), some (zi (nI q)), some (zi (nI n)), some (zi (nI (cd t))), some (zi (nI (8 * q + n))), some (zi (nI k)), w6] [] S (fun r S1 => r = none ∧ Fr (tPu F M (8 * q + n)) S S1 ∧ ∃ T1 : List (List Nat), T1.length = T.length + 1 ∧ gI S1 1324 0 (8 * q + n) = nI T1.length ∧ (∀ i, i < T1.length → Rr1 e S1 (F + i) (T1.getD i [])) ∧ Srt T1 ∧ ∀ u, u ∈ T1 ↔ u = t ∨ u ∈ T) := by
  intro k
  induction k with
  | zero =>
    intro S w6 hk hs h5 h4 hp hlo hhi
    refine r_mask [true, true, true, true, true, true, false] rfl ?_
    refine r_iload (q := 29) dX12_putTree_27 rfl rfl ?_
    refine r_if_leN (q := 32) (t := 149) (by omega) dX12_putTree_29 (by decide) rfl (fun h29 => ?_) (fun h29 => absurd h29 (by omega))
    exact lp_pt149 hq hn7 hE ht hT hTs htT hM hFM hk hs h5 h4 hp hlo hhi (fun i hi => absurd hi (by omega))
  | succ k ih =>
    intro S w6 hk hs h5 h4 hp hlo hhi
    refine r_mask [true, true, true, true, true, true, false] rfl ?_
    have hk1 : k < T.length := by omega
    have hTk := hT _ (mem_gd hk1)
    have r1 := hlo k (by omega)
    have hcp := ky_pth hE ht hTk hn7
    have hpl : (pth e [] 1 t).length = n := by rw [pth_len]; exact ht.2
    have hql : (pth e [] 1 (T.getD k [])).length = n := by rw [pth_len]; exact hTk.2
    have hia := ok_isAhead hs hn7 (show F + k < 4400 by omega) hpl hql (fun i hi => ⟨pth_lt13 hE ht hn7 i, pth_lt13 hE hTk hn7 i, hp i hi, r1.2 i (by rw [hTk.2]; exact hi)⟩)
    by_cases hlt : ky t < ky (T.getD k [])
    · rw [← hcp, decide_eq_true hlt] at hia
      refine r_iload (q := 29) dX12_putTree_27 rfl rfl ?_
      refine r_if_leN (q := 32) (t := 149) (by omega) dX12_putTree_29 (by decide) rfl (fun h29 => absurd h29 (by omega)) (fun h29 => ?_)
      refine r_aload_n (q := 33) dX12_putTree_32 rfl rfl rfl ?_
      refine r_aload_n (q := 34) dX12_putTree_33 rfl rfl rfl ?_
      refine r_getr (q := 37) (some (1325, 0)) ck12 dX12_putTree_34 rfl (k := 25) (by decide) wt1303 rfl (hs.e (by decide)) (hs.r (by decide) (by decide)) ?_
      refine r_iload (q := 39) dX12_putTree_37 rfl rfl ?_
      refine r_ialdN (q := 40) 16 (by decide) rfl dX12_putTree_39 rfl (hs.e (by decide)) (hs.n rfl (by decide)) (by omega) (by decide) ?_
      refine r_topi (y := nI F) h5 ?_
      refine r_iload (q := 42) dX12_putTree_40 rfl rfl ?_
      refine r_iaddN (q := 43) dX12_putTree_42 rfl ?_
      refine r_iconst (q := 44) (nI 1) dX12_putTree_43 rfl (by decide) ?_
      refine r_isubN (q := 45) (by omega) dX12_putTree_44 rfl ?_
      refine r_topi (y := nI (F + k)) (congrArg nI (by omega)) ?_
      refine r_iload_n (q := 46) dX12_putTree_45 rfl rfl rfl ?_
      refine r_callV (Mc := mX12_isAhead) (q := 49) (As := [zi (nI (F + k)), zi (nI n)]) (st := []) ck12 dX12_putTree_46 rfl rfl mkX12_isAhead wt1772 wt1774 wp104 rfl (Nat.le_of_ble_eq_true rfl) (Nat.le_of_ble_eq_true rfl) (by decide) (by decide) (by decide) (Or.inl rfl) (hs.e (by decide)) hia (fun r46 S46 hp46 => ?_)
      obtain ⟨rfl, hq46⟩ := hp46
      rw [hq46]
      show Ok _ _ _ [zi (nI 1)] _ _
      refine r_if_eqN (q := 52) (t := 149) (by omega) dX12_putTree_49 (by decide) rfl (fun h49 => absurd h49 (by omega)) (fun h49 => ?_)
      refine r_aload_n (q := 53) dX12_putTree_52 rfl rfl rfl ?_
      refine r_getr (q := 56) (some (1328, 0)) ck12 dX12_putTree_53 rfl (k := 28) (by decide) wt1306 rfl (hs.e (by decide)) (hs.r (by decide) (by decide)) ?_
      refine r_aload_n (q := 57) dX12_putTree_56 rfl rfl rfl ?_
      refine r_getr (q := 60) (some (1325, 0)) ck12 dX12_putTree_57 rfl (k := 25) (by decide) wt1303 rfl (hs.e (by decide)) (hs.r (by decide) (by decide)) ?_
      refine r_iload (q := 62) dX12_putTree_60 rfl rfl ?_
      refine r_ialdN (q := 63) 16 (by decide) rfl dX12_putTree_62 rfl (hs.e (by decide)) (hs.n rfl (by decide)) (by omega) (by decide) ?_
      refine r_topi (y := nI F) h5 ?_
      refine r_iload (q := 65) dX12_putTree_63 rfl rfl ?_
      refine r_iaddN (q := 66) dX12_putTree_65 rfl ?_
      refine r_aload_n (q := 67) dX12_putTree_66 rfl rfl rfl ?_
      refine r_getr (q := 70) (some (1328, 0)) ck12 dX12_putTree_67 rfl (k := 28) (by decide) wt1306 rfl (hs.e (by decide)) (hs.r (by decide) (by decide)) ?_
      refine r_aload_n (q := 71) dX12_putTree_70 rfl rfl rfl ?_
      refine r_getr (q := 74) (some (1325, 0)) ck12 dX12_putTree_71 rfl (k := 25) (by decide) wt1303 rfl (hs.e (by decide)) (hs.r (by decide) (by decide)) ?_
      refine r_iload (q := 76) dX12_putTree_74 rfl rfl ?_
      refine r_ialdN (q := 77) 16 (by decide) rfl dX12_putTree_76 rfl (hs.e (by decide)) (hs.n rfl (by decide)) (by omega) (by decide) ?_
      refine r_topi (y := nI F) h5 ?_
      refine r_iload (q := 79) dX12_putTree_77 rfl rfl ?_
      refine r_iaddN (q := 80) dX12_putTree_79 rfl ?_
      refine r_iconst (q := 81) (nI 1) dX12_putTree_80 rfl (by decide) ?_
      refine r_isubN (q := 82) (by omega) dX12_putTree_81 rfl ?_
      refine r_topi (y := nI (F + k)) (congrArg nI (by omega)) ?_
      refine r_ialdN (q := 83) 4400 (by decide) rfl dX12_putTree_82 rfl (hs.e (by decide)) (hs.n rfl (by decide)) (by omega) (by decide) ?_
      refine r_topi (y := nI (cd (T.getD k []))) r1.1 ?_
      refine r_iastN (q := 84) 4400 (by decide) rfl dX12_putTree_83 rfl (hs.e (by decide)) (hs.n rfl (by decide)) (by omega) (by decide) ?_
      refine r_iconst (q := 85) (nI 0) dX12_putTree_84 rfl (by decide) ?_
      refine r_istore (q := 87) (L' := [some (zr 12 0), some (zi (nI q)), some (zi (nI n)), some (zi (nI (cd t))), some (zi (nI (8 * q + n))), some (zi (nI (k + 1))), some (zi (nI 0))]) dX12_putTree_85 rfl (by decide) rfl ?_
      refine lp_ptC (F := F) (p := pth e [] 1 (T.getD k [])) hn7 (by omega) (by omega) n 0 _ (by omega) hs (by rw [gI_sI, if_neg (by omega)]; exact h5) (fun j hj => by rw [gI_sI, if_neg (by omega)]; exact r1.2 j (by rw [hTk.2]; exact hj)) (fun S2 h => ?_)
      have hs2 : Sd S2 := by rw [h]; exact hs
      have e1 : ∀ x y z, ¬ (x = 1328 ∧ y = 0 ∧ z = F + (k + 1)) → ¬ (x = 1329 ∧ y = 0 ∧ 7 * (F + (k + 1)) ≤ z ∧ z < 7 * (F + (k + 1)) + n) → gI S2 x y z = gI S x y z := fun x y z q1 q2 => by rw [h, gI_fm, if_neg (by omega), gI_sI, if_neg q1]
      have e2 : gI S2 1328 0 (F + (k + 1)) = nI (cd (T.getD k [])) := by rw [h, gI_fm, if_neg (by omega), gI_sI, if_pos ⟨rfl, rfl, rfl⟩]
      have e3 : ∀ j, j < n → gI S2 1329 0 (7 * (F + (k + 1)) + j) = nI ((pth e [] 1 (T.getD k [])).getD j 0) := fun j hj => by rw [h, gI_fm, if_pos (by omega), Nat.add_sub_cancel_left]
      have f2 : Fr (tPu F M (8 * q + n)) S S2 := by
        refine ⟨fun x y z hz => e1 x y z (fun w => ?_) (fun w => ?_), fun x y z _ => by rw [h]; rfl, by rw [h]; rfl⟩
        · simp [tPu, w.1, w.2.1] at hz; omega
        · simp [tPu, w.1, w.2.1] at hz; omega
      have hlv : ∀ i, i < T.length → ∀ j, j < lvs (T.getD i []) → j < n := fun i hi j hj => by rw [(hT _ (mem_gd hi)).2] at hj; exact hj
      have key : ∀ a i, i < T.length → Rr1 e S a (T.getD i []) → a ≠ F + (k + 1) → Rr1 e S2 a (T.getD i []) := fun a i hi hu hne => ⟨by rw [e1 _ _ _ (by omega) (by omega)]; exact hu.1, fun j hj' => by
        have := hlv i hi j hj'
        rw [e1 _ _ _ (by omega) (by omega)]; exact hu.2 j hj'⟩
      refine r_idecN (q := 146) (L' := [some (zr 12 0), some (zi (nI q)), some (zi (nI n)), some (zi (nI (cd t))), some (zi (nI (8 * q + n))), some (zi (nI (k + 1 - 1))), some (zi (nI n))]) 1 (by omega) rfl dX12_putTree_143 rfl rfl (by decide) rfl ?_
      refine r_goto (q := 27) dX12_putTree_146 (by decide) ?_
      exact Ok.mono (ih S2 _ (by omega) hs2 ((e1 _ _ _ (by omega) (by omega)).trans h5) ((e1 _ _ _ (by omega) (by omega)).trans h4) (fun j hj => (e1 _ _ _ (by omega) (by omega)).trans (hp j hj)) (fun i hi => key _ i (by omega) (hlo i (by omega)) (by omega)) (fun i a b => by
        by_cases hik : i = k
        · rw [hik]
          exact ⟨⟨e2, fun j hj => e3 j (by rw [hTk.2] at hj; exact hj)⟩, hlt⟩
        · have := hhi i (by omega) b
          exact ⟨key _ i b this.1 (by omega), this.2⟩)) fun r S3 z => ⟨z.1, f2.tr z.2.1, z.2.2⟩
    · rw [← hcp, decide_eq_false hlt] at hia
      refine r_iload (q := 29) dX12_putTree_27 rfl rfl ?_
      refine r_if_leN (q := 32) (t := 149) (by omega) dX12_putTree_29 (by decide) rfl (fun h29 => absurd h29 (by omega)) (fun h29 => ?_)
      refine r_aload_n (q := 33) dX12_putTree_32 rfl rfl rfl ?_
      refine r_aload_n (q := 34) dX12_putTree_33 rfl rfl rfl ?_
      refine r_getr (q := 37) (some (1325, 0)) ck12 dX12_putTree_34 rfl (k := 25) (by decide) wt1303 rfl (hs.e (by decide)) (hs.r (by decide) (by decide)) ?_
      refine r_iload (q := 39) dX12_putTree_37 rfl rfl ?_
      refine r_ialdN (q := 40) 16 (by decide) rfl dX12_putTree_39 rfl (hs.e (by decide)) (hs.n rfl (by decide)) (by omega) (by decide) ?_
      refine r_topi (y := nI F) h5 ?_
      refine r_iload (q := 42) dX12_putTree_40 rfl rfl ?_
      refine r_iaddN (q := 43) dX12_putTree_42 rfl ?_
      refine r_iconst (q := 44) (nI 1) dX12_putTree_43 rfl (by decide) ?_
      refine r_isubN (q := 45) (by omega) dX12_putTree_44 rfl ?_
      refine r_topi (y := nI (F + k)) (congrArg nI (by omega)) ?_
      refine r_iload_n (q := 46) dX12_putTree_45 rfl rfl rfl ?_
      refine r_callV (Mc := mX12_isAhead) (q := 49) (As := [zi (nI (F + k)), zi (nI n)]) (st := []) ck12 dX12_putTree_46 rfl rfl mkX12_isAhead wt1772 wt1774 wp104 rfl (Nat.le_of_ble_eq_true rfl) (Nat.le_of_ble_eq_true rfl) (by decide) (by decide) (by decide) (Or.inl rfl) (hs.e (by decide)) hia (fun r46 S46 hp46 => ?_)
      obtain ⟨rfl, hq46⟩ := hp46
      rw [hq46]
      show Ok _ _ _ [zi (nI 0)] _ _
      refine r_if_eqN (q := 52) (t := 149) (by omega) dX12_putTree_49 (by decide) rfl (fun h49 => ?_) (fun h49 => absurd h49 (by omega))
      have hne : ky (T.getD k []) ≠ ky t := fun z => htT (by rw [← ky_inj hE hTk ht hn7 z]; exact mem_gd hk1)
      exact lp_pt149 hq hn7 hE ht hT hTs htT hM hFM hk hs h5 h4 hp hlo hhi (fun i hi => by
        have := sort_le hTs (i := i) (k := k) (by omega) hk1
        omega)

set_option maxRecDepth 100000 in
theorem ok_putTree {q n F M : Nat} (hq : q ≤ 1) (hn7 : n ≤ 7) {A : Nat} {e : Nat → Nat} (hE : Eok A e) {T : List (List Nat)} {t : List Nat} (ht : Tr A e n t) (hT : ∀ u, u ∈ T → Tr A e n u) (hTs : Srt T) (htT : t ∉ T) (hM : T.length < M) (hFM : F + M ≤ 4400) {S : zS} (hs : Sd S) (hw : ∀ a, a < A → gI S 1322 0 (1173 * q + 4 + a) = nI (e a)) (h5 : gI S 1325 0 (8 * q + n) = nI F) (h4 : gI S 1324 0 (8 * q + n) = nI T.length) (hR : ∀ i, i < T.length → Rr1 e S (F + i) (T.getD i [])) : Ok mX12_putTree 0 (ent 7 [zr 12 0, zi (nI q), zi (nI n), zi (nI (cd t))]) [] S (fun r S1 => r = none ∧ Fr (tPu F M (8 * q + n)) S S1 ∧ ∃ T1 : List (List Nat), T1.length = T.length + 1 ∧ gI S1 1324 0 (8 * q + n) = nI T1.length ∧ (∀ i, i < T1.length → Rr1 e S1 (F + i) (T1.getD i [])) ∧ Srt T1 ∧ ∀ u, u ∈ T1 ↔ u = t ∨ u ∈ T) := by
  show Ok mX12_putTree 0 [some (zr 12 0), some (zi (nI q)), some (zi (nI n)), some (zi (nI (cd t))), none, none, none] [] S _
  refine r_bipush (q := 2) (nI 8) dX12_putTree_0 rfl (by decide) ?_
  refine r_iload_n (q := 3) dX12_putTree_2 rfl rfl rfl ?_
  refine r_imulN (q := 4) dX12_putTree_3 rfl ?_
  refine r_iload_n (q := 5) dX12_putTree_4 rfl rfl rfl ?_
  refine r_iaddN (q := 6) dX12_putTree_5 rfl ?_
  refine r_istore (q := 8) (L' := [some (zr 12 0), some (zi (nI q)), some (zi (nI n)), some (zi (nI (cd t))), some (zi (nI ((8 * q) + n))), none, none]) dX12_putTree_6 rfl (by decide) rfl ?_
  refine r_aload_n (q := 9) dX12_putTree_8 rfl rfl rfl ?_
  refine r_iload_n (q := 10) dX12_putTree_9 rfl rfl rfl ?_
  refine r_sipush (q := 13) (nI 1173) dX12_putTree_10 rfl (by decide) ?_
  refine r_iload_n (q := 14) dX12_putTree_13 rfl rfl rfl ?_
  refine r_imulN (q := 15) dX12_putTree_14 rfl ?_
  refine r_callV (Mc := mX12_paths) (q := 18) (As := [zi (nI (cd t)), zi (nI (1173 * q))]) (st := []) ck12 dX12_putTree_15 rfl rfl mkX12_paths wt1645 wt1647 wp84 rfl (Nat.le_of_ble_eq_true rfl) (Nat.le_of_ble_eq_true rfl) (by decide) (by decide) (by decide) (Or.inl rfl) (hs.e (by decide)) (ok_X12_paths hs hE ht hn7 (show 1173 * q ≤ 1173 by omega) hw) (fun r15 S15 hp15 => ?_)
  obtain ⟨rfl, f1, hz1, hz2⟩ := hp15
  show Ok _ _ _ [] _ _
  refine r_aload_n (q := 19) dX12_putTree_18 rfl rfl rfl ?_
  refine r_getr (q := 22) (some (1324, 0)) ck12 dX12_putTree_19 rfl (k := 24) (by decide) wt1302 rfl ((hs.fr f1).e (by decide)) ((hs.fr f1).r (by decide) (by decide)) ?_
  refine r_iload (q := 24) dX12_putTree_22 rfl rfl ?_
  refine r_ialdN (q := 25) 16 (by decide) rfl dX12_putTree_24 rfl ((hs.fr f1).e (by decide)) ((hs.fr f1).n rfl (by decide)) (by omega) (by decide) ?_
  refine r_topi (y := nI T.length) ((f1.1 _ _ _ rfl).trans h4) ?_
  refine r_istore (q := 27) (L' := [some (zr 12 0), some (zi (nI q)), some (zi (nI n)), some (zi (nI (cd t))), some (zi (nI ((8 * q) + n))), some (zi (nI T.length)), none]) dX12_putTree_25 rfl (by decide) rfl ?_
  exact Ok.mono (lp_pt27 hq hn7 hE ht hT hTs htT hM hFM T.length S15 none (Nat.le_refl _) (hs.fr f1) ((f1.1 _ _ _ rfl).trans h5) ((f1.1 _ _ _ rfl).trans h4) hz2 (fun i hi => (hR i hi).fr f1) (fun i a b => absurd b (by omega))) fun r S3 z => ⟨z.1, (f1.mono tPu_pa).tr z.2.1, z.2.2⟩

