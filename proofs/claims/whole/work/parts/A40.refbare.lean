/-! bare trees, as the reference counts them -/
def Ew (S : zS) (A : Nat) (e : Nat → Nat) : Prop := ∀ a, a < A → gI S 1306 0 (4 + a) = nI (e a)

set_option maxRecDepth 100000 in
theorem lp_re4 {S : zS} (hs : Sd S) {A : Nat} {e : Nat → Nat} (hE : Eok A e) (he : Ew S A e) {k0 : Int32} : ∀ (t : List Nat) (m a : Nat), Fs A e t m → m + 4 * t.length ≤ 1000 → a + t.length ≤ 16 → (∀ i, i < t.length → gI S 1316 0 (a + i) = nI (t.getD i 0)) → Ok mX12_endOf 4 [some (zr 12 0), some (zi k0), some (zi (nI m)), some (zi (nI a))] [] S (fun r S1 => r = some (zi (nI (a + t.length))) ∧ S1 = S) := by
  intro t
  induction t with
  | nil =>
    intro m a hf hm ha hr
    obtain rfl : m = 0 := hf
    refine r_iload_n (q := 5) dX12_endOf_4 rfl rfl rfl ?_
    refine r_if_leN (q := 8) (t := 47) (by omega) dX12_endOf_5 (by decide) rfl (fun h5 => ?_) (fun h5 => absurd h5 (by omega))
    refine r_iload_n (q := 48) dX12_endOf_47 rfl rfl rfl ?_
    refine r_ireturn dX12_endOf_48 rfl ?_
    exact ⟨rfl, rfl⟩
  | cons x t ih =>
    intro m a hf hm ha hr
    rw [List.length_cons] at hm ha ⊢
    obtain ⟨m', rfl⟩ : ∃ m', m = m' + 1 := ⟨m - 1, by have := hf.1; omega⟩
    have h2 := hf.2
    have r0 : gI S 1316 0 a = nI x := by have := hr 0 (by simp); rw [Nat.add_zero] at this; exact this
    have hr' : ∀ i, i < t.length → gI S 1316 0 (a + 1 + i) = nI (t.getD i 0) := fun i hi => by have := hr (i + 1) (by simp; omega); rw [show a + 1 + i = a + (i + 1) by omega]; exact this
    by_cases h0 : x = 0
    · subst h0
      rw [if_pos rfl] at h2
      refine r_iload_n (q := 5) dX12_endOf_4 rfl rfl rfl ?_
      refine r_if_leN (q := 8) (t := 47) (by omega) dX12_endOf_5 (by decide) rfl (fun h5 => absurd h5 (by omega)) (fun h5 => ?_)
      refine r_iload_n (q := 9) dX12_endOf_8 rfl rfl rfl ?_
      refine r_aload_n (q := 10) dX12_endOf_9 rfl rfl rfl ?_
      refine r_getr (q := 13) (some (1316, 0)) ck12 dX12_endOf_10 rfl (k := 16) (by decide) wt1294 rfl (hs.e (by decide)) (hs.r (by decide) (by decide)) ?_
      refine r_iload_n (q := 14) dX12_endOf_13 rfl rfl rfl ?_
      refine r_ialdN (q := 15) 16 (by decide) rfl dX12_endOf_14 rfl (hs.e (by decide)) (hs.n rfl (by decide)) (by omega) (by decide) ?_
      refine r_topi (y := nI 0) r0 ?_
      refine r_if_leN (q := 18) (t := 38) (by omega) dX12_endOf_15 (by decide) rfl (fun h15 => ?_) (fun h15 => absurd h15 (by omega))
      refine r_iconst (q := 39) ((-1 : Int32)) dX12_endOf_38 rfl (by decide) ?_
      refine r_iadd (q := 40) dX12_endOf_39 rfl ?_
      refine r_topi (y := nI m') ((Int32.sub_eq_add_neg _ _).symm.trans (nI_prd m')) ?_
      refine r_istore_n (q := 41) (L' := [some (zr 12 0), some (zi k0), some (zi (nI m')), some (zi (nI a))]) dX12_endOf_40 rfl rfl (by decide) rfl ?_
      refine r_iincN (q := 44) (L' := [some (zr 12 0), some (zi k0), some (zi (nI m')), some (zi (nI (a + 1)))]) 1 rfl dX12_endOf_41 rfl rfl (by decide) rfl ?_
      refine r_goto (q := 4) dX12_endOf_44 (by decide) ?_
      have q := ih m' (a + 1) h2 (by omega) (by omega) hr'
      rw [show a + 1 + t.length = a + (t.length + 1) by omega] at q
      exact q
    · rw [if_neg h0] at h2
      have hxA := h2.1
      have hA3 := hE.1
      have he1 := hE.2 (x - 1) (by omega)
      have c1 := he (x - 1) (by omega)
      refine r_iload_n (q := 5) dX12_endOf_4 rfl rfl rfl ?_
      refine r_if_leN (q := 8) (t := 47) (by omega) dX12_endOf_5 (by decide) rfl (fun h5 => absurd h5 (by omega)) (fun h5 => ?_)
      refine r_iload_n (q := 9) dX12_endOf_8 rfl rfl rfl ?_
      refine r_aload_n (q := 10) dX12_endOf_9 rfl rfl rfl ?_
      refine r_getr (q := 13) (some (1316, 0)) ck12 dX12_endOf_10 rfl (k := 16) (by decide) wt1294 rfl (hs.e (by decide)) (hs.r (by decide) (by decide)) ?_
      refine r_iload_n (q := 14) dX12_endOf_13 rfl rfl rfl ?_
      refine r_ialdN (q := 15) 16 (by decide) rfl dX12_endOf_14 rfl (hs.e (by decide)) (hs.n rfl (by decide)) (by omega) (by decide) ?_
      refine r_topi (y := nI x) r0 ?_
      refine r_if_leN (q := 18) (t := 38) (by omega) dX12_endOf_15 (by decide) rfl (fun h15 => absurd h15 (by omega)) (fun h15 => ?_)
      refine r_aload_n (q := 19) dX12_endOf_18 rfl rfl rfl ?_
      refine r_getr (q := 22) (some (1306, 0)) ck12 dX12_endOf_19 rfl (k := 6) (by decide) wt1284 rfl (hs.e (by decide)) (hs.r (by decide) (by decide)) ?_
      refine r_iconst (q := 23) (nI 4) dX12_endOf_22 rfl (by decide) ?_
      refine r_aload_n (q := 24) dX12_endOf_23 rfl rfl rfl ?_
      refine r_getr (q := 27) (some (1316, 0)) ck12 dX12_endOf_24 rfl (k := 16) (by decide) wt1294 rfl (hs.e (by decide)) (hs.r (by decide) (by decide)) ?_
      refine r_iload_n (q := 28) dX12_endOf_27 rfl rfl rfl ?_
      refine r_ialdN (q := 29) 16 (by decide) rfl dX12_endOf_28 rfl (hs.e (by decide)) (hs.n rfl (by decide)) (by omega) (by decide) ?_
      refine r_topi (y := nI x) r0 ?_
      refine r_iaddN (q := 30) dX12_endOf_29 rfl ?_
      refine r_iconst (q := 31) (nI 1) dX12_endOf_30 rfl (by decide) ?_
      refine r_isubN (q := 32) (by omega) dX12_endOf_31 rfl ?_
      refine r_topi (y := nI (4 + (x - 1))) (congrArg nI (by omega)) ?_
      refine r_ialdN (q := 33) 3775 (by decide) rfl dX12_endOf_32 rfl (hs.e (by decide)) (hs.n rfl (by decide)) (by omega) (by decide) ?_
      refine r_topi (y := nI (e (x - 1))) c1 ?_
      refine r_iconst (q := 34) (nI 1) dX12_endOf_33 rfl (by decide) ?_
      refine r_isubN (q := 35) (by omega) dX12_endOf_34 rfl ?_
      refine r_goto (q := 39) dX12_endOf_35 (by decide) ?_
      refine r_iaddN (q := 40) dX12_endOf_39 rfl ?_
      refine r_topi (y := nI (m' + e (x - 1))) (congrArg nI (by omega)) ?_
      refine r_istore_n (q := 41) (L' := [some (zr 12 0), some (zi k0), some (zi (nI (m' + e (x - 1)))), some (zi (nI a))]) dX12_endOf_40 rfl rfl (by decide) rfl ?_
      refine r_iincN (q := 44) (L' := [some (zr 12 0), some (zi k0), some (zi (nI (m' + e (x - 1)))), some (zi (nI (a + 1)))]) 1 rfl dX12_endOf_41 rfl rfl (by decide) rfl ?_
      refine r_goto (q := 4) dX12_endOf_44 (by decide) ?_
      have q := ih (m' + e (x - 1)) (a + 1) h2.2 (by omega) (by omega) hr'
      rw [show a + 1 + t.length = a + (t.length + 1) by omega] at q
      exact q

set_option maxRecDepth 100000 in
theorem ok_endOfR {S : zS} (hs : Sd S) {A : Nat} {e : Nat → Nat} (hE : Eok A e) (he : Ew S A e) {t : List Nat} {a : Nat} (ht : Fs A e t 1) (hm : 1 + 4 * t.length ≤ 1000) (ha : a + t.length ≤ 16) (hr : ∀ i, i < t.length → gI S 1316 0 (a + i) = nI (t.getD i 0)) : Ok mX12_endOf 0 (ent 4 [zr 12 0, zi (nI a)]) [] S (fun r S1 => r = some (zi (nI (a + t.length))) ∧ S1 = S) := by
  show Ok mX12_endOf 0 [some (zr 12 0), some (zi (nI a)), none, none] [] S _
  refine r_iconst (q := 1) (nI 1) dX12_endOf_0 rfl (by decide) ?_
  refine r_istore_n (q := 2) (L' := [some (zr 12 0), some (zi (nI a)), some (zi (nI 1)), none]) dX12_endOf_1 rfl rfl (by decide) rfl ?_
  refine r_iload_n (q := 3) dX12_endOf_2 rfl rfl rfl ?_
  refine r_istore_n (q := 4) (L' := [some (zr 12 0), some (zi (nI a)), some (zi (nI 1)), some (zi (nI a))]) dX12_endOf_3 rfl rfl (by decide) rfl ?_
  exact lp_re4 hs hE he t 1 a ht hm ha hr

set_option maxRecDepth 100000 in
theorem lp_hpA {Po : Option zV → zS → Prop} {S : zS} (hs : Sd S) {p : List Nat} (h3 : ∀ k, k ∈ p → k ≤ 3) (hl : p.length ≤ 14) (K : Ok mX12_hasPiece 19 [some (zr 12 0), some (zi (nI (cd p))), some (zi (nI p.length)), some (zi (nI 1)), none, none, none] [] S Po) : ∀ (j : Nat), j ≤ p.length → Ok mX12_hasPiece 4 [some (zr 12 0), some (zi (nI (cd p))), some (zi (nI (p.length - j))), some (zi (nI (cd (p.take j)))), none, none, none] [] S Po := by
  intro j
  have hb := cd_le h3 hl
  induction j with
  | zero =>
    intro hj
    have e0 : cd (p.take 0) = 1 := rfl
    rw [e0, Nat.sub_zero]
    refine r_iload_n (q := 5) dX12_hasPiece_4 rfl rfl rfl ?_
    refine r_iconst (q := 6) (nI 1) dX12_hasPiece_5 rfl (by decide) ?_
    refine r_icmp_leN (q := 9) (t := 19) (by omega) (by omega) dX12_hasPiece_6 (by decide) rfl (fun h6 => ?_) (fun h6 => absurd h6 (by omega))
    exact K
  | succ j ih =>
    intro hj
    have h4 := cd_takeS (t := p) (j := j) (by omega)
    have h5 := h3 _ (getD_mem (t := p) (j := j) (by omega))
    have h6 := cd_pos (p.take j)
    have h7 := cd_mono (t := p) (j := j + 1)
    refine r_iload_n (q := 5) dX12_hasPiece_4 rfl rfl rfl ?_
    refine r_iconst (q := 6) (nI 1) dX12_hasPiece_5 rfl (by decide) ?_
    refine r_icmp_leN (q := 9) (t := 19) (by omega) (by omega) dX12_hasPiece_6 (by decide) rfl (fun h6 => absurd h6 (by omega)) (fun h6 => ?_)
    refine r_iincN (q := 12) (L' := [some (zr 12 0), some (zi (nI (cd p))), some (zi (nI (p.length - (j + 1) + 1))), some (zi (nI (cd (p.take (j + 1))))), none, none, none]) 1 rfl dX12_hasPiece_9 rfl rfl (by decide) rfl ?_
    refine r_iload_n (q := 13) dX12_hasPiece_12 rfl rfl rfl ?_
    refine r_iconst (q := 14) (nI 2) dX12_hasPiece_13 rfl (by decide) ?_
    refine r_ishr (q := 15) dX12_hasPiece_14 rfl ?_
    refine r_topi (y := nI ((cd (p.take (j + 1))) / 4)) (pk_shrN (show cd (p.take (j + 1)) < 2 ^ 31 by omega) _ 2 (by decide)) ?_
    refine r_istore_n (q := 16) (L' := [some (zr 12 0), some (zi (nI (cd p))), some (zi (nI (p.length - (j + 1) + 1))), some (zi (nI ((cd (p.take (j + 1))) / 4))), none, none, none]) dX12_hasPiece_15 rfl rfl (by decide) rfl ?_
    refine r_goto (q := 4) dX12_hasPiece_16 (by decide) ?_
    have e1 : cd (p.take (j + 1)) / 4 = cd (p.take j) := by omega
    have e2 : p.length - (j + 1) + 1 = p.length - j := by omega
    rw [e1, e2]
    exact ih (by omega)

set_option maxRecDepth 100000 in
theorem lp_hpB {S : zS} (hs : Sd S) {p : List Nat} (h3 : ∀ k, k ∈ p → k ≤ 3) (hl : p.length ≤ 14) {Po : Option zV → zS → Prop} (K : Ok mX12_hasPiece 49 [some (zr 12 0), some (zi (nI (cd p))), some (zi (nI p.length)), some (zi (nI p.length)), none, none, none] [] (stR S 1361 0 p) Po) : ∀ (d k : Nat), k + d = p.length → Ok mX12_hasPiece 21 [some (zr 12 0), some (zi (nI (cd p))), some (zi (nI p.length)), some (zi (nI k)), none, none, none] [] (stR S 1361 0 (p.take k)) Po := by
  intro d
  have hb := cd_le h3 hl
  induction d with
  | zero =>
    intro k hk
    obtain rfl : k = p.length := by omega
    rw [List.take_length]
    refine r_iload_n (q := 22) dX12_hasPiece_21 rfl rfl rfl ?_
    refine r_iload_n (q := 23) dX12_hasPiece_22 rfl rfl rfl ?_
    refine r_icmp_geN (q := 26) (t := 49) (by omega) (by omega) dX12_hasPiece_23 (by decide) rfl (fun h23 => ?_) (fun h23 => absurd h23 (by omega))
    exact K
  | succ d ih =>
    intro k hk
    have h4 := cd_takeS (t := p) (j := k) (by omega)
    have h5 := h3 _ (getD_mem (t := p) (j := k) (by omega))
    have h7 := cd_mono (t := p) (j := k + 1)
    have h8 := cd_take h3 (k + 1) (by omega)
    refine r_iload_n (q := 22) dX12_hasPiece_21 rfl rfl rfl ?_
    refine r_iload_n (q := 23) dX12_hasPiece_22 rfl rfl rfl ?_
    refine r_icmp_geN (q := 26) (t := 49) (by omega) (by omega) dX12_hasPiece_23 (by decide) rfl (fun h23 => absurd h23 (by omega)) (fun h23 => ?_)
    refine r_aload_n (q := 27) dX12_hasPiece_26 rfl rfl rfl ?_
    refine r_getr (q := 30) (some (1361, 0)) ck12 dX12_hasPiece_27 rfl (k := 61) (by decide) wt1339 rfl (hs.e (by decide)) (hs.r (by decide) (by decide)) ?_
    refine r_iload_n (q := 31) dX12_hasPiece_30 rfl rfl rfl ?_
    refine r_iload_n (q := 32) dX12_hasPiece_31 rfl rfl rfl ?_
    refine r_iconst (q := 33) (nI 2) dX12_hasPiece_32 rfl (by decide) ?_
    refine r_iload_n (q := 34) dX12_hasPiece_33 rfl rfl rfl ?_
    refine r_iconst (q := 35) (nI 1) dX12_hasPiece_34 rfl (by decide) ?_
    refine r_isubN (q := 36) (by omega) dX12_hasPiece_35 rfl ?_
    refine r_iload_n (q := 37) dX12_hasPiece_36 rfl rfl rfl ?_
    refine r_isubN (q := 38) (by omega) dX12_hasPiece_37 rfl ?_
    refine r_imulN (q := 39) dX12_hasPiece_38 rfl ?_
    refine r_ishr (q := 40) dX12_hasPiece_39 rfl ?_
    refine r_topi (y := nI (cd (p.take (k + 1)))) (by rw [shr_N (by omega) (by omega), ← h8, show 2 * (p.length - 1 - k) = 2 * (p.length - (k + 1)) by omega]) ?_
    refine r_iconst (q := 41) (nI 3) dX12_hasPiece_40 rfl (by decide) ?_
    refine r_iand (q := 42) dX12_hasPiece_41 rfl ?_
    refine r_topi (y := nI ((cd (p.take (k + 1))) % 4)) (pk_andN (show cd (p.take (k + 1)) < 2 ^ 32 by omega) 2 (by decide)) ?_
    refine r_iastN (q := 43) 16 (by decide) rfl dX12_hasPiece_42 rfl (hs.e (by decide)) (hs.n rfl (by decide)) (by omega) (by decide) ?_
    refine r_iincN (q := 46) (L' := [some (zr 12 0), some (zi (nI (cd p))), some (zi (nI p.length)), some (zi (nI (k + 1))), none, none, none]) 1 rfl dX12_hasPiece_43 rfl rfl (by decide) rfl ?_
    refine r_goto (q := 21) dX12_hasPiece_46 (by decide) ?_
    have e1 : cd (p.take (k + 1)) % 4 = p.getD k 0 := by omega
    have e2 : (p.take k).length = k := by rw [List.length_take]; omega
    have e3 := stR_snoc (S := S) (a := 1361) (b := 0) (v := p.getD k 0) (l := p.take k)
    rw [e2, ← take_snoc (by omega)] at e3
    rw [e1, e3]
    exact ih (k + 1) (by omega)

set_option maxRecDepth 100000 in
theorem lp_hpD {S : zS} (hs : Sd S) {A : Nat} {e : Nat → Nat} (hE : Eok A e) (he : Ew S A e) {pl tln s0 : Nat} (hpl : pl ≤ 14) (htl : tln ≤ 13) {c : Int32} {Po : Option zV → zS → Prop} : ∀ (r u : List Nat) (k a m m' : Nat), k + r.length = pl → a + u.length = tln → (∀ x, x ∈ r → x ≤ 3) → (∀ x, x ∈ u → x ≤ 3) → (∀ i, i < r.length → gI S 1361 0 (k + i) = nI (r.getD i 0)) → (∀ i, i < u.length → gI S 1316 0 (a + i) = nI (u.getD i 0)) → Fs A e r m → Fs A e u m' → m ≤ m' → (∀ a' k', Ok mX12_hasPiece 133 [some (zr 12 0), some (zi c), some (zi (nI pl)), some (zi (nI s0)), a', some (zi (nI (b01 (stn e r u)))), k'] [] S Po) → Ok mX12_hasPiece 68 [some (zr 12 0), some (zi c), some (zi (nI pl)), some (zi (nI s0)), some (zi (nI a)), some (zi (nI 1)), some (zi (nI k))] [] S Po := by
  intro r
  induction r with
  | nil =>
    intro u k a m m' hk ha hr3 hu3 hr hu hf hg hm K
    obtain rfl : k = pl := by simpa using hk
    refine r_iload (q := 70) dX12_hasPiece_68 rfl rfl ?_
    refine r_iload_n (q := 71) dX12_hasPiece_70 rfl rfl rfl ?_
    refine r_icmp_geN (q := 74) (t := 133) (by omega) (by omega) dX12_hasPiece_71 (by decide) rfl (fun h71 => ?_) (fun h71 => absurd h71 (by omega))
    exact K _ _
  | cons x r ih =>
    intro u k a m m' hk ha hr3 hu3 hr hu hf hg hm K
    rw [List.length_cons] at hk
    have hx := hr3 x List.mem_cons_self
    have hr3' := fun q hq => hr3 q (List.mem_cons_of_mem _ hq)
    have r0 : gI S 1361 0 k = nI x := by have := hr 0 (by simp); rw [Nat.add_zero] at this; exact this
    have hr' : ∀ i, i < r.length → gI S 1361 0 (k + 1 + i) = nI (r.getD i 0) := fun i hi => by have := hr (i + 1) (by simp; omega); rw [show k + 1 + i = k + (i + 1) by omega]; exact this
    have h1 := hf.1
    have h2 := hf.2
    rw [stn] at K
    by_cases h0 : x = 0
    · subst h0
      rw [if_pos rfl] at h2 K
      obtain ⟨t1, u', e1, e2, e3, e4⟩ := hg.one (by omega)
      rw [e4] at K
      have hul : u.length = t1.length + u'.length := by rw [e1, List.length_append]
      have ht1 : ∀ i, i < t1.length → gI S 1316 0 (a + i) = nI (t1.getD i 0) := fun i hi => by
        have := hu i (by omega)
        rw [e1, getD_appN, if_pos hi] at this
        exact this
      refine r_iload (q := 70) dX12_hasPiece_68 rfl rfl ?_
      refine r_iload_n (q := 71) dX12_hasPiece_70 rfl rfl rfl ?_
      refine r_icmp_geN (q := 74) (t := 133) (by omega) (by omega) dX12_hasPiece_71 (by decide) rfl (fun h71 => absurd h71 (by omega)) (fun h71 => ?_)
      refine r_iload (q := 76) dX12_hasPiece_74 rfl rfl ?_
      refine r_if_eqN (q := 79) (t := 133) (by omega) dX12_hasPiece_76 (by decide) rfl (fun h76 => absurd h76 (by omega)) (fun h76 => ?_)
      refine r_aload_n (q := 80) dX12_hasPiece_79 rfl rfl rfl ?_
      refine r_getr (q := 83) (some (1361, 0)) ck12 dX12_hasPiece_80 rfl (k := 61) (by decide) wt1339 rfl (hs.e (by decide)) (hs.r (by decide) (by decide)) ?_
      refine r_iload (q := 85) dX12_hasPiece_83 rfl rfl ?_
      refine r_ialdN (q := 86) 16 (by decide) rfl dX12_hasPiece_85 rfl (hs.e (by decide)) (hs.n rfl (by decide)) (by omega) (by decide) ?_
      refine r_topi (y := nI 0) r0 ?_
      refine r_if_neN (q := 89) (t := 100) (by omega) dX12_hasPiece_86 (by decide) rfl (fun h86 => absurd h86 (by omega)) (fun h86 => ?_)
      refine r_aload_n (q := 90) dX12_hasPiece_89 rfl rfl rfl ?_
      refine r_iload (q := 92) dX12_hasPiece_90 rfl rfl ?_
      refine r_callV (Mc := mX12_endOf) (q := 95) (As := [zi (nI a)]) (st := []) ck12 dX12_hasPiece_92 rfl rfl mkX12_endOf wt1864 wt1866 wp123 rfl (Nat.le_of_ble_eq_true rfl) (Nat.le_of_ble_eq_true rfl) (by decide) (by decide) (by decide) (Or.inl rfl) (hs.e (by decide)) (ok_endOfR hs hE he e2 (by omega) (by omega) ht1) (fun r92 S92 hp92 => ?_)
      obtain ⟨rfl, hq92⟩ := hp92
      rw [hq92]
      show Ok _ _ _ [zi (nI (a + t1.length))] _ _
      refine r_istore (q := 97) (L' := [some (zr 12 0), some (zi c), some (zi (nI pl)), some (zi (nI s0)), some (zi (nI (a + t1.length))), some (zi (nI 1)), some (zi (nI k))]) dX12_hasPiece_95 rfl (by decide) rfl ?_
      refine r_goto (q := 127) dX12_hasPiece_97 (by decide) ?_
      refine r_iincN (q := 130) (L' := [some (zr 12 0), some (zi c), some (zi (nI pl)), some (zi (nI s0)), some (zi (nI (a + t1.length))), some (zi (nI 1)), some (zi (nI (k + 1)))]) 1 rfl dX12_hasPiece_127 rfl rfl (by decide) rfl ?_
      refine r_goto (q := 68) dX12_hasPiece_130 (by decide) ?_
      exact ih u' (k + 1) (a + t1.length) (m - 1) (m' - 1) (by omega) (by omega) hr3' (fun q hq => hu3 q (by rw [e1]; exact List.mem_append_right _ hq)) hr' (fun i hi => by
        have := hu (t1.length + i) (by omega)
        rw [e1, getD_appN, if_neg (by omega), Nat.add_sub_cancel_left] at this
        rw [Nat.add_assoc]; exact this) h2 e3 (by omega) K
    · rw [if_neg h0] at h2 K
      cases u with
      | nil =>
        have : m' = 0 := hg
        omega
      | cons y u =>
        rw [List.length_cons] at ha
        have hy := hu3 y List.mem_cons_self
        have K : ∀ a' k', Ok mX12_hasPiece 133 [some (zr 12 0), some (zi c), some (zi (nI pl)), some (zi (nI s0)), a', some (zi (nI (b01 (decide (y = x) && stn e r u)))), k'] [] S Po := K
        have u0 : gI S 1316 0 a = nI y := by have := hu 0 (by simp); rw [Nat.add_zero] at this; exact this
        by_cases hyx : y = x
        · subst hyx
          have g2 := hg.2
          rw [if_neg h0] at g2
          rw [decide_eq_true rfl, Bool.true_and] at K
          refine r_iload (q := 70) dX12_hasPiece_68 rfl rfl ?_
          refine r_iload_n (q := 71) dX12_hasPiece_70 rfl rfl rfl ?_
          refine r_icmp_geN (q := 74) (t := 133) (by omega) (by omega) dX12_hasPiece_71 (by decide) rfl (fun h71 => absurd h71 (by omega)) (fun h71 => ?_)
          refine r_iload (q := 76) dX12_hasPiece_74 rfl rfl ?_
          refine r_if_eqN (q := 79) (t := 133) (by omega) dX12_hasPiece_76 (by decide) rfl (fun h76 => absurd h76 (by omega)) (fun h76 => ?_)
          refine r_aload_n (q := 80) dX12_hasPiece_79 rfl rfl rfl ?_
          refine r_getr (q := 83) (some (1361, 0)) ck12 dX12_hasPiece_80 rfl (k := 61) (by decide) wt1339 rfl (hs.e (by decide)) (hs.r (by decide) (by decide)) ?_
          refine r_iload (q := 85) dX12_hasPiece_83 rfl rfl ?_
          refine r_ialdN (q := 86) 16 (by decide) rfl dX12_hasPiece_85 rfl (hs.e (by decide)) (hs.n rfl (by decide)) (by omega) (by decide) ?_
          refine r_topi (y := nI y) r0 ?_
          refine r_if_neN (q := 89) (t := 100) (by omega) dX12_hasPiece_86 (by decide) rfl (fun h86 => ?_) (fun h86 => absurd h86 (by omega))
          refine r_aload_n (q := 101) dX12_hasPiece_100 rfl rfl rfl ?_
          refine r_getr (q := 104) (some (1316, 0)) ck12 dX12_hasPiece_101 rfl (k := 16) (by decide) wt1294 rfl (hs.e (by decide)) (hs.r (by decide) (by decide)) ?_
          refine r_iload (q := 106) dX12_hasPiece_104 rfl rfl ?_
          refine r_ialdN (q := 107) 16 (by decide) rfl dX12_hasPiece_106 rfl (hs.e (by decide)) (hs.n rfl (by decide)) (by omega) (by decide) ?_
          refine r_topi (y := nI y) u0 ?_
          refine r_aload_n (q := 108) dX12_hasPiece_107 rfl rfl rfl ?_
          refine r_getr (q := 111) (some (1361, 0)) ck12 dX12_hasPiece_108 rfl (k := 61) (by decide) wt1339 rfl (hs.e (by decide)) (hs.r (by decide) (by decide)) ?_
          refine r_iload (q := 113) dX12_hasPiece_111 rfl rfl ?_
          refine r_ialdN (q := 114) 16 (by decide) rfl dX12_hasPiece_113 rfl (hs.e (by decide)) (hs.n rfl (by decide)) (by omega) (by decide) ?_
          refine r_topi (y := nI y) r0 ?_
          refine r_icmp_neN (q := 117) (t := 121) (by omega) (by omega) dX12_hasPiece_114 (by decide) rfl (fun h114 => absurd h114 (by omega)) (fun h114 => ?_)
          refine r_iconst (q := 118) (nI 1) dX12_hasPiece_117 rfl (by decide) ?_
          refine r_goto (q := 122) dX12_hasPiece_118 (by decide) ?_
          refine r_istore (q := 124) (L' := [some (zr 12 0), some (zi c), some (zi (nI pl)), some (zi (nI s0)), some (zi (nI a)), some (zi (nI 1)), some (zi (nI k))]) dX12_hasPiece_122 rfl (by decide) rfl ?_
          refine r_iincN (q := 127) (L' := [some (zr 12 0), some (zi c), some (zi (nI pl)), some (zi (nI s0)), some (zi (nI (a + 1))), some (zi (nI 1)), some (zi (nI k))]) 1 rfl dX12_hasPiece_124 rfl rfl (by decide) rfl ?_
          refine r_iincN (q := 130) (L' := [some (zr 12 0), some (zi c), some (zi (nI pl)), some (zi (nI s0)), some (zi (nI (a + 1))), some (zi (nI 1)), some (zi (nI (k + 1)))]) 1 rfl dX12_hasPiece_127 rfl rfl (by decide) rfl ?_
          refine r_goto (q := 68) dX12_hasPiece_130 (by decide) ?_
          exact ih u (k + 1) (a + 1) (m - 1 + e (y - 1)) (m' - 1 + e (y - 1)) (by omega) (by omega) hr3' (fun q hq => hu3 q (List.mem_cons_of_mem _ hq)) hr' (fun i hi => by
            have := hu (i + 1) (by simp; omega)
            rw [show a + 1 + i = a + (i + 1) by omega]; exact this) h2.2 g2.2 (by omega) K
        · rw [decide_eq_false hyx, Bool.false_and, show b01 false = 0 from rfl] at K
          refine r_iload (q := 70) dX12_hasPiece_68 rfl rfl ?_
          refine r_iload_n (q := 71) dX12_hasPiece_70 rfl rfl rfl ?_
          refine r_icmp_geN (q := 74) (t := 133) (by omega) (by omega) dX12_hasPiece_71 (by decide) rfl (fun h71 => absurd h71 (by omega)) (fun h71 => ?_)
          refine r_iload (q := 76) dX12_hasPiece_74 rfl rfl ?_
          refine r_if_eqN (q := 79) (t := 133) (by omega) dX12_hasPiece_76 (by decide) rfl (fun h76 => absurd h76 (by omega)) (fun h76 => ?_)
          refine r_aload_n (q := 80) dX12_hasPiece_79 rfl rfl rfl ?_
          refine r_getr (q := 83) (some (1361, 0)) ck12 dX12_hasPiece_80 rfl (k := 61) (by decide) wt1339 rfl (hs.e (by decide)) (hs.r (by decide) (by decide)) ?_
          refine r_iload (q := 85) dX12_hasPiece_83 rfl rfl ?_
          refine r_ialdN (q := 86) 16 (by decide) rfl dX12_hasPiece_85 rfl (hs.e (by decide)) (hs.n rfl (by decide)) (by omega) (by decide) ?_
          refine r_topi (y := nI x) r0 ?_
          refine r_if_neN (q := 89) (t := 100) (by omega) dX12_hasPiece_86 (by decide) rfl (fun h86 => ?_) (fun h86 => absurd h86 (by omega))
          refine r_aload_n (q := 101) dX12_hasPiece_100 rfl rfl rfl ?_
          refine r_getr (q := 104) (some (1316, 0)) ck12 dX12_hasPiece_101 rfl (k := 16) (by decide) wt1294 rfl (hs.e (by decide)) (hs.r (by decide) (by decide)) ?_
          refine r_iload (q := 106) dX12_hasPiece_104 rfl rfl ?_
          refine r_ialdN (q := 107) 16 (by decide) rfl dX12_hasPiece_106 rfl (hs.e (by decide)) (hs.n rfl (by decide)) (by omega) (by decide) ?_
          refine r_topi (y := nI y) u0 ?_
          refine r_aload_n (q := 108) dX12_hasPiece_107 rfl rfl rfl ?_
          refine r_getr (q := 111) (some (1361, 0)) ck12 dX12_hasPiece_108 rfl (k := 61) (by decide) wt1339 rfl (hs.e (by decide)) (hs.r (by decide) (by decide)) ?_
          refine r_iload (q := 113) dX12_hasPiece_111 rfl rfl ?_
          refine r_ialdN (q := 114) 16 (by decide) rfl dX12_hasPiece_113 rfl (hs.e (by decide)) (hs.n rfl (by decide)) (by omega) (by decide) ?_
          refine r_topi (y := nI x) r0 ?_
          refine r_icmp_neN (q := 117) (t := 121) (by omega) (by omega) dX12_hasPiece_114 (by decide) rfl (fun h114 => ?_) (fun h114 => absurd h114 (by omega))
          refine r_iconst (q := 122) (nI 0) dX12_hasPiece_121 rfl (by decide) ?_
          refine r_istore (q := 124) (L' := [some (zr 12 0), some (zi c), some (zi (nI pl)), some (zi (nI s0)), some (zi (nI a)), some (zi (nI 0)), some (zi (nI k))]) dX12_hasPiece_122 rfl (by decide) rfl ?_
          refine r_iincN (q := 127) (L' := [some (zr 12 0), some (zi c), some (zi (nI pl)), some (zi (nI s0)), some (zi (nI (a + 1))), some (zi (nI 0)), some (zi (nI k))]) 1 rfl dX12_hasPiece_124 rfl rfl (by decide) rfl ?_
          refine r_iincN (q := 130) (L' := [some (zr 12 0), some (zi c), some (zi (nI pl)), some (zi (nI s0)), some (zi (nI (a + 1))), some (zi (nI 0)), some (zi (nI (k + 1)))]) 1 rfl dX12_hasPiece_127 rfl rfl (by decide) rfl ?_
          refine r_goto (q := 68) dX12_hasPiece_130 (by decide) ?_
          refine r_iload (q := 70) dX12_hasPiece_68 rfl rfl ?_
          refine r_iload_n (q := 71) dX12_hasPiece_70 rfl rfl rfl ?_
          refine r_icmp_geN (q := 74) (t := 133) (by omega) (by omega) dX12_hasPiece_71 (by decide) rfl (fun h71 => ?_) (fun h71 => ?_)
          · skip
            exact K _ _
          · skip
            refine r_iload (q := 76) dX12_hasPiece_74 rfl rfl ?_
            refine r_if_eqN (q := 79) (t := 133) (by omega) dX12_hasPiece_76 (by decide) rfl (fun h76 => ?_) (fun h76 => absurd h76 (by omega))
            exact K _ _

set_option maxRecDepth 100000 in
theorem lp_hpC {S : zS} (hs : Sd S) {A n : Nat} {e : Nat → Nat} (hE : Eok A e) (he : Ew S A e) {p t : List Nat} (hp : Fs A e p 1) (hpl : p.length ≤ 13) (ht : Tr A e n t) (hn7 : n ≤ 7) (h20 : gI S 12 0 20 = nI t.length) (hpr : ∀ i, i < p.length → gI S 1361 0 i = nI (p.getD i 0)) (htr : ∀ i, i < t.length → gI S 1316 0 i = nI (t.getD i 0)) {c : Int32} : ∀ (d s : Nat) (w4 w5 w6 : Option zV), s + d = t.length → (∀ s', s' < s → stn e p (t.drop s') = false) → Ok mX12_hasPiece 51 [some (zr 12 0), some (zi c), some (zi (nI p.length)), some (zi (nI s)), w4, w5, w6] [] S (fun r S1 => r = some (zi (nI (b01 (hasP e p t)))) ∧ S1 = S) := by
  have htl := (ht.len hE).1
  have hp3 : ∀ x, x ∈ p → x ≤ 3 := fun x hx => Nat.le_trans (hp.tok x hx) hE.1
  have ht3 := ht.tok hE
  intro d
  induction d with
  | zero =>
    intro s w4 w5 w6 hs' hno
    obtain rfl : s = t.length := by omega
    have hf : hasP e p t = false := by
      unfold hasP
      rw [List.any_eq_false]
      intro x hx
      have := hno x (List.mem_range.mp hx)
      rw [this]; simp
    rw [hf]
    refine r_mask [true, true, true, true, false, false, false] rfl ?_
    refine r_iload_n (q := 52) dX12_hasPiece_51 rfl rfl rfl ?_
    refine r_aload_n (q := 53) dX12_hasPiece_52 rfl rfl rfl ?_
    refine r_geti (q := 56) ck12 dX12_hasPiece_53 rfl (k := 20) (by decide) wt1298 (Or.inl rfl) (hs.e (by decide)) ?_
    refine r_topi (y := nI t.length) h20 ?_
    refine r_icmp_geN (q := 59) (t := 146) (by omega) (by omega) dX12_hasPiece_56 (by decide) rfl (fun h56 => ?_) (fun h56 => absurd h56 (by omega))
    refine r_iconst (q := 147) (nI 0) dX12_hasPiece_146 rfl (by decide) ?_
    refine r_zreturn (by decide) dX12_hasPiece_147 rfl ?_
    exact ⟨rfl, rfl⟩
  | succ d ih =>
    intro s w4 w5 w6 hs' hno
    refine r_mask [true, true, true, true, false, false, false] rfl ?_
    have e0 : t = t.take s ++ t.drop s := (List.take_append_drop s t).symm
    have h1 := ht.1
    rw [e0] at h1
    obtain ⟨k, c1, c2⟩ := h1.cut
    have hdl : (t.drop s).length = t.length - s := List.length_drop
    have hk : 1 ≤ k := by
      rcases Nat.lt_or_ge 0 k with q | q
      · exact q
      · have h0 : k = 0 := by omega
        subst h0
        cases hd : t.drop s with
        | nil => rw [hd] at hdl; simp at hdl; omega
        | cons x u => rw [hd] at c2; exact absurd c2.1 (by omega)
    refine r_iload_n (q := 52) dX12_hasPiece_51 rfl rfl rfl ?_
    refine r_aload_n (q := 53) dX12_hasPiece_52 rfl rfl rfl ?_
    refine r_geti (q := 56) ck12 dX12_hasPiece_53 rfl (k := 20) (by decide) wt1298 (Or.inl rfl) (hs.e (by decide)) ?_
    refine r_topi (y := nI t.length) h20 ?_
    refine r_icmp_geN (q := 59) (t := 146) (by omega) (by omega) dX12_hasPiece_56 (by decide) rfl (fun h56 => absurd h56 (by omega)) (fun h56 => ?_)
    refine r_iload_n (q := 60) dX12_hasPiece_59 rfl rfl rfl ?_
    refine r_istore (q := 62) (L' := [some (zr 12 0), some (zi c), some (zi (nI p.length)), some (zi (nI s)), some (zi (nI s)), none, none]) dX12_hasPiece_60 rfl (by decide) rfl ?_
    refine r_iconst (q := 63) (nI 1) dX12_hasPiece_62 rfl (by decide) ?_
    refine r_istore (q := 65) (L' := [some (zr 12 0), some (zi c), some (zi (nI p.length)), some (zi (nI s)), some (zi (nI s)), some (zi (nI 1)), none]) dX12_hasPiece_63 rfl (by decide) rfl ?_
    refine r_iconst (q := 66) (nI 0) dX12_hasPiece_65 rfl (by decide) ?_
    refine r_istore (q := 68) (L' := [some (zr 12 0), some (zi c), some (zi (nI p.length)), some (zi (nI s)), some (zi (nI s)), some (zi (nI 1)), some (zi (nI 0))]) dX12_hasPiece_66 rfl (by decide) rfl ?_
    refine lp_hpD hs hE he (by omega) (show t.length ≤ 13 by omega) p (t.drop s) 0 s 1 k (by omega) (by omega) hp3 (fun x hx => ht3 x (List.mem_of_mem_drop hx)) (fun i hi => by rw [Nat.zero_add]; exact hpr i hi) (fun i hi => by
      rw [hdl] at hi
      have := htr (s + i) (by omega)
      rw [this, List.getD_eq_getElem?_getD, List.getD_eq_getElem?_getD, List.getElem?_drop]) hp c2 hk (fun a' k' => ?_)
    cases hst : stn e p (t.drop s) with
    | true =>
      have hf : hasP e p t = true := by
        unfold hasP
        rw [List.any_eq_true]
        exact ⟨s, List.mem_range.mpr (by omega), hst⟩
      rw [hf, show b01 true = 1 from rfl]
      refine r_mask [true, true, true, true, false, true, false] rfl ?_
      refine r_iload (q := 135) dX12_hasPiece_133 rfl rfl ?_
      refine r_if_eqN (q := 138) (t := 140) (by omega) dX12_hasPiece_135 (by decide) rfl (fun h135 => absurd h135 (by omega)) (fun h135 => ?_)
      refine r_iconst (q := 139) (nI 1) dX12_hasPiece_138 rfl (by decide) ?_
      refine r_zreturn (by decide) dX12_hasPiece_139 rfl ?_
      exact ⟨rfl, rfl⟩
    | false =>
      rw [show b01 false = 0 from rfl]
      refine r_mask [true, true, true, true, false, true, false] rfl ?_
      refine r_iload (q := 135) dX12_hasPiece_133 rfl rfl ?_
      refine r_if_eqN (q := 138) (t := 140) (by omega) dX12_hasPiece_135 (by decide) rfl (fun h135 => ?_) (fun h135 => absurd h135 (by omega))
      refine r_iincN (q := 143) (L' := [some (zr 12 0), some (zi c), some (zi (nI p.length)), some (zi (nI (s + 1))), none, some (zi (nI 0)), none]) 1 rfl dX12_hasPiece_140 rfl rfl (by decide) rfl ?_
      refine r_goto (q := 51) dX12_hasPiece_143 (by decide) ?_
      exact ih (s + 1) _ _ _ (by omega) (fun s' h => if e9 : s' = s then by rw [e9]; exact hst else hno s' (by omega))

set_option maxRecDepth 100000 in
theorem ok_hasPiece {S : zS} (hs : Sd S) {A n : Nat} {e : Nat → Nat} (hE : Eok A e) (he : Ew S A e) {p t : List Nat} (hp : Fs A e p 1) (hpl : p.length ≤ 13) (ht : Tr A e n t) (hn7 : n ≤ 7) (h20 : gI S 12 0 20 = nI t.length) (htr : ∀ i, i < t.length → gI S 1316 0 i = nI (t.getD i 0)) : Ok mX12_hasPiece 0 (ent 7 [zr 12 0, zi (nI (cd p))]) [] S (fun r S1 => r = some (zi (nI (b01 (hasP e p t)))) ∧ Fr (fun x y _ => x == 1361 && y == 0) S S1) := by
  have h3 : ∀ x, x ∈ p → x ≤ 3 := fun x hx => Nat.le_trans (hp.tok x hx) hE.1
  show Ok mX12_hasPiece 0 [some (zr 12 0), some (zi (nI (cd p))), none, none, none, none, none] [] S _
  refine r_iconst (q := 1) (nI 0) dX12_hasPiece_0 rfl (by decide) ?_
  refine r_istore_n (q := 2) (L' := [some (zr 12 0), some (zi (nI (cd p))), some (zi (nI 0)), none, none, none, none]) dX12_hasPiece_1 rfl rfl (by decide) rfl ?_
  refine r_iload_n (q := 3) dX12_hasPiece_2 rfl rfl rfl ?_
  refine r_istore_n (q := 4) (L' := [some (zr 12 0), some (zi (nI (cd p))), some (zi (nI 0)), some (zi (nI (cd p))), none, none, none]) dX12_hasPiece_3 rfl rfl (by decide) rfl ?_
  have q := lp_hpA hs h3 (by omega) (Po := fun r S1 => r = some (zi (nI (b01 (hasP e p t)))) ∧ Fr (fun x y _ => x == 1361 && y == 0) S S1) ?_ p.length (Nat.le_refl _)
  · rw [Nat.sub_self, List.take_length] at q; exact q
  · skip
    refine r_iconst (q := 20) (nI 0) dX12_hasPiece_19 rfl (by decide) ?_
    refine r_istore_n (q := 21) (L' := [some (zr 12 0), some (zi (nI (cd p))), some (zi (nI p.length)), some (zi (nI 0)), none, none, none]) dX12_hasPiece_20 rfl rfl (by decide) rfl ?_
    have q2 := lp_hpB hs h3 (by omega) (Po := fun r S1 => r = some (zi (nI (b01 (hasP e p t)))) ∧ Fr (fun x y _ => x == 1361 && y == 0) S S1) ?_ p.length 0 (by omega)
    · rw [List.take_zero, stR_nil] at q2; exact q2
    · skip
      refine r_iconst (q := 50) (nI 0) dX12_hasPiece_49 rfl (by decide) ?_
      refine r_istore_n (q := 51) (L' := [some (zr 12 0), some (zi (nI (cd p))), some (zi (nI p.length)), some (zi (nI 0)), none, none, none]) dX12_hasPiece_50 rfl rfl (by decide) rfl ?_
      have fX : Fr (fun x y _ => x == 1361 && y == 0) S (stR S 1361 0 p) := Fr.stR Fr.rf (fun _ => rfl)
      refine Ok.mono (lp_hpC (S := stR S 1361 0 p) hs hE (fun a ha => (fX.1 _ _ _ rfl).trans (he a ha)) hp hpl ht hn7 ((fX.1 _ _ _ rfl).trans h20) (fun i hi => gI_stR_k hi) (fun i hi => (fX.1 _ _ _ rfl).trans (htr i hi)) t.length 0 none none none (by omega) (fun s' h => absurd h (by omega))) (fun r S1 z => ⟨z.1, by rw [z.2]; exact fX⟩)

def tBo (x y k : Nat) : Bool := y == 0 && (x == 1361 || x == 1316 || x == 12 && k == 20)
/-- the laws of the world at hand, as far as bare trees ask for them -/
def Lb (S : zS) (W : zWd) : Prop := gI S 1306 0 2 = nI (wL W) ∧ (∀ L, L ≤ wL W → gI S 1306 0 (25 + L) = nI (lf W L)) ∧ (∀ L, L < wL W → 0 < (lw W L).2.length → gI S 1306 0 (44 + lf W L) = nI (cd ((lw W L).2.getD 0 zd).1)) ∧ Ew S (wA W) (we W)
theorem Lb.fr {S S1 : zS} {W : zWd} (h : Lb S W) {U : Nat → Nat → Nat → Bool} (f : Fr U S S1) (t : ∀ k, U 1306 0 k = false) : Lb S1 W := ⟨(f.1 _ _ _ (t _)).trans h.1, fun L hL => (f.1 _ _ _ (t _)).trans (h.2.1 L hL), fun L hL h0 => (f.1 _ _ _ (t _)).trans (h.2.2.1 L hL h0), fun a ha => (f.1 _ _ _ (t _)).trans (h.2.2.2 a ha)⟩
theorem Lb.of {S : zS} {W : zWd} {n9 : Nat → Int64} (h : wqR W (fun k => gI S 1306 0 k) n9) : Lb S W := ⟨h.2.2.1, h.2.2.2.2.2.1, fun L hL h0 => (h.2.2.2.2.2.2 L 0 hL h0).1, fun a ha => (h.2.2.2.1 a ha).1⟩
def okB (W : zWd) (t : List Nat) (L : Nat) : Bool := decide ((lw W L).2.length = 0) || !hasP (we W) ((lw W L).2.getD 0 zd).1 t
theorem isB_t {W : zWd} {t : List Nat} (h : ∀ L, L < wL W → okB W t L = true) : isB W t = true := List.all_eq_true.mpr fun L hL => h L (List.mem_range.mp hL)
theorem isB_f {W : zWd} {t : List Nat} {L : Nat} (hL : L < wL W) (h : okB W t L = false) : isB W t = false := by
  cases z : isB W t with
  | false => rfl
  | true => have := List.all_eq_true.mp z L (List.mem_range.mpr hL); exact absurd (h.symm.trans this) (by decide)

set_option maxRecDepth 100000 in
theorem lp_bo37 {W : zWd} (hW : Wok W) {n sm0 c : Nat} (hn7 : n ≤ 7) {t : List Nat} (ht : Tr (wA W) (we W) n t) {Po : Option zV → zS → Prop} : ∀ (d L : Nat) (S : zS), L + d = wL W → Sd S → Lb S W → gI S 12 0 20 = nI t.length → (∀ i, i < t.length → gI S 1316 0 i = nI (t.getD i 0)) → (∀ l, l < L → okB W t l = true) → (∀ S1 l', Fr tBo S S1 → Ok mX12_bareOf 116 [some (zr 12 0), some (zi (nI n)), some (zi (nI sm0)), some (zi (nI c)), some (zi (nI (b01 (isB W t)))), l'] [] S1 Po) → Ok mX12_bareOf 37 [some (zr 12 0), some (zi (nI n)), some (zi (nI sm0)), some (zi (nI c)), some (zi (nI 1)), some (zi (nI L))] [] S Po := by
  have hE := hW.2.1
  have h18 := hW.2.2.2.1
  have hlf := hW.2.2.2.2.1
  intro d
  induction d with
  | zero =>
    intro L S hd hs hb h20 htr hok K
    obtain rfl : L = wL W := by omega
    have b1 := hb.1
    rw [isB_t hok] at K
    refine r_iload (q := 39) dX12_bareOf_37 rfl rfl ?_
    refine r_aload_n (q := 40) dX12_bareOf_39 rfl rfl rfl ?_
    refine r_getr (q := 43) (some (1306, 0)) ck12 dX12_bareOf_40 rfl (k := 6) (by decide) wt1284 rfl (hs.e (by decide)) (hs.r (by decide) (by decide)) ?_
    refine r_iconst (q := 44) (nI 2) dX12_bareOf_43 rfl (by decide) ?_
    refine r_ialdN (q := 45) 3775 (by decide) rfl dX12_bareOf_44 rfl (hs.e (by decide)) (hs.n rfl (by decide)) (by omega) (by decide) ?_
    refine r_topi (y := nI (wL W)) b1 ?_
    refine r_icmp_geN (q := 48) (t := 116) (by omega) (by omega) dX12_bareOf_45 (by decide) rfl (fun h45 => ?_) (fun h45 => absurd h45 (by omega))
    exact K S _ Fr.rf
  | succ d ih =>
    intro L S hd hs hb h20 htr hok K
    have hL : L < wL W := by omega
    have b1 := hb.1
    have b2 := hb.2.1 L (by omega)
    have b3 := hb.2.1 (L + 1) (by omega)
    rw [lf_succ hL] at b3
    have hlf2 := hW.lf2 hL
    by_cases h0 : (lw W L).2.length = 0
    · have hk : okB W t L = true := by simp [okB, h0]
      rw [h0, Nat.add_zero] at b3
      refine r_iload (q := 39) dX12_bareOf_37 rfl rfl ?_
      refine r_aload_n (q := 40) dX12_bareOf_39 rfl rfl rfl ?_
      refine r_getr (q := 43) (some (1306, 0)) ck12 dX12_bareOf_40 rfl (k := 6) (by decide) wt1284 rfl (hs.e (by decide)) (hs.r (by decide) (by decide)) ?_
      refine r_iconst (q := 44) (nI 2) dX12_bareOf_43 rfl (by decide) ?_
      refine r_ialdN (q := 45) 3775 (by decide) rfl dX12_bareOf_44 rfl (hs.e (by decide)) (hs.n rfl (by decide)) (by omega) (by decide) ?_
      refine r_topi (y := nI (wL W)) b1 ?_
      refine r_icmp_geN (q := 48) (t := 116) (by omega) (by omega) dX12_bareOf_45 (by decide) rfl (fun h45 => absurd h45 (by omega)) (fun h45 => ?_)
      refine r_iload (q := 50) dX12_bareOf_48 rfl rfl ?_
      refine r_if_eqN (q := 53) (t := 116) (by omega) dX12_bareOf_50 (by decide) rfl (fun h50 => absurd h50 (by omega)) (fun h50 => ?_)
      refine r_aload_n (q := 54) dX12_bareOf_53 rfl rfl rfl ?_
      refine r_getr (q := 57) (some (1306, 0)) ck12 dX12_bareOf_54 rfl (k := 6) (by decide) wt1284 rfl (hs.e (by decide)) (hs.r (by decide) (by decide)) ?_
      refine r_bipush (q := 59) (nI 25) dX12_bareOf_57 rfl (by decide) ?_
      refine r_iload (q := 61) dX12_bareOf_59 rfl rfl ?_
      refine r_iaddN (q := 62) dX12_bareOf_61 rfl ?_
      refine r_ialdN (q := 63) 3775 (by decide) rfl dX12_bareOf_62 rfl (hs.e (by decide)) (hs.n rfl (by decide)) (by omega) (by decide) ?_
      refine r_topi (y := nI (lf W L)) b2 ?_
      refine r_aload_n (q := 64) dX12_bareOf_63 rfl rfl rfl ?_
      refine r_getr (q := 67) (some (1306, 0)) ck12 dX12_bareOf_64 rfl (k := 6) (by decide) wt1284 rfl (hs.e (by decide)) (hs.r (by decide) (by decide)) ?_
      refine r_bipush (q := 69) (nI 25) dX12_bareOf_67 rfl (by decide) ?_
      refine r_iload (q := 71) dX12_bareOf_69 rfl rfl ?_
      refine r_iaddN (q := 72) dX12_bareOf_71 rfl ?_
      refine r_iconst (q := 73) (nI 1) dX12_bareOf_72 rfl (by decide) ?_
      refine r_iaddN (q := 74) dX12_bareOf_73 rfl ?_
      refine r_ialdN (q := 75) 3775 (by decide) rfl dX12_bareOf_74 rfl (hs.e (by decide)) (hs.n rfl (by decide)) (by omega) (by decide) ?_
      refine r_topi (y := nI (lf W L)) b3 ?_
      refine r_icmp_eqN (q := 78) (t := 103) (by omega) (by omega) dX12_bareOf_75 (by decide) rfl (fun h75 => ?_) (fun h75 => absurd h75 (by omega))
      refine r_iconst (q := 104) (nI 1) dX12_bareOf_103 rfl (by decide) ?_
      refine r_goto (q := 108) dX12_bareOf_104 (by decide) ?_
      refine r_istore (q := 110) (L' := [some (zr 12 0), some (zi (nI n)), some (zi (nI sm0)), some (zi (nI c)), some (zi (nI 1)), some (zi (nI L))]) dX12_bareOf_108 rfl (by decide) rfl ?_
      refine r_iincN (q := 113) (L' := [some (zr 12 0), some (zi (nI n)), some (zi (nI sm0)), some (zi (nI c)), some (zi (nI 1)), some (zi (nI (L + 1)))]) 1 rfl dX12_bareOf_110 rfl rfl (by decide) rfl ?_
      refine r_goto (q := 37) dX12_bareOf_113 (by decide) ?_
      exact ih (L + 1) S (by omega) hs hb h20 htr (fun l hl => if e9 : l = L then by rw [e9]; exact hk else hok l (by omega)) K
    · obtain ⟨hlt, _⟩ := law_get hW hL (show 0 < (lw W L).2.length by omega)
      have hll := (hlt.len hE).1
      have hL7 := (hW.2.2.2.2.2 L hL).2.1
      have b4 := hb.2.2.1 L hL (by omega)
      have hhp := ok_hasPiece hs hE hb.2.2.2 hlt.1 (by omega) ht hn7 h20 htr
      cases hh : hasP (we W) ((lw W L).2.getD 0 zd).1 t with
      | false =>
        rw [hh] at hhp
        have hk : okB W t L = true := by unfold okB; rw [hh]; simp
        refine r_iload (q := 39) dX12_bareOf_37 rfl rfl ?_
        refine r_aload_n (q := 40) dX12_bareOf_39 rfl rfl rfl ?_
        refine r_getr (q := 43) (some (1306, 0)) ck12 dX12_bareOf_40 rfl (k := 6) (by decide) wt1284 rfl (hs.e (by decide)) (hs.r (by decide) (by decide)) ?_
        refine r_iconst (q := 44) (nI 2) dX12_bareOf_43 rfl (by decide) ?_
        refine r_ialdN (q := 45) 3775 (by decide) rfl dX12_bareOf_44 rfl (hs.e (by decide)) (hs.n rfl (by decide)) (by omega) (by decide) ?_
        refine r_topi (y := nI (wL W)) b1 ?_
        refine r_icmp_geN (q := 48) (t := 116) (by omega) (by omega) dX12_bareOf_45 (by decide) rfl (fun h45 => absurd h45 (by omega)) (fun h45 => ?_)
        refine r_iload (q := 50) dX12_bareOf_48 rfl rfl ?_
        refine r_if_eqN (q := 53) (t := 116) (by omega) dX12_bareOf_50 (by decide) rfl (fun h50 => absurd h50 (by omega)) (fun h50 => ?_)
        refine r_aload_n (q := 54) dX12_bareOf_53 rfl rfl rfl ?_
        refine r_getr (q := 57) (some (1306, 0)) ck12 dX12_bareOf_54 rfl (k := 6) (by decide) wt1284 rfl (hs.e (by decide)) (hs.r (by decide) (by decide)) ?_
        refine r_bipush (q := 59) (nI 25) dX12_bareOf_57 rfl (by decide) ?_
        refine r_iload (q := 61) dX12_bareOf_59 rfl rfl ?_
        refine r_iaddN (q := 62) dX12_bareOf_61 rfl ?_
        refine r_ialdN (q := 63) 3775 (by decide) rfl dX12_bareOf_62 rfl (hs.e (by decide)) (hs.n rfl (by decide)) (by omega) (by decide) ?_
        refine r_topi (y := nI (lf W L)) b2 ?_
        refine r_aload_n (q := 64) dX12_bareOf_63 rfl rfl rfl ?_
        refine r_getr (q := 67) (some (1306, 0)) ck12 dX12_bareOf_64 rfl (k := 6) (by decide) wt1284 rfl (hs.e (by decide)) (hs.r (by decide) (by decide)) ?_
        refine r_bipush (q := 69) (nI 25) dX12_bareOf_67 rfl (by decide) ?_
        refine r_iload (q := 71) dX12_bareOf_69 rfl rfl ?_
        refine r_iaddN (q := 72) dX12_bareOf_71 rfl ?_
        refine r_iconst (q := 73) (nI 1) dX12_bareOf_72 rfl (by decide) ?_
        refine r_iaddN (q := 74) dX12_bareOf_73 rfl ?_
        refine r_ialdN (q := 75) 3775 (by decide) rfl dX12_bareOf_74 rfl (hs.e (by decide)) (hs.n rfl (by decide)) (by omega) (by decide) ?_
        refine r_topi (y := nI (lf W L + (lw W L).2.length)) b3 ?_
        refine r_icmp_eqN (q := 78) (t := 103) (by omega) (by omega) dX12_bareOf_75 (by decide) rfl (fun h75 => absurd h75 (by omega)) (fun h75 => ?_)
        refine r_aload_n (q := 79) dX12_bareOf_78 rfl rfl rfl ?_
        refine r_aload_n (q := 80) dX12_bareOf_79 rfl rfl rfl ?_
        refine r_getr (q := 83) (some (1306, 0)) ck12 dX12_bareOf_80 rfl (k := 6) (by decide) wt1284 rfl (hs.e (by decide)) (hs.r (by decide) (by decide)) ?_
        refine r_bipush (q := 85) (nI 44) dX12_bareOf_83 rfl (by decide) ?_
        refine r_aload_n (q := 86) dX12_bareOf_85 rfl rfl rfl ?_
        refine r_getr (q := 89) (some (1306, 0)) ck12 dX12_bareOf_86 rfl (k := 6) (by decide) wt1284 rfl (hs.e (by decide)) (hs.r (by decide) (by decide)) ?_
        refine r_bipush (q := 91) (nI 25) dX12_bareOf_89 rfl (by decide) ?_
        refine r_iload (q := 93) dX12_bareOf_91 rfl rfl ?_
        refine r_iaddN (q := 94) dX12_bareOf_93 rfl ?_
        refine r_ialdN (q := 95) 3775 (by decide) rfl dX12_bareOf_94 rfl (hs.e (by decide)) (hs.n rfl (by decide)) (by omega) (by decide) ?_
        refine r_topi (y := nI (lf W L)) b2 ?_
        refine r_iaddN (q := 96) dX12_bareOf_95 rfl ?_
        refine r_ialdN (q := 97) 3775 (by decide) rfl dX12_bareOf_96 rfl (hs.e (by decide)) (hs.n rfl (by decide)) (by omega) (by decide) ?_
        refine r_topi (y := nI (cd ((lw W L).2.getD 0 zd).1)) b4 ?_
        refine r_callV (Mc := mX12_hasPiece) (q := 100) (As := [zi (nI (cd ((lw W L).2.getD 0 zd).1))]) (st := []) ck12 dX12_bareOf_97 rfl rfl mkX12_hasPiece wt1860 wt1862 wp122 rfl (Nat.le_of_ble_eq_true rfl) (Nat.le_of_ble_eq_true rfl) (by decide) (by decide) (by decide) (Or.inl rfl) (hs.e (by decide)) hhp (fun r97 S97 hp97 => ?_)
        obtain ⟨rfl, f1⟩ := hp97
        have hs1 := hs.fr f1
        have f2 : Fr tBo S S97 := f1.mono (fun x y k h => by simp at h; simp [tBo, h.1, h.2])
        show Ok _ _ _ [zi (nI 0)] _ _
        refine r_if_neN (q := 103) (t := 107) (by omega) dX12_bareOf_100 (by decide) rfl (fun h100 => absurd h100 (by omega)) (fun h100 => ?_)
        refine r_iconst (q := 104) (nI 1) dX12_bareOf_103 rfl (by decide) ?_
        refine r_goto (q := 108) dX12_bareOf_104 (by decide) ?_
        refine r_istore (q := 110) (L' := [some (zr 12 0), some (zi (nI n)), some (zi (nI sm0)), some (zi (nI c)), some (zi (nI 1)), some (zi (nI L))]) dX12_bareOf_108 rfl (by decide) rfl ?_
        refine r_iincN (q := 113) (L' := [some (zr 12 0), some (zi (nI n)), some (zi (nI sm0)), some (zi (nI c)), some (zi (nI 1)), some (zi (nI (L + 1)))]) 1 rfl dX12_bareOf_110 rfl rfl (by decide) rfl ?_
        refine r_goto (q := 37) dX12_bareOf_113 (by decide) ?_
        exact ih (L + 1) S97 (by omega) hs1 (hb.fr f1 (fun _ => rfl)) ((f1.1 _ _ _ rfl).trans h20) (fun i hi => (f1.1 _ _ _ rfl).trans (htr i hi)) (fun l hl => if e9 : l = L then by rw [e9]; exact hk else hok l (by omega)) (fun S1 l' y => K S1 l' (f2.tr y))
      | true =>
        rw [hh] at hhp
        rw [isB_f hL (by unfold okB; rw [hh, decide_eq_false h0]; rfl), show b01 false = 0 from rfl] at K
        refine r_iload (q := 39) dX12_bareOf_37 rfl rfl ?_
        refine r_aload_n (q := 40) dX12_bareOf_39 rfl rfl rfl ?_
        refine r_getr (q := 43) (some (1306, 0)) ck12 dX12_bareOf_40 rfl (k := 6) (by decide) wt1284 rfl (hs.e (by decide)) (hs.r (by decide) (by decide)) ?_
        refine r_iconst (q := 44) (nI 2) dX12_bareOf_43 rfl (by decide) ?_
        refine r_ialdN (q := 45) 3775 (by decide) rfl dX12_bareOf_44 rfl (hs.e (by decide)) (hs.n rfl (by decide)) (by omega) (by decide) ?_
        refine r_topi (y := nI (wL W)) b1 ?_
        refine r_icmp_geN (q := 48) (t := 116) (by omega) (by omega) dX12_bareOf_45 (by decide) rfl (fun h45 => absurd h45 (by omega)) (fun h45 => ?_)
        refine r_iload (q := 50) dX12_bareOf_48 rfl rfl ?_
        refine r_if_eqN (q := 53) (t := 116) (by omega) dX12_bareOf_50 (by decide) rfl (fun h50 => absurd h50 (by omega)) (fun h50 => ?_)
        refine r_aload_n (q := 54) dX12_bareOf_53 rfl rfl rfl ?_
        refine r_getr (q := 57) (some (1306, 0)) ck12 dX12_bareOf_54 rfl (k := 6) (by decide) wt1284 rfl (hs.e (by decide)) (hs.r (by decide) (by decide)) ?_
        refine r_bipush (q := 59) (nI 25) dX12_bareOf_57 rfl (by decide) ?_
        refine r_iload (q := 61) dX12_bareOf_59 rfl rfl ?_
        refine r_iaddN (q := 62) dX12_bareOf_61 rfl ?_
        refine r_ialdN (q := 63) 3775 (by decide) rfl dX12_bareOf_62 rfl (hs.e (by decide)) (hs.n rfl (by decide)) (by omega) (by decide) ?_
        refine r_topi (y := nI (lf W L)) b2 ?_
        refine r_aload_n (q := 64) dX12_bareOf_63 rfl rfl rfl ?_
        refine r_getr (q := 67) (some (1306, 0)) ck12 dX12_bareOf_64 rfl (k := 6) (by decide) wt1284 rfl (hs.e (by decide)) (hs.r (by decide) (by decide)) ?_
        refine r_bipush (q := 69) (nI 25) dX12_bareOf_67 rfl (by decide) ?_
        refine r_iload (q := 71) dX12_bareOf_69 rfl rfl ?_
        refine r_iaddN (q := 72) dX12_bareOf_71 rfl ?_
        refine r_iconst (q := 73) (nI 1) dX12_bareOf_72 rfl (by decide) ?_
        refine r_iaddN (q := 74) dX12_bareOf_73 rfl ?_
        refine r_ialdN (q := 75) 3775 (by decide) rfl dX12_bareOf_74 rfl (hs.e (by decide)) (hs.n rfl (by decide)) (by omega) (by decide) ?_
        refine r_topi (y := nI (lf W L + (lw W L).2.length)) b3 ?_
        refine r_icmp_eqN (q := 78) (t := 103) (by omega) (by omega) dX12_bareOf_75 (by decide) rfl (fun h75 => absurd h75 (by omega)) (fun h75 => ?_)
        refine r_aload_n (q := 79) dX12_bareOf_78 rfl rfl rfl ?_
        refine r_aload_n (q := 80) dX12_bareOf_79 rfl rfl rfl ?_
        refine r_getr (q := 83) (some (1306, 0)) ck12 dX12_bareOf_80 rfl (k := 6) (by decide) wt1284 rfl (hs.e (by decide)) (hs.r (by decide) (by decide)) ?_
        refine r_bipush (q := 85) (nI 44) dX12_bareOf_83 rfl (by decide) ?_
        refine r_aload_n (q := 86) dX12_bareOf_85 rfl rfl rfl ?_
        refine r_getr (q := 89) (some (1306, 0)) ck12 dX12_bareOf_86 rfl (k := 6) (by decide) wt1284 rfl (hs.e (by decide)) (hs.r (by decide) (by decide)) ?_
        refine r_bipush (q := 91) (nI 25) dX12_bareOf_89 rfl (by decide) ?_
        refine r_iload (q := 93) dX12_bareOf_91 rfl rfl ?_
        refine r_iaddN (q := 94) dX12_bareOf_93 rfl ?_
        refine r_ialdN (q := 95) 3775 (by decide) rfl dX12_bareOf_94 rfl (hs.e (by decide)) (hs.n rfl (by decide)) (by omega) (by decide) ?_
        refine r_topi (y := nI (lf W L)) b2 ?_
        refine r_iaddN (q := 96) dX12_bareOf_95 rfl ?_
        refine r_ialdN (q := 97) 3775 (by decide) rfl dX12_bareOf_96 rfl (hs.e (by decide)) (hs.n rfl (by decide)) (by omega) (by decide) ?_
        refine r_topi (y := nI (cd ((lw W L).2.getD 0 zd).1)) b4 ?_
        refine r_callV (Mc := mX12_hasPiece) (q := 100) (As := [zi (nI (cd ((lw W L).2.getD 0 zd).1))]) (st := []) ck12 dX12_bareOf_97 rfl rfl mkX12_hasPiece wt1860 wt1862 wp122 rfl (Nat.le_of_ble_eq_true rfl) (Nat.le_of_ble_eq_true rfl) (by decide) (by decide) (by decide) (Or.inl rfl) (hs.e (by decide)) hhp (fun r97 S97 hp97 => ?_)
        obtain ⟨rfl, f1⟩ := hp97
        have hs1 := hs.fr f1
        have f2 : Fr tBo S S97 := f1.mono (fun x y k h => by simp at h; simp [tBo, h.1, h.2])
        show Ok _ _ _ [zi (nI 1)] _ _
        refine r_if_neN (q := 103) (t := 107) (by omega) dX12_bareOf_100 (by decide) rfl (fun h100 => ?_) (fun h100 => absurd h100 (by omega))
        refine r_iconst (q := 108) (nI 0) dX12_bareOf_107 rfl (by decide) ?_
        refine r_istore (q := 110) (L' := [some (zr 12 0), some (zi (nI n)), some (zi (nI sm0)), some (zi (nI c)), some (zi (nI 0)), some (zi (nI L))]) dX12_bareOf_108 rfl (by decide) rfl ?_
        refine r_iincN (q := 113) (L' := [some (zr 12 0), some (zi (nI n)), some (zi (nI sm0)), some (zi (nI c)), some (zi (nI 0)), some (zi (nI (L + 1)))]) 1 rfl dX12_bareOf_110 rfl rfl (by decide) rfl ?_
        refine r_goto (q := 37) dX12_bareOf_113 (by decide) ?_
        refine r_iload (q := 39) dX12_bareOf_37 rfl rfl ?_
        refine r_aload_n (q := 40) dX12_bareOf_39 rfl rfl rfl ?_
        refine r_getr (q := 43) (some (1306, 0)) ck12 dX12_bareOf_40 rfl (k := 6) (by decide) wt1284 rfl (hs1.e (by decide)) (hs1.r (by decide) (by decide)) ?_
        refine r_iconst (q := 44) (nI 2) dX12_bareOf_43 rfl (by decide) ?_
        refine r_ialdN (q := 45) 3775 (by decide) rfl dX12_bareOf_44 rfl (hs1.e (by decide)) (hs1.n rfl (by decide)) (by omega) (by decide) ?_
        refine r_topi (y := nI (wL W)) ((f1.1 _ _ _ rfl).trans b1) ?_
        refine r_icmp_geN (q := 48) (t := 116) (by omega) (by omega) dX12_bareOf_45 (by decide) rfl (fun h45 => ?_) (fun h45 => ?_)
        · skip
          exact K S97 _ f2
        · skip
          refine r_iload (q := 50) dX12_bareOf_48 rfl rfl ?_
          refine r_if_eqN (q := 53) (t := 116) (by omega) dX12_bareOf_50 (by decide) rfl (fun h50 => ?_) (fun h50 => absurd h50 (by omega))
          exact K S97 _ f2

theorem nB_le {W : zWd} {n : Nat} : ∀ (k : Nat), nB W n k ≤ k
  | 0 => Nat.le_refl _
  | k + 1 => by
    show nB W n k + (if isB W ((tl W n).getD k []) = true then 1 else 0) ≤ k + 1
    have := nB_le (W := W) (n := n) k
    split <;> omega

set_option maxRecDepth 100000 in
theorem lp_bo4 {W : zWd} (hW : Wok W) {n F : Nat} (hn7 : n ≤ 7) (hm3 : (tl W n).length ≤ 300) (hF4 : F + (tl W n).length ≤ 4400) : ∀ (d c : Nat) (S : zS) (w4 w5 : Option zV), c + d = (tl W n).length → Sd S → Lb S W → gI S 1324 0 n = nI (tl W n).length → gI S 1325 0 n = nI F → Co S F (tl W n) → Ok mX12_bareOf 4 [some (zr 12 0), some (zi (nI n)), some (zi (nI (nB W n c))), some (zi (nI c)), w4, w5] [] S (fun r S1 => r = some (zi (nI (nB W n (tl W n).length))) ∧ Fr tBo S S1) := by
  have hE := hW.2.1
  intro d
  induction d with
  | zero =>
    intro c S w4 w5 hd hs hb h4 h5 hC
    obtain rfl : c = (tl W n).length := by omega
    refine r_mask [true, true, true, true, false, false] rfl ?_
    refine r_iload_n (q := 5) dX12_bareOf_4 rfl rfl rfl ?_
    refine r_aload_n (q := 6) dX12_bareOf_5 rfl rfl rfl ?_
    refine r_getr (q := 9) (some (1324, 0)) ck12 dX12_bareOf_6 rfl (k := 24) (by decide) wt1302 rfl (hs.e (by decide)) (hs.r (by decide) (by decide)) ?_
    refine r_iload_n (q := 10) dX12_bareOf_9 rfl rfl rfl ?_
    refine r_ialdN (q := 11) 16 (by decide) rfl dX12_bareOf_10 rfl (hs.e (by decide)) (hs.n rfl (by decide)) (by omega) (by decide) ?_
    refine r_topi (y := nI ((tl W n).length)) h4 ?_
    refine r_icmp_geN (q := 14) (t := 135) (by omega) (by omega) dX12_bareOf_11 (by decide) rfl (fun h11 => ?_) (fun h11 => absurd h11 (by omega))
    refine r_iload_n (q := 136) dX12_bareOf_135 rfl rfl rfl ?_
    refine r_ireturn dX12_bareOf_136 rfl ?_
    exact ⟨rfl, Fr.rf⟩
  | succ d ih =>
    intro c S w4 w5 hd hs hb h4 h5 hC
    refine r_mask [true, true, true, true, false, false] rfl ?_
    have hc : c < (tl W n).length := by omega
    have htr := tl_tr hE hc
    have hlen := (htr.len hE).1
    obtain ⟨c1, c2⟩ := hC c hc
    have hnb : nB W n (c + 1) = nB W n c + (if isB W ((tl W n).getD c []) = true then 1 else 0) := rfl
    have hle : nB W n c ≤ c := nB_le c
    refine r_iload_n (q := 5) dX12_bareOf_4 rfl rfl rfl ?_
    refine r_aload_n (q := 6) dX12_bareOf_5 rfl rfl rfl ?_
    refine r_getr (q := 9) (some (1324, 0)) ck12 dX12_bareOf_6 rfl (k := 24) (by decide) wt1302 rfl (hs.e (by decide)) (hs.r (by decide) (by decide)) ?_
    refine r_iload_n (q := 10) dX12_bareOf_9 rfl rfl rfl ?_
    refine r_ialdN (q := 11) 16 (by decide) rfl dX12_bareOf_10 rfl (hs.e (by decide)) (hs.n rfl (by decide)) (by omega) (by decide) ?_
    refine r_topi (y := nI ((tl W n).length)) h4 ?_
    refine r_icmp_geN (q := 14) (t := 135) (by omega) (by omega) dX12_bareOf_11 (by decide) rfl (fun h11 => absurd h11 (by omega)) (fun h11 => ?_)
    refine r_aload_n (q := 15) dX12_bareOf_14 rfl rfl rfl ?_
    refine r_aload_n (q := 16) dX12_bareOf_15 rfl rfl rfl ?_
    refine r_getr (q := 19) (some (1328, 0)) ck12 dX12_bareOf_16 rfl (k := 28) (by decide) wt1306 rfl (hs.e (by decide)) (hs.r (by decide) (by decide)) ?_
    refine r_aload_n (q := 20) dX12_bareOf_19 rfl rfl rfl ?_
    refine r_getr (q := 23) (some (1325, 0)) ck12 dX12_bareOf_20 rfl (k := 25) (by decide) wt1303 rfl (hs.e (by decide)) (hs.r (by decide) (by decide)) ?_
    refine r_iload_n (q := 24) dX12_bareOf_23 rfl rfl rfl ?_
    refine r_ialdN (q := 25) 16 (by decide) rfl dX12_bareOf_24 rfl (hs.e (by decide)) (hs.n rfl (by decide)) (by omega) (by decide) ?_
    refine r_topi (y := nI F) h5 ?_
    refine r_iload_n (q := 26) dX12_bareOf_25 rfl rfl rfl ?_
    refine r_iaddN (q := 27) dX12_bareOf_26 rfl ?_
    refine r_ialdN (q := 28) 4400 (by decide) rfl dX12_bareOf_27 rfl (hs.e (by decide)) (hs.n rfl (by decide)) (by omega) (by decide) ?_
    refine r_topi (y := nI (cd ((tl W n).getD c []))) c1 ?_
    refine r_callV (Mc := mX12_tokens) (q := 31) (As := [zi (nI (cd ((tl W n).getD c [])))]) (st := []) ck12 dX12_bareOf_28 rfl rfl mkX12_tokens wt1649 wt1651 wp85 rfl (Nat.le_of_ble_eq_true rfl) (Nat.le_of_ble_eq_true rfl) (by decide) (by decide) (by decide) (Or.inl rfl) (hs.e (by decide)) (ok_X12_tokens hs (htr.tok hE) (by omega)) (fun r28 S28 hp28 => ?_)
    obtain ⟨rfl, hq28⟩ := hp28
    rw [hq28]
    have f1 : Fr tBo S (stR (sI S 12 0 20 (nI ((tl W n).getD c []).length)) 1316 0 ((tl W n).getD c [])) := Fr.stR ((Fr.rf).i rfl) (fun _ => rfl)
    show Ok _ _ _ [] _ _
    refine r_iconst (q := 32) (nI 1) dX12_bareOf_31 rfl (by decide) ?_
    refine r_istore (q := 34) (L' := [some (zr 12 0), some (zi (nI n)), some (zi (nI (nB W n c))), some (zi (nI c)), some (zi (nI 1)), none]) dX12_bareOf_32 rfl (by decide) rfl ?_
    refine r_iconst (q := 35) (nI 0) dX12_bareOf_34 rfl (by decide) ?_
    refine r_istore (q := 37) (L' := [some (zr 12 0), some (zi (nI n)), some (zi (nI (nB W n c))), some (zi (nI c)), some (zi (nI 1)), some (zi (nI 0))]) dX12_bareOf_35 rfl (by decide) rfl ?_
    refine lp_bo37 hW hn7 htr (wL W) 0 (stR (sI S 12 0 20 (nI ((tl W n).getD c []).length)) 1316 0 ((tl W n).getD c [])) (by omega) hs (hb.fr f1 (fun _ => rfl)) (by rw [gI_stR_x (by omega), gI_sI, if_pos ⟨rfl, rfl, rfl⟩]) (fun i hi => gI_stR_k hi) (fun l hl => absurd hl (by omega)) (fun S1 l' y => ?_)
    have f2 : Fr tBo S S1 := f1.tr y
    have hs2 := hs.fr f2
    refine r_mask [true, true, true, true, true, false] rfl ?_
    cases hB : isB W ((tl W n).getD c []) with
    | true =>
      rw [hB] at hnb
      rw [show b01 true = 1 from rfl]
      refine r_iload_n (q := 117) dX12_bareOf_116 rfl rfl rfl ?_
      refine r_iload (q := 119) dX12_bareOf_117 rfl rfl ?_
      refine r_if_eqN (q := 122) (t := 126) (by omega) dX12_bareOf_119 (by decide) rfl (fun h119 => absurd h119 (by omega)) (fun h119 => ?_)
      refine r_iconst (q := 123) (nI 1) dX12_bareOf_122 rfl (by decide) ?_
      refine r_goto (q := 127) dX12_bareOf_123 (by decide) ?_
      refine r_iaddN (q := 128) dX12_bareOf_127 rfl ?_
      refine r_istore_n (q := 129) (L' := [some (zr 12 0), some (zi (nI n)), some (zi (nI ((nB W n c) + 1))), some (zi (nI c)), some (zi (nI 1)), none]) dX12_bareOf_128 rfl rfl (by decide) rfl ?_
      refine r_iincN (q := 132) (L' := [some (zr 12 0), some (zi (nI n)), some (zi (nI ((nB W n c) + 1))), some (zi (nI (c + 1))), some (zi (nI 1)), none]) 1 rfl dX12_bareOf_129 rfl rfl (by decide) rfl ?_
      refine r_goto (q := 4) dX12_bareOf_132 (by decide) ?_
      have q := ih (c + 1) S1 none none (by omega) hs2 (hb.fr f2 (fun _ => rfl)) ((f2.1 _ _ _ rfl).trans h4) ((f2.1 _ _ _ rfl).trans h5) (hC.fr f2 (fun _ _ => rfl))
      rw [hnb] at q
      refine r_mask [true, true, true, true, false, false] rfl ?_
      exact Ok.mono q (fun r S3 z => ⟨z.1, f2.tr z.2⟩)
    | false =>
      rw [hB] at hnb
      rw [show b01 false = 0 from rfl]
      refine r_iload_n (q := 117) dX12_bareOf_116 rfl rfl rfl ?_
      refine r_iload (q := 119) dX12_bareOf_117 rfl rfl ?_
      refine r_if_eqN (q := 122) (t := 126) (by omega) dX12_bareOf_119 (by decide) rfl (fun h119 => ?_) (fun h119 => absurd h119 (by omega))
      refine r_iconst (q := 127) (nI 0) dX12_bareOf_126 rfl (by decide) ?_
      refine r_iaddN (q := 128) dX12_bareOf_127 rfl ?_
      refine r_istore_n (q := 129) (L' := [some (zr 12 0), some (zi (nI n)), some (zi (nI ((nB W n c) + 0))), some (zi (nI c)), some (zi (nI 0)), none]) dX12_bareOf_128 rfl rfl (by decide) rfl ?_
      refine r_iincN (q := 132) (L' := [some (zr 12 0), some (zi (nI n)), some (zi (nI ((nB W n c) + 0))), some (zi (nI (c + 1))), some (zi (nI 0)), none]) 1 rfl dX12_bareOf_129 rfl rfl (by decide) rfl ?_
      refine r_goto (q := 4) dX12_bareOf_132 (by decide) ?_
      have q := ih (c + 1) S1 none none (by omega) hs2 (hb.fr f2 (fun _ => rfl)) ((f2.1 _ _ _ rfl).trans h4) ((f2.1 _ _ _ rfl).trans h5) (hC.fr f2 (fun _ _ => rfl))
      rw [hnb] at q
      refine r_mask [true, true, true, true, false, false] rfl ?_
      exact Ok.mono q (fun r S3 z => ⟨z.1, f2.tr z.2⟩)

set_option maxRecDepth 100000 in
theorem ok_bareOf {W : zWd} (hW : Wok W) {n F : Nat} (hn7 : n ≤ 7) (hm3 : (tl W n).length ≤ 300) (hF4 : F + (tl W n).length ≤ 4400) {S : zS} (hs : Sd S) (hb : Lb S W) (h4 : gI S 1324 0 n = nI (tl W n).length) (h5 : gI S 1325 0 n = nI F) (hC : Co S F (tl W n)) : Ok mX12_bareOf 0 (ent 6 [zr 12 0, zi (nI n)]) [] S (fun r S1 => r = some (zi (nI (nB W n (tl W n).length))) ∧ Fr tBo S S1) := by
  show Ok mX12_bareOf 0 [some (zr 12 0), some (zi (nI n)), none, none, none, none] [] S _
  refine r_iconst (q := 1) (nI 0) dX12_bareOf_0 rfl (by decide) ?_
  refine r_istore_n (q := 2) (L' := [some (zr 12 0), some (zi (nI n)), some (zi (nI 0)), none, none, none]) dX12_bareOf_1 rfl rfl (by decide) rfl ?_
  refine r_iconst (q := 3) (nI 0) dX12_bareOf_2 rfl (by decide) ?_
  refine r_istore_n (q := 4) (L' := [some (zr 12 0), some (zi (nI n)), some (zi (nI 0)), some (zi (nI 0)), none, none]) dX12_bareOf_3 rfl rfl (by decide) rfl ?_
  exact lp_bo4 hW hn7 hm3 hF4 (tl W n).length 0 S none none (by omega) hs hb h4 h5 hC

