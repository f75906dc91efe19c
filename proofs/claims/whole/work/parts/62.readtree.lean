def isWb (ts : List zTk) (v : Nat) : Bool := (hdT ts).1 == 2 && (hdT ts).2.2 == v
def isNmb (ts : List zTk) : Bool := (hdT ts).1 == 2 && (hdT ts).2.2 != 120 && (hdT ts).2.2 != 7171940 && (hdT ts).2.2 != 6382452 && (hdT ts).2.2 != 7102839
theorem isWb_t {ts : List zTk} {v : Nat} : isWb ts v = true ↔ (hdT ts).1 = 2 ∧ (hdT ts).2.2 = v := by simp [isWb]
theorem isNmb_t {ts : List zTk} : isNmb ts = true ↔ (hdT ts).1 = 2 ∧ (hdT ts).2.2 ≠ 120 ∧ (hdT ts).2.2 ≠ 7171940 ∧ (hdT ts).2.2 ≠ 6382452 ∧ (hdT ts).2.2 ≠ 7102839 := by simp [isNmb, and_assoc]
def treeP (nm e : Nat → Nat) (A : Nat) : Nat → List Nat → List Nat → Nat → List zTk → zEr ⊕ (List Nat × List zTk)
  | 0, _, _, _, ts => Sum.inl (1, (hdT ts).2.1)
  | f + 1, st, acc, lv, ts =>
    if isWb ts 120 = true then (if 7 ≤ lv then Sum.inl (4, (hdT ts).2.1) else
      match clsP st (adv ts) with
      | Sum.inl x => Sum.inl x
      | Sum.inr ([], ts') => Sum.inr (acc ++ [0], ts')
      | Sum.inr (l :: st', ts') => treeP nm e A f (l :: st') (acc ++ [0]) (lv + 1) ts')
    else if isNmb ts = true then
      match fAct nm (hdT ts).2.2 A with
      | none => Sum.inl (3, (hdT ts).2.1)
      | some a => if (hdT (adv ts)).1 = 40 then treeP nm e A f (e a :: st) (acc ++ [a + 1]) lv (adv (adv ts)) else Sum.inl (1, (hdT (adv ts)).2.1)
    else Sum.inl (1, (hdT ts).2.1)
def tFl (a b k : Nat) : Bool := a == 4 && b == 0 && (k == 14 || k == 15)
def tSk (a b k : Nat) : Bool := a == 4 && b == 0 && (k == 4 || k == 5 || k == 6 || k == 7 || k == 14 || k == 15)
theorem tSk_fl (a b k : Nat) (h : tFl a b k = true) : tSk a b k = true := by
  simp [tFl] at h
  simp [tSk]
  omega
theorem tSk_av (a b k : Nat) (h : tAv a b k = true) : tSk a b k = true := by
  simp [tAv] at h
  simp [tSk]
  omega
theorem Rc.cong {S S1 : zS} {ts : List zTk} (h : Rc S ts) (h5 : ∀ i, gI S1 500 0 i = gI S 500 0 i ∧ gI S1 501 0 i = gI S 501 0 i ∧ gJ S1 502 0 i = gJ S 502 0 i) (h4 : ∀ k, k = 3 ∨ k = 4 ∨ k = 5 ∨ k = 6 → gI S1 4 0 k = gI S 4 0 k) (h7 : gJ S1 4 0 7 = gJ S 4 0 7) : Rc S1 ts := by
  obtain ⟨all, i, a1, a2, a3, a4, a5, a6, a7, a8, a9⟩ := h
  exact ⟨all, i, a1, a2, a3, (h4 3 (by omega)).trans a4, (h4 4 (by omega)).trans a5, fun k hk => ⟨(h5 k).1.trans (a6 k hk).1, (h5 k).2.1.trans (a6 k hk).2.1, fun z => (h5 k).2.2.trans ((a6 k hk).2.2 z)⟩, (h4 5 (by omega)).trans a7, (h4 6 (by omega)).trans a8, fun z => h7.trans (a9 z)⟩
theorem Rc.f {S : zS} {ts : List zTk} (h : Rc S ts) : gI S 4 0 5 = nI (hdT ts).1 ∧ gI S 4 0 6 = nI (hdT ts).2.1 ∧ ((hdT ts).1 = 2 ∨ (hdT ts).1 = 3 → gJ S 4 0 7 = lN (hdT ts).2.2) := by
  obtain ⟨all, i, a1, a2, a3, a4, a5, a6, a7, a8, a9⟩ := h
  exact ⟨a7, a8, a9⟩
/-- a fault was told -/
def Fl (S : zS) (x : zEr) : Prop := gI S 4 0 14 = nI x.1 ∧ gI S 4 0 15 = nI x.2

set_option maxRecDepth 100000 in
theorem ok_fail {S : zS} (hs : Sd S) (k p : Nat) : Ok mX4_fail 0 (ent 3 [zr 4 0, zi (nI k), zi (nI p)]) [] S (fun r S1 => r = some (zi (nI 0)) ∧ Fr tFl S S1 ∧ Fl S1 (k, p)) := by
  show Ok mX4_fail 0 [some (zr 4 0), some (zi (nI k)), some (zi (nI p))] [] S _
  refine r_aload_n (q := 1) dX4_fail_0 rfl rfl rfl ?_
  refine r_iload_n (q := 2) dX4_fail_1 rfl rfl rfl ?_
  refine r_puti (q := 5) ck4 dX4_fail_2 rfl (k := 14) (by decide) wt136 (Or.inl rfl) rfl (hs.e (by decide)) ?_
  refine r_aload_n (q := 6) dX4_fail_5 rfl rfl rfl ?_
  refine r_iload_n (q := 7) dX4_fail_6 rfl rfl rfl ?_
  refine r_puti (q := 10) ck4 dX4_fail_7 rfl (k := 15) (by decide) wt138 (Or.inl rfl) rfl (hs.e (by decide)) ?_
  refine r_iconst (q := 11) (nI 0) dX4_fail_10 rfl (by decide) ?_
  refine r_zreturn (by decide) dX4_fail_11 rfl ?_
  exact ⟨rfl, (Fr.rf.i rfl).i rfl, by rw [gI_sI, if_neg (by omega), gI_sI, if_pos ⟨rfl, rfl, rfl⟩], by rw [gI_sI, if_pos ⟨rfl, rfl, rfl⟩]⟩

set_option maxRecDepth 100000 in
theorem ok_isWord {S : zS} (hs : Sd S) {ts : List zTk} (hr : Rc S ts) (hk : Tks ts) {v : Nat} (hv : v < 2 ^ 48) : Ok mX4_isWord 0 (ent 3 [zr 4 0, zl (lN v)]) [] S (fun r S1 => r = some (zi (nI (if isWb ts v = true then 1 else 0))) ∧ S1 = S) := by
  obtain ⟨f5, f6, f7⟩ := hr.f
  obtain ⟨t1, t2, t3, t4⟩ := hk.hd
  show Ok mX4_isWord 0 [some (zr 4 0), some (zl (lN v)), none] [] S _
  refine r_aload_n (q := 1) dX4_isWord_0 rfl rfl rfl ?_
  refine r_geti (q := 4) ck4 dX4_isWord_1 rfl (k := 5) (by decide) wt126 (Or.inl rfl) (hs.e (by decide)) ?_
  refine r_topi (y := nI ((hdT ts).1)) f5 ?_
  refine r_iconst (q := 5) (nI 2) dX4_isWord_4 rfl (by decide) ?_
  refine r_icmp_neN (q := 8) (t := 21) (by omega) (by omega) dX4_isWord_5 (by decide) rfl (fun h5 => ?_) (fun h5 => ?_)
  · skip
    refine r_iconst (q := 22) (nI 0) dX4_isWord_21 rfl (by decide) ?_
    refine r_zreturn (by decide) dX4_isWord_22 rfl ?_
    have e : ¬ isWb ts v = true := fun z => h5 (isWb_t.mp z).1
    exact ⟨by rw [if_neg e], rfl⟩
  · skip
    refine r_aload_n (q := 9) dX4_isWord_8 rfl rfl rfl ?_
    refine r_getl (q := 12) ck4 dX4_isWord_9 rfl (k := 7) (by decide) wt128 rfl (hs.e (by decide)) ?_
    refine r_topl (y := lN ((hdT ts).2.2)) (f7 (Or.inl h5)) ?_
    refine r_lload_n (q := 13) dX4_isWord_12 rfl rfl rfl ?_
    refine r_lcmp (q := 14) dX4_isWord_13 rfl ?_
    refine r_if_ne (q := 17) (t := 21) dX4_isWord_14 (by decide) rfl (fun h14 => ?_) (fun h14 => ?_)
    · skip
      refine r_iconst (q := 22) (nI 0) dX4_isWord_21 rfl (by decide) ?_
      refine r_zreturn (by decide) dX4_isWord_22 rfl ?_
      have e : ¬ isWb ts v = true := fun z => (lcmp_ne (by have := t3 h5; omega) (by omega)).mp h14 (isWb_t.mp z).2
      exact ⟨by rw [if_neg e], rfl⟩
    · skip
      refine r_iconst (q := 18) (nI 1) dX4_isWord_17 rfl (by decide) ?_
      refine r_goto (q := 22) dX4_isWord_18 (by decide) ?_
      refine r_zreturn (by decide) dX4_isWord_22 rfl ?_
      have e : isWb ts v = true := isWb_t.mpr ⟨h5, Decidable.byContradiction fun z => h14 ((lcmp_ne (by have := t3 h5; omega) (by omega)).mpr z)⟩
      exact ⟨by rw [if_pos e], rfl⟩

set_option maxRecDepth 100000 in
theorem ok_isName {S : zS} (hs : Sd S) {ts : List zTk} (hr : Rc S ts) (hk : Tks ts) : Ok mX4_isName 0 (ent 1 [zr 4 0]) [] S (fun r S1 => r = some (zi (nI (if isNmb ts = true then 1 else 0))) ∧ S1 = S) := by
  obtain ⟨f5, f6, f7⟩ := hr.f
  obtain ⟨t1, t2, t3, t4⟩ := hk.hd
  show Ok mX4_isName 0 [some (zr 4 0)] [] S _
  refine r_aload_n (q := 1) dX4_isName_0 rfl rfl rfl ?_
  refine r_geti (q := 4) ck4 dX4_isName_1 rfl (k := 5) (by decide) wt126 (Or.inl rfl) (hs.e (by decide)) ?_
  refine r_topi (y := nI ((hdT ts).1)) f5 ?_
  refine r_iconst (q := 5) (nI 2) dX4_isName_4 rfl (by decide) ?_
  refine r_icmp_neN (q := 8) (t := 56) (by omega) (by omega) dX4_isName_5 (by decide) rfl (fun h5 => ?_) (fun h5 => ?_)
  · skip
    refine r_iconst (q := 57) (nI 0) dX4_isName_56 rfl (by decide) ?_
    refine r_zreturn (by decide) dX4_isName_57 rfl ?_
    have e : ¬ isNmb ts = true := fun z => h5 (isNmb_t.mp z).1
    exact ⟨by rw [if_neg e], rfl⟩
  · skip
    refine r_aload_n (q := 9) dX4_isName_8 rfl rfl rfl ?_
    refine r_getl (q := 12) ck4 dX4_isName_9 rfl (k := 7) (by decide) wt128 rfl (hs.e (by decide)) ?_
    refine r_topl (y := lN ((hdT ts).2.2)) (f7 (Or.inl h5)) ?_
    refine r_ldc2 (q := 15) (120 : Int64) dX4_isName_12 rfl wt566 ?_
    refine r_topl (y := lN 120) rfl ?_
    refine r_lcmp (q := 16) dX4_isName_15 rfl ?_
    refine r_if_eq (q := 19) (t := 56) dX4_isName_16 (by decide) rfl (fun h16 => ?_) (fun h16 => ?_)
    · skip
      refine r_iconst (q := 57) (nI 0) dX4_isName_56 rfl (by decide) ?_
      refine r_zreturn (by decide) dX4_isName_57 rfl ?_
      have e : ¬ isNmb ts = true := fun z => (isNmb_t.mp z).2.1 ((pk_lEQ (by have := t3 h5; omega) (by omega)).mp ((lg_cmp_eq _ _).mp h16))
      exact ⟨by rw [if_neg e], rfl⟩
    · skip
      refine r_aload_n (q := 20) dX4_isName_19 rfl rfl rfl ?_
      refine r_getl (q := 23) ck4 dX4_isName_20 rfl (k := 7) (by decide) wt128 rfl (hs.e (by decide)) ?_
      refine r_topl (y := lN ((hdT ts).2.2)) (f7 (Or.inl h5)) ?_
      refine r_ldc2 (q := 26) (7171940 : Int64) dX4_isName_23 rfl wt541 ?_
      refine r_topl (y := lN 7171940) rfl ?_
      refine r_lcmp (q := 27) dX4_isName_26 rfl ?_
      refine r_if_eq (q := 30) (t := 56) dX4_isName_27 (by decide) rfl (fun h27 => ?_) (fun h27 => ?_)
      · skip
        refine r_iconst (q := 57) (nI 0) dX4_isName_56 rfl (by decide) ?_
        refine r_zreturn (by decide) dX4_isName_57 rfl ?_
        have e : ¬ isNmb ts = true := fun z => (isNmb_t.mp z).2.2.1 ((pk_lEQ (by have := t3 h5; omega) (by omega)).mp ((lg_cmp_eq _ _).mp h27))
        exact ⟨by rw [if_neg e], rfl⟩
      · skip
        refine r_aload_n (q := 31) dX4_isName_30 rfl rfl rfl ?_
        refine r_getl (q := 34) ck4 dX4_isName_31 rfl (k := 7) (by decide) wt128 rfl (hs.e (by decide)) ?_
        refine r_topl (y := lN ((hdT ts).2.2)) (f7 (Or.inl h5)) ?_
        refine r_ldc2 (q := 37) (6382452 : Int64) dX4_isName_34 rfl wt557 ?_
        refine r_topl (y := lN 6382452) rfl ?_
        refine r_lcmp (q := 38) dX4_isName_37 rfl ?_
        refine r_if_eq (q := 41) (t := 56) dX4_isName_38 (by decide) rfl (fun h38 => ?_) (fun h38 => ?_)
        · skip
          refine r_iconst (q := 57) (nI 0) dX4_isName_56 rfl (by decide) ?_
          refine r_zreturn (by decide) dX4_isName_57 rfl ?_
          have e : ¬ isNmb ts = true := fun z => (isNmb_t.mp z).2.2.2.1 ((pk_lEQ (by have := t3 h5; omega) (by omega)).mp ((lg_cmp_eq _ _).mp h38))
          exact ⟨by rw [if_neg e], rfl⟩
        · skip
          refine r_aload_n (q := 42) dX4_isName_41 rfl rfl rfl ?_
          refine r_getl (q := 45) ck4 dX4_isName_42 rfl (k := 7) (by decide) wt128 rfl (hs.e (by decide)) ?_
          refine r_topl (y := lN ((hdT ts).2.2)) (f7 (Or.inl h5)) ?_
          refine r_ldc2 (q := 48) (7102839 : Int64) dX4_isName_45 rfl wt567 ?_
          refine r_topl (y := lN 7102839) rfl ?_
          refine r_lcmp (q := 49) dX4_isName_48 rfl ?_
          refine r_if_eq (q := 52) (t := 56) dX4_isName_49 (by decide) rfl (fun h49 => ?_) (fun h49 => ?_)
          · skip
            refine r_iconst (q := 57) (nI 0) dX4_isName_56 rfl (by decide) ?_
            refine r_zreturn (by decide) dX4_isName_57 rfl ?_
            have e : ¬ isNmb ts = true := fun z => (isNmb_t.mp z).2.2.2.2 ((pk_lEQ (by have := t3 h5; omega) (by omega)).mp ((lg_cmp_eq _ _).mp h49))
            exact ⟨by rw [if_neg e], rfl⟩
          · skip
            refine r_iconst (q := 53) (nI 1) dX4_isName_52 rfl (by decide) ?_
            refine r_goto (q := 57) dX4_isName_53 (by decide) ?_
            refine r_zreturn (by decide) dX4_isName_57 rfl ?_
            have e : isNmb ts = true := isNmb_t.mpr ⟨h5, fun z => h16 ((lg_cmp_eq _ _).mpr (by rw [z])), fun z => h27 ((lg_cmp_eq _ _).mpr (by rw [z])), fun z => h38 ((lg_cmp_eq _ _).mpr (by rw [z])), fun z => h49 ((lg_cmp_eq _ _).mpr (by rw [z]))⟩
            exact ⟨by rw [if_pos e], rfl⟩

set_option maxRecDepth 100000 in
theorem ok_skip_y {S : zS} (hs : Sd S) {ts : List zTk} (hr : Rc S ts) (hk : Tks ts) {c : Nat} (hc : (hdT ts).1 = c) : Ok mX4_skip 0 (ent 2 [zr 4 0, zi (nI c)]) [] S (fun r S1 => r = some (zi (nI 1)) ∧ Fr tAv S S1 ∧ Rc S1 (adv ts)) := by
  obtain ⟨f5, f6, f7⟩ := hr.f
  obtain ⟨t1, t2, t3, t4⟩ := hk.hd
  have hc256 : c < 256 := by omega
  have hcn : ¬ ¬ (hdT ts).1 = c := fun z => z hc
  show Ok mX4_skip 0 [some (zr 4 0), some (zi (nI c))] [] S _
  refine r_aload_n (q := 1) dX4_skip_0 rfl rfl rfl ?_
  refine r_geti (q := 4) ck4 dX4_skip_1 rfl (k := 5) (by decide) wt126 (Or.inl rfl) (hs.e (by decide)) ?_
  refine r_topi (y := nI ((hdT ts).1)) f5 ?_
  refine r_iload_n (q := 5) dX4_skip_4 rfl rfl rfl ?_
  refine r_icmp_eqN (q := 8) (t := 18) (by omega) (by omega) dX4_skip_5 (by decide) rfl (fun h5 => ?_) (fun h5 => absurd h5 (hcn))
  refine r_aload_n (q := 19) dX4_skip_18 rfl rfl rfl ?_
  refine r_callV (Mc := mX4_advance) (q := 22) (As := []) (st := []) ck4 dX4_skip_19 rfl rfl mkX4_advance wt529 wt531 wp4 rfl (Nat.le_of_ble_eq_true rfl) (Nat.le_of_ble_eq_true rfl) (by decide) (by decide) (by decide) (Or.inl rfl) (hs.e (by decide)) (ok_advance hs hr) (fun r19 S19 hp19 => ?_)
  obtain ⟨rfl, w19, x19⟩ := hp19
  show Ok _ _ _ [] _ _
  refine r_iconst (q := 23) (nI 1) dX4_skip_22 rfl (by decide) ?_
  refine r_zreturn (by decide) dX4_skip_23 rfl ?_
  exact ⟨rfl, w19, x19⟩

set_option maxRecDepth 100000 in
theorem ok_skip_n {S : zS} (hs : Sd S) {ts : List zTk} (hr : Rc S ts) (hk : Tks ts) {c : Nat} (hc : ¬ (hdT ts).1 = c) (hc256 : c < 256) : Ok mX4_skip 0 (ent 2 [zr 4 0, zi (nI c)]) [] S (fun r S1 => r = some (zi (nI 0)) ∧ Fr tFl S S1 ∧ Fl S1 (1, (hdT ts).2.1)) := by
  obtain ⟨f5, f6, f7⟩ := hr.f
  obtain ⟨t1, t2, t3, t4⟩ := hk.hd
  show Ok mX4_skip 0 [some (zr 4 0), some (zi (nI c))] [] S _
  refine r_aload_n (q := 1) dX4_skip_0 rfl rfl rfl ?_
  refine r_geti (q := 4) ck4 dX4_skip_1 rfl (k := 5) (by decide) wt126 (Or.inl rfl) (hs.e (by decide)) ?_
  refine r_topi (y := nI ((hdT ts).1)) f5 ?_
  refine r_iload_n (q := 5) dX4_skip_4 rfl rfl rfl ?_
  refine r_icmp_eqN (q := 8) (t := 18) (by omega) (by omega) dX4_skip_5 (by decide) rfl (fun h5 => absurd h5 (hc)) (fun h5 => ?_)
  refine r_aload_n (q := 9) dX4_skip_8 rfl rfl rfl ?_
  refine r_iconst (q := 10) (nI 1) dX4_skip_9 rfl (by decide) ?_
  refine r_aload_n (q := 11) dX4_skip_10 rfl rfl rfl ?_
  refine r_geti (q := 14) ck4 dX4_skip_11 rfl (k := 6) (by decide) wt127 (Or.inl rfl) (hs.e (by decide)) ?_
  refine r_topi (y := nI ((hdT ts).2.1)) f6 ?_
  refine r_callV (Mc := mX4_fail) (q := 17) (As := [zi (nI 1), zi (nI ((hdT ts).2.1))]) (st := []) ck4 dX4_skip_14 rfl rfl mkX4_fail wt550 wt552 wp7 rfl (Nat.le_of_ble_eq_true rfl) (Nat.le_of_ble_eq_true rfl) (by decide) (by decide) (by decide) (Or.inl rfl) (hs.e (by decide)) (ok_fail hs 1 ((hdT ts).2.1)) (fun r14 S14 hp14 => ?_)
  obtain ⟨rfl, w14, x14⟩ := hp14
  show Ok _ _ _ [zi (nI 0)] _ _
  refine r_zreturn (by decide) dX4_skip_17 rfl ?_
  exact ⟨rfl, w14, x14⟩

set_option maxRecDepth 100000 in
theorem lp_findAct {S : zS} (hs : Sd S) {nm e : Nat → Nat} {A s : Nat} (hs4 : s < 4) (hA3 : A ≤ 3) (hA : gI S 9 s 1 = nI A) (hn : ∀ a, a < A → gI S 1003 s a = nI (e a) ∧ gJ S 1002 s a = lN (nm a)) (hnb : ∀ a, a < A → nm a < 2 ^ 48) (hd : ∀ a b, a < A → b < A → nm a = nm b → a = b) {v : Nat} (hv : v < 2 ^ 48) : ∀ (d a : Nat), a + d = A → (∀ b, b < a → nm b ≠ v) → Ok mX9_findAct 2 [some (zr 9 s), some (zl (lN v)), none, some (zi (nI a))] [] S (fun r S1 => r = some (zi (match fAct nm v A with | none => -1 | some a => nI a)) ∧ S1 = S) := by
  intro d
  induction d with
  | zero =>
    intro a ha hb
    obtain rfl : A = a := by omega
    have e0 : fAct nm v A = none := by cases q : fAct nm v A with | none => rfl | some b => exact absurd (fAct_some q).2 (hb b (fAct_some q).1)
    rw [e0]
    refine r_iload_n (q := 3) dX9_findAct_2 rfl rfl rfl ?_
    refine r_aload_n (q := 4) dX9_findAct_3 rfl rfl rfl ?_
    refine r_geti (q := 7) ck9 dX9_findAct_4 rfl (k := 1) (by decide) wt296 (Or.inl rfl) (hs.e (show s < 4 by omega)) ?_
    refine r_topi (y := nI A) hA ?_
    refine r_icmp_geN (q := 10) (t := 29) (by omega) (by omega) dX9_findAct_7 (by decide) rfl (fun h7 => ?_) (fun h7 => absurd h7 (by omega))
    refine r_iconst (q := 30) ((-1 : Int32)) dX9_findAct_29 rfl (by decide) ?_
    refine r_ireturn dX9_findAct_30 rfl ?_
    exact ⟨rfl, rfl⟩
  | succ d ih =>
    intro a ha hb
    have r1 := (hn a (by omega)).2
    have r2 := hnb a (by omega)
    refine r_iload_n (q := 3) dX9_findAct_2 rfl rfl rfl ?_
    refine r_aload_n (q := 4) dX9_findAct_3 rfl rfl rfl ?_
    refine r_geti (q := 7) ck9 dX9_findAct_4 rfl (k := 1) (by decide) wt296 (Or.inl rfl) (hs.e (show s < 4 by omega)) ?_
    refine r_topi (y := nI A) hA ?_
    refine r_icmp_geN (q := 10) (t := 29) (by omega) (by omega) dX9_findAct_7 (by decide) rfl (fun h7 => absurd h7 (by omega)) (fun h7 => ?_)
    refine r_aload_n (q := 11) dX9_findAct_10 rfl rfl rfl ?_
    refine r_getr (q := 14) (some (1002, s)) ck9 dX9_findAct_11 rfl (k := 2) (by decide) wt301 rfl (hs.e (show s < 4 by omega)) (hs.r (show s < 4 by omega) (by decide)) ?_
    refine r_iload_n (q := 15) dX9_findAct_14 rfl rfl rfl ?_
    refine r_laldN (q := 16) 3 (by decide) rfl dX9_findAct_15 rfl (hs.e (show s < 4 by omega)) (hs.n rfl (show s < 4 by omega)) (by omega) (by decide) ?_
    refine r_topl (y := lN (nm a)) r1 ?_
    refine r_lload_n (q := 17) dX9_findAct_16 rfl rfl rfl ?_
    refine r_lcmp (q := 18) dX9_findAct_17 rfl ?_
    refine r_if_ne (q := 21) (t := 23) dX9_findAct_18 (by decide) rfl (fun h18 => ?_) (fun h18 => ?_)
    · skip
      refine r_iincN (q := 26) (L' := [some (zr 9 s), some (zl (lN v)), none, some (zi (nI (a + 1)))]) 1 rfl dX9_findAct_23 rfl rfl (by decide) rfl ?_
      refine r_goto (q := 2) dX9_findAct_26 (by decide) ?_
      exact ih (a + 1) (by omega) (fun b h1 => by rcases Nat.lt_or_eq_of_le (Nat.le_of_lt_succ h1) with h | h; exact hb b h; rw [h]; exact (lcmp_ne (by omega) (by omega)).mp h18)
    · skip
      refine r_iload_n (q := 22) dX9_findAct_21 rfl rfl rfl ?_
      refine r_ireturn dX9_findAct_22 rfl ?_
      have e1 : nm a = v := Decidable.byContradiction fun z => h18 ((lcmp_ne (by omega) (by omega)).mpr z)
      exact ⟨by rw [fAct_of (by omega) e1 (fun b h1 h2 => hd b a h1 (by omega) (h2.trans e1.symm))], rfl⟩

set_option maxRecDepth 100000 in
theorem ok_findAct {S : zS} (hs : Sd S) {nm e : Nat → Nat} {A s : Nat} (hs4 : s < 4) (hA3 : A ≤ 3) (hA : gI S 9 s 1 = nI A) (hn : ∀ a, a < A → gI S 1003 s a = nI (e a) ∧ gJ S 1002 s a = lN (nm a)) (hnb : ∀ a, a < A → nm a < 2 ^ 48) (hd : ∀ a b, a < A → b < A → nm a = nm b → a = b) {v : Nat} (hv : v < 2 ^ 48) : Ok mX9_findAct 0 (ent 4 [zr 9 s, zl (lN v)]) [] S (fun r S1 => r = some (zi (match fAct nm v A with | none => -1 | some a => nI a)) ∧ S1 = S) := by
  show Ok mX9_findAct 0 [some (zr 9 s), some (zl (lN v)), none, none] [] S _
  refine r_iconst (q := 1) (nI 0) dX9_findAct_0 rfl (by decide) ?_
  refine r_istore_n (q := 2) (L' := [some (zr 9 s), some (zl (lN v)), none, some (zi (nI 0))]) dX9_findAct_1 rfl rfl (by decide) rfl ?_
  exact lp_findAct hs hs4 hA3 hA hn hnb hd hv A 0 (by omega) (fun b hb => absurd hb (by omega))

set_option maxRecDepth 100000 in
theorem ok_readActName_1 {S : zS} (hs : Sd S) {ts : List zTk} (hr : Rc S ts) (hk : Tks ts) (s : Nat) (hnm : ¬ isNmb ts = true) : Ok mX4_readActName 0 (ent 3 [zr 4 0, zr 9 s]) [] S (fun r S1 => r = some (zi (-1)) ∧ Fr tFl S S1 ∧ Fl S1 (1, (hdT ts).2.1)) := by
  obtain ⟨f5, f6, f7⟩ := hr.f
  obtain ⟨t1, t2, t3, t4⟩ := hk.hd
  show Ok mX4_readActName 0 [some (zr 4 0), some (zr 9 s), none] [] S _
  refine r_aload_n (q := 1) dX4_readActName_0 rfl rfl rfl ?_
  refine r_callV (Mc := mX4_isName) (q := 4) (As := []) (st := []) ck4 dX4_readActName_1 rfl rfl mkX4_isName wt562 wt564 wp9 rfl (Nat.le_of_ble_eq_true rfl) (Nat.le_of_ble_eq_true rfl) (by decide) (by decide) (by decide) (Or.inl rfl) (hs.e (by decide)) (ok_isName hs hr hk) (fun r1 S1 hp1 => ?_)
  obtain ⟨rfl, hq1⟩ := hp1
  rw [hq1]
  rw [if_neg hnm]
  show Ok _ _ _ [zi (nI 0)] _ _
  refine r_if_neN (q := 7) (t := 19) (by omega) dX4_readActName_4 (by decide) rfl (fun h4 => absurd h4 (by omega)) (fun h4 => ?_)
  refine r_aload_n (q := 8) dX4_readActName_7 rfl rfl rfl ?_
  refine r_iconst (q := 9) (nI 1) dX4_readActName_8 rfl (by decide) ?_
  refine r_aload_n (q := 10) dX4_readActName_9 rfl rfl rfl ?_
  refine r_geti (q := 13) ck4 dX4_readActName_10 rfl (k := 6) (by decide) wt127 (Or.inl rfl) (hs.e (by decide)) ?_
  refine r_topi (y := nI ((hdT ts).2.1)) f6 ?_
  refine r_callV (Mc := mX4_fail) (q := 16) (As := [zi (nI 1), zi (nI ((hdT ts).2.1))]) (st := []) ck4 dX4_readActName_13 rfl rfl mkX4_fail wt550 wt552 wp7 rfl (Nat.le_of_ble_eq_true rfl) (Nat.le_of_ble_eq_true rfl) (by decide) (by decide) (by decide) (Or.inl rfl) (hs.e (by decide)) (ok_fail hs 1 ((hdT ts).2.1)) (fun r13 S13 hp13 => ?_)
  obtain ⟨rfl, w13, x13⟩ := hp13
  show Ok _ _ _ [zi (nI 0)] _ _
  refine r_pop (q := 17) dX4_readActName_16 rfl rfl ?_
  refine r_iconst (q := 18) ((-1 : Int32)) dX4_readActName_17 rfl (by decide) ?_
  refine r_ireturn dX4_readActName_18 rfl ?_
  exact ⟨rfl, w13, x13⟩

set_option maxRecDepth 100000 in
theorem ok_readActName_3 {S : zS} (hs : Sd S) {ts : List zTk} (hr : Rc S ts) (hk : Tks ts) {nm e : Nat → Nat} {A s : Nat} (hs4 : s < 4) (hA3 : A ≤ 3) (hA : gI S 9 s 1 = nI A) (hn : ∀ a, a < A → gI S 1003 s a = nI (e a) ∧ gJ S 1002 s a = lN (nm a)) (hnb : ∀ a, a < A → nm a < 2 ^ 48) (hd : ∀ a b, a < A → b < A → nm a = nm b → a = b) (hnm : isNmb ts = true) (hfa : fAct nm (hdT ts).2.2 A = none) : Ok mX4_readActName 0 (ent 3 [zr 4 0, zr 9 s]) [] S (fun r S1 => r = some (zi (-1)) ∧ Fr tFl S S1 ∧ Fl S1 (3, (hdT ts).2.1)) := by
  obtain ⟨f5, f6, f7⟩ := hr.f
  obtain ⟨t1, t2, t3, t4⟩ := hk.hd
  show Ok mX4_readActName 0 [some (zr 4 0), some (zr 9 s), none] [] S _
  refine r_aload_n (q := 1) dX4_readActName_0 rfl rfl rfl ?_
  refine r_callV (Mc := mX4_isName) (q := 4) (As := []) (st := []) ck4 dX4_readActName_1 rfl rfl mkX4_isName wt562 wt564 wp9 rfl (Nat.le_of_ble_eq_true rfl) (Nat.le_of_ble_eq_true rfl) (by decide) (by decide) (by decide) (Or.inl rfl) (hs.e (by decide)) (ok_isName hs hr hk) (fun r1 S1 hp1 => ?_)
  obtain ⟨rfl, hq1⟩ := hp1
  rw [hq1]
  rw [if_pos hnm]
  show Ok _ _ _ [zi (nI 1)] _ _
  refine r_if_neN (q := 7) (t := 19) (by omega) dX4_readActName_4 (by decide) rfl (fun h4 => ?_) (fun h4 => absurd h4 (by omega))
  refine r_aload_n (q := 20) dX4_readActName_19 rfl rfl rfl ?_
  refine r_aload_n (q := 21) dX4_readActName_20 rfl rfl rfl ?_
  refine r_getl (q := 24) ck4 dX4_readActName_21 rfl (k := 7) (by decide) wt128 rfl (hs.e (by decide)) ?_
  refine r_topl (y := lN ((hdT ts).2.2)) (f7 (Or.inl (isNmb_t.mp hnm).1)) ?_
  refine r_callV (Mc := mX9_findAct) (q := 27) (As := [zl (lN ((hdT ts).2.2))]) (st := []) ck9 dX4_readActName_24 rfl rfl mkX9_findAct wt568 wt569 wt570 rfl (Nat.le_of_ble_eq_true rfl) (Nat.le_of_ble_eq_true rfl) (by decide) (by decide) (by decide) (Or.inl rfl) (hs.e (show s < 4 by omega)) (ok_findAct hs hs4 hA3 hA hn hnb hd (t3 (isNmb_t.mp hnm).1).1) (fun r24 S24 hp24 => ?_)
  obtain ⟨rfl, hq24⟩ := hp24
  rw [hq24]
  rw [hfa]
  show Ok _ _ _ [zi (-1 : Int32)] _ _
  refine r_istore_n (q := 28) (L' := [some (zr 4 0), some (zr 9 s), some (zi (-1 : Int32))]) dX4_readActName_27 rfl rfl (by decide) rfl ?_
  refine r_iload_n (q := 29) dX4_readActName_28 rfl rfl rfl ?_
  refine r_if_ge (q := 32) (t := 44) dX4_readActName_29 (by decide) rfl (fun h29 => absurd h29 (by decide)) (fun h29 => ?_)
  refine r_aload_n (q := 33) dX4_readActName_32 rfl rfl rfl ?_
  refine r_iconst (q := 34) (nI 3) dX4_readActName_33 rfl (by decide) ?_
  refine r_aload_n (q := 35) dX4_readActName_34 rfl rfl rfl ?_
  refine r_geti (q := 38) ck4 dX4_readActName_35 rfl (k := 6) (by decide) wt127 (Or.inl rfl) (hs.e (by decide)) ?_
  refine r_topi (y := nI ((hdT ts).2.1)) f6 ?_
  refine r_callV (Mc := mX4_fail) (q := 41) (As := [zi (nI 3), zi (nI ((hdT ts).2.1))]) (st := []) ck4 dX4_readActName_38 rfl rfl mkX4_fail wt550 wt552 wp7 rfl (Nat.le_of_ble_eq_true rfl) (Nat.le_of_ble_eq_true rfl) (by decide) (by decide) (by decide) (Or.inl rfl) (hs.e (by decide)) (ok_fail hs 3 ((hdT ts).2.1)) (fun r38 S38 hp38 => ?_)
  obtain ⟨rfl, w38, x38⟩ := hp38
  show Ok _ _ _ [zi (nI 0)] _ _
  refine r_pop (q := 42) dX4_readActName_41 rfl rfl ?_
  refine r_iconst (q := 43) ((-1 : Int32)) dX4_readActName_42 rfl (by decide) ?_
  refine r_ireturn dX4_readActName_43 rfl ?_
  exact ⟨rfl, w38, x38⟩

set_option maxRecDepth 100000 in
theorem ok_readActName_y {S : zS} (hs : Sd S) {ts : List zTk} (hr : Rc S ts) (hk : Tks ts) {nm e : Nat → Nat} {A s : Nat} (hs4 : s < 4) (hA3 : A ≤ 3) (hA : gI S 9 s 1 = nI A) (hn : ∀ a, a < A → gI S 1003 s a = nI (e a) ∧ gJ S 1002 s a = lN (nm a)) (hnb : ∀ a, a < A → nm a < 2 ^ 48) (hd : ∀ a b, a < A → b < A → nm a = nm b → a = b) {a : Nat} (hnm : isNmb ts = true) (hfa : fAct nm (hdT ts).2.2 A = some a) : Ok mX4_readActName 0 (ent 3 [zr 4 0, zr 9 s]) [] S (fun r S1 => r = some (zi (nI a)) ∧ Fr tAv S S1 ∧ Rc S1 (adv ts)) := by
  obtain ⟨f5, f6, f7⟩ := hr.f
  obtain ⟨t1, t2, t3, t4⟩ := hk.hd
  have ha := (fAct_some hfa).1
  show Ok mX4_readActName 0 [some (zr 4 0), some (zr 9 s), none] [] S _
  refine r_aload_n (q := 1) dX4_readActName_0 rfl rfl rfl ?_
  refine r_callV (Mc := mX4_isName) (q := 4) (As := []) (st := []) ck4 dX4_readActName_1 rfl rfl mkX4_isName wt562 wt564 wp9 rfl (Nat.le_of_ble_eq_true rfl) (Nat.le_of_ble_eq_true rfl) (by decide) (by decide) (by decide) (Or.inl rfl) (hs.e (by decide)) (ok_isName hs hr hk) (fun r1 S1 hp1 => ?_)
  obtain ⟨rfl, hq1⟩ := hp1
  rw [hq1]
  rw [if_pos hnm]
  show Ok _ _ _ [zi (nI 1)] _ _
  refine r_if_neN (q := 7) (t := 19) (by omega) dX4_readActName_4 (by decide) rfl (fun h4 => ?_) (fun h4 => absurd h4 (by omega))
  refine r_aload_n (q := 20) dX4_readActName_19 rfl rfl rfl ?_
  refine r_aload_n (q := 21) dX4_readActName_20 rfl rfl rfl ?_
  refine r_getl (q := 24) ck4 dX4_readActName_21 rfl (k := 7) (by decide) wt128 rfl (hs.e (by decide)) ?_
  refine r_topl (y := lN ((hdT ts).2.2)) (f7 (Or.inl (isNmb_t.mp hnm).1)) ?_
  refine r_callV (Mc := mX9_findAct) (q := 27) (As := [zl (lN ((hdT ts).2.2))]) (st := []) ck9 dX4_readActName_24 rfl rfl mkX9_findAct wt568 wt569 wt570 rfl (Nat.le_of_ble_eq_true rfl) (Nat.le_of_ble_eq_true rfl) (by decide) (by decide) (by decide) (Or.inl rfl) (hs.e (show s < 4 by omega)) (ok_findAct hs hs4 hA3 hA hn hnb hd (t3 (isNmb_t.mp hnm).1).1) (fun r24 S24 hp24 => ?_)
  obtain ⟨rfl, hq24⟩ := hp24
  rw [hq24]
  rw [hfa]
  show Ok _ _ _ [zi (nI a)] _ _
  refine r_istore_n (q := 28) (L' := [some (zr 4 0), some (zr 9 s), some (zi (nI a))]) dX4_readActName_27 rfl rfl (by decide) rfl ?_
  refine r_iload_n (q := 29) dX4_readActName_28 rfl rfl rfl ?_
  refine r_if_geN (q := 32) (t := 44) (by omega) dX4_readActName_29 (by decide) rfl ?_
  refine r_aload_n (q := 45) dX4_readActName_44 rfl rfl rfl ?_
  refine r_callV (Mc := mX4_advance) (q := 48) (As := []) (st := []) ck4 dX4_readActName_45 rfl rfl mkX4_advance wt529 wt531 wp4 rfl (Nat.le_of_ble_eq_true rfl) (Nat.le_of_ble_eq_true rfl) (by decide) (by decide) (by decide) (Or.inl rfl) (hs.e (by decide)) (ok_advance hs hr) (fun r45 S45 hp45 => ?_)
  obtain ⟨rfl, w45, x45⟩ := hp45
  show Ok _ _ _ [] _ _
  refine r_iload_n (q := 49) dX4_readActName_48 rfl rfl rfl ?_
  refine r_ireturn dX4_readActName_49 rfl ?_
  exact ⟨rfl, w45, x45⟩

def M9 (S : zS) : List Nat → Prop
  | [] => True
  | l :: st => gI S 509 0 st.length = nI l ∧ 1 ≤ l ∧ l ≤ 4 ∧ M9 S st
theorem M9.cong {S S1 : zS} : ∀ {st : List Nat}, M9 S st → (∀ i, i < st.length → gI S1 509 0 i = gI S 509 0 i) → M9 S1 st
  | [], _, _ => trivial
  | l :: st, h, hc => ⟨(hc st.length (by simp)).trans h.1, h.2.1, h.2.2.1, h.2.2.2.cong fun i hi => hc i (by rw [List.length_cons]; omega)⟩
def tCa (a b k : Nat) : Bool := tSk a b k || a == 509 && b == 0
theorem tCa_sk (a b k : Nat) (h : tSk a b k = true) : tCa a b k = true := by simp [tCa, h]
/-- what closeActs leaves -/
def ClR (S S1 : zS) (r : Option zV) : zEr ⊕ (List Nat × List zTk) → Prop
  | Sum.inl x => r = some (zi (-1)) ∧ Fr tCa S S1 ∧ Fl S1 x
  | Sum.inr (st, ts) => r = some (zi (nI st.length)) ∧ Fr tCa S S1 ∧ gI S1 4 0 14 = gI S 4 0 14 ∧ Rc S1 ts ∧ M9 S1 st

set_option maxRecDepth 100000 in
theorem lp_closeActs {o : Int32} : ∀ (st : List Nat) (S : zS) (ts : List zTk), Sd S → st.length ≤ 480 → M9 S st → Rc S ts → Tks ts → Ok mX4_closeActs 2 [some (zr 4 0), some (zi o), some (zi (nI st.length))] [] S (fun r S1 => ClR S S1 r (clsP st ts)) := by
  intro st
  induction st with
  | nil =>
    intro S ts hs h6 hm hr hk
    show Ok mX4_closeActs 2 [some (zr 4 0), some (zi o), some (zi (nI 0))] [] S _
    refine r_iload_n (q := 3) dX4_closeActs_2 rfl rfl rfl ?_
    refine r_if_leN (q := 6) (t := 61) (by omega) dX4_closeActs_3 (by decide) rfl (fun h3 => ?_) (fun h3 => absurd h3 (by omega))
    refine r_iconst (q := 62) (nI 0) dX4_closeActs_61 rfl (by decide) ?_
    refine r_ireturn dX4_closeActs_62 rfl ?_
    exact ⟨rfl, Fr.rf, rfl, hr, trivial⟩
  | cons v st ih =>
    intro S ts hs h6 hm hr hk
    rw [List.length_cons] at h6
    obtain ⟨m1, m2, m3, m4⟩ := hm
    show Ok mX4_closeActs 2 [some (zr 4 0), some (zi o), some (zi (nI (st.length + 1)))] [] S _
    have hr' : Rc (sI S 509 0 st.length (nI (v - 1))) ts := hr.cong (fun i => ⟨by rw [gI_sI, if_neg (by omega)], by rw [gI_sI, if_neg (by omega)], rfl⟩) (fun k hk => by rw [gI_sI, if_neg (by omega)]) rfl
    have hm' : M9 (sI S 509 0 st.length (nI (v - 1))) st := m4.cong fun i hi => by rw [gI_sI, if_neg (by omega)]
    have hf' : Fr tCa S (sI S 509 0 st.length (nI (v - 1))) := Fr.rf.i rfl
    have h14 : gI (sI S 509 0 st.length (nI (v - 1))) 4 0 14 = gI S 4 0 14 := by rw [gI_sI, if_neg (by omega)]
    rw [clsP]
    by_cases h1 : 1 < v
    · rw [if_pos h1]
      by_cases hc : (hdT ts).1 = 44
      · rw [if_pos hc]
        refine r_iload_n (q := 3) dX4_closeActs_2 rfl rfl rfl ?_
        refine r_if_leN (q := 6) (t := 61) (by omega) dX4_closeActs_3 (by decide) rfl (fun h3 => absurd h3 (by omega)) (fun h3 => ?_)
        refine r_aload_n (q := 7) dX4_closeActs_6 rfl rfl rfl ?_
        refine r_getr (q := 10) (some (509, 0)) ck4 dX4_closeActs_7 rfl (k := 9) (by decide) wt130 rfl (hs.e (by decide)) (hs.r (by decide) (by decide)) ?_
        refine r_iload_n (q := 11) dX4_closeActs_10 rfl rfl rfl ?_
        refine r_iconst (q := 12) (nI 1) dX4_closeActs_11 rfl (by decide) ?_
        refine r_isubN (q := 13) (by omega) dX4_closeActs_12 rfl ?_
        refine r_topi (y := nI st.length) (congrArg nI (by omega)) ?_
        refine r_dup2 (q := 14) dX4_closeActs_13 rfl rfl rfl ?_
        refine r_ialdN (q := 15) 480 (by decide) rfl dX4_closeActs_14 rfl (hs.e (by decide)) (hs.n rfl (by decide)) (by omega) (by decide) ?_
        refine r_topi (y := nI v) m1 ?_
        refine r_iconst (q := 16) (nI 1) dX4_closeActs_15 rfl (by decide) ?_
        refine r_isubN (q := 17) (by omega) dX4_closeActs_16 rfl ?_
        refine r_iastN (q := 18) 480 (by decide) rfl dX4_closeActs_17 rfl (hs.e (by decide)) (hs.n rfl (by decide)) (by omega) (by decide) ?_
        refine r_aload_n (q := 19) dX4_closeActs_18 rfl rfl rfl ?_
        refine r_getr (q := 22) (some (509, 0)) ck4 dX4_closeActs_19 rfl (k := 9) (by decide) wt130 rfl (hs.e (by decide)) (hs.r (by decide) (by decide)) ?_
        refine r_iload_n (q := 23) dX4_closeActs_22 rfl rfl rfl ?_
        refine r_iconst (q := 24) (nI 1) dX4_closeActs_23 rfl (by decide) ?_
        refine r_isubN (q := 25) (by omega) dX4_closeActs_24 rfl ?_
        refine r_topi (y := nI st.length) (congrArg nI (by omega)) ?_
        refine r_ialdN (q := 26) 480 (by decide) rfl dX4_closeActs_25 rfl (hs.e (by decide)) (hs.n rfl (by decide)) (by omega) (by decide) ?_
        refine r_topi (y := nI (v - 1)) (by simp [gI_sI, gJ_sJ, gI_sJ, gJ_sI]) ?_
        refine r_if_leN (q := 29) (t := 44) (by omega) dX4_closeActs_26 (by decide) rfl (fun h26 => absurd h26 (by omega)) (fun h26 => ?_)
        refine r_aload_n (q := 30) dX4_closeActs_29 rfl rfl rfl ?_
        refine r_bipush (q := 32) (nI 44) dX4_closeActs_30 rfl (by decide) ?_
        refine r_callV (Mc := mX4_skip) (q := 35) (As := [zi (nI 44)]) (st := []) ck4 dX4_closeActs_32 rfl rfl mkX4_skip wt594 wt596 wp14 rfl (Nat.le_of_ble_eq_true rfl) (Nat.le_of_ble_eq_true rfl) (by decide) (by decide) (by decide) (Or.inl rfl) (hs.e (by decide)) (ok_skip_y (S := sI S 509 0 st.length (nI (v - 1))) hs hr' hk hc) (fun r32 S32 hp32 => ?_)
        obtain ⟨rfl, w32, x32⟩ := hp32
        show Ok _ _ _ [zi (nI 1)] _ _
        refine r_if_eqN (q := 38) (t := 42) (by omega) dX4_closeActs_35 (by decide) rfl (fun h35 => absurd h35 (by omega)) (fun h35 => ?_)
        refine r_iload_n (q := 39) dX4_closeActs_38 rfl rfl rfl ?_
        refine r_goto (q := 43) dX4_closeActs_39 (by decide) ?_
        refine r_ireturn dX4_closeActs_43 rfl ?_
        exact ⟨rfl, hf'.tr ((w32.mono tSk_av).mono tCa_sk), (w32.1 _ _ _ rfl).trans h14, x32, (w32.1 _ _ _ rfl).trans (by rw [gI_sI, if_pos ⟨rfl, rfl, rfl⟩]), by omega, by omega, hm'.cong fun i _ => w32.1 _ _ _ rfl⟩
      · rw [if_neg hc]
        refine r_iload_n (q := 3) dX4_closeActs_2 rfl rfl rfl ?_
        refine r_if_leN (q := 6) (t := 61) (by omega) dX4_closeActs_3 (by decide) rfl (fun h3 => absurd h3 (by omega)) (fun h3 => ?_)
        refine r_aload_n (q := 7) dX4_closeActs_6 rfl rfl rfl ?_
        refine r_getr (q := 10) (some (509, 0)) ck4 dX4_closeActs_7 rfl (k := 9) (by decide) wt130 rfl (hs.e (by decide)) (hs.r (by decide) (by decide)) ?_
        refine r_iload_n (q := 11) dX4_closeActs_10 rfl rfl rfl ?_
        refine r_iconst (q := 12) (nI 1) dX4_closeActs_11 rfl (by decide) ?_
        refine r_isubN (q := 13) (by omega) dX4_closeActs_12 rfl ?_
        refine r_topi (y := nI st.length) (congrArg nI (by omega)) ?_
        refine r_dup2 (q := 14) dX4_closeActs_13 rfl rfl rfl ?_
        refine r_ialdN (q := 15) 480 (by decide) rfl dX4_closeActs_14 rfl (hs.e (by decide)) (hs.n rfl (by decide)) (by omega) (by decide) ?_
        refine r_topi (y := nI v) m1 ?_
        refine r_iconst (q := 16) (nI 1) dX4_closeActs_15 rfl (by decide) ?_
        refine r_isubN (q := 17) (by omega) dX4_closeActs_16 rfl ?_
        refine r_iastN (q := 18) 480 (by decide) rfl dX4_closeActs_17 rfl (hs.e (by decide)) (hs.n rfl (by decide)) (by omega) (by decide) ?_
        refine r_aload_n (q := 19) dX4_closeActs_18 rfl rfl rfl ?_
        refine r_getr (q := 22) (some (509, 0)) ck4 dX4_closeActs_19 rfl (k := 9) (by decide) wt130 rfl (hs.e (by decide)) (hs.r (by decide) (by decide)) ?_
        refine r_iload_n (q := 23) dX4_closeActs_22 rfl rfl rfl ?_
        refine r_iconst (q := 24) (nI 1) dX4_closeActs_23 rfl (by decide) ?_
        refine r_isubN (q := 25) (by omega) dX4_closeActs_24 rfl ?_
        refine r_topi (y := nI st.length) (congrArg nI (by omega)) ?_
        refine r_ialdN (q := 26) 480 (by decide) rfl dX4_closeActs_25 rfl (hs.e (by decide)) (hs.n rfl (by decide)) (by omega) (by decide) ?_
        refine r_topi (y := nI (v - 1)) (by simp [gI_sI, gJ_sJ, gI_sJ, gJ_sI]) ?_
        refine r_if_leN (q := 29) (t := 44) (by omega) dX4_closeActs_26 (by decide) rfl (fun h26 => absurd h26 (by omega)) (fun h26 => ?_)
        refine r_aload_n (q := 30) dX4_closeActs_29 rfl rfl rfl ?_
        refine r_bipush (q := 32) (nI 44) dX4_closeActs_30 rfl (by decide) ?_
        refine r_callV (Mc := mX4_skip) (q := 35) (As := [zi (nI 44)]) (st := []) ck4 dX4_closeActs_32 rfl rfl mkX4_skip wt594 wt596 wp14 rfl (Nat.le_of_ble_eq_true rfl) (Nat.le_of_ble_eq_true rfl) (by decide) (by decide) (by decide) (Or.inl rfl) (hs.e (by decide)) (ok_skip_n (S := sI S 509 0 st.length (nI (v - 1))) hs hr' hk hc (by omega)) (fun r32 S32 hp32 => ?_)
        obtain ⟨rfl, w32, x32⟩ := hp32
        show Ok _ _ _ [zi (nI 0)] _ _
        refine r_if_eqN (q := 38) (t := 42) (by omega) dX4_closeActs_35 (by decide) rfl (fun h35 => ?_) (fun h35 => absurd h35 (by omega))
        refine r_iconst (q := 43) ((-1 : Int32)) dX4_closeActs_42 rfl (by decide) ?_
        refine r_ireturn dX4_closeActs_43 rfl ?_
        exact ⟨rfl, hf'.tr ((w32.mono tSk_fl).mono tCa_sk), x32⟩
    · rw [if_neg h1]
      by_cases hc : (hdT ts).1 = 41
      · rw [if_pos hc]
        refine r_iload_n (q := 3) dX4_closeActs_2 rfl rfl rfl ?_
        refine r_if_leN (q := 6) (t := 61) (by omega) dX4_closeActs_3 (by decide) rfl (fun h3 => absurd h3 (by omega)) (fun h3 => ?_)
        refine r_aload_n (q := 7) dX4_closeActs_6 rfl rfl rfl ?_
        refine r_getr (q := 10) (some (509, 0)) ck4 dX4_closeActs_7 rfl (k := 9) (by decide) wt130 rfl (hs.e (by decide)) (hs.r (by decide) (by decide)) ?_
        refine r_iload_n (q := 11) dX4_closeActs_10 rfl rfl rfl ?_
        refine r_iconst (q := 12) (nI 1) dX4_closeActs_11 rfl (by decide) ?_
        refine r_isubN (q := 13) (by omega) dX4_closeActs_12 rfl ?_
        refine r_topi (y := nI st.length) (congrArg nI (by omega)) ?_
        refine r_dup2 (q := 14) dX4_closeActs_13 rfl rfl rfl ?_
        refine r_ialdN (q := 15) 480 (by decide) rfl dX4_closeActs_14 rfl (hs.e (by decide)) (hs.n rfl (by decide)) (by omega) (by decide) ?_
        refine r_topi (y := nI v) m1 ?_
        refine r_iconst (q := 16) (nI 1) dX4_closeActs_15 rfl (by decide) ?_
        refine r_isubN (q := 17) (by omega) dX4_closeActs_16 rfl ?_
        refine r_iastN (q := 18) 480 (by decide) rfl dX4_closeActs_17 rfl (hs.e (by decide)) (hs.n rfl (by decide)) (by omega) (by decide) ?_
        refine r_aload_n (q := 19) dX4_closeActs_18 rfl rfl rfl ?_
        refine r_getr (q := 22) (some (509, 0)) ck4 dX4_closeActs_19 rfl (k := 9) (by decide) wt130 rfl (hs.e (by decide)) (hs.r (by decide) (by decide)) ?_
        refine r_iload_n (q := 23) dX4_closeActs_22 rfl rfl rfl ?_
        refine r_iconst (q := 24) (nI 1) dX4_closeActs_23 rfl (by decide) ?_
        refine r_isubN (q := 25) (by omega) dX4_closeActs_24 rfl ?_
        refine r_topi (y := nI st.length) (congrArg nI (by omega)) ?_
        refine r_ialdN (q := 26) 480 (by decide) rfl dX4_closeActs_25 rfl (hs.e (by decide)) (hs.n rfl (by decide)) (by omega) (by decide) ?_
        refine r_topi (y := nI (v - 1)) (by simp [gI_sI, gJ_sJ, gI_sJ, gJ_sI]) ?_
        refine r_if_leN (q := 29) (t := 44) (by omega) dX4_closeActs_26 (by decide) rfl (fun h26 => ?_) (fun h26 => absurd h26 (by omega))
        refine r_aload_n (q := 45) dX4_closeActs_44 rfl rfl rfl ?_
        refine r_bipush (q := 47) (nI 41) dX4_closeActs_45 rfl (by decide) ?_
        refine r_callV (Mc := mX4_skip) (q := 50) (As := [zi (nI 41)]) (st := []) ck4 dX4_closeActs_47 rfl rfl mkX4_skip wt594 wt596 wp14 rfl (Nat.le_of_ble_eq_true rfl) (Nat.le_of_ble_eq_true rfl) (by decide) (by decide) (by decide) (Or.inl rfl) (hs.e (by decide)) (ok_skip_y (S := sI S 509 0 st.length (nI (v - 1))) hs hr' hk hc) (fun r47 S47 hp47 => ?_)
        obtain ⟨rfl, w47, x47⟩ := hp47
        show Ok _ _ _ [zi (nI 1)] _ _
        refine r_if_neN (q := 53) (t := 55) (by omega) dX4_closeActs_50 (by decide) rfl (fun h50 => ?_) (fun h50 => absurd h50 (by omega))
        refine r_idecN (q := 58) (L' := [some (zr 4 0), some (zi o), some (zi (nI (st.length + 1 - 1)))]) 1 (by omega) rfl dX4_closeActs_55 rfl rfl (by decide) rfl ?_
        refine r_goto (q := 2) dX4_closeActs_58 (by decide) ?_
        have fA : Fr tCa S S47 := hf'.tr ((w47.mono tSk_av).mono tCa_sk)
        refine Ok.mono (ih S47 (adv ts) (Sd.fr (S := sI S 509 0 st.length (nI (v - 1))) hs w47) (by omega) (hm'.cong fun i _ => w47.1 _ _ _ rfl) x47 hk.adv) (fun r S1 z => ?_)
        cases q : clsP st (adv ts) with
        | inl x => rw [q] at z; exact ⟨z.1, fA.tr z.2.1, z.2.2⟩
        | inr x => obtain ⟨st', ts'⟩ := x; rw [q] at z; exact ⟨z.1, fA.tr z.2.1, z.2.2.1.trans ((w47.1 _ _ _ rfl).trans h14), z.2.2.2⟩
      · rw [if_neg hc]
        refine r_iload_n (q := 3) dX4_closeActs_2 rfl rfl rfl ?_
        refine r_if_leN (q := 6) (t := 61) (by omega) dX4_closeActs_3 (by decide) rfl (fun h3 => absurd h3 (by omega)) (fun h3 => ?_)
        refine r_aload_n (q := 7) dX4_closeActs_6 rfl rfl rfl ?_
        refine r_getr (q := 10) (some (509, 0)) ck4 dX4_closeActs_7 rfl (k := 9) (by decide) wt130 rfl (hs.e (by decide)) (hs.r (by decide) (by decide)) ?_
        refine r_iload_n (q := 11) dX4_closeActs_10 rfl rfl rfl ?_
        refine r_iconst (q := 12) (nI 1) dX4_closeActs_11 rfl (by decide) ?_
        refine r_isubN (q := 13) (by omega) dX4_closeActs_12 rfl ?_
        refine r_topi (y := nI st.length) (congrArg nI (by omega)) ?_
        refine r_dup2 (q := 14) dX4_closeActs_13 rfl rfl rfl ?_
        refine r_ialdN (q := 15) 480 (by decide) rfl dX4_closeActs_14 rfl (hs.e (by decide)) (hs.n rfl (by decide)) (by omega) (by decide) ?_
        refine r_topi (y := nI v) m1 ?_
        refine r_iconst (q := 16) (nI 1) dX4_closeActs_15 rfl (by decide) ?_
        refine r_isubN (q := 17) (by omega) dX4_closeActs_16 rfl ?_
        refine r_iastN (q := 18) 480 (by decide) rfl dX4_closeActs_17 rfl (hs.e (by decide)) (hs.n rfl (by decide)) (by omega) (by decide) ?_
        refine r_aload_n (q := 19) dX4_closeActs_18 rfl rfl rfl ?_
        refine r_getr (q := 22) (some (509, 0)) ck4 dX4_closeActs_19 rfl (k := 9) (by decide) wt130 rfl (hs.e (by decide)) (hs.r (by decide) (by decide)) ?_
        refine r_iload_n (q := 23) dX4_closeActs_22 rfl rfl rfl ?_
        refine r_iconst (q := 24) (nI 1) dX4_closeActs_23 rfl (by decide) ?_
        refine r_isubN (q := 25) (by omega) dX4_closeActs_24 rfl ?_
        refine r_topi (y := nI st.length) (congrArg nI (by omega)) ?_
        refine r_ialdN (q := 26) 480 (by decide) rfl dX4_closeActs_25 rfl (hs.e (by decide)) (hs.n rfl (by decide)) (by omega) (by decide) ?_
        refine r_topi (y := nI (v - 1)) (by simp [gI_sI, gJ_sJ, gI_sJ, gJ_sI]) ?_
        refine r_if_leN (q := 29) (t := 44) (by omega) dX4_closeActs_26 (by decide) rfl (fun h26 => ?_) (fun h26 => absurd h26 (by omega))
        refine r_aload_n (q := 45) dX4_closeActs_44 rfl rfl rfl ?_
        refine r_bipush (q := 47) (nI 41) dX4_closeActs_45 rfl (by decide) ?_
        refine r_callV (Mc := mX4_skip) (q := 50) (As := [zi (nI 41)]) (st := []) ck4 dX4_closeActs_47 rfl rfl mkX4_skip wt594 wt596 wp14 rfl (Nat.le_of_ble_eq_true rfl) (Nat.le_of_ble_eq_true rfl) (by decide) (by decide) (by decide) (Or.inl rfl) (hs.e (by decide)) (ok_skip_n (S := sI S 509 0 st.length (nI (v - 1))) hs hr' hk hc (by omega)) (fun r47 S47 hp47 => ?_)
        obtain ⟨rfl, w47, x47⟩ := hp47
        show Ok _ _ _ [zi (nI 0)] _ _
        refine r_if_neN (q := 53) (t := 55) (by omega) dX4_closeActs_50 (by decide) rfl (fun h50 => absurd h50 (by omega)) (fun h50 => ?_)
        refine r_iconst (q := 54) ((-1 : Int32)) dX4_closeActs_53 rfl (by decide) ?_
        refine r_ireturn dX4_closeActs_54 rfl ?_
        exact ⟨rfl, hf'.tr ((w47.mono tSk_fl).mono tCa_sk), x47⟩

set_option maxRecDepth 100000 in
theorem ok_closeActs {S : zS} (hs : Sd S) {ts : List zTk} (hr : Rc S ts) (hk : Tks ts) {st : List Nat} (h6 : st.length ≤ 480) (hm : M9 S st) : Ok mX4_closeActs 0 (ent 3 [zr 4 0, zi (nI st.length)]) [] S (fun r S1 => ClR S S1 r (clsP st ts)) := by
  show Ok mX4_closeActs 0 [some (zr 4 0), some (zi (nI st.length)), none] [] S _
  refine r_iload_n (q := 1) dX4_closeActs_0 rfl rfl rfl ?_
  refine r_istore_n (q := 2) (L' := [some (zr 4 0), some (zi (nI st.length)), some (zi (nI st.length))]) dX4_closeActs_1 rfl rfl (by decide) rfl ?_
  exact lp_closeActs st S ts hs h6 hm hr hk

