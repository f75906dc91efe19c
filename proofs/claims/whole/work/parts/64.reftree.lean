def Lk (ts : List zTk) : Prop := ∃ a, ts.getLast? = some a ∧ a.1 ≤ 1
theorem Lk.ad {ts : List zTk} (h : Lk ts) : Lk (_root_.Jvm.Pilot.CLeafWorldsLaw_law_r8483_d58aac.adv ts) := by
  match ts, h with
  | [], h => exact h
  | [a], h => exact h
  | a :: b :: r, h => obtain ⟨x, h1, h2⟩ := h; exact ⟨x, by rw [List.getLast?_cons_cons] at h1; exact h1, h2⟩
theorem Lk.len {ts : List zTk} (h : Lk ts) (h2 : 2 ≤ (hdT ts).1) : (adv ts).length + 1 = ts.length := by
  match ts, h, h2 with
  | [], h, h2 => obtain ⟨x, h1, _⟩ := h; simp at h1
  | [a], h, h2 => obtain ⟨x, h1, h3⟩ := h; simp at h1; subst h1; have h2 : 2 ≤ a.1 := h2; omega
  | a :: b :: r, h, h2 => rfl
theorem adv_len (ts : List zTk) : (adv ts).length ≤ ts.length := by
  match ts with
  | [] => exact Nat.le_refl _
  | [a] => exact Nat.le_refl _
  | a :: b :: r => simp [adv]
theorem lex_lk {bs : List Nat} {lim : Nat} : ∀ (f p : Nat), Lk (lexF bs lim f p)
  | 0, p => ⟨tend bs lim, rfl, by unfold tend; simp only; split <;> omega⟩
  | f + 1, p => by
    have hc : ∀ (x : zTk) (l : List zTk), Lk l → Lk (x :: l) := fun x l h => by
      obtain ⟨a, h1, h2⟩ := h
      refine ⟨a, ?_, h2⟩
      cases l with
      | nil => simp at h1
      | cons y r => rw [List.getLast?_cons_cons]; exact h1
    rw [lexF]
    split
    · split
      · exact hc _ _ (lex_lk f _)
      · split
        · exact lex_lk f _
        · exact hc _ _ (lex_lk f _)
    · exact ⟨tend bs lim, rfl, by unfold tend; simp only; split <;> omega⟩
/-- the reference stands at ts -/
def Rr (S : zS) (bs : List Nat) (lim : Nat) (ts : List zTk) : Prop := Tm S (hdT ts) ∧ ∃ q, q ≤ bs.length ∧ Tx2 S bs lim q ∧ lexA bs lim q = adv ts
def tNb (a b k : Nat) : Bool := tNx a b k || a == 12 && b == 0 && (k == 13 || k == 14)
theorem tNb_x (a b k : Nat) (h : tNx a b k = true) : tNb a b k = true := by simp [tNb, h]
def Fq (S : zS) (x : zEr) : Prop := gI S 12 0 13 = nI x.1 ∧ gI S 12 0 14 = nI x.2
theorem Rr.cong {S S1 : zS} {bs : List Nat} {lim : Nat} {ts : List zTk} (h : Rr S bs lim ts) (h1 : ∀ k, gI S1 1301 0 k = gI S 1301 0 k) (h2 : ∀ k, k = 3 ∨ k = 4 ∨ k = 5 ∨ k = 9 ∨ k = 10 ∨ k = 12 → gI S1 12 0 k = gI S 12 0 k) (h3 : gJ S1 12 0 15 = gJ S 12 0 15) : Rr S1 bs lim ts := by
  obtain ⟨⟨a1, a2, a3, a4, a5⟩, q, b1, ⟨b2, b3, b4, b5⟩, b6⟩ := h
  exact ⟨⟨(h2 9 (by omega)).trans a1, (h2 10 (by omega)).trans a2, fun z => h3.trans (a3 z), fun z => (h2 12 (by omega)).trans (a4 z), fun z => (h2 12 (by omega)).trans (a5 z)⟩, q, b1, ⟨⟨fun k hk => (h1 k).trans (b2.1 k hk), b2.2⟩, (h2 3 (by omega)).trans b3, (h2 5 (by omega)).trans b4, (h2 4 (by omega)).trans b5⟩, b6⟩
theorem ok_nextR {S : zS} (hs : Sd S) {bs : List Nat} {lim : Nat} {ts : List zTk} (hbl : bs.length ≤ 940) (hlim : lim ≤ 940) (h : Rr S bs lim ts) : Ok mX12_next 0 (ent 4 [zr 12 0]) [] S (fun r S1 => r = none ∧ Fr tNx S S1 ∧ Rr S1 bs lim (adv ts)) := by
  obtain ⟨h1, q, b1, b2, b3⟩ := h
  refine Ok.mono (ok_X12_next hs hbl b2 hlim b1) fun r S1 z => ⟨z.1, z.2.1, ?_⟩
  have := z.2.2
  rw [b3] at this
  exact this

def tBd (a b k : Nat) : Bool := a == 12 && b == 0 && (k == 13 || k == 14)
theorem tNb_d (a b k : Nat) (h : tBd a b k = true) : tNb a b k = true := by simp [tBd] at h; simp [tNb]; omega

set_option maxRecDepth 100000 in
theorem ok_bad {S : zS} (hs : Sd S) {bs : List Nat} {lim : Nat} (hbl : bs.length ≤ 940) (hlim : lim ≤ 940) {ts : List zTk} (hr : Rr S bs lim ts) (hk : Tks ts) (k : Nat) : Ok mX12_bad 0 (ent 2 [zr 12 0, zi (nI k)]) [] S (fun r S1 => r = some (zi (nI 0)) ∧ Fr tBd S S1 ∧ Fq S1 (k, (hdT ts).2.1)) := by
  show Ok mX12_bad 0 [some (zr 12 0), some (zi (nI k))] [] S _
  refine r_aload_n (q := 1) dX12_bad_0 rfl rfl rfl ?_
  refine r_iload_n (q := 2) dX12_bad_1 rfl rfl rfl ?_
  refine r_puti (q := 5) ck12 dX12_bad_2 rfl (k := 13) (by decide) wt1291 (Or.inl rfl) rfl (hs.e (by decide)) ?_
  refine r_aload_n (q := 6) dX12_bad_5 rfl rfl rfl ?_
  refine r_aload_n (q := 7) dX12_bad_6 rfl rfl rfl ?_
  refine r_geti (q := 10) ck12 dX12_bad_7 rfl (k := 10) (by decide) wt1288 (Or.inl rfl) (hs.e (by decide)) ?_
  refine r_topi (y := gI S 12 0 10) (by simp [gI_sI, gJ_sJ, gI_sJ, gJ_sI]) ?_
  refine r_topi (y := nI ((hdT ts).2.1)) hr.1.2.1 ?_
  refine r_puti (q := 13) ck12 dX12_bad_10 rfl (k := 14) (by decide) wt1292 (Or.inl rfl) rfl (hs.e (by decide)) ?_
  refine r_iconst (q := 14) (nI 0) dX12_bad_13 rfl (by decide) ?_
  refine r_zreturn (by decide) dX12_bad_14 rfl ?_
  exact ⟨rfl, (Fr.rf.i rfl).i rfl, by rw [gI_sI, if_neg (by omega), gI_sI, if_pos ⟨rfl, rfl, rfl⟩], by rw [gI_sI, if_pos ⟨rfl, rfl, rfl⟩]⟩

theorem rkt_1 {k : Nat} : rkt k = 1 ↔ k = 2 := by
  unfold rkt
  split
  · omega
  · split
    · omega
    · split
      · omega
      · split <;> omega
theorem rkt_3 {k : Nat} : rkt k = 3 ↔ 5 ≤ k := by
  unfold rkt
  split
  · omega
  · split
    · omega
    · split
      · omega
      · split <;> omega
theorem rkt_le {k : Nat} : rkt k ≤ 4 := by
  unfold rkt
  split
  · omega
  · split
    · omega
    · split
      · omega
      · split <;> omega

set_option maxRecDepth 100000 in
theorem ok_isWordR {S : zS} (hs : Sd S) {bs : List Nat} {lim : Nat} (hbl : bs.length ≤ 940) (hlim : lim ≤ 940) {ts : List zTk} (hr : Rr S bs lim ts) (hk : Tks ts) {v : Nat} (hv : v < 2 ^ 48) : Ok mX12_isWord 0 (ent 3 [zr 12 0, zl (lN v)]) [] S (fun r S1 => r = some (zi (nI (if isWb ts v = true then 1 else 0))) ∧ S1 = S) := by
  obtain ⟨m1, m2, m3, m4, m5⟩ := hr.1
  obtain ⟨t1, t2, t3, t4⟩ := hk.hd
  have hrl := rkt_le (k := (hdT ts).1)
  show Ok mX12_isWord 0 [some (zr 12 0), some (zl (lN v)), none] [] S _
  refine r_aload_n (q := 1) dX12_isWord_0 rfl rfl rfl ?_
  refine r_geti (q := 4) ck12 dX12_isWord_1 rfl (k := 9) (by decide) wt1287 (Or.inl rfl) (hs.e (by decide)) ?_
  refine r_topi (y := nI (rkt (hdT ts).1)) m1 ?_
  refine r_iconst (q := 5) (nI 1) dX12_isWord_4 rfl (by decide) ?_
  refine r_icmp_neN (q := 8) (t := 21) (by omega) (by omega) dX12_isWord_5 (by decide) rfl (fun h5 => ?_) (fun h5 => ?_)
  · skip
    refine r_iconst (q := 22) (nI 0) dX12_isWord_21 rfl (by decide) ?_
    refine r_zreturn (by decide) dX12_isWord_22 rfl ?_
    have e : ¬ isWb ts v = true := fun z => h5 (rkt_1.mpr (isWb_t.mp z).1)
    exact ⟨by rw [if_neg e], rfl⟩
  · skip
    refine r_aload_n (q := 9) dX12_isWord_8 rfl rfl rfl ?_
    refine r_getl (q := 12) ck12 dX12_isWord_9 rfl (k := 15) (by decide) wt1293 rfl (hs.e (by decide)) ?_
    refine r_topl (y := lN ((hdT ts).2.2)) (m3 (rkt_1.mp h5)) ?_
    refine r_lload_n (q := 13) dX12_isWord_12 rfl rfl rfl ?_
    refine r_lcmp (q := 14) dX12_isWord_13 rfl ?_
    refine r_if_ne (q := 17) (t := 21) dX12_isWord_14 (by decide) rfl (fun h14 => ?_) (fun h14 => ?_)
    · skip
      refine r_iconst (q := 22) (nI 0) dX12_isWord_21 rfl (by decide) ?_
      refine r_zreturn (by decide) dX12_isWord_22 rfl ?_
      have e : ¬ isWb ts v = true := fun z => (lcmp_ne (by have := t3 (rkt_1.mp h5); omega) (by omega)).mp h14 (isWb_t.mp z).2
      exact ⟨by rw [if_neg e], rfl⟩
    · skip
      refine r_iconst (q := 18) (nI 1) dX12_isWord_17 rfl (by decide) ?_
      refine r_goto (q := 22) dX12_isWord_18 (by decide) ?_
      refine r_zreturn (by decide) dX12_isWord_22 rfl ?_
      have e : isWb ts v = true := isWb_t.mpr ⟨rkt_1.mp h5, Decidable.byContradiction fun z => h14 ((lcmp_ne (by have := t3 (rkt_1.mp h5); omega) (by omega)).mpr z)⟩
      exact ⟨by rw [if_pos e], rfl⟩

set_option maxRecDepth 100000 in
theorem ok_isNameR {S : zS} (hs : Sd S) {bs : List Nat} {lim : Nat} (hbl : bs.length ≤ 940) (hlim : lim ≤ 940) {ts : List zTk} (hr : Rr S bs lim ts) (hk : Tks ts) : Ok mX12_isName 0 (ent 1 [zr 12 0]) [] S (fun r S1 => r = some (zi (nI (if isNmb ts = true then 1 else 0))) ∧ S1 = S) := by
  obtain ⟨m1, m2, m3, m4, m5⟩ := hr.1
  obtain ⟨t1, t2, t3, t4⟩ := hk.hd
  have hrl := rkt_le (k := (hdT ts).1)
  show Ok mX12_isName 0 [some (zr 12 0)] [] S _
  refine r_aload_n (q := 1) dX12_isName_0 rfl rfl rfl ?_
  refine r_geti (q := 4) ck12 dX12_isName_1 rfl (k := 9) (by decide) wt1287 (Or.inl rfl) (hs.e (by decide)) ?_
  refine r_topi (y := nI (rkt (hdT ts).1)) m1 ?_
  refine r_iconst (q := 5) (nI 1) dX12_isName_4 rfl (by decide) ?_
  refine r_icmp_neN (q := 8) (t := 56) (by omega) (by omega) dX12_isName_5 (by decide) rfl (fun h5 => ?_) (fun h5 => ?_)
  · skip
    refine r_iconst (q := 57) (nI 0) dX12_isName_56 rfl (by decide) ?_
    refine r_zreturn (by decide) dX12_isName_57 rfl ?_
    have e : ¬ isNmb ts = true := fun z => h5 (rkt_1.mpr (isNmb_t.mp z).1)
    exact ⟨by rw [if_neg e], rfl⟩
  · skip
    refine r_aload_n (q := 9) dX12_isName_8 rfl rfl rfl ?_
    refine r_getl (q := 12) ck12 dX12_isName_9 rfl (k := 15) (by decide) wt1293 rfl (hs.e (by decide)) ?_
    refine r_topl (y := lN ((hdT ts).2.2)) (m3 (rkt_1.mp h5)) ?_
    refine r_ldc2 (q := 15) (7171940 : Int64) dX12_isName_12 rfl wt1591 ?_
    refine r_topl (y := lN 7171940) rfl ?_
    refine r_lcmp (q := 16) dX12_isName_15 rfl ?_
    refine r_if_eq (q := 19) (t := 56) dX12_isName_16 (by decide) rfl (fun h16 => ?_) (fun h16 => ?_)
    · skip
      refine r_iconst (q := 57) (nI 0) dX12_isName_56 rfl (by decide) ?_
      refine r_zreturn (by decide) dX12_isName_57 rfl ?_
      have e : ¬ isNmb ts = true := fun z => (isNmb_t.mp z).2.2.1 ((pk_lEQ (by have := t3 (rkt_1.mp h5); omega) (by omega)).mp ((lg_cmp_eq _ _).mp h16))
      exact ⟨by rw [if_neg e], rfl⟩
    · skip
      refine r_aload_n (q := 20) dX12_isName_19 rfl rfl rfl ?_
      refine r_getl (q := 23) ck12 dX12_isName_20 rfl (k := 15) (by decide) wt1293 rfl (hs.e (by decide)) ?_
      refine r_topl (y := lN ((hdT ts).2.2)) (m3 (rkt_1.mp h5)) ?_
      refine r_ldc2 (q := 26) (6382452 : Int64) dX12_isName_23 rfl wt1603 ?_
      refine r_topl (y := lN 6382452) rfl ?_
      refine r_lcmp (q := 27) dX12_isName_26 rfl ?_
      refine r_if_eq (q := 30) (t := 56) dX12_isName_27 (by decide) rfl (fun h27 => ?_) (fun h27 => ?_)
      · skip
        refine r_iconst (q := 57) (nI 0) dX12_isName_56 rfl (by decide) ?_
        refine r_zreturn (by decide) dX12_isName_57 rfl ?_
        have e : ¬ isNmb ts = true := fun z => (isNmb_t.mp z).2.2.2.1 ((pk_lEQ (by have := t3 (rkt_1.mp h5); omega) (by omega)).mp ((lg_cmp_eq _ _).mp h27))
        exact ⟨by rw [if_neg e], rfl⟩
      · skip
        refine r_aload_n (q := 31) dX12_isName_30 rfl rfl rfl ?_
        refine r_getl (q := 34) ck12 dX12_isName_31 rfl (k := 15) (by decide) wt1293 rfl (hs.e (by decide)) ?_
        refine r_topl (y := lN ((hdT ts).2.2)) (m3 (rkt_1.mp h5)) ?_
        refine r_ldc2 (q := 37) (7102839 : Int64) dX12_isName_34 rfl wt1612 ?_
        refine r_topl (y := lN 7102839) rfl ?_
        refine r_lcmp (q := 38) dX12_isName_37 rfl ?_
        refine r_if_eq (q := 41) (t := 56) dX12_isName_38 (by decide) rfl (fun h38 => ?_) (fun h38 => ?_)
        · skip
          refine r_iconst (q := 57) (nI 0) dX12_isName_56 rfl (by decide) ?_
          refine r_zreturn (by decide) dX12_isName_57 rfl ?_
          have e : ¬ isNmb ts = true := fun z => (isNmb_t.mp z).2.2.2.2 ((pk_lEQ (by have := t3 (rkt_1.mp h5); omega) (by omega)).mp ((lg_cmp_eq _ _).mp h38))
          exact ⟨by rw [if_neg e], rfl⟩
        · skip
          refine r_aload_n (q := 42) dX12_isName_41 rfl rfl rfl ?_
          refine r_getl (q := 45) ck12 dX12_isName_42 rfl (k := 15) (by decide) wt1293 rfl (hs.e (by decide)) ?_
          refine r_topl (y := lN ((hdT ts).2.2)) (m3 (rkt_1.mp h5)) ?_
          refine r_ldc2 (q := 48) (120 : Int64) dX12_isName_45 rfl wt1613 ?_
          refine r_topl (y := lN 120) rfl ?_
          refine r_lcmp (q := 49) dX12_isName_48 rfl ?_
          refine r_if_eq (q := 52) (t := 56) dX12_isName_49 (by decide) rfl (fun h49 => ?_) (fun h49 => ?_)
          · skip
            refine r_iconst (q := 57) (nI 0) dX12_isName_56 rfl (by decide) ?_
            refine r_zreturn (by decide) dX12_isName_57 rfl ?_
            have e : ¬ isNmb ts = true := fun z => (isNmb_t.mp z).2.1 ((pk_lEQ (by have := t3 (rkt_1.mp h5); omega) (by omega)).mp ((lg_cmp_eq _ _).mp h49))
            exact ⟨by rw [if_neg e], rfl⟩
          · skip
            refine r_iconst (q := 53) (nI 1) dX12_isName_52 rfl (by decide) ?_
            refine r_goto (q := 57) dX12_isName_53 (by decide) ?_
            refine r_zreturn (by decide) dX12_isName_57 rfl ?_
            have e : isNmb ts = true := isNmb_t.mpr ⟨rkt_1.mp h5, fun z => h49 ((lg_cmp_eq _ _).mpr (by rw [z])), fun z => h16 ((lg_cmp_eq _ _).mpr (by rw [z])), fun z => h27 ((lg_cmp_eq _ _).mpr (by rw [z])), fun z => h38 ((lg_cmp_eq _ _).mpr (by rw [z]))⟩
            exact ⟨by rw [if_pos e], rfl⟩

set_option maxRecDepth 100000 in
theorem ok_isSignR {S : zS} (hs : Sd S) {bs : List Nat} {lim : Nat} (hbl : bs.length ≤ 940) (hlim : lim ≤ 940) {ts : List zTk} (hr : Rr S bs lim ts) (hk : Tks ts) {c : Nat} (hc5 : 5 ≤ c) (hc : c < 256) : Ok mX12_isSign 0 (ent 2 [zr 12 0, zi (nI c)]) [] S (fun r S1 => r = some (zi (nI (if (hdT ts).1 = c then 1 else 0))) ∧ S1 = S) := by
  obtain ⟨m1, m2, m3, m4, m5⟩ := hr.1
  obtain ⟨t1, t2, t3, t4⟩ := hk.hd
  have hrl := rkt_le (k := (hdT ts).1)
  show Ok mX12_isSign 0 [some (zr 12 0), some (zi (nI c))] [] S _
  refine r_aload_n (q := 1) dX12_isSign_0 rfl rfl rfl ?_
  refine r_geti (q := 4) ck12 dX12_isSign_1 rfl (k := 9) (by decide) wt1287 (Or.inl rfl) (hs.e (by decide)) ?_
  refine r_topi (y := nI (rkt (hdT ts).1)) m1 ?_
  refine r_iconst (q := 5) (nI 3) dX12_isSign_4 rfl (by decide) ?_
  refine r_icmp_neN (q := 8) (t := 20) (by omega) (by omega) dX12_isSign_5 (by decide) rfl (fun h5 => ?_) (fun h5 => ?_)
  · skip
    refine r_iconst (q := 21) (nI 0) dX12_isSign_20 rfl (by decide) ?_
    refine r_zreturn (by decide) dX12_isSign_21 rfl ?_
    exact ⟨by rw [if_neg (fun z => h5 (rkt_3.mpr (by omega)))], rfl⟩
  · skip
    refine r_aload_n (q := 9) dX12_isSign_8 rfl rfl rfl ?_
    refine r_geti (q := 12) ck12 dX12_isSign_9 rfl (k := 12) (by decide) wt1290 (Or.inl rfl) (hs.e (by decide)) ?_
    refine r_topi (y := nI ((hdT ts).1)) (m5 (rkt_3.mp h5)) ?_
    refine r_iload_n (q := 13) dX12_isSign_12 rfl rfl rfl ?_
    refine r_icmp_neN (q := 16) (t := 20) (by omega) (by omega) dX12_isSign_13 (by decide) rfl (fun h13 => ?_) (fun h13 => ?_)
    · skip
      refine r_iconst (q := 21) (nI 0) dX12_isSign_20 rfl (by decide) ?_
      refine r_zreturn (by decide) dX12_isSign_21 rfl ?_
      exact ⟨by rw [if_neg h13], rfl⟩
    · skip
      refine r_iconst (q := 17) (nI 1) dX12_isSign_16 rfl (by decide) ?_
      refine r_goto (q := 21) dX12_isSign_17 (by decide) ?_
      refine r_zreturn (by decide) dX12_isSign_21 rfl ?_
      exact ⟨by rw [if_pos h13], rfl⟩

set_option maxRecDepth 100000 in
theorem ok_sign_y {S : zS} (hs : Sd S) {bs : List Nat} {lim : Nat} (hbl : bs.length ≤ 940) (hlim : lim ≤ 940) {ts : List zTk} (hr : Rr S bs lim ts) (hk : Tks ts) {c : Nat} (hc5 : 5 ≤ c) (hc256 : c < 256) (hc : (hdT ts).1 = c) : Ok mX12_sign 0 (ent 2 [zr 12 0, zi (nI c)]) [] S (fun r S1 => r = some (zi (nI 1)) ∧ Fr tNx S S1 ∧ Rr S1 bs lim (adv ts)) := by
  show Ok mX12_sign 0 [some (zr 12 0), some (zi (nI c))] [] S _
  refine r_aload_n (q := 1) dX12_sign_0 rfl rfl rfl ?_
  refine r_iload_n (q := 2) dX12_sign_1 rfl rfl rfl ?_
  refine r_callV (Mc := mX12_isSign) (q := 5) (As := [zi (nI c)]) (st := []) ck12 dX12_sign_2 rfl rfl mkX12_isSign wt1621 wt1623 wp78 rfl (Nat.le_of_ble_eq_true rfl) (Nat.le_of_ble_eq_true rfl) (by decide) (by decide) (by decide) (Or.inl rfl) (hs.e (by decide)) (ok_isSignR hs hbl hlim hr hk hc5 hc256) (fun r2 S2 hp2 => ?_)
  obtain ⟨rfl, hq2⟩ := hp2
  rw [hq2]
  rw [if_pos hc]
  show Ok _ _ _ [zi (nI 1)] _ _
  refine r_if_neN (q := 8) (t := 14) (by omega) dX12_sign_5 (by decide) rfl (fun h5 => ?_) (fun h5 => absurd h5 (by omega))
  refine r_aload_n (q := 15) dX12_sign_14 rfl rfl rfl ?_
  refine r_callV (Mc := mX12_next) (q := 18) (As := []) (st := []) ck12 dX12_sign_15 rfl rfl mkX12_next wt1573 wt1575 wp70 rfl (Nat.le_of_ble_eq_true rfl) (Nat.le_of_ble_eq_true rfl) (by decide) (by decide) (by decide) (Or.inl rfl) (hs.e (by decide)) (ok_nextR hs hbl hlim hr) (fun r15 S15 hp15 => ?_)
  obtain ⟨rfl, w15, x15⟩ := hp15
  show Ok _ _ _ [] _ _
  refine r_iconst (q := 19) (nI 1) dX12_sign_18 rfl (by decide) ?_
  refine r_zreturn (by decide) dX12_sign_19 rfl ?_
  exact ⟨rfl, w15, x15⟩

set_option maxRecDepth 100000 in
theorem ok_sign_n {S : zS} (hs : Sd S) {bs : List Nat} {lim : Nat} (hbl : bs.length ≤ 940) (hlim : lim ≤ 940) {ts : List zTk} (hr : Rr S bs lim ts) (hk : Tks ts) {c : Nat} (hc5 : 5 ≤ c) (hc256 : c < 256) (hc : ¬ (hdT ts).1 = c) : Ok mX12_sign 0 (ent 2 [zr 12 0, zi (nI c)]) [] S (fun r S1 => r = some (zi (nI 0)) ∧ Fr tBd S S1 ∧ Fq S1 (1, (hdT ts).2.1)) := by
  show Ok mX12_sign 0 [some (zr 12 0), some (zi (nI c))] [] S _
  refine r_aload_n (q := 1) dX12_sign_0 rfl rfl rfl ?_
  refine r_iload_n (q := 2) dX12_sign_1 rfl rfl rfl ?_
  refine r_callV (Mc := mX12_isSign) (q := 5) (As := [zi (nI c)]) (st := []) ck12 dX12_sign_2 rfl rfl mkX12_isSign wt1621 wt1623 wp78 rfl (Nat.le_of_ble_eq_true rfl) (Nat.le_of_ble_eq_true rfl) (by decide) (by decide) (by decide) (Or.inl rfl) (hs.e (by decide)) (ok_isSignR hs hbl hlim hr hk hc5 hc256) (fun r2 S2 hp2 => ?_)
  obtain ⟨rfl, hq2⟩ := hp2
  rw [hq2]
  rw [if_neg hc]
  show Ok _ _ _ [zi (nI 0)] _ _
  refine r_if_neN (q := 8) (t := 14) (by omega) dX12_sign_5 (by decide) rfl (fun h5 => absurd h5 (by omega)) (fun h5 => ?_)
  refine r_aload_n (q := 9) dX12_sign_8 rfl rfl rfl ?_
  refine r_iconst (q := 10) (nI 1) dX12_sign_9 rfl (by decide) ?_
  refine r_callV (Mc := mX12_bad) (q := 13) (As := [zi (nI 1)]) (st := []) ck12 dX12_sign_10 rfl rfl mkX12_bad wt1596 wt1598 wp74 rfl (Nat.le_of_ble_eq_true rfl) (Nat.le_of_ble_eq_true rfl) (by decide) (by decide) (by decide) (Or.inl rfl) (hs.e (by decide)) (ok_bad hs hbl hlim hr hk 1) (fun r10 S10 hp10 => ?_)
  obtain ⟨rfl, w10, x10⟩ := hp10
  show Ok _ _ _ [zi (nI 0)] _ _
  refine r_zreturn (by decide) dX12_sign_13 rfl ?_
  exact ⟨rfl, w10, x10⟩

def Mo (S : zS) : List Nat → Prop
  | [] => True
  | l :: st => gI S 1349 0 st.length = nI l ∧ 1 ≤ l ∧ l ≤ 4 ∧ Mo S st
theorem Mo.cong {S S1 : zS} : ∀ {st : List Nat}, Mo S st → (∀ i, i < st.length → gI S1 1349 0 i = gI S 1349 0 i) → Mo S1 st
  | [], _, _ => trivial
  | l :: st, h, hc => ⟨(hc st.length (by simp)).trans h.1, h.2.1, h.2.2.1, h.2.2.2.cong fun i hi => hc i (by rw [List.length_cons]; omega)⟩
def tRq (a b k : Nat) : Bool := tNb a b k || a == 1349 && b == 0 || a == 12 && b == 0 && (k == 50 || k == 51 || k == 52)
theorem tRq_b (a b k : Nat) (h : tNb a b k = true) : tRq a b k = true := by simp [tRq, h]
def tRo (a b k : Nat) : Bool := tNb a b k || a == 1349 && b == 0
theorem tRo_b (a b k : Nat) (h : tNb a b k = true) : tRo a b k = true := by simp [tRo, h]
theorem tRq_o (a b k : Nat) (h : tRo a b k = true) : tRq a b k = true := by simp [tRo] at h; simp [tRq]; rcases h with h | h; exact Or.inl (Or.inl h); exact Or.inl (Or.inr h)

set_option maxRecDepth 100000 in
theorem lp_rcls {Po : Option zV → zS → Prop} {bs : List Nat} {lim : Nat} (hbl : bs.length ≤ 940) (hlim : lim ≤ 940) : ∀ (st : List Nat) (S : zS) (ts : List zTk), Sd S → st.length ≤ 459 → Mo S st → Rr S bs lim ts → Tks ts → (∀ S1 x, Fr tRo S S1 → clsP st ts = Sum.inl x → Fq S1 x → Po (some (zi (nI 0))) S1) → (∀ S1 ts', Fr tRo S S1 → clsP st ts = Sum.inr ([], ts') → gI S1 12 0 13 = gI S 12 0 13 → Rr S1 bs lim ts' → Po (some (zi (nI 1))) S1) → (∀ S1 l st' ts', Fr tRo S S1 → clsP st ts = Sum.inr (l :: st', ts') → gI S1 12 0 13 = gI S 12 0 13 → Rr S1 bs lim ts' → Mo S1 (l :: st') → Ok mX12_readTree 20 [some (zr 12 0), some (zi (nI (st'.length + 1))), none, none] [] S1 Po) → Ok mX12_readTree 69 [some (zr 12 0), some (zi (nI st.length)), none, none] [] S Po := by
  intro st
  induction st with
  | nil =>
    intro S ts hs h6 hm hr hk K0 K1 K2
    show Ok mX12_readTree 69 [some (zr 12 0), some (zi (nI 0)), none, none] [] S Po
    refine r_iload_n (q := 70) dX12_readTree_69 rfl rfl rfl ?_
    refine r_if_leN (q := 73) (t := 116) (by omega) dX12_readTree_70 (by decide) rfl (fun h70 => ?_) (fun h70 => absurd h70 (by omega))
    refine r_iload_n (q := 117) dX12_readTree_116 rfl rfl rfl ?_
    refine r_if_neN (q := 120) (t := 122) (by omega) dX12_readTree_117 (by decide) rfl (fun h117 => absurd h117 (by omega)) (fun h117 => ?_)
    refine r_iconst (q := 121) (nI 1) dX12_readTree_120 rfl (by decide) ?_
    refine r_zreturn (by decide) dX12_readTree_121 rfl ?_
    exact K1 S ts Fr.rf rfl rfl hr
  | cons v st ih =>
    intro S ts hs h6 hm hr hk K0 K1 K2
    rw [List.length_cons] at h6
    obtain ⟨m1, m2, m3, m4⟩ := hm
    show Ok mX12_readTree 69 [some (zr 12 0), some (zi (nI (st.length + 1))), none, none] [] S Po
    have hr' : Rr (sI S 1349 0 st.length (nI (v - 1))) bs lim ts := hr.cong (fun i => by rw [gI_sI, if_neg (by omega)]) (fun k hk => by rw [gI_sI, if_neg (by omega)]) rfl
    have hm' : Mo (sI S 1349 0 st.length (nI (v - 1))) st := m4.cong fun i hi => by rw [gI_sI, if_neg (by omega)]
    have hf' : Fr tRo S (sI S 1349 0 st.length (nI (v - 1))) := Fr.rf.i rfl
    have h13 : gI (sI S 1349 0 st.length (nI (v - 1))) 12 0 13 = gI S 12 0 13 := by rw [gI_sI, if_neg (by omega)]
    rw [clsP] at K0 K1 K2
    by_cases h1 : 1 < v
    · rw [if_pos h1] at K0 K1 K2
      by_cases hc : (hdT ts).1 = 44
      · rw [if_pos hc] at K0 K1 K2
        refine r_iload_n (q := 70) dX12_readTree_69 rfl rfl rfl ?_
        refine r_if_leN (q := 73) (t := 116) (by omega) dX12_readTree_70 (by decide) rfl (fun h70 => absurd h70 (by omega)) (fun h70 => ?_)
        refine r_aload_n (q := 74) dX12_readTree_73 rfl rfl rfl ?_
        refine r_getr (q := 77) (some (1349, 0)) ck12 dX12_readTree_74 rfl (k := 49) (by decide) wt1327 rfl (hs.e (by decide)) (hs.r (by decide) (by decide)) ?_
        refine r_iload_n (q := 78) dX12_readTree_77 rfl rfl rfl ?_
        refine r_iconst (q := 79) (nI 1) dX12_readTree_78 rfl (by decide) ?_
        refine r_isubN (q := 80) (by omega) dX12_readTree_79 rfl ?_
        refine r_topi (y := nI st.length) (congrArg nI (by omega)) ?_
        refine r_dup2 (q := 81) dX12_readTree_80 rfl rfl rfl ?_
        refine r_ialdN (q := 82) 460 (by decide) rfl dX12_readTree_81 rfl (hs.e (by decide)) (hs.n rfl (by decide)) (by omega) (by decide) ?_
        refine r_topi (y := nI v) m1 ?_
        refine r_iconst (q := 83) (nI 1) dX12_readTree_82 rfl (by decide) ?_
        refine r_isubN (q := 84) (by omega) dX12_readTree_83 rfl ?_
        refine r_iastN (q := 85) 460 (by decide) rfl dX12_readTree_84 rfl (hs.e (by decide)) (hs.n rfl (by decide)) (by omega) (by decide) ?_
        refine r_aload_n (q := 86) dX12_readTree_85 rfl rfl rfl ?_
        refine r_getr (q := 89) (some (1349, 0)) ck12 dX12_readTree_86 rfl (k := 49) (by decide) wt1327 rfl (hs.e (by decide)) (hs.r (by decide) (by decide)) ?_
        refine r_iload_n (q := 90) dX12_readTree_89 rfl rfl rfl ?_
        refine r_iconst (q := 91) (nI 1) dX12_readTree_90 rfl (by decide) ?_
        refine r_isubN (q := 92) (by omega) dX12_readTree_91 rfl ?_
        refine r_topi (y := nI st.length) (congrArg nI (by omega)) ?_
        refine r_ialdN (q := 93) 460 (by decide) rfl dX12_readTree_92 rfl (hs.e (by decide)) (hs.n rfl (by decide)) (by omega) (by decide) ?_
        refine r_topi (y := nI (v - 1)) (by simp [gI_sI, gJ_sJ, gI_sJ, gJ_sI]) ?_
        refine r_if_leN (q := 96) (t := 99) (by omega) dX12_readTree_93 (by decide) rfl (fun h93 => absurd h93 (by omega)) (fun h93 => ?_)
        refine r_goto (q := 116) dX12_readTree_96 (by decide) ?_
        refine r_iload_n (q := 117) dX12_readTree_116 rfl rfl rfl ?_
        refine r_if_neN (q := 120) (t := 122) (by omega) dX12_readTree_117 (by decide) rfl (fun h117 => ?_) (fun h117 => absurd h117 (by omega))
        refine r_aload_n (q := 123) dX12_readTree_122 rfl rfl rfl ?_
        refine r_bipush (q := 125) (nI 44) dX12_readTree_123 rfl (by decide) ?_
        refine r_callV (Mc := mX12_sign) (q := 128) (As := [zi (nI 44)]) (st := []) ck12 dX12_readTree_125 rfl rfl mkX12_sign wt1633 wt1635 wp81 rfl (Nat.le_of_ble_eq_true rfl) (Nat.le_of_ble_eq_true rfl) (by decide) (by decide) (by decide) (Or.inl rfl) (hs.e (by decide)) (ok_sign_y (S := sI S 1349 0 st.length (nI (v - 1))) hs hbl hlim hr' hk (by omega) (by omega) hc) (fun r125 S125 hp125 => ?_)
        obtain ⟨rfl, w125, x125⟩ := hp125
        show Ok _ _ _ [zi (nI 1)] _ _
        refine r_if_neN (q := 131) (t := 20) (by omega) dX12_readTree_128 (by decide) rfl (fun h128 => ?_) (fun h128 => absurd h128 (by omega))
        exact K2 S125 (v - 1) st (adv ts) (hf'.tr ((w125.mono tNb_x).mono tRo_b)) rfl ((w125.1 _ _ _ rfl).trans h13) x125 ⟨(w125.1 _ _ _ rfl).trans (by rw [gI_sI, if_pos ⟨rfl, rfl, rfl⟩]), by omega, by omega, hm'.cong fun i _ => w125.1 _ _ _ rfl⟩
      · rw [if_neg hc] at K0 K1 K2
        refine r_iload_n (q := 70) dX12_readTree_69 rfl rfl rfl ?_
        refine r_if_leN (q := 73) (t := 116) (by omega) dX12_readTree_70 (by decide) rfl (fun h70 => absurd h70 (by omega)) (fun h70 => ?_)
        refine r_aload_n (q := 74) dX12_readTree_73 rfl rfl rfl ?_
        refine r_getr (q := 77) (some (1349, 0)) ck12 dX12_readTree_74 rfl (k := 49) (by decide) wt1327 rfl (hs.e (by decide)) (hs.r (by decide) (by decide)) ?_
        refine r_iload_n (q := 78) dX12_readTree_77 rfl rfl rfl ?_
        refine r_iconst (q := 79) (nI 1) dX12_readTree_78 rfl (by decide) ?_
        refine r_isubN (q := 80) (by omega) dX12_readTree_79 rfl ?_
        refine r_topi (y := nI st.length) (congrArg nI (by omega)) ?_
        refine r_dup2 (q := 81) dX12_readTree_80 rfl rfl rfl ?_
        refine r_ialdN (q := 82) 460 (by decide) rfl dX12_readTree_81 rfl (hs.e (by decide)) (hs.n rfl (by decide)) (by omega) (by decide) ?_
        refine r_topi (y := nI v) m1 ?_
        refine r_iconst (q := 83) (nI 1) dX12_readTree_82 rfl (by decide) ?_
        refine r_isubN (q := 84) (by omega) dX12_readTree_83 rfl ?_
        refine r_iastN (q := 85) 460 (by decide) rfl dX12_readTree_84 rfl (hs.e (by decide)) (hs.n rfl (by decide)) (by omega) (by decide) ?_
        refine r_aload_n (q := 86) dX12_readTree_85 rfl rfl rfl ?_
        refine r_getr (q := 89) (some (1349, 0)) ck12 dX12_readTree_86 rfl (k := 49) (by decide) wt1327 rfl (hs.e (by decide)) (hs.r (by decide) (by decide)) ?_
        refine r_iload_n (q := 90) dX12_readTree_89 rfl rfl rfl ?_
        refine r_iconst (q := 91) (nI 1) dX12_readTree_90 rfl (by decide) ?_
        refine r_isubN (q := 92) (by omega) dX12_readTree_91 rfl ?_
        refine r_topi (y := nI st.length) (congrArg nI (by omega)) ?_
        refine r_ialdN (q := 93) 460 (by decide) rfl dX12_readTree_92 rfl (hs.e (by decide)) (hs.n rfl (by decide)) (by omega) (by decide) ?_
        refine r_topi (y := nI (v - 1)) (by simp [gI_sI, gJ_sJ, gI_sJ, gJ_sI]) ?_
        refine r_if_leN (q := 96) (t := 99) (by omega) dX12_readTree_93 (by decide) rfl (fun h93 => absurd h93 (by omega)) (fun h93 => ?_)
        refine r_goto (q := 116) dX12_readTree_96 (by decide) ?_
        refine r_iload_n (q := 117) dX12_readTree_116 rfl rfl rfl ?_
        refine r_if_neN (q := 120) (t := 122) (by omega) dX12_readTree_117 (by decide) rfl (fun h117 => ?_) (fun h117 => absurd h117 (by omega))
        refine r_aload_n (q := 123) dX12_readTree_122 rfl rfl rfl ?_
        refine r_bipush (q := 125) (nI 44) dX12_readTree_123 rfl (by decide) ?_
        refine r_callV (Mc := mX12_sign) (q := 128) (As := [zi (nI 44)]) (st := []) ck12 dX12_readTree_125 rfl rfl mkX12_sign wt1633 wt1635 wp81 rfl (Nat.le_of_ble_eq_true rfl) (Nat.le_of_ble_eq_true rfl) (by decide) (by decide) (by decide) (Or.inl rfl) (hs.e (by decide)) (ok_sign_n (S := sI S 1349 0 st.length (nI (v - 1))) hs hbl hlim hr' hk (by omega) (by omega) hc) (fun r125 S125 hp125 => ?_)
        obtain ⟨rfl, w125, x125⟩ := hp125
        show Ok _ _ _ [zi (nI 0)] _ _
        refine r_if_neN (q := 131) (t := 20) (by omega) dX12_readTree_128 (by decide) rfl (fun h128 => absurd h128 (by omega)) (fun h128 => ?_)
        refine r_iconst (q := 132) (nI 0) dX12_readTree_131 rfl (by decide) ?_
        refine r_zreturn (by decide) dX12_readTree_132 rfl ?_
        exact K0 S125 _ (hf'.tr ((w125.mono tNb_d).mono tRo_b)) rfl x125
    · rw [if_neg h1] at K0 K1 K2
      by_cases hc : (hdT ts).1 = 41
      · rw [if_pos hc] at K0 K1 K2
        refine r_iload_n (q := 70) dX12_readTree_69 rfl rfl rfl ?_
        refine r_if_leN (q := 73) (t := 116) (by omega) dX12_readTree_70 (by decide) rfl (fun h70 => absurd h70 (by omega)) (fun h70 => ?_)
        refine r_aload_n (q := 74) dX12_readTree_73 rfl rfl rfl ?_
        refine r_getr (q := 77) (some (1349, 0)) ck12 dX12_readTree_74 rfl (k := 49) (by decide) wt1327 rfl (hs.e (by decide)) (hs.r (by decide) (by decide)) ?_
        refine r_iload_n (q := 78) dX12_readTree_77 rfl rfl rfl ?_
        refine r_iconst (q := 79) (nI 1) dX12_readTree_78 rfl (by decide) ?_
        refine r_isubN (q := 80) (by omega) dX12_readTree_79 rfl ?_
        refine r_topi (y := nI st.length) (congrArg nI (by omega)) ?_
        refine r_dup2 (q := 81) dX12_readTree_80 rfl rfl rfl ?_
        refine r_ialdN (q := 82) 460 (by decide) rfl dX12_readTree_81 rfl (hs.e (by decide)) (hs.n rfl (by decide)) (by omega) (by decide) ?_
        refine r_topi (y := nI v) m1 ?_
        refine r_iconst (q := 83) (nI 1) dX12_readTree_82 rfl (by decide) ?_
        refine r_isubN (q := 84) (by omega) dX12_readTree_83 rfl ?_
        refine r_iastN (q := 85) 460 (by decide) rfl dX12_readTree_84 rfl (hs.e (by decide)) (hs.n rfl (by decide)) (by omega) (by decide) ?_
        refine r_aload_n (q := 86) dX12_readTree_85 rfl rfl rfl ?_
        refine r_getr (q := 89) (some (1349, 0)) ck12 dX12_readTree_86 rfl (k := 49) (by decide) wt1327 rfl (hs.e (by decide)) (hs.r (by decide) (by decide)) ?_
        refine r_iload_n (q := 90) dX12_readTree_89 rfl rfl rfl ?_
        refine r_iconst (q := 91) (nI 1) dX12_readTree_90 rfl (by decide) ?_
        refine r_isubN (q := 92) (by omega) dX12_readTree_91 rfl ?_
        refine r_topi (y := nI st.length) (congrArg nI (by omega)) ?_
        refine r_ialdN (q := 93) 460 (by decide) rfl dX12_readTree_92 rfl (hs.e (by decide)) (hs.n rfl (by decide)) (by omega) (by decide) ?_
        refine r_topi (y := nI (v - 1)) (by simp [gI_sI, gJ_sJ, gI_sJ, gJ_sI]) ?_
        refine r_if_leN (q := 96) (t := 99) (by omega) dX12_readTree_93 (by decide) rfl (fun h93 => ?_) (fun h93 => absurd h93 (by omega))
        refine r_aload_n (q := 100) dX12_readTree_99 rfl rfl rfl ?_
        refine r_bipush (q := 102) (nI 41) dX12_readTree_100 rfl (by decide) ?_
        refine r_callV (Mc := mX12_sign) (q := 105) (As := [zi (nI 41)]) (st := []) ck12 dX12_readTree_102 rfl rfl mkX12_sign wt1633 wt1635 wp81 rfl (Nat.le_of_ble_eq_true rfl) (Nat.le_of_ble_eq_true rfl) (by decide) (by decide) (by decide) (Or.inl rfl) (hs.e (by decide)) (ok_sign_y (S := sI S 1349 0 st.length (nI (v - 1))) hs hbl hlim hr' hk (by omega) (by omega) hc) (fun r102 S102 hp102 => ?_)
        obtain ⟨rfl, w102, x102⟩ := hp102
        show Ok _ _ _ [zi (nI 1)] _ _
        refine r_if_neN (q := 108) (t := 110) (by omega) dX12_readTree_105 (by decide) rfl (fun h105 => ?_) (fun h105 => absurd h105 (by omega))
        refine r_idecN (q := 113) (L' := [some (zr 12 0), some (zi (nI (st.length + 1 - 1))), none, none]) 1 (by omega) rfl dX12_readTree_110 rfl rfl (by decide) rfl ?_
        refine r_goto (q := 69) dX12_readTree_113 (by decide) ?_
        have fA : Fr tRo S S102 := hf'.tr ((w102.mono tNb_x).mono tRo_b)
        have g13 : gI S102 12 0 13 = gI S 12 0 13 := (w102.1 _ _ _ rfl).trans h13
        exact ih S102 (adv ts) (Sd.fr (S := sI S 1349 0 st.length (nI (v - 1))) hs w102) (by omega) (hm'.cong fun i _ => w102.1 _ _ _ rfl) x102 hk.adv (fun S1 x f q z => K0 S1 x (fA.tr f) q z) (fun S1 ts' f q y z => K1 S1 ts' (fA.tr f) q (y.trans g13) z) (fun S1 l st' ts' f q y z u => K2 S1 l st' ts' (fA.tr f) q (y.trans g13) z u)
      · rw [if_neg hc] at K0 K1 K2
        refine r_iload_n (q := 70) dX12_readTree_69 rfl rfl rfl ?_
        refine r_if_leN (q := 73) (t := 116) (by omega) dX12_readTree_70 (by decide) rfl (fun h70 => absurd h70 (by omega)) (fun h70 => ?_)
        refine r_aload_n (q := 74) dX12_readTree_73 rfl rfl rfl ?_
        refine r_getr (q := 77) (some (1349, 0)) ck12 dX12_readTree_74 rfl (k := 49) (by decide) wt1327 rfl (hs.e (by decide)) (hs.r (by decide) (by decide)) ?_
        refine r_iload_n (q := 78) dX12_readTree_77 rfl rfl rfl ?_
        refine r_iconst (q := 79) (nI 1) dX12_readTree_78 rfl (by decide) ?_
        refine r_isubN (q := 80) (by omega) dX12_readTree_79 rfl ?_
        refine r_topi (y := nI st.length) (congrArg nI (by omega)) ?_
        refine r_dup2 (q := 81) dX12_readTree_80 rfl rfl rfl ?_
        refine r_ialdN (q := 82) 460 (by decide) rfl dX12_readTree_81 rfl (hs.e (by decide)) (hs.n rfl (by decide)) (by omega) (by decide) ?_
        refine r_topi (y := nI v) m1 ?_
        refine r_iconst (q := 83) (nI 1) dX12_readTree_82 rfl (by decide) ?_
        refine r_isubN (q := 84) (by omega) dX12_readTree_83 rfl ?_
        refine r_iastN (q := 85) 460 (by decide) rfl dX12_readTree_84 rfl (hs.e (by decide)) (hs.n rfl (by decide)) (by omega) (by decide) ?_
        refine r_aload_n (q := 86) dX12_readTree_85 rfl rfl rfl ?_
        refine r_getr (q := 89) (some (1349, 0)) ck12 dX12_readTree_86 rfl (k := 49) (by decide) wt1327 rfl (hs.e (by decide)) (hs.r (by decide) (by decide)) ?_
        refine r_iload_n (q := 90) dX12_readTree_89 rfl rfl rfl ?_
        refine r_iconst (q := 91) (nI 1) dX12_readTree_90 rfl (by decide) ?_
        refine r_isubN (q := 92) (by omega) dX12_readTree_91 rfl ?_
        refine r_topi (y := nI st.length) (congrArg nI (by omega)) ?_
        refine r_ialdN (q := 93) 460 (by decide) rfl dX12_readTree_92 rfl (hs.e (by decide)) (hs.n rfl (by decide)) (by omega) (by decide) ?_
        refine r_topi (y := nI (v - 1)) (by simp [gI_sI, gJ_sJ, gI_sJ, gJ_sI]) ?_
        refine r_if_leN (q := 96) (t := 99) (by omega) dX12_readTree_93 (by decide) rfl (fun h93 => ?_) (fun h93 => absurd h93 (by omega))
        refine r_aload_n (q := 100) dX12_readTree_99 rfl rfl rfl ?_
        refine r_bipush (q := 102) (nI 41) dX12_readTree_100 rfl (by decide) ?_
        refine r_callV (Mc := mX12_sign) (q := 105) (As := [zi (nI 41)]) (st := []) ck12 dX12_readTree_102 rfl rfl mkX12_sign wt1633 wt1635 wp81 rfl (Nat.le_of_ble_eq_true rfl) (Nat.le_of_ble_eq_true rfl) (by decide) (by decide) (by decide) (Or.inl rfl) (hs.e (by decide)) (ok_sign_n (S := sI S 1349 0 st.length (nI (v - 1))) hs hbl hlim hr' hk (by omega) (by omega) hc) (fun r102 S102 hp102 => ?_)
        obtain ⟨rfl, w102, x102⟩ := hp102
        show Ok _ _ _ [zi (nI 0)] _ _
        refine r_if_neN (q := 108) (t := 110) (by omega) dX12_readTree_105 (by decide) rfl (fun h105 => absurd h105 (by omega)) (fun h105 => ?_)
        refine r_iconst (q := 109) (nI 0) dX12_readTree_108 rfl (by decide) ?_
        refine r_zreturn (by decide) dX12_readTree_109 rfl ?_
        exact K0 S102 _ (hf'.tr ((w102.mono tNb_d).mono tRo_b)) rfl x102

def fa (nm : Nat → Nat) (v k : Nat) : Int32 := match fAct nm v k with
  | none => -1
  | some a => nI a
/-- acts and names that the reference reads by -/
def Wm (S : zS) (q nf A : Nat) (nm e : Nat → Nat) : Prop := gI S 12 0 54 = nI q ∧ gI S 12 0 53 = nI nf ∧ gI S 1322 0 (1173 * q + 1) = nI A ∧ ∀ a, a < A → gI S 1322 0 (1173 * q + 4 + a) = nI (e a) ∧ gJ S 1308 0 (nf + a) = lN (nm a)
theorem Wm.fr {S S1 : zS} {q nf A : Nat} {nm e : Nat → Nat} {T : Nat → Nat → Nat → Bool} (h : Wm S q nf A nm e) (f : Fr T S S1) (ht : ∀ k, T 12 0 54 = false ∧ T 12 0 53 = false ∧ T 1322 0 k = false ∧ T 1308 0 k = false) : Wm S1 q nf A nm e := ⟨(f.1 _ _ _ (ht 0).1).trans h.1, (f.1 _ _ _ (ht 0).2.1).trans h.2.1, (f.1 _ _ _ (ht _).2.2.1).trans h.2.2.1, fun a ha => ⟨(f.1 _ _ _ (ht _).2.2.1).trans (h.2.2.2 a ha).1, (f.2.1 _ _ _ (ht _).2.2.2).trans (h.2.2.2 a ha).2⟩⟩

set_option maxRecDepth 100000 in
theorem lp_rfind {Po : Option zV → zS → Prop} {nm e : Nat → Nat} {A q nf : Nat} (hq : q ≤ 1) (hnf : nf ≤ 3) (hE : Eok A e) (hnb : ∀ a, a < A → nm a < 2 ^ 48) {S : zS} (hs : Sd S) (hw : Wm S q nf A nm e) {v : Nat} (hv : v < 2 ^ 48) (hword : gJ S 12 0 15 = lN v) {dp : Int32} (K : Ok mX12_readTree 196 [some (zr 12 0), some (zi dp), some (zi (fa nm v A)), some (zi (nI A))] [] S Po) : ∀ (d k : Nat), k + d = A → Ok mX12_readTree 150 [some (zr 12 0), some (zi dp), some (zi (fa nm v k)), some (zi (nI k))] [] S Po := by
  intro d
  have hA3 := hE.1
  induction d with
  | zero =>
    intro k hk
    obtain rfl : A = k := by omega
    refine r_iload_n (q := 151) dX12_readTree_150 rfl rfl rfl ?_
    refine r_aload_n (q := 152) dX12_readTree_151 rfl rfl rfl ?_
    refine r_getr (q := 155) (some (1322, 0)) ck12 dX12_readTree_152 rfl (k := 22) (by decide) wt1300 rfl (hs.e (by decide)) (hs.r (by decide) (by decide)) ?_
    refine r_sipush (q := 158) (nI 1173) dX12_readTree_155 rfl (by decide) ?_
    refine r_aload_n (q := 159) dX12_readTree_158 rfl rfl rfl ?_
    refine r_geti (q := 162) ck12 dX12_readTree_159 rfl (k := 54) (by decide) wt1332 (Or.inl rfl) (hs.e (by decide)) ?_
    refine r_topi (y := nI q) hw.1 ?_
    refine r_imulN (q := 163) dX12_readTree_162 rfl ?_
    refine r_iconst (q := 164) (nI 1) dX12_readTree_163 rfl (by decide) ?_
    refine r_iaddN (q := 165) dX12_readTree_164 rfl ?_
    refine r_topi (y := nI (1173 * q + 1)) rfl ?_
    refine r_ialdN (q := 166) 2346 (by decide) rfl dX12_readTree_165 rfl (hs.e (by decide)) (hs.n rfl (by decide)) (by omega) (by decide) ?_
    refine r_topi (y := nI A) hw.2.2.1 ?_
    refine r_icmp_geN (q := 169) (t := 196) (by omega) (by omega) dX12_readTree_166 (by decide) rfl (fun h166 => ?_) (fun h166 => absurd h166 (by omega))
    exact K
  | succ d ih =>
    intro k hk
    have r1 := (hw.2.2.2 k (by omega)).2
    have r2 := hnb k (by omega)
    refine r_iload_n (q := 151) dX12_readTree_150 rfl rfl rfl ?_
    refine r_aload_n (q := 152) dX12_readTree_151 rfl rfl rfl ?_
    refine r_getr (q := 155) (some (1322, 0)) ck12 dX12_readTree_152 rfl (k := 22) (by decide) wt1300 rfl (hs.e (by decide)) (hs.r (by decide) (by decide)) ?_
    refine r_sipush (q := 158) (nI 1173) dX12_readTree_155 rfl (by decide) ?_
    refine r_aload_n (q := 159) dX12_readTree_158 rfl rfl rfl ?_
    refine r_geti (q := 162) ck12 dX12_readTree_159 rfl (k := 54) (by decide) wt1332 (Or.inl rfl) (hs.e (by decide)) ?_
    refine r_topi (y := nI q) hw.1 ?_
    refine r_imulN (q := 163) dX12_readTree_162 rfl ?_
    refine r_iconst (q := 164) (nI 1) dX12_readTree_163 rfl (by decide) ?_
    refine r_iaddN (q := 165) dX12_readTree_164 rfl ?_
    refine r_topi (y := nI (1173 * q + 1)) rfl ?_
    refine r_ialdN (q := 166) 2346 (by decide) rfl dX12_readTree_165 rfl (hs.e (by decide)) (hs.n rfl (by decide)) (by omega) (by decide) ?_
    refine r_topi (y := nI A) hw.2.2.1 ?_
    refine r_icmp_geN (q := 169) (t := 196) (by omega) (by omega) dX12_readTree_166 (by decide) rfl (fun h166 => absurd h166 (by omega)) (fun h166 => ?_)
    refine r_aload_n (q := 170) dX12_readTree_169 rfl rfl rfl ?_
    refine r_getr (q := 173) (some (1308, 0)) ck12 dX12_readTree_170 rfl (k := 8) (by decide) wt1286 rfl (hs.e (by decide)) (hs.r (by decide) (by decide)) ?_
    refine r_aload_n (q := 174) dX12_readTree_173 rfl rfl rfl ?_
    refine r_geti (q := 177) ck12 dX12_readTree_174 rfl (k := 53) (by decide) wt1331 (Or.inl rfl) (hs.e (by decide)) ?_
    refine r_topi (y := nI nf) hw.2.1 ?_
    refine r_iload_n (q := 178) dX12_readTree_177 rfl rfl rfl ?_
    refine r_iaddN (q := 179) dX12_readTree_178 rfl ?_
    refine r_laldN (q := 180) 6 (by decide) rfl dX12_readTree_179 rfl (hs.e (by decide)) (hs.n rfl (by decide)) (by omega) (by decide) ?_
    refine r_topl (y := lN (nm k)) r1 ?_
    refine r_aload_n (q := 181) dX12_readTree_180 rfl rfl rfl ?_
    refine r_getl (q := 184) ck12 dX12_readTree_181 rfl (k := 15) (by decide) wt1293 rfl (hs.e (by decide)) ?_
    refine r_topl (y := lN v) hword ?_
    refine r_lcmp (q := 185) dX12_readTree_184 rfl ?_
    refine r_if_ne (q := 188) (t := 190) dX12_readTree_185 (by decide) rfl (fun h185 => ?_) (fun h185 => ?_)
    · skip
      refine r_iincN (q := 193) (L' := [some (zr 12 0), some (zi dp), some (zi (fa nm v k)), some (zi (nI (k + 1)))]) 1 rfl dX12_readTree_190 rfl rfl (by decide) rfl ?_
      refine r_goto (q := 150) dX12_readTree_193 (by decide) ?_
      have e1 := (lcmp_ne (show nm k < 2 ^ 63 by omega) (show v < 2 ^ 63 by omega)).mp h185
      have e2 : fa nm v (k + 1) = fa nm v k := by unfold fa; rw [fAct, if_neg e1]
      rw [← e2]
      exact ih (k + 1) (by omega)
    · skip
      refine r_iload_n (q := 189) dX12_readTree_188 rfl rfl rfl ?_
      refine r_istore_n (q := 190) (L' := [some (zr 12 0), some (zi dp), some (zi (nI k)), some (zi (nI k))]) dX12_readTree_189 rfl rfl (by decide) rfl ?_
      refine r_iincN (q := 193) (L' := [some (zr 12 0), some (zi dp), some (zi (nI k)), some (zi (nI (k + 1)))]) 1 rfl dX12_readTree_190 rfl rfl (by decide) rfl ?_
      refine r_goto (q := 150) dX12_readTree_193 (by decide) ?_
      have e1 : nm k = v := Decidable.byContradiction fun z => h185 ((lcmp_ne (by omega) (by omega)).mpr z)
      have e2 : fa nm v (k + 1) = nI k := by unfold fa; rw [fAct, if_pos e1]
      rw [← e2]
      exact ih (k + 1) (by omega)

def TrQ (S S1 : zS) (bs : List Nat) (lim : Nat) (r : Option zV) : zEr ⊕ (List Nat × List zTk) → Prop
  | Sum.inl x => r = some (zi (nI 0)) ∧ Fr tRq S S1 ∧ Fq S1 x
  | Sum.inr (t, ts) => r = some (zi (nI 1)) ∧ Fr tRq S S1 ∧ gI S1 12 0 13 = gI S 12 0 13 ∧ gI S1 12 0 52 = gI S 12 0 52 ∧ Rr S1 bs lim ts ∧ (t.length ≤ 14 → gI S1 12 0 50 = nI (cd t)) ∧ gI S1 12 0 51 = nI (lvs t)
theorem TrQ.pre {S S1 S2 : zS} {bs : List Nat} {lim : Nat} {r : Option zV} {x : zEr ⊕ (List Nat × List zTk)} (h : TrQ S1 S2 bs lim r x) (f : Fr tRq S S1) (h13 : gI S1 12 0 13 = gI S 12 0 13) (h52 : gI S1 12 0 52 = gI S 12 0 52) : TrQ S S2 bs lim r x := by
  cases x with
  | inl x => exact ⟨h.1, f.tr h.2.1, h.2.2⟩
  | inr x => obtain ⟨t, ts⟩ := x; exact ⟨h.1, f.tr h.2.1, h.2.2.1.trans h13, h.2.2.2.1.trans h52, h.2.2.2.2⟩
theorem cd_up {t : List Nat} {c : Int32} {k : Nat} (h : t.length ≤ 14 → c = nI (cd t)) (h3 : ∀ x, x ∈ t → x ≤ 3) (hk : k ≤ 3) : (t ++ [k]).length ≤ 14 → c <<< (nI 2 &&& 31) ||| nI k = nI (cd (t ++ [k])) := by
  intro hl
  rw [List.length_append, List.length_singleton] at hl
  have hb := cd_le h3 (by omega)
  rw [h (by omega), pk_shlN _ 2 (by decide) (by omega), cd_snoc, or_addN (s := 2) (by omega)]
  congr 1
  omega
theorem cd_up0 {t : List Nat} {c : Int32} (h : t.length ≤ 14 → c = nI (cd t)) (h3 : ∀ x, x ∈ t → x ≤ 3) : (t ++ [0]).length ≤ 14 → c <<< (nI 2 &&& 31) = nI (cd (t ++ [0])) := by
  intro hl
  rw [List.length_append, List.length_singleton] at hl
  have hb := cd_le h3 (by omega)
  rw [h (by omega), pk_shlN _ 2 (by decide) (by omega), cd_snoc]
  congr 1
  omega

theorem clsP_lk : ∀ {st st' : List Nat} {ts ts' : List zTk}, Lk ts → clsP st ts = Sum.inr (st', ts') → Lk ts'
  | [], st', ts, ts', h, e => by cases e; exact h
  | l :: st, st', ts, ts', h, e => by
    rw [clsP] at e
    split at e
    · split at e
      · cases e; exact h.ad
      · cases e
    · split at e
      · exact clsP_lk h.ad e
      · cases e
theorem clsP_len : ∀ {st st' : List Nat} {ts ts' : List zTk}, clsP st ts = Sum.inr (st', ts') → ts'.length ≤ ts.length
  | [], st', ts, ts', e => by cases e; exact Nat.le_refl _
  | l :: st, st', ts, ts', e => by
    have := adv_len ts
    rw [clsP] at e
    split at e
    · split at e
      · cases e; exact this
      · cases e
    · split at e
      · have := clsP_len e; omega
      · cases e

set_option maxRecDepth 100000 in
theorem lp_rtree {nm e : Nat → Nat} {A q nf : Nat} (hq : q ≤ 1) (hnf : nf ≤ 3) (hE : Eok A e) (hnb : ∀ a, a < A → nm a < 2 ^ 48) {bs : List Nat} {lim : Nat} (hbl : bs.length ≤ 940) (hlim : lim ≤ 940) : ∀ (f : Nat) (S : zS) (st acc : List Nat) (lv : Nat) (ts : List zTk), acc.length + f = 480 → Sd S → Wm S q nf A nm e → st.length ≤ acs acc → 2 * acs acc + ts.length ≤ 901 → lv = lvs acc → lv ≤ 7 → gI S 12 0 51 = nI lv → (acc.length ≤ 14 → gI S 12 0 50 = nI (cd acc)) → (∀ x, x ∈ acc → x ≤ 3) → Mo S st → Rr S bs lim ts → Tks ts → Lk ts → Ok mX12_readTree 20 [some (zr 12 0), some (zi (nI st.length)), none, none] [] S (fun r S1 => TrQ S S1 bs lim r (treeP nm e A f st acc lv ts)) := by
  intro f
  have hA3 := hE.1
  induction f with
  | zero =>
    intro S st acc lv ts hf hs hw hso h901 hla
    have := len_la acc
    omega
  | succ f ih =>
    intro S st acc lv ts hf hs hw hso h901 hla hl7 hlv hcd h3 hm hr hk hlk
    obtain ⟨t1, t2, t3, t4⟩ := hk.hd
    have hll := len_la acc
    rw [treeP]
    by_cases hx : isWb ts 120 = true
    · rw [if_pos hx]
      by_cases h7 : 7 ≤ lv
      · rw [if_pos h7]
        refine r_aload_n (q := 21) dX12_readTree_20 rfl rfl rfl ?_
        refine r_ldc2 (q := 24) (120 : Int64) dX12_readTree_21 rfl wt1613 ?_
        refine r_topl (y := lN 120) rfl ?_
        refine r_callV (Mc := mX12_isWord) (q := 27) (As := [zl (lN 120)]) (st := []) ck12 dX12_readTree_24 rfl rfl mkX12_isWord wt1592 wt1594 wp73 rfl (Nat.le_of_ble_eq_true rfl) (Nat.le_of_ble_eq_true rfl) (by decide) (by decide) (by decide) (Or.inl rfl) (hs.e (by decide)) (ok_isWordR hs hbl hlim hr hk (by omega)) (fun r24 S24 hp24 => ?_)
        obtain ⟨rfl, hq24⟩ := hp24
        rw [hq24]
        rw [if_pos hx]
        show Ok _ _ _ [zi (nI 1)] _ _
        refine r_if_eqN (q := 30) (t := 133) (by omega) dX12_readTree_27 (by decide) rfl (fun h27 => absurd h27 (by omega)) (fun h27 => ?_)
        refine r_aload_n (q := 31) dX12_readTree_30 rfl rfl rfl ?_
        refine r_geti (q := 34) ck12 dX12_readTree_31 rfl (k := 51) (by decide) wt1329 (Or.inl rfl) (hs.e (by decide)) ?_
        refine r_topi (y := nI lv) hlv ?_
        refine r_bipush (q := 36) (nI 7) dX12_readTree_34 rfl (by decide) ?_
        refine r_icmp_neN (q := 39) (t := 45) (by omega) (by omega) dX12_readTree_36 (by decide) rfl (fun h36 => absurd h36 (by omega)) (fun h36 => ?_)
        refine r_aload_n (q := 40) dX12_readTree_39 rfl rfl rfl ?_
        refine r_iconst (q := 41) (nI 4) dX12_readTree_40 rfl (by decide) ?_
        refine r_callV (Mc := mX12_bad) (q := 44) (As := [zi (nI 4)]) (st := []) ck12 dX12_readTree_41 rfl rfl mkX12_bad wt1596 wt1598 wp74 rfl (Nat.le_of_ble_eq_true rfl) (Nat.le_of_ble_eq_true rfl) (by decide) (by decide) (by decide) (Or.inl rfl) (hs.e (by decide)) (ok_bad hs hbl hlim hr hk 4) (fun r41 S41 hp41 => ?_)
        obtain ⟨rfl, w41, x41⟩ := hp41
        show Ok _ _ _ [zi (nI 0)] _ _
        refine r_zreturn (by decide) dX12_readTree_44 rfl ?_
        exact ⟨rfl, (w41.mono tNb_d).mono tRq_b, x41⟩
      · rw [if_neg h7]
        have hr' : Rr (sI (sI S 12 0 51 (nI (lv + 1))) 12 0 50 (gI S 12 0 50 <<< (nI 2 &&& 31))) bs lim ts := hr.cong (fun i => by rw [gI_sI, if_neg (by omega), gI_sI, if_neg (by omega)]) (fun k hk => by rw [gI_sI, if_neg (by omega), gI_sI, if_neg (by omega)]) rfl
        have hm' : Mo (sI (sI S 12 0 51 (nI (lv + 1))) 12 0 50 (gI S 12 0 50 <<< (nI 2 &&& 31))) st := hm.cong fun i hi => by rw [gI_sI, if_neg (by omega), gI_sI, if_neg (by omega)]
        have hf' : Fr tRq S (sI (sI S 12 0 51 (nI (lv + 1))) 12 0 50 (gI S 12 0 50 <<< (nI 2 &&& 31))) := (Fr.rf.i rfl).i rfl
        have h13 : gI (sI (sI S 12 0 51 (nI (lv + 1))) 12 0 50 (gI S 12 0 50 <<< (nI 2 &&& 31))) 12 0 13 = gI S 12 0 13 := by rw [gI_sI, if_neg (by omega), gI_sI, if_neg (by omega)]
        have h52 : gI (sI (sI S 12 0 51 (nI (lv + 1))) 12 0 50 (gI S 12 0 50 <<< (nI 2 &&& 31))) 12 0 52 = gI S 12 0 52 := by rw [gI_sI, if_neg (by omega), gI_sI, if_neg (by omega)]
        have h51 : gI (sI (sI S 12 0 51 (nI (lv + 1))) 12 0 50 (gI S 12 0 50 <<< (nI 2 &&& 31))) 12 0 51 = nI (lv + 1) := by rw [gI_sI, if_neg (by omega), gI_sI, if_pos ⟨rfl, rfl, rfl⟩]
        have h50 : (acc ++ [0]).length ≤ 14 → gI (sI (sI S 12 0 51 (nI (lv + 1))) 12 0 50 (gI S 12 0 50 <<< (nI 2 &&& 31))) 12 0 50 = nI (cd (acc ++ [0])) := fun hl => by rw [gI_sI, if_pos ⟨rfl, rfl, rfl⟩]; exact cd_up0 hcd h3 hl
        have hlv' : lv + 1 = lvs (acc ++ [0]) := by rw [lvs_app, ← hla]; rfl
        have hac' : acs (acc ++ [0]) = acs acc := by rw [acs_app]; rfl
        have hal : (acc ++ [0]).length = acc.length + 1 := by rw [List.length_append, List.length_singleton]
        refine r_aload_n (q := 21) dX12_readTree_20 rfl rfl rfl ?_
        refine r_ldc2 (q := 24) (120 : Int64) dX12_readTree_21 rfl wt1613 ?_
        refine r_topl (y := lN 120) rfl ?_
        refine r_callV (Mc := mX12_isWord) (q := 27) (As := [zl (lN 120)]) (st := []) ck12 dX12_readTree_24 rfl rfl mkX12_isWord wt1592 wt1594 wp73 rfl (Nat.le_of_ble_eq_true rfl) (Nat.le_of_ble_eq_true rfl) (by decide) (by decide) (by decide) (Or.inl rfl) (hs.e (by decide)) (ok_isWordR hs hbl hlim hr hk (by omega)) (fun r24 S24 hp24 => ?_)
        obtain ⟨rfl, hq24⟩ := hp24
        rw [hq24]
        rw [if_pos hx]
        show Ok _ _ _ [zi (nI 1)] _ _
        refine r_if_eqN (q := 30) (t := 133) (by omega) dX12_readTree_27 (by decide) rfl (fun h27 => absurd h27 (by omega)) (fun h27 => ?_)
        refine r_aload_n (q := 31) dX12_readTree_30 rfl rfl rfl ?_
        refine r_geti (q := 34) ck12 dX12_readTree_31 rfl (k := 51) (by decide) wt1329 (Or.inl rfl) (hs.e (by decide)) ?_
        refine r_topi (y := nI lv) hlv ?_
        refine r_bipush (q := 36) (nI 7) dX12_readTree_34 rfl (by decide) ?_
        refine r_icmp_neN (q := 39) (t := 45) (by omega) (by omega) dX12_readTree_36 (by decide) rfl (fun h36 => ?_) (fun h36 => absurd h36 (by omega))
        refine r_aload_n (q := 46) dX12_readTree_45 rfl rfl rfl ?_
        refine r_dup (q := 47) dX12_readTree_46 rfl rfl ?_
        refine r_geti (q := 50) ck12 dX12_readTree_47 rfl (k := 51) (by decide) wt1329 (Or.inl rfl) (hs.e (by decide)) ?_
        refine r_topi (y := nI lv) hlv ?_
        refine r_iconst (q := 51) (nI 1) dX12_readTree_50 rfl (by decide) ?_
        refine r_iaddN (q := 52) dX12_readTree_51 rfl ?_
        refine r_puti (q := 55) ck12 dX12_readTree_52 rfl (k := 51) (by decide) wt1329 (Or.inl rfl) rfl (hs.e (by decide)) ?_
        refine r_aload_n (q := 56) dX12_readTree_55 rfl rfl rfl ?_
        refine r_aload_n (q := 57) dX12_readTree_56 rfl rfl rfl ?_
        refine r_geti (q := 60) ck12 dX12_readTree_57 rfl (k := 50) (by decide) wt1328 (Or.inl rfl) (hs.e (by decide)) ?_
        refine r_topi (y := gI S 12 0 50) (by repeat (first | rw [gI_sI, if_neg (by omega)] | rw [gI_sI, if_pos ⟨rfl, rfl, rfl⟩] | rw [gJ_sJ, if_neg (by omega)] | rw [gJ_sJ, if_pos ⟨rfl, rfl, rfl⟩] | rw [gI_sJ] | rw [gJ_sI])) ?_
        refine r_iconst (q := 61) (nI 2) dX12_readTree_60 rfl (by decide) ?_
        refine r_ishl (q := 62) dX12_readTree_61 rfl ?_
        refine r_puti (q := 65) ck12 dX12_readTree_62 rfl (k := 50) (by decide) wt1328 (Or.inl rfl) rfl (hs.e (by decide)) ?_
        refine r_aload_n (q := 66) dX12_readTree_65 rfl rfl rfl ?_
        refine r_callV (Mc := mX12_next) (q := 69) (As := []) (st := []) ck12 dX12_readTree_66 rfl rfl mkX12_next wt1573 wt1575 wp70 rfl (Nat.le_of_ble_eq_true rfl) (Nat.le_of_ble_eq_true rfl) (by decide) (by decide) (by decide) (Or.inl rfl) (hs.e (by decide)) (ok_nextR (S := sI (sI S 12 0 51 (nI (lv + 1))) 12 0 50 ((gI S 12 0 50) <<< ((nI 2) &&& 31))) hs hbl hlim hr') (fun r66 S66 hp66 => ?_)
        obtain ⟨rfl, w66, x66⟩ := hp66
        have gS : Sd S66 := Sd.fr (S := sI (sI S 12 0 51 (nI (lv + 1))) 12 0 50 (gI S 12 0 50 <<< (nI 2 &&& 31))) hs w66
        have gM : Mo S66 st := hm'.cong fun i _ => w66.1 _ _ _ rfl
        have gF : Fr tRq S S66 := hf'.tr ((w66.mono tNb_x).mono tRq_b)
        show Ok _ _ _ [] _ _
        refine lp_rcls hbl hlim st S66 (adv ts) gS (by omega) gM x66 hk.adv (fun S1 x f1 q z => ?_) (fun S1 ts' f1 q y z => ?_) (fun S1 l st' ts' f1 q y z u => ?_)
        · rw [q]; exact ⟨rfl, gF.tr (f1.mono tRq_o), z⟩
        · rw [q]; exact ⟨rfl, gF.tr (f1.mono tRq_o), y.trans ((w66.1 _ _ _ rfl).trans h13), (f1.1 _ _ _ rfl).trans ((w66.1 _ _ _ rfl).trans h52), z, fun hl => (f1.1 _ _ _ rfl).trans ((w66.1 _ _ _ rfl).trans (h50 hl)), by rw [← hlv']; exact (f1.1 _ _ _ rfl).trans ((w66.1 _ _ _ rfl).trans h51)⟩
        · rw [q]
          have hk' := clsP_tks hk.adv q
          have hlk' := clsP_lk hlk.ad q
          have hle' := clsP_len q
          have ha1 := adv_len ts
          have fF : Fr tRq S S1 := gF.tr (f1.mono tRq_o)
          have hkl := hk'.2
          rw [List.length_cons] at hkl
          exact Ok.mono (ih S1 (l :: st') (acc ++ [0]) (lv + 1) ts' (by omega) (gS.fr f1) (hw.fr fF (fun _ => ⟨rfl, rfl, rfl, rfl⟩)) (by rw [hac', List.length_cons]; omega) (by rw [hac']; omega) hlv' (by omega) ((f1.1 _ _ _ rfl).trans ((w66.1 _ _ _ rfl).trans h51)) (fun hl => (f1.1 _ _ _ rfl).trans ((w66.1 _ _ _ rfl).trans (h50 hl))) (fun x hx => by rcases List.mem_append.mp hx with h | h; exact h3 x h; rw [List.mem_singleton.mp h]; omega) u z hk'.1 hlk') (fun r S2 zz => TrQ.pre zz fF (y.trans ((w66.1 _ _ _ rfl).trans h13)) ((f1.1 _ _ _ rfl).trans ((w66.1 _ _ _ rfl).trans h52)))
    · rw [if_neg hx]
      by_cases hnm : isNmb ts = true
      · rw [if_pos hnm]
        have hkd := (isNmb_t.mp hnm).1
        have hwv := hr.1.2.2.1 hkd
        have hv48 := (t3 hkd).1
        refine r_aload_n (q := 21) dX12_readTree_20 rfl rfl rfl ?_
        refine r_ldc2 (q := 24) (120 : Int64) dX12_readTree_21 rfl wt1613 ?_
        refine r_topl (y := lN 120) rfl ?_
        refine r_callV (Mc := mX12_isWord) (q := 27) (As := [zl (lN 120)]) (st := []) ck12 dX12_readTree_24 rfl rfl mkX12_isWord wt1592 wt1594 wp73 rfl (Nat.le_of_ble_eq_true rfl) (Nat.le_of_ble_eq_true rfl) (by decide) (by decide) (by decide) (Or.inl rfl) (hs.e (by decide)) (ok_isWordR hs hbl hlim hr hk (by omega)) (fun r24 S24 hp24 => ?_)
        obtain ⟨rfl, hq24⟩ := hp24
        rw [hq24]
        rw [if_neg hx]
        show Ok _ _ _ [zi (nI 0)] _ _
        refine r_if_eqN (q := 30) (t := 133) (by omega) dX12_readTree_27 (by decide) rfl (fun h27 => ?_) (fun h27 => absurd h27 (by omega))
        refine r_aload_n (q := 134) dX12_readTree_133 rfl rfl rfl ?_
        refine r_callV (Mc := mX12_isName) (q := 137) (As := []) (st := []) ck12 dX12_readTree_134 rfl rfl mkX12_isName wt1608 wt1610 wp76 rfl (Nat.le_of_ble_eq_true rfl) (Nat.le_of_ble_eq_true rfl) (by decide) (by decide) (by decide) (Or.inl rfl) (hs.e (by decide)) (ok_isNameR hs hbl hlim hr hk) (fun r134 S134 hp134 => ?_)
        obtain ⟨rfl, hq134⟩ := hp134
        rw [hq134]
        rw [if_pos hnm]
        show Ok _ _ _ [zi (nI 1)] _ _
        refine r_if_neN (q := 140) (t := 146) (by omega) dX12_readTree_137 (by decide) rfl (fun h137 => ?_) (fun h137 => absurd h137 (by omega))
        refine r_iconst (q := 147) ((-1 : Int32)) dX12_readTree_146 rfl (by decide) ?_
        refine r_istore_n (q := 148) (L' := [some (zr 12 0), some (zi (nI st.length)), some (zi (-1 : Int32)), none]) dX12_readTree_147 rfl rfl (by decide) rfl ?_
        refine r_iconst (q := 149) (nI 0) dX12_readTree_148 rfl (by decide) ?_
        refine r_istore_n (q := 150) (L' := [some (zr 12 0), some (zi (nI st.length)), some (zi (-1 : Int32)), some (zi (nI 0))]) dX12_readTree_149 rfl rfl (by decide) rfl ?_
        refine lp_rfind hq hnf hE hnb hs hw hv48 hwv ?_ A 0 (by omega)
        cases qa : fAct nm (hdT ts).2.2 A with
        | none =>
          have e1 : fa nm (hdT ts).2.2 A = -1 := by unfold fa; rw [qa]
          rw [e1]
          refine r_iload_n (q := 197) dX12_readTree_196 rfl rfl rfl ?_
          refine r_if_ge (q := 200) (t := 206) dX12_readTree_197 (by decide) rfl (fun h197 => absurd h197 (by decide)) (fun h197 => ?_)
          refine r_aload_n (q := 201) dX12_readTree_200 rfl rfl rfl ?_
          refine r_iconst (q := 202) (nI 3) dX12_readTree_201 rfl (by decide) ?_
          refine r_callV (Mc := mX12_bad) (q := 205) (As := [zi (nI 3)]) (st := []) ck12 dX12_readTree_202 rfl rfl mkX12_bad wt1596 wt1598 wp74 rfl (Nat.le_of_ble_eq_true rfl) (Nat.le_of_ble_eq_true rfl) (by decide) (by decide) (by decide) (Or.inl rfl) (hs.e (by decide)) (ok_bad hs hbl hlim hr hk 3) (fun r202 S202 hp202 => ?_)
          obtain ⟨rfl, w202, x202⟩ := hp202
          show Ok _ _ _ [zi (nI 0)] _ _
          refine r_zreturn (by decide) dX12_readTree_205 rfl ?_
          exact ⟨rfl, (w202.mono tNb_d).mono tRq_b, x202⟩
        | some a =>
          have ha := (fAct_some qa).1
          have hea := hE.2 a ha
          have e1 : fa nm (hdT ts).2.2 A = nI a := by unfold fa; rw [qa]
          rw [e1]
          show Ok _ _ _ _ _ (fun r S1 => TrQ S S1 bs lim r (if (hdT (adv ts)).1 = 40 then treeP nm e A f (e a :: st) (acc ++ [a + 1]) lv (adv (adv ts)) else Sum.inl (1, (hdT (adv ts)).2.1)))
          have hr' : Rr (sI S 12 0 50 (gI S 12 0 50 <<< (nI 2 &&& 31) ||| nI (a + 1))) bs lim ts := hr.cong (fun i => by rw [gI_sI, if_neg (by omega)]) (fun k hk => by rw [gI_sI, if_neg (by omega)]) rfl
          have hf' : Fr tRq S (sI S 12 0 50 (gI S 12 0 50 <<< (nI 2 &&& 31) ||| nI (a + 1))) := Fr.rf.i rfl
          have gx : ∀ x z k, ¬ (x = 12 ∧ z = 0 ∧ k = 50) → gI (sI S 12 0 50 (gI S 12 0 50 <<< (nI 2 &&& 31) ||| nI (a + 1))) x z k = gI S x z k := fun x z k q1 => by rw [gI_sI, if_neg q1]
          have h50 : (acc ++ [a + 1]).length ≤ 14 → gI (sI S 12 0 50 (gI S 12 0 50 <<< (nI 2 &&& 31) ||| nI (a + 1))) 12 0 50 = nI (cd (acc ++ [a + 1])) := fun hl => by rw [gI_sI, if_pos ⟨rfl, rfl, rfl⟩]; exact cd_up hcd h3 (by omega) hl
          by_cases hp : (hdT (adv ts)).1 = 40
          · rw [if_pos hp]
            refine r_iload_n (q := 197) dX12_readTree_196 rfl rfl rfl ?_
            refine r_if_geN (q := 200) (t := 206) (by omega) dX12_readTree_197 (by decide) rfl ?_
            refine r_aload_n (q := 207) dX12_readTree_206 rfl rfl rfl ?_
            refine r_aload_n (q := 208) dX12_readTree_207 rfl rfl rfl ?_
            refine r_geti (q := 211) ck12 dX12_readTree_208 rfl (k := 50) (by decide) wt1328 (Or.inl rfl) (hs.e (by decide)) ?_
            refine r_iconst (q := 212) (nI 2) dX12_readTree_211 rfl (by decide) ?_
            refine r_ishl (q := 213) dX12_readTree_212 rfl ?_
            refine r_iload_n (q := 214) dX12_readTree_213 rfl rfl rfl ?_
            refine r_iconst (q := 215) (nI 1) dX12_readTree_214 rfl (by decide) ?_
            refine r_iaddN (q := 216) dX12_readTree_215 rfl ?_
            refine r_ior (q := 217) dX12_readTree_216 rfl ?_
            refine r_puti (q := 220) ck12 dX12_readTree_217 rfl (k := 50) (by decide) wt1328 (Or.inl rfl) rfl (hs.e (by decide)) ?_
            refine r_aload_n (q := 221) dX12_readTree_220 rfl rfl rfl ?_
            refine r_callV (Mc := mX12_next) (q := 224) (As := []) (st := []) ck12 dX12_readTree_221 rfl rfl mkX12_next wt1573 wt1575 wp70 rfl (Nat.le_of_ble_eq_true rfl) (Nat.le_of_ble_eq_true rfl) (by decide) (by decide) (by decide) (Or.inl rfl) (hs.e (by decide)) (ok_nextR (S := sI S 12 0 50 (((gI S 12 0 50) <<< ((nI 2) &&& 31)) ||| (nI (a + 1)))) hs hbl hlim hr') (fun r221 S221 hp221 => ?_)
            obtain ⟨rfl, w221, x221⟩ := hp221
            have gS : Sd S221 := Sd.fr (S := sI S 12 0 50 (gI S 12 0 50 <<< (nI 2 &&& 31) ||| nI (a + 1))) hs w221
            show Ok _ _ _ [] _ _
            refine r_aload_n (q := 225) dX12_readTree_224 rfl rfl rfl ?_
            refine r_bipush (q := 227) (nI 40) dX12_readTree_225 rfl (by decide) ?_
            refine r_callV (Mc := mX12_sign) (q := 230) (As := [zi (nI 40)]) (st := []) ck12 dX12_readTree_227 rfl rfl mkX12_sign wt1633 wt1635 wp81 rfl (Nat.le_of_ble_eq_true rfl) (Nat.le_of_ble_eq_true rfl) (by decide) (by decide) (by decide) (Or.inl rfl) (gS.e (by decide)) (ok_sign_y gS hbl hlim x221 hk.adv (by omega) (by omega) hp) (fun r227 S227 hp227 => ?_)
            obtain ⟨rfl, w227, x227⟩ := hp227
            have gS2 := gS.fr w227
            have gF2 : Fr tRq S S227 := (hf'.tr ((w221.mono tNb_x).mono tRq_b)).tr ((w227.mono tNb_x).mono tRq_b)
            have gW := hw.fr gF2 (fun _ => ⟨rfl, rfl, rfl, rfl⟩)
            show Ok _ _ _ [zi (nI 1)] _ _
            refine r_if_neN (q := 233) (t := 235) (by omega) dX12_readTree_230 (by decide) rfl (fun h230 => ?_) (fun h230 => absurd h230 (by omega))
            refine r_aload_n (q := 236) dX12_readTree_235 rfl rfl rfl ?_
            refine r_getr (q := 239) (some (1349, 0)) ck12 dX12_readTree_236 rfl (k := 49) (by decide) wt1327 rfl (gS2.e (by decide)) (gS2.r (by decide) (by decide)) ?_
            refine r_iload_n (q := 240) dX12_readTree_239 rfl rfl rfl ?_
            refine r_aload_n (q := 241) dX12_readTree_240 rfl rfl rfl ?_
            refine r_getr (q := 244) (some (1322, 0)) ck12 dX12_readTree_241 rfl (k := 22) (by decide) wt1300 rfl (gS2.e (by decide)) (gS2.r (by decide) (by decide)) ?_
            refine r_sipush (q := 247) (nI 1173) dX12_readTree_244 rfl (by decide) ?_
            refine r_aload_n (q := 248) dX12_readTree_247 rfl rfl rfl ?_
            refine r_geti (q := 251) ck12 dX12_readTree_248 rfl (k := 54) (by decide) wt1332 (Or.inl rfl) (gS2.e (by decide)) ?_
            refine r_topi (y := nI q) gW.1 ?_
            refine r_imulN (q := 252) dX12_readTree_251 rfl ?_
            refine r_iconst (q := 253) (nI 4) dX12_readTree_252 rfl (by decide) ?_
            refine r_iaddN (q := 254) dX12_readTree_253 rfl ?_
            refine r_iload_n (q := 255) dX12_readTree_254 rfl rfl rfl ?_
            refine r_iaddN (q := 256) dX12_readTree_255 rfl ?_
            refine r_topi (y := nI (1173 * q + 4 + a)) rfl ?_
            refine r_ialdN (q := 257) 2346 (by decide) rfl dX12_readTree_256 rfl (gS2.e (by decide)) (gS2.n rfl (by decide)) (by omega) (by decide) ?_
            refine r_topi (y := nI (e a)) (gW.2.2.2 a ha).1 ?_
            refine r_iastN (q := 258) 460 (by decide) rfl dX12_readTree_257 rfl (gS2.e (by decide)) (gS2.n rfl (by decide)) (by omega) (by decide) ?_
            refine r_iincN (q := 261) (L' := [some (zr 12 0), some (zi (nI (st.length + 1))), some (zi (nI a)), some (zi (nI A))]) 1 rfl dX12_readTree_258 rfl rfl (by decide) rfl ?_
            refine r_goto (q := 20) dX12_readTree_261 (by decide) ?_
            refine r_mask [true, true, false, false] rfl ?_
            have fF : Fr tRq S (sI S227 1349 0 st.length (nI (e a))) := gF2.i rfl
            have gv : ∀ x z k, ¬ (x = 1349 ∧ z = 0 ∧ k = st.length) → gI (sI S227 1349 0 st.length (nI (e a))) x z k = gI S227 x z k := fun x z k q1 => by rw [gI_sI, if_neg q1]
            have l1 := hlk.len (by omega)
            have l2 := hlk.ad.len (by omega)
            have hac' : acs (acc ++ [a + 1]) = acs acc + 1 := by rw [acs_app]; simp [acs]
            exact Ok.mono (ih (sI S227 1349 0 st.length (nI (e a))) (e a :: st) (acc ++ [a + 1]) lv (adv (adv ts)) (by rw [List.length_append, List.length_singleton]; omega) gS2 (hw.fr fF (fun _ => ⟨rfl, rfl, rfl, rfl⟩)) (by rw [hac', List.length_cons]; omega) (by rw [hac']; omega) (by rw [lvs_app, ← hla]; simp [lvs]) hl7 ((gv _ _ _ (by omega)).trans ((w227.1 _ _ _ rfl).trans ((w221.1 _ _ _ rfl).trans ((gx _ _ _ (by omega)).trans hlv)))) (fun hl => (gv _ _ _ (by omega)).trans ((w227.1 _ _ _ rfl).trans ((w221.1 _ _ _ rfl).trans (h50 hl)))) (fun x hx => by rcases List.mem_append.mp hx with h | h; exact h3 x h; rw [List.mem_singleton.mp h]; omega) ⟨by rw [gI_sI, if_pos ⟨rfl, rfl, rfl⟩], by omega, by omega, hm.cong fun i hi => (gv _ _ _ (by omega)).trans ((w227.1 _ _ _ rfl).trans ((w221.1 _ _ _ rfl).trans (gx _ _ _ (by omega))))⟩ (x227.cong (fun i => gv _ _ _ (by omega)) (fun k hk => gv _ _ _ (by omega)) rfl) hk.adv.adv hlk.ad.ad) (fun r S2 zz => TrQ.pre zz fF ((gv _ _ _ (by omega)).trans ((w227.1 _ _ _ rfl).trans ((w221.1 _ _ _ rfl).trans (gx _ _ _ (by omega))))) ((gv _ _ _ (by omega)).trans ((w227.1 _ _ _ rfl).trans ((w221.1 _ _ _ rfl).trans (gx _ _ _ (by omega))))))
          · rw [if_neg hp]
            refine r_iload_n (q := 197) dX12_readTree_196 rfl rfl rfl ?_
            refine r_if_geN (q := 200) (t := 206) (by omega) dX12_readTree_197 (by decide) rfl ?_
            refine r_aload_n (q := 207) dX12_readTree_206 rfl rfl rfl ?_
            refine r_aload_n (q := 208) dX12_readTree_207 rfl rfl rfl ?_
            refine r_geti (q := 211) ck12 dX12_readTree_208 rfl (k := 50) (by decide) wt1328 (Or.inl rfl) (hs.e (by decide)) ?_
            refine r_iconst (q := 212) (nI 2) dX12_readTree_211 rfl (by decide) ?_
            refine r_ishl (q := 213) dX12_readTree_212 rfl ?_
            refine r_iload_n (q := 214) dX12_readTree_213 rfl rfl rfl ?_
            refine r_iconst (q := 215) (nI 1) dX12_readTree_214 rfl (by decide) ?_
            refine r_iaddN (q := 216) dX12_readTree_215 rfl ?_
            refine r_ior (q := 217) dX12_readTree_216 rfl ?_
            refine r_puti (q := 220) ck12 dX12_readTree_217 rfl (k := 50) (by decide) wt1328 (Or.inl rfl) rfl (hs.e (by decide)) ?_
            refine r_aload_n (q := 221) dX12_readTree_220 rfl rfl rfl ?_
            refine r_callV (Mc := mX12_next) (q := 224) (As := []) (st := []) ck12 dX12_readTree_221 rfl rfl mkX12_next wt1573 wt1575 wp70 rfl (Nat.le_of_ble_eq_true rfl) (Nat.le_of_ble_eq_true rfl) (by decide) (by decide) (by decide) (Or.inl rfl) (hs.e (by decide)) (ok_nextR (S := sI S 12 0 50 (((gI S 12 0 50) <<< ((nI 2) &&& 31)) ||| (nI (a + 1)))) hs hbl hlim hr') (fun r221 S221 hp221 => ?_)
            obtain ⟨rfl, w221, x221⟩ := hp221
            have gS : Sd S221 := Sd.fr (S := sI S 12 0 50 (gI S 12 0 50 <<< (nI 2 &&& 31) ||| nI (a + 1))) hs w221
            show Ok _ _ _ [] _ _
            refine r_aload_n (q := 225) dX12_readTree_224 rfl rfl rfl ?_
            refine r_bipush (q := 227) (nI 40) dX12_readTree_225 rfl (by decide) ?_
            refine r_callV (Mc := mX12_sign) (q := 230) (As := [zi (nI 40)]) (st := []) ck12 dX12_readTree_227 rfl rfl mkX12_sign wt1633 wt1635 wp81 rfl (Nat.le_of_ble_eq_true rfl) (Nat.le_of_ble_eq_true rfl) (by decide) (by decide) (by decide) (Or.inl rfl) (gS.e (by decide)) (ok_sign_n gS hbl hlim x221 hk.adv (by omega) (by omega) hp) (fun r227 S227 hp227 => ?_)
            obtain ⟨rfl, w227, x227⟩ := hp227
            show Ok _ _ _ [zi (nI 0)] _ _
            refine r_if_neN (q := 233) (t := 235) (by omega) dX12_readTree_230 (by decide) rfl (fun h230 => absurd h230 (by omega)) (fun h230 => ?_)
            refine r_iconst (q := 234) (nI 0) dX12_readTree_233 rfl (by decide) ?_
            refine r_zreturn (by decide) dX12_readTree_234 rfl ?_
            exact ⟨rfl, (hf'.tr ((w221.mono tNb_x).mono tRq_b)).tr ((w227.mono tNb_d).mono tRq_b), x227⟩
      · rw [if_neg hnm]
        refine r_aload_n (q := 21) dX12_readTree_20 rfl rfl rfl ?_
        refine r_ldc2 (q := 24) (120 : Int64) dX12_readTree_21 rfl wt1613 ?_
        refine r_topl (y := lN 120) rfl ?_
        refine r_callV (Mc := mX12_isWord) (q := 27) (As := [zl (lN 120)]) (st := []) ck12 dX12_readTree_24 rfl rfl mkX12_isWord wt1592 wt1594 wp73 rfl (Nat.le_of_ble_eq_true rfl) (Nat.le_of_ble_eq_true rfl) (by decide) (by decide) (by decide) (Or.inl rfl) (hs.e (by decide)) (ok_isWordR hs hbl hlim hr hk (by omega)) (fun r24 S24 hp24 => ?_)
        obtain ⟨rfl, hq24⟩ := hp24
        rw [hq24]
        rw [if_neg hx]
        show Ok _ _ _ [zi (nI 0)] _ _
        refine r_if_eqN (q := 30) (t := 133) (by omega) dX12_readTree_27 (by decide) rfl (fun h27 => ?_) (fun h27 => absurd h27 (by omega))
        refine r_aload_n (q := 134) dX12_readTree_133 rfl rfl rfl ?_
        refine r_callV (Mc := mX12_isName) (q := 137) (As := []) (st := []) ck12 dX12_readTree_134 rfl rfl mkX12_isName wt1608 wt1610 wp76 rfl (Nat.le_of_ble_eq_true rfl) (Nat.le_of_ble_eq_true rfl) (by decide) (by decide) (by decide) (Or.inl rfl) (hs.e (by decide)) (ok_isNameR hs hbl hlim hr hk) (fun r134 S134 hp134 => ?_)
        obtain ⟨rfl, hq134⟩ := hp134
        rw [hq134]
        rw [if_neg hnm]
        show Ok _ _ _ [zi (nI 0)] _ _
        refine r_if_neN (q := 140) (t := 146) (by omega) dX12_readTree_137 (by decide) rfl (fun h137 => absurd h137 (by omega)) (fun h137 => ?_)
        refine r_aload_n (q := 141) dX12_readTree_140 rfl rfl rfl ?_
        refine r_iconst (q := 142) (nI 1) dX12_readTree_141 rfl (by decide) ?_
        refine r_callV (Mc := mX12_bad) (q := 145) (As := [zi (nI 1)]) (st := []) ck12 dX12_readTree_142 rfl rfl mkX12_bad wt1596 wt1598 wp74 rfl (Nat.le_of_ble_eq_true rfl) (Nat.le_of_ble_eq_true rfl) (by decide) (by decide) (by decide) (Or.inl rfl) (hs.e (by decide)) (ok_bad hs hbl hlim hr hk 1) (fun r142 S142 hp142 => ?_)
        obtain ⟨rfl, w142, x142⟩ := hp142
        show Ok _ _ _ [zi (nI 0)] _ _
        refine r_zreturn (by decide) dX12_readTree_145 rfl ?_
        exact ⟨rfl, (w142.mono tNb_d).mono tRq_b, x142⟩

def TrZ (S S1 : zS) (bs : List Nat) (lim pl : Nat) (r : Option zV) : zEr ⊕ (List Nat × List zTk) → Prop
  | Sum.inl x => r = some (zi (nI 0)) ∧ Fr tRq S S1 ∧ Fq S1 x
  | Sum.inr (t, ts) => r = some (zi (nI 1)) ∧ Fr tRq S S1 ∧ gI S1 12 0 13 = gI S 12 0 13 ∧ gI S1 12 0 52 = nI pl ∧ Rr S1 bs lim ts ∧ (t.length ≤ 14 → gI S1 12 0 50 = nI (cd t)) ∧ gI S1 12 0 51 = nI (lvs t)

set_option maxRecDepth 100000 in
theorem ok_readTreeR {S : zS} (hs : Sd S) {nm e : Nat → Nat} {A q nf : Nat} (hq : q ≤ 1) (hnf : nf ≤ 3) (hE : Eok A e) (hnb : ∀ a, a < A → nm a < 2 ^ 48) {bs : List Nat} {lim : Nat} (hbl : bs.length ≤ 940) (hlim : lim ≤ 940) (hw : Wm S q nf A nm e) {ts : List zTk} (hr : Rr S bs lim ts) (hk : Tks ts) (hlk : Lk ts) (h901 : ts.length ≤ 901) : Ok mX12_readTree 0 (ent 4 [zr 12 0]) [] S (fun r S1 => TrZ S S1 bs lim (hdT ts).2.1 r (treeP nm e A 480 [] [] 0 ts)) := by
  show Ok mX12_readTree 0 [some (zr 12 0), none, none, none] [] S _
  refine r_aload_n (q := 1) dX12_readTree_0 rfl rfl rfl ?_
  refine r_aload_n (q := 2) dX12_readTree_1 rfl rfl rfl ?_
  refine r_geti (q := 5) ck12 dX12_readTree_2 rfl (k := 10) (by decide) wt1288 (Or.inl rfl) (hs.e (by decide)) ?_
  refine r_topi (y := nI ((hdT ts).2.1)) hr.1.2.1 ?_
  refine r_puti (q := 8) ck12 dX12_readTree_5 rfl (k := 52) (by decide) wt1330 (Or.inl rfl) rfl (hs.e (by decide)) ?_
  refine r_aload_n (q := 9) dX12_readTree_8 rfl rfl rfl ?_
  refine r_iconst (q := 10) (nI 1) dX12_readTree_9 rfl (by decide) ?_
  refine r_puti (q := 13) ck12 dX12_readTree_10 rfl (k := 50) (by decide) wt1328 (Or.inl rfl) rfl (hs.e (by decide)) ?_
  refine r_aload_n (q := 14) dX12_readTree_13 rfl rfl rfl ?_
  refine r_iconst (q := 15) (nI 0) dX12_readTree_14 rfl (by decide) ?_
  refine r_puti (q := 18) ck12 dX12_readTree_15 rfl (k := 51) (by decide) wt1329 (Or.inl rfl) rfl (hs.e (by decide)) ?_
  refine r_iconst (q := 19) (nI 0) dX12_readTree_18 rfl (by decide) ?_
  refine r_istore_n (q := 20) (L' := [some (zr 12 0), some (zi (nI 0)), none, none]) dX12_readTree_19 rfl rfl (by decide) rfl ?_
  have gx : ∀ x z k, ¬ (x = 12 ∧ z = 0 ∧ (k = 50 ∨ k = 51 ∨ k = 52)) → gI (sI (sI (sI S 12 0 52 (nI (hdT ts).2.1)) 12 0 50 (nI 1)) 12 0 51 (nI 0)) x z k = gI S x z k := fun x z k q1 => by rw [gI_sI, if_neg (by omega), gI_sI, if_neg (by omega), gI_sI, if_neg (by omega)]
  have f0 : Fr tRq S (sI (sI (sI S 12 0 52 (nI (hdT ts).2.1)) 12 0 50 (nI 1)) 12 0 51 (nI 0)) := ((Fr.rf.i rfl).i rfl).i rfl
  have q2 := lp_rtree hq hnf hE hnb hbl hlim 480 (sI (sI (sI S 12 0 52 (nI (hdT ts).2.1)) 12 0 50 (nI 1)) 12 0 51 (nI 0)) [] [] 0 ts (by simp) hs (hw.fr f0 (fun _ => ⟨rfl, rfl, rfl, rfl⟩)) (Nat.le_refl _) (by simp [acs]; omega) rfl (by omega) (by rw [gI_sI, if_pos ⟨rfl, rfl, rfl⟩]) (fun _ => by rw [gI_sI, if_neg (by omega), gI_sI, if_pos ⟨rfl, rfl, rfl⟩]; rfl) (fun x hx => absurd hx List.not_mem_nil) trivial (hr.cong (fun i => gx _ _ _ (by omega)) (fun k hk => gx _ _ _ (by omega)) rfl) hk hlk
  refine Ok.mono q2 (fun r S1 z => ?_)
  cases q3 : treeP nm e A 480 [] [] 0 ts with
  | inl x => rw [q3] at z; exact ⟨z.1, f0.tr z.2.1, z.2.2⟩
  | inr x => obtain ⟨t, ts'⟩ := x; rw [q3] at z; exact ⟨z.1, f0.tr z.2.1, z.2.2.1.trans (gx _ _ _ (by omega)), z.2.2.2.1.trans (by rw [gI_sI, if_neg (by omega), gI_sI, if_neg (by omega), gI_sI, if_pos ⟨rfl, rfl, rfl⟩]), z.2.2.2.2⟩

