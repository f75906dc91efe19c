/-! readMap: the class -/
def IMS (S : zS) (eW : Nat → Nat) (im : zIm) : Prop := ∀ a, a < 3 → (im a = none → gI S 8 (a + 13) 0 = nI 0 ∧ TL S (a + 13)) ∧ ∀ c, im a = some c → gI S 8 (a + 13) 0 = nI (eW a) ∧ Ty S (a + 13) c
def tMp (a b k : Nat) : Prop := (a = 8 ∧ k ≤ 1 ∨ a = 902 ∨ a = 903) ∧ 13 ≤ b ∧ b ≤ 15 ∨ tTr a b k = true
theorem tMp_av (a b k : Nat) (h : tAv a b k = true) : tMp a b k := Or.inr (tTr_ca a b k (tCa_sk a b k (tSk_av a b k h)))
theorem tMp_fl (a b k : Nat) (h : tFl a b k = true) : tMp a b k := Or.inr (tTr_ca a b k (tCa_sk a b k (tSk_fl a b k h)))
theorem tMp_tm {j : Nat} (hj : 13 ≤ j ∧ j ≤ 15) (a b k : Nat) (h : tTm j a b k) : tMp a b k := by
  unfold tTm tTy at h
  unfold tMp
  rcases h with h | h | h
  · exact Or.inl (by omega)
  · exact Or.inl (by omega)
  · exact Or.inr h
theorem tTr_n {a b k : Nat} (h : tTr a b k = true) : b = 0 ∧ (a = 4 ∧ (4 ≤ k ∧ k ≤ 7 ∨ k = 14 ∨ k = 15 ∨ k = 11 ∨ k = 12) ∨ a = 509 ∨ a = 510) := by
  simp [tTr, tCa, tSk] at h
  omega
theorem tMp_n {a b k : Nat} (h : tMp a b k) : (a = 8 ∧ k ≤ 1 ∨ a = 902 ∨ a = 903) ∧ 13 ≤ b ∧ b ≤ 15 ∨ b = 0 ∧ (a = 4 ∧ (4 ≤ k ∧ k ≤ 7 ∨ k = 14 ∨ k = 15 ∨ k = 11 ∨ k = 12) ∨ a = 509 ∨ a = 510) := by
  rcases h with h | h
  · exact Or.inl h
  · exact Or.inr (tTr_n h)
theorem IMS.tl {S : zS} {eW : Nat → Nat} {im : zIm} (h : IMS S eW im) {a : Nat} (ha : a < 3) : TL S (a + 13) := by
  cases q : im a with
  | none => exact ((h a ha).1 q).2
  | some c => exact ((h a ha).2 c q).2.tl
theorem IMS.fr {S S1 : zS} {eW : Nat → Nat} {im : zIm} (h : IMS S eW im) {U : Nat → Nat → Nat → Bool} (f : Fr U S S1) (t : ∀ x k, U 8 x k = false ∧ U 902 x k = false ∧ U 903 x k = false) : IMS S1 eW im := fun a ha => ⟨fun q => ⟨(f.1 _ _ _ (t _ _).1).trans ((h a ha).1 q).1, ((h a ha).1 q).2.cong (gN_22 f.2.2) (gN_22 f.2.2) (f.1 _ _ _ (t _ _).1)⟩, fun c q => ⟨(f.1 _ _ _ (t _ _).1).trans ((h a ha).2 c q).1, ((h a ha).2 c q).2.fr22 f t⟩⟩
theorem TL.fr3 {S S1 : zS} {j : Nat} (h : TL S j) {U : Nat → Nat → Nat → Bool} (f : Fr U S S1) (t : ∀ x k, U 8 x k = false) : TL S1 j := h.cong (gN_22 f.2.2) (gN_22 f.2.2) (f.1 _ _ _ (t _ _))
/-- another sum is read into one of the rows -/
theorem TL.tm {S S1 : zS} {j i : Nat} (h : TL S i) (f : Fg (tTm j) S S1) (hi : i ≠ j) : TL S1 i := h.cong (f.N (by omega) (fun z => by unfold tTm tTy at z; rcases z with z | z | z; omega; omega; have := tTr_n z; omega)) (f.N (by omega) (fun z => by unfold tTm tTy at z; rcases z with z | z | z; omega; omega; have := tTr_n z; omega)) (f.I (by omega) (fun z => by unfold tTm tTy at z; rcases z with z | z | z; omega; omega; have := tTr_n z; omega))
def RmR (S S1 : zS) (eW : Nat → Nat) (r : Option zV) : zEr ⊕ zIm → Prop
  | Sum.inl x => r = some (zi (nI 0)) ∧ Fg tMp S S1 ∧ Fl S1 x ∧ ∀ a, a < 3 → TL S1 (a + 13)
  | Sum.inr im => r = some (zi (nI 1)) ∧ Fg tMp S S1 ∧ gI S1 4 0 14 = gI S 4 0 14 ∧ IMS S1 eW im
theorem RmR.pre {S S0 S1 : zS} {eW : Nat → Nat} {r : Option zV} (f : Fg tMp S S0) (e : gI S0 4 0 14 = gI S 4 0 14) : ∀ {x : zEr ⊕ zIm}, RmR S0 S1 eW r x → RmR S S1 eW r x
  | Sum.inl x, h => ⟨h.1, f.tr h.2.1, h.2.2⟩
  | Sum.inr im, h => ⟨h.1, f.tr h.2.1, h.2.2.1.trans e, h.2.2.2⟩

set_option maxRecDepth 100000 in
theorem lp_allTold {S : zS} (hs : Sd S) {ts : List zTk} (hr : Rc S ts) (hk : Tks ts) {cc AW : Nat} (hc4 : cc < 4) (hA3 : AW ≤ 3) (hA : gI S 9 cc 1 = nI AW) {eW : Nat → Nat} (he : ∀ a, a < AW → 2 ≤ eW a ∧ eW a ≤ 4) {im : zIm} (hI : IMS S eW im) : ∀ (d k : Nat), k + d = AW → (∀ a, a < k → (im a).isSome = true) → Ok mX4_areAllTold 2 [some (zr 4 0), some (zr 9 cc), some (zr 400 0), some (zi (nI k))] [] S (fun r S1 => (allI AW im = true ∧ r = some (zi (nI 1)) ∧ S1 = S) ∨ (allI AW im = false ∧ r = some (zi (nI 0)) ∧ Fr tFl S S1 ∧ Fl S1 (3, (hdT ts).2.1))) := by
  intro d
  obtain ⟨f5, f6, f7⟩ := hr.f
  obtain ⟨t1, t2, t3, t4⟩ := hk.hd
  induction d with
  | zero =>
    intro k hkd hlo
    obtain rfl : k = AW := by omega
    refine r_iload_n (q := 3) dX4_areAllTold_2 rfl rfl rfl ?_
    refine r_aload_n (q := 4) dX4_areAllTold_3 rfl rfl rfl ?_
    refine r_geti (q := 7) ck9 dX4_areAllTold_4 rfl (k := 1) (by decide) wt299 (Or.inl rfl) (hs.e (show cc < 4 by omega)) ?_
    refine r_topi (y := nI k) hA ?_
    refine r_icmp_geN (q := 10) (t := 41) (by omega) (by omega) dX4_areAllTold_7 (by decide) rfl (fun h7 => ?_) (fun h7 => absurd h7 (by omega))
    refine r_iconst (q := 42) (nI 1) dX4_areAllTold_41 rfl (by decide) ?_
    refine r_zreturn (by decide) dX4_areAllTold_42 rfl ?_
    exact Or.inl ⟨allI_t.mpr hlo, rfl, rfl⟩
  | succ d ih =>
    intro k hkd hlo
    cases q : im k with
    | none =>
      have e0 := ((hI k (by omega)).1 q).1
      refine r_iload_n (q := 3) dX4_areAllTold_2 rfl rfl rfl ?_
      refine r_aload_n (q := 4) dX4_areAllTold_3 rfl rfl rfl ?_
      refine r_geti (q := 7) ck9 dX4_areAllTold_4 rfl (k := 1) (by decide) wt299 (Or.inl rfl) (hs.e (show cc < 4 by omega)) ?_
      refine r_topi (y := nI AW) hA ?_
      refine r_icmp_geN (q := 10) (t := 41) (by omega) (by omega) dX4_areAllTold_7 (by decide) rfl (fun h7 => absurd h7 (by omega)) (fun h7 => ?_)
      refine r_iload_n (q := 11) dX4_areAllTold_10 rfl rfl rfl ?_
      refine r_aload_n (q := 12) dX4_areAllTold_11 rfl rfl rfl ?_
      refine r_alen (q := 13) (by decide) (by decide) dX4_areAllTold_12 rfl (hs.e (by decide)) ?_
      refine r_topi (y := nI 3) (congrArg nI (hs.n rfl (by decide))) ?_
      refine r_icmp_geN (q := 16) (t := 41) (by omega) (by omega) dX4_areAllTold_13 (by decide) rfl (fun h13 => absurd h13 (by omega)) (fun h13 => ?_)
      refine r_aload_n (q := 17) dX4_areAllTold_16 rfl rfl rfl ?_
      refine r_iload_n (q := 18) dX4_areAllTold_17 rfl rfl rfl ?_
      refine r_aaldN (q := 19) (some (8, k + 13)) 3 (by decide) (by decide) (by decide) dX4_areAllTold_18 rfl (hs.e (by decide)) (hs.n rfl (by decide)) (show k < 3 by omega) (by decide) ((hs.r (by decide) (show k < 3 by omega)).trans (if_pos (show k < 3 by omega))) ?_
      refine r_geti (q := 22) ck8 dX4_areAllTold_19 rfl (k := 0) (by decide) wt59 (Or.inl rfl) (hs.e (show k + 13 < 19 by omega)) ?_
      refine r_topi (y := nI 0) e0 ?_
      refine r_if_neN (q := 25) (t := 35) (by omega) dX4_areAllTold_22 (by decide) rfl (fun h22 => absurd h22 (by omega)) (fun h22 => ?_)
      refine r_aload_n (q := 26) dX4_areAllTold_25 rfl rfl rfl ?_
      refine r_iconst (q := 27) (nI 3) dX4_areAllTold_26 rfl (by decide) ?_
      refine r_aload_n (q := 28) dX4_areAllTold_27 rfl rfl rfl ?_
      refine r_geti (q := 31) ck4 dX4_areAllTold_28 rfl (k := 6) (by decide) wt127 (Or.inl rfl) (hs.e (by decide)) ?_
      refine r_topi (y := nI ((hdT ts).2.1)) f6 ?_
      refine r_callV (Mc := mX4_fail) (q := 34) (As := [zi (nI 3), zi (nI ((hdT ts).2.1))]) (st := []) ck4 dX4_areAllTold_31 rfl rfl mkX4_fail wt550 wt552 wp7 rfl (Nat.le_of_ble_eq_true rfl) (Nat.le_of_ble_eq_true rfl) (by decide) (by decide) (by decide) (Or.inl rfl) (hs.e (by decide)) (ok_fail hs 3 ((hdT ts).2.1)) (fun r31 S31 hp31 => ?_)
      obtain ⟨rfl, w31, x31⟩ := hp31
      show Ok _ _ _ [zi (nI 0)] _ _
      refine r_zreturn (by decide) dX4_areAllTold_34 rfl ?_
      refine Or.inr ⟨?_, rfl, w31, x31⟩
      cases z : allI AW im with
      | false => rfl
      | true =>
        have := allI_t.mp z k (by omega)
        rw [q] at this
        cases this
    | some c =>
      have e0 := ((hI k (by omega)).2 c q).1
      have e2 := he k (by omega)
      refine r_iload_n (q := 3) dX4_areAllTold_2 rfl rfl rfl ?_
      refine r_aload_n (q := 4) dX4_areAllTold_3 rfl rfl rfl ?_
      refine r_geti (q := 7) ck9 dX4_areAllTold_4 rfl (k := 1) (by decide) wt299 (Or.inl rfl) (hs.e (show cc < 4 by omega)) ?_
      refine r_topi (y := nI AW) hA ?_
      refine r_icmp_geN (q := 10) (t := 41) (by omega) (by omega) dX4_areAllTold_7 (by decide) rfl (fun h7 => absurd h7 (by omega)) (fun h7 => ?_)
      refine r_iload_n (q := 11) dX4_areAllTold_10 rfl rfl rfl ?_
      refine r_aload_n (q := 12) dX4_areAllTold_11 rfl rfl rfl ?_
      refine r_alen (q := 13) (by decide) (by decide) dX4_areAllTold_12 rfl (hs.e (by decide)) ?_
      refine r_topi (y := nI 3) (congrArg nI (hs.n rfl (by decide))) ?_
      refine r_icmp_geN (q := 16) (t := 41) (by omega) (by omega) dX4_areAllTold_13 (by decide) rfl (fun h13 => absurd h13 (by omega)) (fun h13 => ?_)
      refine r_aload_n (q := 17) dX4_areAllTold_16 rfl rfl rfl ?_
      refine r_iload_n (q := 18) dX4_areAllTold_17 rfl rfl rfl ?_
      refine r_aaldN (q := 19) (some (8, k + 13)) 3 (by decide) (by decide) (by decide) dX4_areAllTold_18 rfl (hs.e (by decide)) (hs.n rfl (by decide)) (show k < 3 by omega) (by decide) ((hs.r (by decide) (show k < 3 by omega)).trans (if_pos (show k < 3 by omega))) ?_
      refine r_geti (q := 22) ck8 dX4_areAllTold_19 rfl (k := 0) (by decide) wt59 (Or.inl rfl) (hs.e (show k + 13 < 19 by omega)) ?_
      refine r_topi (y := nI (eW k)) e0 ?_
      refine r_if_neN (q := 25) (t := 35) (by omega) dX4_areAllTold_22 (by decide) rfl (fun h22 => ?_) (fun h22 => absurd h22 (by omega))
      refine r_iincN (q := 38) (L' := [some (zr 4 0), some (zr 9 cc), some (zr 400 0), some (zi (nI (k + 1)))]) 1 rfl dX4_areAllTold_35 rfl rfl (by decide) rfl ?_
      refine r_goto (q := 2) dX4_areAllTold_38 (by decide) ?_
      refine ih (k + 1) (by omega) (fun a ha => ?_)
      by_cases e : a = k
      · rw [e, q]; rfl
      · exact hlo a (by omega)

set_option maxRecDepth 100000 in
theorem ok_areAllTold {S : zS} (hs : Sd S) {ts : List zTk} (hr : Rc S ts) (hk : Tks ts) {cc AW : Nat} (hc4 : cc < 4) (hA3 : AW ≤ 3) (hA : gI S 9 cc 1 = nI AW) {eW : Nat → Nat} (he : ∀ a, a < AW → 2 ≤ eW a ∧ eW a ≤ 4) {im : zIm} (hI : IMS S eW im) : Ok mX4_areAllTold 0 (ent 4 [zr 4 0, zr 9 cc, zr 400 0]) [] S (fun r S1 => (allI AW im = true ∧ r = some (zi (nI 1)) ∧ S1 = S) ∨ (allI AW im = false ∧ r = some (zi (nI 0)) ∧ Fr tFl S S1 ∧ Fl S1 (3, (hdT ts).2.1))) := by
  show Ok mX4_areAllTold 0 [some (zr 4 0), some (zr 9 cc), some (zr 400 0), none] [] S _
  refine r_iconst (q := 1) (nI 0) dX4_areAllTold_0 rfl (by decide) ?_
  refine r_istore_n (q := 2) (L' := [some (zr 4 0), some (zr 9 cc), some (zr 400 0), some (zi (nI 0))]) dX4_areAllTold_1 rfl rfl (by decide) rfl ?_
  exact lp_allTold hs hr hk hc4 hA3 hA he hI AW 0 (by omega) (fun a ha => absurd ha (by omega))

set_option maxRecDepth 100000 in
theorem lp_rm_1 {S : zS} (hs : Sd S) {ts : List zTk} (hr : Rc S ts) (hk : Tks ts) (hlk : Lk ts) {cc s AW AK P : Nat} (hc4 : cc < 4) (hs4 : s < 4) {nmW eW nmK eK : Nat → Nat} (hEW : Eok AW eW) (hEK : Eok AK eK) (hbW : ∀ a, a < AW → nmW a < 2 ^ 48) (hdW : ∀ a b, a < AW → b < AW → nmW a = nmW b → a = b) (hbK : ∀ a, a < AK → nmK a < 2 ^ 48) (hdK : ∀ a b, a < AK → b < AK → nmK a = nmK b → a = b) (hwW : Wn S cc AW nmW eW) (hwK : Wn S s AK nmK eK) (hP2 : 2 ≤ P) (hP : P ≤ 97) (hp0 : gI S 9 s 0 = nI P) {im : zIm} (hI : IMS S eW im) {k : Nat} (hnm : ¬ isNmb ts = true) : Ok mX4_readMap 50 [some (zr 4 0), some (zr 9 cc), some (zr 9 s), some (zr 400 0), some (zi (nI k)), none, none] [] S (fun r S1 => RmR S S1 eW r (Sum.inl (1, (hdT ts).2.1))) := by
  obtain ⟨f5, f6, f7⟩ := hr.f
  obtain ⟨t1, t2, t3, t4⟩ := hk.hd
  have hA3 := hEW.1
  refine r_aload_n (q := 51) dX4_readMap_50 rfl rfl rfl ?_
  refine r_geti (q := 54) ck4 dX4_readMap_51 rfl (k := 6) (by decide) wt127 (Or.inl rfl) (hs.e (by decide)) ?_
  refine r_topi (y := nI ((hdT ts).2.1)) f6 ?_
  refine r_istore (q := 56) (L' := [some (zr 4 0), some (zr 9 cc), some (zr 9 s), some (zr 400 0), some (zi (nI k)), some (zi (nI ((hdT ts).2.1))), none]) dX4_readMap_54 rfl (by decide) rfl ?_
  refine r_aload_n (q := 57) dX4_readMap_56 rfl rfl rfl ?_
  refine r_aload_n (q := 58) dX4_readMap_57 rfl rfl rfl ?_
  refine r_callV (Mc := mX4_readActName) (q := 61) (As := [zr 9 cc]) (st := []) ck4 dX4_readMap_58 rfl rfl mkX4_readActName wt590 wt592 wp13 rfl (Nat.le_of_ble_eq_true rfl) (Nat.le_of_ble_eq_true rfl) (by decide) (by decide) (by decide) (Or.inl rfl) (hs.e (by decide)) (ok_readActName_1 hs hr hk cc hnm) (fun r58 S58 hp58 => ?_)
  obtain ⟨rfl, w58, x58⟩ := hp58
  show Ok _ _ _ [zi (-1 : Int32)] _ _
  refine r_istore (q := 63) (L' := [some (zr 4 0), some (zr 9 cc), some (zr 9 s), some (zr 400 0), some (zi (nI k)), some (zi (nI ((hdT ts).2.1))), some (zi (-1 : Int32))]) dX4_readMap_61 rfl (by decide) rfl ?_
  refine r_iload (q := 65) dX4_readMap_63 rfl rfl ?_
  refine r_if_lt (q := 68) (t := 75) dX4_readMap_65 (by decide) rfl (fun h65 => ?_) (fun h65 => absurd h65 (by decide))
  refine r_iconst (q := 76) (nI 0) dX4_readMap_75 rfl (by decide) ?_
  refine r_zreturn (by decide) dX4_readMap_76 rfl ?_
  exact ⟨rfl, w58.fg hs tMp_fl, x58, fun a ha => (hI.tl ha).fr3 w58 (fun _ _ => rfl)⟩

set_option maxRecDepth 100000 in
theorem lp_rm_2 {S : zS} (hs : Sd S) {ts : List zTk} (hr : Rc S ts) (hk : Tks ts) (hlk : Lk ts) {cc s AW AK P : Nat} (hc4 : cc < 4) (hs4 : s < 4) {nmW eW nmK eK : Nat → Nat} (hEW : Eok AW eW) (hEK : Eok AK eK) (hbW : ∀ a, a < AW → nmW a < 2 ^ 48) (hdW : ∀ a b, a < AW → b < AW → nmW a = nmW b → a = b) (hbK : ∀ a, a < AK → nmK a < 2 ^ 48) (hdK : ∀ a b, a < AK → b < AK → nmK a = nmK b → a = b) (hwW : Wn S cc AW nmW eW) (hwK : Wn S s AK nmK eK) (hP2 : 2 ≤ P) (hP : P ≤ 97) (hp0 : gI S 9 s 0 = nI P) {im : zIm} (hI : IMS S eW im) {k : Nat} (hnm : isNmb ts = true) (hfa : fAct nmW (hdT ts).2.2 AW = none) : Ok mX4_readMap 50 [some (zr 4 0), some (zr 9 cc), some (zr 9 s), some (zr 400 0), some (zi (nI k)), none, none] [] S (fun r S1 => RmR S S1 eW r (Sum.inl (3, (hdT ts).2.1))) := by
  obtain ⟨f5, f6, f7⟩ := hr.f
  obtain ⟨t1, t2, t3, t4⟩ := hk.hd
  have hA3 := hEW.1
  refine r_aload_n (q := 51) dX4_readMap_50 rfl rfl rfl ?_
  refine r_geti (q := 54) ck4 dX4_readMap_51 rfl (k := 6) (by decide) wt127 (Or.inl rfl) (hs.e (by decide)) ?_
  refine r_topi (y := nI ((hdT ts).2.1)) f6 ?_
  refine r_istore (q := 56) (L' := [some (zr 4 0), some (zr 9 cc), some (zr 9 s), some (zr 400 0), some (zi (nI k)), some (zi (nI ((hdT ts).2.1))), none]) dX4_readMap_54 rfl (by decide) rfl ?_
  refine r_aload_n (q := 57) dX4_readMap_56 rfl rfl rfl ?_
  refine r_aload_n (q := 58) dX4_readMap_57 rfl rfl rfl ?_
  refine r_callV (Mc := mX4_readActName) (q := 61) (As := [zr 9 cc]) (st := []) ck4 dX4_readMap_58 rfl rfl mkX4_readActName wt590 wt592 wp13 rfl (Nat.le_of_ble_eq_true rfl) (Nat.le_of_ble_eq_true rfl) (by decide) (by decide) (by decide) (Or.inl rfl) (hs.e (by decide)) (ok_readActName_3 hs hr hk hc4 hA3 hwW.1 hwW.2 hbW hdW hnm hfa) (fun r58 S58 hp58 => ?_)
  obtain ⟨rfl, w58, x58⟩ := hp58
  show Ok _ _ _ [zi (-1 : Int32)] _ _
  refine r_istore (q := 63) (L' := [some (zr 4 0), some (zr 9 cc), some (zr 9 s), some (zr 400 0), some (zi (nI k)), some (zi (nI ((hdT ts).2.1))), some (zi (-1 : Int32))]) dX4_readMap_61 rfl (by decide) rfl ?_
  refine r_iload (q := 65) dX4_readMap_63 rfl rfl ?_
  refine r_if_lt (q := 68) (t := 75) dX4_readMap_65 (by decide) rfl (fun h65 => ?_) (fun h65 => absurd h65 (by decide))
  refine r_iconst (q := 76) (nI 0) dX4_readMap_75 rfl (by decide) ?_
  refine r_zreturn (by decide) dX4_readMap_76 rfl ?_
  exact ⟨rfl, w58.fg hs tMp_fl, x58, fun a ha => (hI.tl ha).fr3 w58 (fun _ _ => rfl)⟩

set_option maxRecDepth 100000 in
theorem lp_rm_3 {S : zS} (hs : Sd S) {ts : List zTk} (hr : Rc S ts) (hk : Tks ts) (hlk : Lk ts) {cc s AW AK P : Nat} (hc4 : cc < 4) (hs4 : s < 4) {nmW eW nmK eK : Nat → Nat} (hEW : Eok AW eW) (hEK : Eok AK eK) (hbW : ∀ a, a < AW → nmW a < 2 ^ 48) (hdW : ∀ a b, a < AW → b < AW → nmW a = nmW b → a = b) (hbK : ∀ a, a < AK → nmK a < 2 ^ 48) (hdK : ∀ a b, a < AK → b < AK → nmK a = nmK b → a = b) (hwW : Wn S cc AW nmW eW) (hwK : Wn S s AK nmK eK) (hP2 : 2 ≤ P) (hP : P ≤ 97) (hp0 : gI S 9 s 0 = nI P) {im : zIm} (hI : IMS S eW im) {k : Nat} (hnm : isNmb ts = true) {a : Nat} (hfa : fAct nmW (hdT ts).2.2 AW = some a) {c : List zT} (hia : im a = some c) : Ok mX4_readMap 50 [some (zr 4 0), some (zr 9 cc), some (zr 9 s), some (zr 400 0), some (zi (nI k)), none, none] [] S (fun r S1 => RmR S S1 eW r (Sum.inl (3, (hdT ts).2.1))) := by
  obtain ⟨f5, f6, f7⟩ := hr.f
  obtain ⟨t1, t2, t3, t4⟩ := hk.hd
  have hA3 := hEW.1
  have haA := (fAct_some hfa).1
  have hae := hEW.2 a haA
  have e00 := ((hI a (by omega)).2 c hia).1
  refine r_aload_n (q := 51) dX4_readMap_50 rfl rfl rfl ?_
  refine r_geti (q := 54) ck4 dX4_readMap_51 rfl (k := 6) (by decide) wt127 (Or.inl rfl) (hs.e (by decide)) ?_
  refine r_topi (y := nI ((hdT ts).2.1)) f6 ?_
  refine r_istore (q := 56) (L' := [some (zr 4 0), some (zr 9 cc), some (zr 9 s), some (zr 400 0), some (zi (nI k)), some (zi (nI ((hdT ts).2.1))), none]) dX4_readMap_54 rfl (by decide) rfl ?_
  refine r_aload_n (q := 57) dX4_readMap_56 rfl rfl rfl ?_
  refine r_aload_n (q := 58) dX4_readMap_57 rfl rfl rfl ?_
  refine r_callV (Mc := mX4_readActName) (q := 61) (As := [zr 9 cc]) (st := []) ck4 dX4_readMap_58 rfl rfl mkX4_readActName wt590 wt592 wp13 rfl (Nat.le_of_ble_eq_true rfl) (Nat.le_of_ble_eq_true rfl) (by decide) (by decide) (by decide) (Or.inl rfl) (hs.e (by decide)) (ok_readActName_y hs hr hk hc4 hA3 hwW.1 hwW.2 hbW hdW hnm hfa) (fun r58 S58 hp58 => ?_)
  obtain ⟨rfl, w58, x58⟩ := hp58
  have hs1 := hs.fr w58
  have e0 : gI S58 8 (a + 13) 0 = nI (eW a) := (w58.1 _ _ _ rfl).trans e00
  show Ok _ _ _ [zi (nI a)] _ _
  refine r_istore (q := 63) (L' := [some (zr 4 0), some (zr 9 cc), some (zr 9 s), some (zr 400 0), some (zi (nI k)), some (zi (nI ((hdT ts).2.1))), some (zi (nI a))]) dX4_readMap_61 rfl (by decide) rfl ?_
  refine r_iload (q := 65) dX4_readMap_63 rfl rfl ?_
  refine r_if_ltN (q := 68) (t := 75) (by omega) dX4_readMap_65 (by decide) rfl ?_
  refine r_iload (q := 70) dX4_readMap_68 rfl rfl ?_
  refine r_aload_n (q := 71) dX4_readMap_70 rfl rfl rfl ?_
  refine r_alen (q := 72) (by decide) (by decide) dX4_readMap_71 rfl (hs1.e (by decide)) ?_
  refine r_topi (y := nI 3) (congrArg nI (hs1.n rfl (by decide))) ?_
  refine r_icmp_ltN (q := 75) (t := 77) (by omega) (by omega) dX4_readMap_72 (by decide) rfl (fun h72 => ?_) (fun h72 => absurd h72 (by omega))
  refine r_aload_n (q := 78) dX4_readMap_77 rfl rfl rfl ?_
  refine r_iload (q := 80) dX4_readMap_78 rfl rfl ?_
  refine r_aaldN (q := 81) (some (8, a + 13)) 3 (by decide) (by decide) (by decide) dX4_readMap_80 rfl (hs1.e (by decide)) (hs1.n rfl (by decide)) (show a < 3 by omega) (by decide) ((hs1.r (by decide) (show a < 3 by omega)).trans (if_pos (show a < 3 by omega))) ?_
  refine r_geti (q := 84) ck8 dX4_readMap_81 rfl (k := 0) (by decide) wt59 (Or.inl rfl) (hs1.e (show a + 13 < 19 by omega)) ?_
  refine r_topi (y := nI (eW a)) e0 ?_
  refine r_if_leN (q := 87) (t := 95) (by omega) dX4_readMap_84 (by decide) rfl (fun h84 => absurd h84 (by omega)) (fun h84 => ?_)
  refine r_aload_n (q := 88) dX4_readMap_87 rfl rfl rfl ?_
  refine r_iconst (q := 89) (nI 3) dX4_readMap_88 rfl (by decide) ?_
  refine r_iload (q := 91) dX4_readMap_89 rfl rfl ?_
  refine r_callV (Mc := mX4_fail) (q := 94) (As := [zi (nI 3), zi (nI ((hdT ts).2.1))]) (st := []) ck4 dX4_readMap_91 rfl rfl mkX4_fail wt550 wt552 wp7 rfl (Nat.le_of_ble_eq_true rfl) (Nat.le_of_ble_eq_true rfl) (by decide) (by decide) (by decide) (Or.inl rfl) (hs1.e (by decide)) (ok_fail hs1 3 ((hdT ts).2.1)) (fun r91 S91 hp91 => ?_)
  obtain ⟨rfl, w91, x91⟩ := hp91
  show Ok _ _ _ [zi (nI 0)] _ _
  refine r_zreturn (by decide) dX4_readMap_94 rfl ?_
  exact ⟨rfl, (w58.fg hs tMp_av).tr (w91.fg hs1 tMp_fl), x91, fun a ha => ((hI.tl ha).fr3 w58 (fun _ _ => rfl)).fr3 w91 (fun _ _ => rfl)⟩

set_option maxRecDepth 100000 in
theorem lp_rm_4 {S : zS} (hs : Sd S) {ts : List zTk} (hr : Rc S ts) (hk : Tks ts) (hlk : Lk ts) {cc s AW AK P : Nat} (hc4 : cc < 4) (hs4 : s < 4) {nmW eW nmK eK : Nat → Nat} (hEW : Eok AW eW) (hEK : Eok AK eK) (hbW : ∀ a, a < AW → nmW a < 2 ^ 48) (hdW : ∀ a b, a < AW → b < AW → nmW a = nmW b → a = b) (hbK : ∀ a, a < AK → nmK a < 2 ^ 48) (hdK : ∀ a b, a < AK → b < AK → nmK a = nmK b → a = b) (hwW : Wn S cc AW nmW eW) (hwK : Wn S s AK nmK eK) (hP2 : 2 ≤ P) (hP : P ≤ 97) (hp0 : gI S 9 s 0 = nI P) {im : zIm} (hI : IMS S eW im) {k : Nat} (hnm : isNmb ts = true) {a : Nat} (hfa : fAct nmW (hdT ts).2.2 AW = some a) (hia : im a = none) (h61 : ¬ (hdT (adv ts)).1 = 61) : Ok mX4_readMap 50 [some (zr 4 0), some (zr 9 cc), some (zr 9 s), some (zr 400 0), some (zi (nI k)), none, none] [] S (fun r S1 => RmR S S1 eW r (Sum.inl (1, (hdT (adv ts)).2.1))) := by
  obtain ⟨f5, f6, f7⟩ := hr.f
  obtain ⟨t1, t2, t3, t4⟩ := hk.hd
  have hA3 := hEW.1
  have haA := (fAct_some hfa).1
  have hae := hEW.2 a haA
  obtain ⟨e00, hTL⟩ := (hI a (by omega)).1 hia
  refine r_aload_n (q := 51) dX4_readMap_50 rfl rfl rfl ?_
  refine r_geti (q := 54) ck4 dX4_readMap_51 rfl (k := 6) (by decide) wt127 (Or.inl rfl) (hs.e (by decide)) ?_
  refine r_topi (y := nI ((hdT ts).2.1)) f6 ?_
  refine r_istore (q := 56) (L' := [some (zr 4 0), some (zr 9 cc), some (zr 9 s), some (zr 400 0), some (zi (nI k)), some (zi (nI ((hdT ts).2.1))), none]) dX4_readMap_54 rfl (by decide) rfl ?_
  refine r_aload_n (q := 57) dX4_readMap_56 rfl rfl rfl ?_
  refine r_aload_n (q := 58) dX4_readMap_57 rfl rfl rfl ?_
  refine r_callV (Mc := mX4_readActName) (q := 61) (As := [zr 9 cc]) (st := []) ck4 dX4_readMap_58 rfl rfl mkX4_readActName wt590 wt592 wp13 rfl (Nat.le_of_ble_eq_true rfl) (Nat.le_of_ble_eq_true rfl) (by decide) (by decide) (by decide) (Or.inl rfl) (hs.e (by decide)) (ok_readActName_y hs hr hk hc4 hA3 hwW.1 hwW.2 hbW hdW hnm hfa) (fun r58 S58 hp58 => ?_)
  obtain ⟨rfl, w58, x58⟩ := hp58
  have hs1 := hs.fr w58
  have e0 : gI S58 8 (a + 13) 0 = nI 0 := (w58.1 _ _ _ rfl).trans e00
  show Ok _ _ _ [zi (nI a)] _ _
  refine r_istore (q := 63) (L' := [some (zr 4 0), some (zr 9 cc), some (zr 9 s), some (zr 400 0), some (zi (nI k)), some (zi (nI ((hdT ts).2.1))), some (zi (nI a))]) dX4_readMap_61 rfl (by decide) rfl ?_
  refine r_iload (q := 65) dX4_readMap_63 rfl rfl ?_
  refine r_if_ltN (q := 68) (t := 75) (by omega) dX4_readMap_65 (by decide) rfl ?_
  refine r_iload (q := 70) dX4_readMap_68 rfl rfl ?_
  refine r_aload_n (q := 71) dX4_readMap_70 rfl rfl rfl ?_
  refine r_alen (q := 72) (by decide) (by decide) dX4_readMap_71 rfl (hs1.e (by decide)) ?_
  refine r_topi (y := nI 3) (congrArg nI (hs1.n rfl (by decide))) ?_
  refine r_icmp_ltN (q := 75) (t := 77) (by omega) (by omega) dX4_readMap_72 (by decide) rfl (fun h72 => ?_) (fun h72 => absurd h72 (by omega))
  refine r_aload_n (q := 78) dX4_readMap_77 rfl rfl rfl ?_
  refine r_iload (q := 80) dX4_readMap_78 rfl rfl ?_
  refine r_aaldN (q := 81) (some (8, a + 13)) 3 (by decide) (by decide) (by decide) dX4_readMap_80 rfl (hs1.e (by decide)) (hs1.n rfl (by decide)) (show a < 3 by omega) (by decide) ((hs1.r (by decide) (show a < 3 by omega)).trans (if_pos (show a < 3 by omega))) ?_
  refine r_geti (q := 84) ck8 dX4_readMap_81 rfl (k := 0) (by decide) wt59 (Or.inl rfl) (hs1.e (show a + 13 < 19 by omega)) ?_
  refine r_topi (y := nI 0) e0 ?_
  refine r_if_leN (q := 87) (t := 95) (by omega) dX4_readMap_84 (by decide) rfl (fun h84 => ?_) (fun h84 => absurd h84 (by omega))
  refine r_aload_n (q := 96) dX4_readMap_95 rfl rfl rfl ?_
  refine r_bipush (q := 98) (nI 61) dX4_readMap_96 rfl (by decide) ?_
  refine r_callV (Mc := mX4_skip) (q := 101) (As := [zi (nI 61)]) (st := []) ck4 dX4_readMap_98 rfl rfl mkX4_skip wt594 wt596 wp14 rfl (Nat.le_of_ble_eq_true rfl) (Nat.le_of_ble_eq_true rfl) (by decide) (by decide) (by decide) (Or.inl rfl) (hs1.e (by decide)) (ok_skip_n hs1 x58 hk.adv h61 (by omega)) (fun r98 S98 hp98 => ?_)
  obtain ⟨rfl, w98, x98⟩ := hp98
  show Ok _ _ _ [zi (nI 0)] _ _
  refine r_if_eqN (q := 104) (t := 133) (by omega) dX4_readMap_101 (by decide) rfl (fun h101 => ?_) (fun h101 => absurd h101 (by omega))
  refine r_iconst (q := 134) (nI 0) dX4_readMap_133 rfl (by decide) ?_
  refine r_zreturn (by decide) dX4_readMap_134 rfl ?_
  exact ⟨rfl, (w58.fg hs tMp_av).tr (w98.fg hs1 tMp_fl), x98, fun a ha => ((hI.tl ha).fr3 w58 (fun _ _ => rfl)).fr3 w98 (fun _ _ => rfl)⟩

set_option maxRecDepth 100000 in
theorem lp_rm_5 {S : zS} (hs : Sd S) {ts : List zTk} (hr : Rc S ts) (hk : Tks ts) (hlk : Lk ts) {cc s AW AK P : Nat} (hc4 : cc < 4) (hs4 : s < 4) {nmW eW nmK eK : Nat → Nat} (hEW : Eok AW eW) (hEK : Eok AK eK) (hbW : ∀ a, a < AW → nmW a < 2 ^ 48) (hdW : ∀ a b, a < AW → b < AW → nmW a = nmW b → a = b) (hbK : ∀ a, a < AK → nmK a < 2 ^ 48) (hdK : ∀ a b, a < AK → b < AK → nmK a = nmK b → a = b) (hwW : Wn S cc AW nmW eW) (hwK : Wn S s AK nmK eK) (hP2 : 2 ≤ P) (hP : P ≤ 97) (hp0 : gI S 9 s 0 = nI P) {im : zIm} (hI : IMS S eW im) {k : Nat} (hnm : isNmb ts = true) {a : Nat} (hfa : fAct nmW (hdT ts).2.2 AW = some a) (hia : im a = none) (h61 : (hdT (adv ts)).1 = 61) {x : zEr} (q2 : sumQ nmK eK AK P (eW a) 1 (adv (adv ts)) = Sum.inl x) : Ok mX4_readMap 50 [some (zr 4 0), some (zr 9 cc), some (zr 9 s), some (zr 400 0), some (zi (nI k)), none, none] [] S (fun r S1 => RmR S S1 eW r (Sum.inl x)) := by
  obtain ⟨f5, f6, f7⟩ := hr.f
  obtain ⟨t1, t2, t3, t4⟩ := hk.hd
  have hA3 := hEW.1
  have haA := (fAct_some hfa).1
  have hae := hEW.2 a haA
  obtain ⟨e00, hTL⟩ := (hI a (by omega)).1 hia
  refine r_aload_n (q := 51) dX4_readMap_50 rfl rfl rfl ?_
  refine r_geti (q := 54) ck4 dX4_readMap_51 rfl (k := 6) (by decide) wt127 (Or.inl rfl) (hs.e (by decide)) ?_
  refine r_topi (y := nI ((hdT ts).2.1)) f6 ?_
  refine r_istore (q := 56) (L' := [some (zr 4 0), some (zr 9 cc), some (zr 9 s), some (zr 400 0), some (zi (nI k)), some (zi (nI ((hdT ts).2.1))), none]) dX4_readMap_54 rfl (by decide) rfl ?_
  refine r_aload_n (q := 57) dX4_readMap_56 rfl rfl rfl ?_
  refine r_aload_n (q := 58) dX4_readMap_57 rfl rfl rfl ?_
  refine r_callV (Mc := mX4_readActName) (q := 61) (As := [zr 9 cc]) (st := []) ck4 dX4_readMap_58 rfl rfl mkX4_readActName wt590 wt592 wp13 rfl (Nat.le_of_ble_eq_true rfl) (Nat.le_of_ble_eq_true rfl) (by decide) (by decide) (by decide) (Or.inl rfl) (hs.e (by decide)) (ok_readActName_y hs hr hk hc4 hA3 hwW.1 hwW.2 hbW hdW hnm hfa) (fun r58 S58 hp58 => ?_)
  obtain ⟨rfl, w58, x58⟩ := hp58
  have hs1 := hs.fr w58
  have e0 : gI S58 8 (a + 13) 0 = nI 0 := (w58.1 _ _ _ rfl).trans e00
  show Ok _ _ _ [zi (nI a)] _ _
  refine r_istore (q := 63) (L' := [some (zr 4 0), some (zr 9 cc), some (zr 9 s), some (zr 400 0), some (zi (nI k)), some (zi (nI ((hdT ts).2.1))), some (zi (nI a))]) dX4_readMap_61 rfl (by decide) rfl ?_
  refine r_iload (q := 65) dX4_readMap_63 rfl rfl ?_
  refine r_if_ltN (q := 68) (t := 75) (by omega) dX4_readMap_65 (by decide) rfl ?_
  refine r_iload (q := 70) dX4_readMap_68 rfl rfl ?_
  refine r_aload_n (q := 71) dX4_readMap_70 rfl rfl rfl ?_
  refine r_alen (q := 72) (by decide) (by decide) dX4_readMap_71 rfl (hs1.e (by decide)) ?_
  refine r_topi (y := nI 3) (congrArg nI (hs1.n rfl (by decide))) ?_
  refine r_icmp_ltN (q := 75) (t := 77) (by omega) (by omega) dX4_readMap_72 (by decide) rfl (fun h72 => ?_) (fun h72 => absurd h72 (by omega))
  refine r_aload_n (q := 78) dX4_readMap_77 rfl rfl rfl ?_
  refine r_iload (q := 80) dX4_readMap_78 rfl rfl ?_
  refine r_aaldN (q := 81) (some (8, a + 13)) 3 (by decide) (by decide) (by decide) dX4_readMap_80 rfl (hs1.e (by decide)) (hs1.n rfl (by decide)) (show a < 3 by omega) (by decide) ((hs1.r (by decide) (show a < 3 by omega)).trans (if_pos (show a < 3 by omega))) ?_
  refine r_geti (q := 84) ck8 dX4_readMap_81 rfl (k := 0) (by decide) wt59 (Or.inl rfl) (hs1.e (show a + 13 < 19 by omega)) ?_
  refine r_topi (y := nI 0) e0 ?_
  refine r_if_leN (q := 87) (t := 95) (by omega) dX4_readMap_84 (by decide) rfl (fun h84 => ?_) (fun h84 => absurd h84 (by omega))
  refine r_aload_n (q := 96) dX4_readMap_95 rfl rfl rfl ?_
  refine r_bipush (q := 98) (nI 61) dX4_readMap_96 rfl (by decide) ?_
  refine r_callV (Mc := mX4_skip) (q := 101) (As := [zi (nI 61)]) (st := []) ck4 dX4_readMap_98 rfl rfl mkX4_skip wt594 wt596 wp14 rfl (Nat.le_of_ble_eq_true rfl) (Nat.le_of_ble_eq_true rfl) (by decide) (by decide) (by decide) (Or.inl rfl) (hs1.e (by decide)) (ok_skip_y hs1 x58 hk.adv h61) (fun r98 S98 hp98 => ?_)
  obtain ⟨rfl, w98, x98⟩ := hp98
  have hs2 := hs1.fr w98
  have hT2 := (hTL.fr3 w58 (fun _ _ => rfl)).fr3 w98 (fun _ _ => rfl)
  have hK2 := (hwK.fr w58 (fun _ _ => ⟨rfl, rfl, rfl⟩)).fr w98 (fun _ _ => ⟨rfl, rfl, rfl⟩)
  have he2 : gI S98 1003 cc a = nI (eW a) := ((w98.1 _ _ _ rfl).trans (w58.1 _ _ _ rfl)).trans (hwW.2 a haA).1
  have hp2 : gI S98 9 s 0 = nI P := ((w98.1 _ _ _ rfl).trans (w58.1 _ _ _ rfl)).trans hp0
  show Ok _ _ _ [zi (nI 1)] _ _
  refine r_if_eqN (q := 104) (t := 133) (by omega) dX4_readMap_101 (by decide) rfl (fun h101 => absurd h101 (by omega)) (fun h101 => ?_)
  refine r_aload_n (q := 105) dX4_readMap_104 rfl rfl rfl ?_
  refine r_aload_n (q := 106) dX4_readMap_105 rfl rfl rfl ?_
  refine r_aload_n (q := 107) dX4_readMap_106 rfl rfl rfl ?_
  refine r_iload (q := 109) dX4_readMap_107 rfl rfl ?_
  refine r_aaldN (q := 110) (some (8, a + 13)) 3 (by decide) (by decide) (by decide) dX4_readMap_109 rfl (hs2.e (by decide)) (hs2.n rfl (by decide)) (show a < 3 by omega) (by decide) ((hs2.r (by decide) (show a < 3 by omega)).trans (if_pos (show a < 3 by omega))) ?_
  refine r_aload_n (q := 111) dX4_readMap_110 rfl rfl rfl ?_
  refine r_getr (q := 114) (some (1003, cc)) ck9 dX4_readMap_111 rfl (k := 3) (by decide) wt310 rfl (hs2.e (show cc < 4 by omega)) (hs2.r (show cc < 4 by omega) (by decide)) ?_
  refine r_iload (q := 116) dX4_readMap_114 rfl rfl ?_
  refine r_ialdN (q := 117) 3 (by decide) rfl dX4_readMap_116 rfl (hs2.e (show cc < 4 by omega)) (hs2.n rfl (show cc < 4 by omega)) (by omega) (by decide) ?_
  refine r_topi (y := nI (eW a)) he2 ?_
  refine r_iconst (q := 118) (nI 1) dX4_readMap_117 rfl (by decide) ?_
  refine r_callV (Mc := mX4_readTerms) (q := 121) (As := [zr 9 s, zr 8 (a + 13), zi (nI (eW a)), zi (nI 1)]) (st := []) ck4 dX4_readMap_118 rfl rfl mkX4_readTerms wt582 wt584 wp11 rfl (Nat.le_of_ble_eq_true rfl) (Nat.le_of_ble_eq_true rfl) (by decide) (by decide) (by decide) (Or.inr ⟨Nat.le_of_ble_eq_true rfl, rfl, rfl⟩) (hs2.e (by decide)) (ok_readTerms hs4 hEK hbK hdK hP2 hP (show a + 13 < 19 by omega) hs2 hK2 hp2 x98 hk.adv.adv hlk.ad.ad hT2 (show eW a ≤ 7 by omega) (show 1 ≤ 2 by omega)) (fun r118 S118 hp118 => ?_)
  rw [q2] at hp118
  obtain ⟨rfl, f118, x118, y118⟩ := hp118
  show Ok _ _ _ [zi (nI 0)] _ _
  refine r_if_eqN (q := 124) (t := 133) (by omega) dX4_readMap_121 (by decide) rfl (fun h121 => ?_) (fun h121 => absurd h121 (by omega))
  refine r_iconst (q := 134) (nI 0) dX4_readMap_133 rfl (by decide) ?_
  refine r_zreturn (by decide) dX4_readMap_134 rfl ?_
  have hX : ∀ b, b < 3 → TL S118 (b + 13) := fun b hb => by
    by_cases e : b = a
    · rw [e]; exact y118
    · exact (((hI.tl hb).fr3 w58 (fun _ _ => rfl)).fr3 w98 (fun _ _ => rfl)).tm f118 (by omega)
  exact ⟨rfl, (((w58.fg hs tMp_av).tr (w98.fg hs1 tMp_av)).tr (f118.mono (tMp_tm (by omega)))), x118, hX⟩

set_option maxRecDepth 100000 in
theorem lp_rm_6 {S : zS} (hs : Sd S) {ts : List zTk} (hr : Rc S ts) (hk : Tks ts) (hlk : Lk ts) {cc s AW AK P : Nat} (hc4 : cc < 4) (hs4 : s < 4) {nmW eW nmK eK : Nat → Nat} (hEW : Eok AW eW) (hEK : Eok AK eK) (hbW : ∀ a, a < AW → nmW a < 2 ^ 48) (hdW : ∀ a b, a < AW → b < AW → nmW a = nmW b → a = b) (hbK : ∀ a, a < AK → nmK a < 2 ^ 48) (hdK : ∀ a b, a < AK → b < AK → nmK a = nmK b → a = b) (hwW : Wn S cc AW nmW eW) (hwK : Wn S s AK nmK eK) (hP2 : 2 ≤ P) (hP : P ≤ 97) (hp0 : gI S 9 s 0 = nI P) {im : zIm} (hI : IMS S eW im) {k : Nat} (hnm : isNmb ts = true) {a : Nat} (hfa : fAct nmW (hdT ts).2.2 AW = some a) (hia : im a = none) (h61 : (hdT (adv ts)).1 = 61) {n : Nat} {acc : List zT} {ts' : List zTk} (q2 : sumQ nmK eK AK P (eW a) 1 (adv (adv ts)) = Sum.inr ((n, acc), ts')) (h59 : ¬ (hdT ts').1 = 59) : Ok mX4_readMap 50 [some (zr 4 0), some (zr 9 cc), some (zr 9 s), some (zr 400 0), some (zi (nI k)), none, none] [] S (fun r S1 => RmR S S1 eW r (Sum.inl (1, (hdT ts').2.1))) := by
  obtain ⟨f5, f6, f7⟩ := hr.f
  obtain ⟨t1, t2, t3, t4⟩ := hk.hd
  have hA3 := hEW.1
  have haA := (fAct_some hfa).1
  have hae := hEW.2 a haA
  obtain ⟨e00, hTL⟩ := (hI a (by omega)).1 hia
  refine r_aload_n (q := 51) dX4_readMap_50 rfl rfl rfl ?_
  refine r_geti (q := 54) ck4 dX4_readMap_51 rfl (k := 6) (by decide) wt127 (Or.inl rfl) (hs.e (by decide)) ?_
  refine r_topi (y := nI ((hdT ts).2.1)) f6 ?_
  refine r_istore (q := 56) (L' := [some (zr 4 0), some (zr 9 cc), some (zr 9 s), some (zr 400 0), some (zi (nI k)), some (zi (nI ((hdT ts).2.1))), none]) dX4_readMap_54 rfl (by decide) rfl ?_
  refine r_aload_n (q := 57) dX4_readMap_56 rfl rfl rfl ?_
  refine r_aload_n (q := 58) dX4_readMap_57 rfl rfl rfl ?_
  refine r_callV (Mc := mX4_readActName) (q := 61) (As := [zr 9 cc]) (st := []) ck4 dX4_readMap_58 rfl rfl mkX4_readActName wt590 wt592 wp13 rfl (Nat.le_of_ble_eq_true rfl) (Nat.le_of_ble_eq_true rfl) (by decide) (by decide) (by decide) (Or.inl rfl) (hs.e (by decide)) (ok_readActName_y hs hr hk hc4 hA3 hwW.1 hwW.2 hbW hdW hnm hfa) (fun r58 S58 hp58 => ?_)
  obtain ⟨rfl, w58, x58⟩ := hp58
  have hs1 := hs.fr w58
  have e0 : gI S58 8 (a + 13) 0 = nI 0 := (w58.1 _ _ _ rfl).trans e00
  show Ok _ _ _ [zi (nI a)] _ _
  refine r_istore (q := 63) (L' := [some (zr 4 0), some (zr 9 cc), some (zr 9 s), some (zr 400 0), some (zi (nI k)), some (zi (nI ((hdT ts).2.1))), some (zi (nI a))]) dX4_readMap_61 rfl (by decide) rfl ?_
  refine r_iload (q := 65) dX4_readMap_63 rfl rfl ?_
  refine r_if_ltN (q := 68) (t := 75) (by omega) dX4_readMap_65 (by decide) rfl ?_
  refine r_iload (q := 70) dX4_readMap_68 rfl rfl ?_
  refine r_aload_n (q := 71) dX4_readMap_70 rfl rfl rfl ?_
  refine r_alen (q := 72) (by decide) (by decide) dX4_readMap_71 rfl (hs1.e (by decide)) ?_
  refine r_topi (y := nI 3) (congrArg nI (hs1.n rfl (by decide))) ?_
  refine r_icmp_ltN (q := 75) (t := 77) (by omega) (by omega) dX4_readMap_72 (by decide) rfl (fun h72 => ?_) (fun h72 => absurd h72 (by omega))
  refine r_aload_n (q := 78) dX4_readMap_77 rfl rfl rfl ?_
  refine r_iload (q := 80) dX4_readMap_78 rfl rfl ?_
  refine r_aaldN (q := 81) (some (8, a + 13)) 3 (by decide) (by decide) (by decide) dX4_readMap_80 rfl (hs1.e (by decide)) (hs1.n rfl (by decide)) (show a < 3 by omega) (by decide) ((hs1.r (by decide) (show a < 3 by omega)).trans (if_pos (show a < 3 by omega))) ?_
  refine r_geti (q := 84) ck8 dX4_readMap_81 rfl (k := 0) (by decide) wt59 (Or.inl rfl) (hs1.e (show a + 13 < 19 by omega)) ?_
  refine r_topi (y := nI 0) e0 ?_
  refine r_if_leN (q := 87) (t := 95) (by omega) dX4_readMap_84 (by decide) rfl (fun h84 => ?_) (fun h84 => absurd h84 (by omega))
  refine r_aload_n (q := 96) dX4_readMap_95 rfl rfl rfl ?_
  refine r_bipush (q := 98) (nI 61) dX4_readMap_96 rfl (by decide) ?_
  refine r_callV (Mc := mX4_skip) (q := 101) (As := [zi (nI 61)]) (st := []) ck4 dX4_readMap_98 rfl rfl mkX4_skip wt594 wt596 wp14 rfl (Nat.le_of_ble_eq_true rfl) (Nat.le_of_ble_eq_true rfl) (by decide) (by decide) (by decide) (Or.inl rfl) (hs1.e (by decide)) (ok_skip_y hs1 x58 hk.adv h61) (fun r98 S98 hp98 => ?_)
  obtain ⟨rfl, w98, x98⟩ := hp98
  have hs2 := hs1.fr w98
  have hT2 := (hTL.fr3 w58 (fun _ _ => rfl)).fr3 w98 (fun _ _ => rfl)
  have hK2 := (hwK.fr w58 (fun _ _ => ⟨rfl, rfl, rfl⟩)).fr w98 (fun _ _ => ⟨rfl, rfl, rfl⟩)
  have he2 : gI S98 1003 cc a = nI (eW a) := ((w98.1 _ _ _ rfl).trans (w58.1 _ _ _ rfl)).trans (hwW.2 a haA).1
  have hp2 : gI S98 9 s 0 = nI P := ((w98.1 _ _ _ rfl).trans (w58.1 _ _ _ rfl)).trans hp0
  show Ok _ _ _ [zi (nI 1)] _ _
  refine r_if_eqN (q := 104) (t := 133) (by omega) dX4_readMap_101 (by decide) rfl (fun h101 => absurd h101 (by omega)) (fun h101 => ?_)
  refine r_aload_n (q := 105) dX4_readMap_104 rfl rfl rfl ?_
  refine r_aload_n (q := 106) dX4_readMap_105 rfl rfl rfl ?_
  refine r_aload_n (q := 107) dX4_readMap_106 rfl rfl rfl ?_
  refine r_iload (q := 109) dX4_readMap_107 rfl rfl ?_
  refine r_aaldN (q := 110) (some (8, a + 13)) 3 (by decide) (by decide) (by decide) dX4_readMap_109 rfl (hs2.e (by decide)) (hs2.n rfl (by decide)) (show a < 3 by omega) (by decide) ((hs2.r (by decide) (show a < 3 by omega)).trans (if_pos (show a < 3 by omega))) ?_
  refine r_aload_n (q := 111) dX4_readMap_110 rfl rfl rfl ?_
  refine r_getr (q := 114) (some (1003, cc)) ck9 dX4_readMap_111 rfl (k := 3) (by decide) wt310 rfl (hs2.e (show cc < 4 by omega)) (hs2.r (show cc < 4 by omega) (by decide)) ?_
  refine r_iload (q := 116) dX4_readMap_114 rfl rfl ?_
  refine r_ialdN (q := 117) 3 (by decide) rfl dX4_readMap_116 rfl (hs2.e (show cc < 4 by omega)) (hs2.n rfl (show cc < 4 by omega)) (by omega) (by decide) ?_
  refine r_topi (y := nI (eW a)) he2 ?_
  refine r_iconst (q := 118) (nI 1) dX4_readMap_117 rfl (by decide) ?_
  refine r_callV (Mc := mX4_readTerms) (q := 121) (As := [zr 9 s, zr 8 (a + 13), zi (nI (eW a)), zi (nI 1)]) (st := []) ck4 dX4_readMap_118 rfl rfl mkX4_readTerms wt582 wt584 wp11 rfl (Nat.le_of_ble_eq_true rfl) (Nat.le_of_ble_eq_true rfl) (by decide) (by decide) (by decide) (Or.inr ⟨Nat.le_of_ble_eq_true rfl, rfl, rfl⟩) (hs2.e (by decide)) (ok_readTerms hs4 hEK hbK hdK hP2 hP (show a + 13 < 19 by omega) hs2 hK2 hp2 x98 hk.adv.adv hlk.ad.ad hT2 (show eW a ≤ 7 by omega) (show 1 ≤ 2 by omega)) (fun r118 S118 hp118 => ?_)
  rw [q2] at hp118
  obtain ⟨rfl, f118, g14, x118, s1, s2, s3⟩ := hp118
  have hs3 := f118.sd
  obtain ⟨k1, k2, k3, k4, k5, k6⟩ := sumQ_use7 hEK (show 0 < P by omega) (show 2 ≤ eW a by omega) hk.adv.adv hlk.ad.ad q2
  show Ok _ _ _ [zi (nI 1)] _ _
  refine r_if_eqN (q := 124) (t := 133) (by omega) dX4_readMap_121 (by decide) rfl (fun h121 => absurd h121 (by omega)) (fun h121 => ?_)
  refine r_aload_n (q := 125) dX4_readMap_124 rfl rfl rfl ?_
  refine r_bipush (q := 127) (nI 59) dX4_readMap_125 rfl (by decide) ?_
  refine r_callV (Mc := mX4_skip) (q := 130) (As := [zi (nI 59)]) (st := []) ck4 dX4_readMap_127 rfl rfl mkX4_skip wt594 wt596 wp14 rfl (Nat.le_of_ble_eq_true rfl) (Nat.le_of_ble_eq_true rfl) (by decide) (by decide) (by decide) (Or.inl rfl) (f118.sd.e (by decide)) (ok_skip_n hs3 x118 k1 h59 (by omega)) (fun r127 S127 hp127 => ?_)
  obtain ⟨rfl, w127, x127⟩ := hp127
  show Ok _ _ _ [zi (nI 0)] _ _
  refine r_if_neN (q := 133) (t := 135) (by omega) dX4_readMap_130 (by decide) rfl (fun h130 => absurd h130 (by omega)) (fun h130 => ?_)
  refine r_iconst (q := 134) (nI 0) dX4_readMap_133 rfl (by decide) ?_
  refine r_zreturn (by decide) dX4_readMap_134 rfl ?_
  have hX : ∀ b, b < 3 → TL S118 (b + 13) := fun b hb => by
    by_cases e : b = a
    · rw [e]; exact s2.tl
    · exact (((hI.tl hb).fr3 w58 (fun _ _ => rfl)).fr3 w98 (fun _ _ => rfl)).tm f118 (by omega)
  exact ⟨rfl, (((w58.fg hs tMp_av).tr (w98.fg hs1 tMp_av)).tr (f118.mono (tMp_tm (by omega)))).tr (w127.fg hs3 tMp_fl), x127, fun b hb => (hX b hb).fr3 w127 (fun _ _ => rfl)⟩

set_option maxRecDepth 100000 in
theorem lp_rm_7 {S : zS} (hs : Sd S) {ts : List zTk} (hr : Rc S ts) (hk : Tks ts) (hlk : Lk ts) {cc s AW AK P : Nat} (hc4 : cc < 4) (hs4 : s < 4) {nmW eW nmK eK : Nat → Nat} (hEW : Eok AW eW) (hEK : Eok AK eK) (hbW : ∀ a, a < AW → nmW a < 2 ^ 48) (hdW : ∀ a b, a < AW → b < AW → nmW a = nmW b → a = b) (hbK : ∀ a, a < AK → nmK a < 2 ^ 48) (hdK : ∀ a b, a < AK → b < AK → nmK a = nmK b → a = b) (hwW : Wn S cc AW nmW eW) (hwK : Wn S s AK nmK eK) (hP2 : 2 ≤ P) (hP : P ≤ 97) (hp0 : gI S 9 s 0 = nI P) {im : zIm} (hI : IMS S eW im) {k : Nat} (hnm : isNmb ts = true) {a : Nat} (hfa : fAct nmW (hdT ts).2.2 AW = some a) (hia : im a = none) (h61 : (hdT (adv ts)).1 = 61) {n : Nat} {acc : List zT} {ts' : List zTk} (q2 : sumQ nmK eK AK P (eW a) 1 (adv (adv ts)) = Sum.inr ((n, acc), ts')) (h59 : (hdT ts').1 = 59) {Po : Option zV → zS → Prop} (K : ∀ S1, Fg tMp S S1 → gI S1 4 0 14 = gI S 4 0 14 → Rc S1 (adv ts') → IMS S1 eW (upI im a (cl (adds P 1 [] acc))) → Ok mX4_readMap 135 [some (zr 4 0), some (zr 9 cc), some (zr 9 s), some (zr 400 0), some (zi (nI k)), none, none] [] S1 Po) : Ok mX4_readMap 50 [some (zr 4 0), some (zr 9 cc), some (zr 9 s), some (zr 400 0), some (zi (nI k)), none, none] [] S Po := by
  obtain ⟨f5, f6, f7⟩ := hr.f
  obtain ⟨t1, t2, t3, t4⟩ := hk.hd
  have hA3 := hEW.1
  have haA := (fAct_some hfa).1
  have hae := hEW.2 a haA
  obtain ⟨e00, hTL⟩ := (hI a (by omega)).1 hia
  refine r_aload_n (q := 51) dX4_readMap_50 rfl rfl rfl ?_
  refine r_geti (q := 54) ck4 dX4_readMap_51 rfl (k := 6) (by decide) wt127 (Or.inl rfl) (hs.e (by decide)) ?_
  refine r_topi (y := nI ((hdT ts).2.1)) f6 ?_
  refine r_istore (q := 56) (L' := [some (zr 4 0), some (zr 9 cc), some (zr 9 s), some (zr 400 0), some (zi (nI k)), some (zi (nI ((hdT ts).2.1))), none]) dX4_readMap_54 rfl (by decide) rfl ?_
  refine r_aload_n (q := 57) dX4_readMap_56 rfl rfl rfl ?_
  refine r_aload_n (q := 58) dX4_readMap_57 rfl rfl rfl ?_
  refine r_callV (Mc := mX4_readActName) (q := 61) (As := [zr 9 cc]) (st := []) ck4 dX4_readMap_58 rfl rfl mkX4_readActName wt590 wt592 wp13 rfl (Nat.le_of_ble_eq_true rfl) (Nat.le_of_ble_eq_true rfl) (by decide) (by decide) (by decide) (Or.inl rfl) (hs.e (by decide)) (ok_readActName_y hs hr hk hc4 hA3 hwW.1 hwW.2 hbW hdW hnm hfa) (fun r58 S58 hp58 => ?_)
  obtain ⟨rfl, w58, x58⟩ := hp58
  have hs1 := hs.fr w58
  have e0 : gI S58 8 (a + 13) 0 = nI 0 := (w58.1 _ _ _ rfl).trans e00
  show Ok _ _ _ [zi (nI a)] _ _
  refine r_istore (q := 63) (L' := [some (zr 4 0), some (zr 9 cc), some (zr 9 s), some (zr 400 0), some (zi (nI k)), some (zi (nI ((hdT ts).2.1))), some (zi (nI a))]) dX4_readMap_61 rfl (by decide) rfl ?_
  refine r_iload (q := 65) dX4_readMap_63 rfl rfl ?_
  refine r_if_ltN (q := 68) (t := 75) (by omega) dX4_readMap_65 (by decide) rfl ?_
  refine r_iload (q := 70) dX4_readMap_68 rfl rfl ?_
  refine r_aload_n (q := 71) dX4_readMap_70 rfl rfl rfl ?_
  refine r_alen (q := 72) (by decide) (by decide) dX4_readMap_71 rfl (hs1.e (by decide)) ?_
  refine r_topi (y := nI 3) (congrArg nI (hs1.n rfl (by decide))) ?_
  refine r_icmp_ltN (q := 75) (t := 77) (by omega) (by omega) dX4_readMap_72 (by decide) rfl (fun h72 => ?_) (fun h72 => absurd h72 (by omega))
  refine r_aload_n (q := 78) dX4_readMap_77 rfl rfl rfl ?_
  refine r_iload (q := 80) dX4_readMap_78 rfl rfl ?_
  refine r_aaldN (q := 81) (some (8, a + 13)) 3 (by decide) (by decide) (by decide) dX4_readMap_80 rfl (hs1.e (by decide)) (hs1.n rfl (by decide)) (show a < 3 by omega) (by decide) ((hs1.r (by decide) (show a < 3 by omega)).trans (if_pos (show a < 3 by omega))) ?_
  refine r_geti (q := 84) ck8 dX4_readMap_81 rfl (k := 0) (by decide) wt59 (Or.inl rfl) (hs1.e (show a + 13 < 19 by omega)) ?_
  refine r_topi (y := nI 0) e0 ?_
  refine r_if_leN (q := 87) (t := 95) (by omega) dX4_readMap_84 (by decide) rfl (fun h84 => ?_) (fun h84 => absurd h84 (by omega))
  refine r_aload_n (q := 96) dX4_readMap_95 rfl rfl rfl ?_
  refine r_bipush (q := 98) (nI 61) dX4_readMap_96 rfl (by decide) ?_
  refine r_callV (Mc := mX4_skip) (q := 101) (As := [zi (nI 61)]) (st := []) ck4 dX4_readMap_98 rfl rfl mkX4_skip wt594 wt596 wp14 rfl (Nat.le_of_ble_eq_true rfl) (Nat.le_of_ble_eq_true rfl) (by decide) (by decide) (by decide) (Or.inl rfl) (hs1.e (by decide)) (ok_skip_y hs1 x58 hk.adv h61) (fun r98 S98 hp98 => ?_)
  obtain ⟨rfl, w98, x98⟩ := hp98
  have hs2 := hs1.fr w98
  have hT2 := (hTL.fr3 w58 (fun _ _ => rfl)).fr3 w98 (fun _ _ => rfl)
  have hK2 := (hwK.fr w58 (fun _ _ => ⟨rfl, rfl, rfl⟩)).fr w98 (fun _ _ => ⟨rfl, rfl, rfl⟩)
  have he2 : gI S98 1003 cc a = nI (eW a) := ((w98.1 _ _ _ rfl).trans (w58.1 _ _ _ rfl)).trans (hwW.2 a haA).1
  have hp2 : gI S98 9 s 0 = nI P := ((w98.1 _ _ _ rfl).trans (w58.1 _ _ _ rfl)).trans hp0
  show Ok _ _ _ [zi (nI 1)] _ _
  refine r_if_eqN (q := 104) (t := 133) (by omega) dX4_readMap_101 (by decide) rfl (fun h101 => absurd h101 (by omega)) (fun h101 => ?_)
  refine r_aload_n (q := 105) dX4_readMap_104 rfl rfl rfl ?_
  refine r_aload_n (q := 106) dX4_readMap_105 rfl rfl rfl ?_
  refine r_aload_n (q := 107) dX4_readMap_106 rfl rfl rfl ?_
  refine r_iload (q := 109) dX4_readMap_107 rfl rfl ?_
  refine r_aaldN (q := 110) (some (8, a + 13)) 3 (by decide) (by decide) (by decide) dX4_readMap_109 rfl (hs2.e (by decide)) (hs2.n rfl (by decide)) (show a < 3 by omega) (by decide) ((hs2.r (by decide) (show a < 3 by omega)).trans (if_pos (show a < 3 by omega))) ?_
  refine r_aload_n (q := 111) dX4_readMap_110 rfl rfl rfl ?_
  refine r_getr (q := 114) (some (1003, cc)) ck9 dX4_readMap_111 rfl (k := 3) (by decide) wt310 rfl (hs2.e (show cc < 4 by omega)) (hs2.r (show cc < 4 by omega) (by decide)) ?_
  refine r_iload (q := 116) dX4_readMap_114 rfl rfl ?_
  refine r_ialdN (q := 117) 3 (by decide) rfl dX4_readMap_116 rfl (hs2.e (show cc < 4 by omega)) (hs2.n rfl (show cc < 4 by omega)) (by omega) (by decide) ?_
  refine r_topi (y := nI (eW a)) he2 ?_
  refine r_iconst (q := 118) (nI 1) dX4_readMap_117 rfl (by decide) ?_
  refine r_callV (Mc := mX4_readTerms) (q := 121) (As := [zr 9 s, zr 8 (a + 13), zi (nI (eW a)), zi (nI 1)]) (st := []) ck4 dX4_readMap_118 rfl rfl mkX4_readTerms wt582 wt584 wp11 rfl (Nat.le_of_ble_eq_true rfl) (Nat.le_of_ble_eq_true rfl) (by decide) (by decide) (by decide) (Or.inr ⟨Nat.le_of_ble_eq_true rfl, rfl, rfl⟩) (hs2.e (by decide)) (ok_readTerms hs4 hEK hbK hdK hP2 hP (show a + 13 < 19 by omega) hs2 hK2 hp2 x98 hk.adv.adv hlk.ad.ad hT2 (show eW a ≤ 7 by omega) (show 1 ≤ 2 by omega)) (fun r118 S118 hp118 => ?_)
  rw [q2] at hp118
  obtain ⟨rfl, f118, g14, x118, s1, s2, s3⟩ := hp118
  have hs3 := f118.sd
  obtain ⟨k1, k2, k3, k4, k5, k6⟩ := sumQ_use7 hEK (show 0 < P by omega) (show 2 ≤ eW a by omega) hk.adv.adv hlk.ad.ad q2
  show Ok _ _ _ [zi (nI 1)] _ _
  refine r_if_eqN (q := 124) (t := 133) (by omega) dX4_readMap_121 (by decide) rfl (fun h121 => absurd h121 (by omega)) (fun h121 => ?_)
  refine r_aload_n (q := 125) dX4_readMap_124 rfl rfl rfl ?_
  refine r_bipush (q := 127) (nI 59) dX4_readMap_125 rfl (by decide) ?_
  refine r_callV (Mc := mX4_skip) (q := 130) (As := [zi (nI 59)]) (st := []) ck4 dX4_readMap_127 rfl rfl mkX4_skip wt594 wt596 wp14 rfl (Nat.le_of_ble_eq_true rfl) (Nat.le_of_ble_eq_true rfl) (by decide) (by decide) (by decide) (Or.inl rfl) (f118.sd.e (by decide)) (ok_skip_y hs3 x118 k1 h59) (fun r127 S127 hp127 => ?_)
  obtain ⟨rfl, w127, x127⟩ := hp127
  show Ok _ _ _ [zi (nI 1)] _ _
  refine r_if_neN (q := 133) (t := 135) (by omega) dX4_readMap_130 (by decide) rfl (fun h130 => ?_) (fun h130 => absurd h130 (by omega))
  have hX : IMS S118 eW (upI im a (cl (adds P 1 [] acc))) := fun b hb => by
    unfold upI
    by_cases e : b = a
    · rw [if_pos e]
      refine ⟨fun z => (by cases z), fun c z => ?_⟩
      cases z
      rw [e]
      exact ⟨s1.trans (by rw [k4]), s2⟩
    · rw [if_neg e]
      have hJ := (hI.fr w58 (fun _ _ => ⟨rfl, rfl, rfl⟩)).fr w98 (fun _ _ => ⟨rfl, rfl, rfl⟩)
      refine ⟨fun z => ⟨(f118.I (by omega) (fun z => by unfold tTm tTy at z; rcases z with z | z | z; omega; omega; have := tTr_n z; omega)).trans ((hJ b hb).1 z).1, ((hJ b hb).1 z).2.tm f118 (by omega)⟩, fun c z => ⟨(f118.I (by omega) (fun z => by unfold tTm tTy at z; rcases z with z | z | z; omega; omega; have := tTr_n z; omega)).trans ((hJ b hb).2 c z).1, ((hJ b hb).2 c z).2.fg f118 (fun k => ⟨fun z => by unfold tTm tTy at z; rcases z with z | z | z; omega; omega; have := tTr_n z; omega, fun z => by unfold tTm tTy at z; rcases z with z | z | z; omega; omega; have := tTr_n z; omega, fun z => by unfold tTm tTy at z; rcases z with z | z | z; omega; omega; have := tTr_n z; omega⟩)⟩⟩
  refine r_mask [true, true, true, true, true, false, false] rfl ?_
  exact K S127 ((((w58.fg hs tMp_av).tr (w98.fg hs1 tMp_av)).tr (f118.mono (tMp_tm (by omega)))).tr (w127.fg hs3 tMp_av)) ((w127.1 _ _ _ rfl).trans (g14.trans ((w98.1 _ _ _ rfl).trans (w58.1 _ _ _ rfl)))) x127 (hX.fr w127 (fun _ _ => ⟨rfl, rfl, rfl⟩))

set_option maxRecDepth 100000 in
theorem lp_rm27 {cc s AW AK P : Nat} (hc4 : cc < 4) (hs4 : s < 4) {nmW eW nmK eK : Nat → Nat} (hEW : Eok AW eW) (hEK : Eok AK eK) (hbW : ∀ a, a < AW → nmW a < 2 ^ 48) (hdW : ∀ a b, a < AW → b < AW → nmW a = nmW b → a = b) (hbK : ∀ a, a < AK → nmK a < 2 ^ 48) (hdK : ∀ a b, a < AK → b < AK → nmK a = nmK b → a = b) (hP2 : 2 ≤ P) (hP : P ≤ 97) {tn : Nat} (htn : tn ≤ 941) : ∀ (f k : Nat) (S : zS) (im : zIm) (ts : List zTk), ts.length ≤ f → k + ts.length ≤ tn → ts.length ≤ 401 → gI S 4 0 3 = nI tn → Sd S → Rc S ts → Tks ts → Lk ts → Wn S cc AW nmW eW → Wn S s AK nmK eK → gI S 9 s 0 = nI P → IMS S eW im → ImS AW eW AK eK P im → Ok mX4_readMap 27 [some (zr 4 0), some (zr 9 cc), some (zr 9 s), some (zr 400 0), some (zi (nI k)), none, none] [] S (fun r S1 => RmR S S1 eW r (mapP nmW eW AW nmK eK AK P f im ts)) := by
  intro f
  induction f with
  | zero =>
    intro k S im ts hf hk h4 h3 hs hr hkt
    exact absurd (List.length_eq_zero_iff.mp (by omega)) hkt.1
  | succ f ih =>
    intro k S im ts hf hk h4 h3 hs hr hkt hlk hwW hwK hp0 hI hIm
    obtain ⟨f5, f6, f7⟩ := hr.f
    obtain ⟨t1, t2, t3, t4⟩ := hkt.hd
    have hl1 : 0 < ts.length := List.length_pos_iff.mpr hkt.1
    rw [mapP]
    by_cases h0 : (hdT ts).1 = 0
    · rw [if_pos h0]
      refine r_iload (q := 29) dX4_readMap_27 rfl rfl ?_
      refine r_aload_n (q := 30) dX4_readMap_29 rfl rfl rfl ?_
      refine r_geti (q := 33) ck4 dX4_readMap_30 rfl (k := 3) (by decide) wt124 (Or.inl rfl) (hs.e (by decide)) ?_
      refine r_topi (y := nI tn) h3 ?_
      refine r_icmp_geN (q := 36) (t := 141) (by omega) (by omega) dX4_readMap_33 (by decide) rfl (fun h33 => absurd h33 (by omega)) (fun h33 => ?_)
      refine r_aload_n (q := 37) dX4_readMap_36 rfl rfl rfl ?_
      refine r_geti (q := 40) ck4 dX4_readMap_37 rfl (k := 5) (by decide) wt126 (Or.inl rfl) (hs.e (by decide)) ?_
      refine r_topi (y := nI ((hdT ts).1)) f5 ?_
      refine r_if_neN (q := 43) (t := 50) (by omega) dX4_readMap_40 (by decide) rfl (fun h40 => absurd h40 (by omega)) (fun h40 => ?_)
      refine r_aload_n (q := 44) dX4_readMap_43 rfl rfl rfl ?_
      refine r_aload_n (q := 45) dX4_readMap_44 rfl rfl rfl ?_
      refine r_aload_n (q := 46) dX4_readMap_45 rfl rfl rfl ?_
      refine r_callV (Mc := mX4_areAllTold) (q := 49) (As := [zr 9 cc, zr 400 0]) (st := []) ck4 dX4_readMap_46 rfl rfl mkX4_areAllTold wt1053 wt1055 wp56 rfl (Nat.le_of_ble_eq_true rfl) (Nat.le_of_ble_eq_true rfl) (by decide) (by decide) (by decide) (Or.inl rfl) (hs.e (by decide)) (ok_areAllTold hs hr hkt hc4 hEW.1 hwW.1 hEW.2 hI) (fun r46 S46 hp46 => ?_)
      have hv : ∃ b : Bool, r46 = some (zi (nI (if b = true then 1 else 0))) := by rcases hp46 with ⟨_, e, _⟩ | ⟨_, e, _⟩; exact ⟨true, e⟩; exact ⟨false, e⟩
      obtain ⟨b, rfl⟩ := hv
      show Ok _ _ _ [zi (nI (if b = true then 1 else 0))] _ _
      refine r_zreturn (by cases b <;> decide) dX4_readMap_49 rfl ?_
      rcases hp46 with ⟨e0, e1, rfl⟩ | ⟨e0, e1, w46, x46⟩
      · rw [e1, if_pos e0]; exact ⟨rfl, Fg.rf hs, rfl, hI⟩
      · rw [e1, if_neg (by rw [e0]; simp)]; exact ⟨rfl, w46.fg hs tMp_fl, x46, fun a ha => (hI.tl ha).fr3 w46 (fun _ _ => rfl)⟩
    · rw [if_neg h0]
      refine r_iload (q := 29) dX4_readMap_27 rfl rfl ?_
      refine r_aload_n (q := 30) dX4_readMap_29 rfl rfl rfl ?_
      refine r_geti (q := 33) ck4 dX4_readMap_30 rfl (k := 3) (by decide) wt124 (Or.inl rfl) (hs.e (by decide)) ?_
      refine r_topi (y := nI tn) h3 ?_
      refine r_icmp_geN (q := 36) (t := 141) (by omega) (by omega) dX4_readMap_33 (by decide) rfl (fun h33 => absurd h33 (by omega)) (fun h33 => ?_)
      refine r_aload_n (q := 37) dX4_readMap_36 rfl rfl rfl ?_
      refine r_geti (q := 40) ck4 dX4_readMap_37 rfl (k := 5) (by decide) wt126 (Or.inl rfl) (hs.e (by decide)) ?_
      refine r_topi (y := nI ((hdT ts).1)) f5 ?_
      refine r_if_neN (q := 43) (t := 50) (by omega) dX4_readMap_40 (by decide) rfl (fun h40 => ?_) (fun h40 => absurd h40 (by omega))
      unfold lineM
      by_cases hnm : isNmb ts = true
      · rw [if_neg (by rw [hnm]; simp)]
        cases hfa : fAct nmW (hdT ts).2.2 AW with
        | none => exact lp_rm_2 hs hr hkt hlk hc4 hs4 hEW hEK hbW hdW hbK hdK hwW hwK hP2 hP hp0 hI hnm hfa
        | some a =>
          show Ok _ _ _ _ _ (fun r S1 => RmR S S1 eW r (match (if (im a).isSome = true then Sum.inl (3, (hdT ts).2.1) else if (hdT (adv ts)).1 ≠ 61 then Sum.inl (1, (hdT (adv ts)).2.1) else match sumQ nmK eK AK P (eW a) 1 (adv (adv ts)) with | Sum.inl x => Sum.inl x | Sum.inr ((_, acc), ts') => if (hdT ts').1 ≠ 59 then Sum.inl (1, (hdT ts').2.1) else Sum.inr (upI im a (cl (adds P 1 [] acc)), adv ts') : zEr ⊕ (zIm × List zTk)) with | Sum.inl x => Sum.inl x | Sum.inr (im', ts') => mapP nmW eW AW nmK eK AK P f im' ts'))
          cases hia : im a with
          | some c => exact lp_rm_3 hs hr hkt hlk hc4 hs4 hEW hEK hbW hdW hbK hdK hwW hwK hP2 hP hp0 hI hnm hfa hia
          | none =>
            rw [if_neg (by simp)]
            by_cases h61 : (hdT (adv ts)).1 = 61
            · rw [if_neg (fun z => z h61)]
              cases q2 : sumQ nmK eK AK P (eW a) 1 (adv (adv ts)) with
              | inl x => exact lp_rm_5 hs hr hkt hlk hc4 hs4 hEW hEK hbW hdW hbK hdK hwW hwK hP2 hP hp0 hI hnm hfa hia h61 q2
              | inr x =>
                obtain ⟨⟨n, acc⟩, ts'⟩ := x
                by_cases h59 : (hdT ts').1 = 59
                · have hq : lineM nmW eW AW nmK eK AK P im ts = Sum.inr (upI im a (cl (adds P 1 [] acc)), adv ts') := by
                    unfold lineM
                    rw [if_neg (by rw [hnm]; simp), hfa]
                    show (if (im a).isSome = true then _ else _) = _
                    rw [hia, if_neg (by simp), if_neg (fun z => z h61), q2]
                    show (if (hdT ts').1 ≠ 59 then _ else _) = _
                    rw [if_neg (fun z => z h59)]
                  obtain ⟨m1, m2, m3, m4⟩ := lineM_ok hEW hEK (show 0 < P by omega) hkt hlk h4 hIm hq
                  show Ok _ _ _ _ _ (fun r S1 => RmR S S1 eW r (match (if (hdT ts').1 ≠ 59 then Sum.inl (1, (hdT ts').2.1) else Sum.inr (upI im a (cl (adds P 1 [] acc)), adv ts') : zEr ⊕ (zIm × List zTk)) with | Sum.inl x => Sum.inl x | Sum.inr (im', ts') => mapP nmW eW AW nmK eK AK P f im' ts'))
                  rw [if_neg (fun z => z h59)]
                  refine lp_rm_7 hs hr hkt hlk hc4 hs4 hEW hEK hbW hdW hbK hdK hwW hwK hP2 hP hp0 hI hnm hfa hia h61 q2 h59 (fun S1 g1 e1 r1 i1 => ?_)
                  refine r_iincN (q := 138) (L' := [some (zr 4 0), some (zr 9 cc), some (zr 9 s), some (zr 400 0), some (zi (nI (k + 1))), none, none]) 1 rfl dX4_readMap_135 rfl rfl (by decide) rfl ?_
                  refine r_goto (q := 27) dX4_readMap_138 (by decide) ?_
                  exact Ok.mono (ih (k + 1) S1 _ (adv ts') (by omega) (by omega) (by omega) ((g1.I (by omega) (fun z => by have := tMp_n z; omega)).trans h3) g1.sd r1 m1 m2 (hwW.fg g1 (fun b k => ⟨fun z => by have := tMp_n z; omega, fun z => by have := tMp_n z; omega, fun z => by have := tMp_n z; omega⟩)) (hwK.fg g1 (fun b k => ⟨fun z => by have := tMp_n z; omega, fun z => by have := tMp_n z; omega, fun z => by have := tMp_n z; omega⟩)) ((g1.I (by omega) (fun z => by have := tMp_n z; omega)).trans hp0) i1 m4) fun r S2 y => RmR.pre g1 e1 y
                · show Ok _ _ _ _ _ (fun r S1 => RmR S S1 eW r (match (if (hdT ts').1 ≠ 59 then Sum.inl (1, (hdT ts').2.1) else Sum.inr (upI im a (cl (adds P 1 [] acc)), adv ts') : zEr ⊕ (zIm × List zTk)) with | Sum.inl x => Sum.inl x | Sum.inr (im', ts') => mapP nmW eW AW nmK eK AK P f im' ts'))
                  rw [if_pos h59]
                  exact lp_rm_6 hs hr hkt hlk hc4 hs4 hEW hEK hbW hdW hbK hdK hwW hwK hP2 hP hp0 hI hnm hfa hia h61 q2 h59
            · rw [if_pos h61]
              exact lp_rm_4 hs hr hkt hlk hc4 hs4 hEW hEK hbW hdW hbK hdK hwW hwK hP2 hP hp0 hI hnm hfa hia h61
      · rw [if_pos (by simpa using hnm)]
        exact lp_rm_1 hs hr hkt hlk hc4 hs4 hEW hEK hbW hdW hbK hdK hwW hwK hP2 hP hp0 hI hnm

set_option maxRecDepth 100000 in
theorem ok_readMap {S : zS} (hs : Sd S) {ts : List zTk} (hr : Rc S ts) (hk : Tks ts) (hlk : Lk ts) (h4 : ts.length ≤ 401) {cc s AW AK P : Nat} (hc4 : cc < 4) (hs4 : s < 4) {nmW eW nmK eK : Nat → Nat} (hEW : Eok AW eW) (hEK : Eok AK eK) (hbW : ∀ a, a < AW → nmW a < 2 ^ 48) (hdW : ∀ a b, a < AW → b < AW → nmW a = nmW b → a = b) (hbK : ∀ a, a < AK → nmK a < 2 ^ 48) (hdK : ∀ a b, a < AK → b < AK → nmK a = nmK b → a = b) (hwW : Wn S cc AW nmW eW) (hwK : Wn S s AK nmK eK) (hP2 : 2 ≤ P) (hP : P ≤ 97) (hp0 : gI S 9 s 0 = nI P) (hT : ∀ a, a < 3 → TL S (a + 13)) : Ok mX4_readMap 0 (ent 7 [zr 4 0, zr 9 cc, zr 9 s, zr 400 0]) [] S (fun r S1 => RmR S S1 eW r (mapP nmW eW AW nmK eK AK P ts.length (fun _ => none) ts)) := by
  show Ok mX4_readMap 0 [some (zr 4 0), some (zr 9 cc), some (zr 9 s), some (zr 400 0), none, none, none] [] S _
  refine r_iconst (q := 1) (nI 0) dX4_readMap_0 rfl (by decide) ?_
  refine r_istore (q := 3) (L' := [some (zr 4 0), some (zr 9 cc), some (zr 9 s), some (zr 400 0), some (zi (nI 0)), none, none]) dX4_readMap_1 rfl (by decide) rfl ?_
  refine r_iload (q := 5) dX4_readMap_3 rfl rfl ?_
  refine r_aload_n (q := 6) dX4_readMap_5 rfl rfl rfl ?_
  refine r_alen (q := 7) (by decide) (by decide) dX4_readMap_6 rfl (hs.e (by decide)) ?_
  refine r_topi (y := nI 3) (congrArg nI (hs.n rfl (by decide))) ?_
  refine r_icmp_geN (q := 10) (t := 24) (by omega) (by omega) dX4_readMap_7 (by decide) rfl (fun h7 => absurd h7 (by omega)) (fun h7 => ?_)
  refine r_aload_n (q := 11) dX4_readMap_10 rfl rfl rfl ?_
  refine r_iload (q := 13) dX4_readMap_11 rfl rfl ?_
  refine r_aaldN (q := 14) (some (8, 0 + 13)) 3 (by decide) (by decide) (by decide) dX4_readMap_13 rfl (hs.e (by decide)) (hs.n rfl (by decide)) (show 0 < 3 by omega) (by decide) ((hs.r (by decide) (show 0 < 3 by omega)).trans rfl) ?_
  refine r_iconst (q := 15) (nI 0) dX4_readMap_14 rfl (by decide) ?_
  refine r_callV (Mc := mX8_clear) (q := 18) (As := [zi (nI 0)]) (st := []) ck8 dX4_readMap_15 rfl rfl mkX8_clear wt602 wt603 wt604 rfl (Nat.le_of_ble_eq_true rfl) (Nat.le_of_ble_eq_true rfl) (by decide) (by decide) (by decide) (Or.inl rfl) (hs.e (show 0 + 13 < 19 by omega)) (ok_X8_clear (S := S) hs (show 0 + 13 < 19 by omega) (nI 0)) (fun r15 S15 hp15 => ?_)
  obtain ⟨rfl, hq15⟩ := hp15
  rw [hq15]
  show Ok _ _ _ [] _ _
  refine r_iincN (q := 21) (L' := [some (zr 4 0), some (zr 9 cc), some (zr 9 s), some (zr 400 0), some (zi (nI 1)), none, none]) 1 rfl dX4_readMap_18 rfl rfl (by decide) rfl ?_
  refine r_goto (q := 3) dX4_readMap_21 (by decide) ?_
  refine r_iload (q := 5) dX4_readMap_3 rfl rfl ?_
  refine r_aload_n (q := 6) dX4_readMap_5 rfl rfl rfl ?_
  refine r_alen (q := 7) (by decide) (by decide) dX4_readMap_6 rfl (hs.e (by decide)) ?_
  refine r_topi (y := nI 3) (congrArg nI (hs.n rfl (by decide))) ?_
  refine r_icmp_geN (q := 10) (t := 24) (by omega) (by omega) dX4_readMap_7 (by decide) rfl (fun h7 => absurd h7 (by omega)) (fun h7 => ?_)
  refine r_aload_n (q := 11) dX4_readMap_10 rfl rfl rfl ?_
  refine r_iload (q := 13) dX4_readMap_11 rfl rfl ?_
  refine r_aaldN (q := 14) (some (8, 1 + 13)) 3 (by decide) (by decide) (by decide) dX4_readMap_13 rfl (hs.e (by decide)) (hs.n rfl (by decide)) (show 1 < 3 by omega) (by decide) ((hs.r (by decide) (show 1 < 3 by omega)).trans rfl) ?_
  refine r_iconst (q := 15) (nI 0) dX4_readMap_14 rfl (by decide) ?_
  refine r_callV (Mc := mX8_clear) (q := 18) (As := [zi (nI 0)]) (st := []) ck8 dX4_readMap_15 rfl rfl mkX8_clear wt602 wt603 wt604 rfl (Nat.le_of_ble_eq_true rfl) (Nat.le_of_ble_eq_true rfl) (by decide) (by decide) (by decide) (Or.inl rfl) (hs.e (show 1 + 13 < 19 by omega)) (ok_X8_clear (S := sI (sI S 8 (0 + 13) 0 (nI 0)) 8 (0 + 13) 1 (nI 0)) hs (show 1 + 13 < 19 by omega) (nI 0)) (fun r15 S15 hp15 => ?_)
  obtain ⟨rfl, hq15⟩ := hp15
  rw [hq15]
  show Ok _ _ _ [] _ _
  refine r_iincN (q := 21) (L' := [some (zr 4 0), some (zr 9 cc), some (zr 9 s), some (zr 400 0), some (zi (nI 2)), none, none]) 1 rfl dX4_readMap_18 rfl rfl (by decide) rfl ?_
  refine r_goto (q := 3) dX4_readMap_21 (by decide) ?_
  refine r_iload (q := 5) dX4_readMap_3 rfl rfl ?_
  refine r_aload_n (q := 6) dX4_readMap_5 rfl rfl rfl ?_
  refine r_alen (q := 7) (by decide) (by decide) dX4_readMap_6 rfl (hs.e (by decide)) ?_
  refine r_topi (y := nI 3) (congrArg nI (hs.n rfl (by decide))) ?_
  refine r_icmp_geN (q := 10) (t := 24) (by omega) (by omega) dX4_readMap_7 (by decide) rfl (fun h7 => absurd h7 (by omega)) (fun h7 => ?_)
  refine r_aload_n (q := 11) dX4_readMap_10 rfl rfl rfl ?_
  refine r_iload (q := 13) dX4_readMap_11 rfl rfl ?_
  refine r_aaldN (q := 14) (some (8, 2 + 13)) 3 (by decide) (by decide) (by decide) dX4_readMap_13 rfl (hs.e (by decide)) (hs.n rfl (by decide)) (show 2 < 3 by omega) (by decide) ((hs.r (by decide) (show 2 < 3 by omega)).trans rfl) ?_
  refine r_iconst (q := 15) (nI 0) dX4_readMap_14 rfl (by decide) ?_
  refine r_callV (Mc := mX8_clear) (q := 18) (As := [zi (nI 0)]) (st := []) ck8 dX4_readMap_15 rfl rfl mkX8_clear wt602 wt603 wt604 rfl (Nat.le_of_ble_eq_true rfl) (Nat.le_of_ble_eq_true rfl) (by decide) (by decide) (by decide) (Or.inl rfl) (hs.e (show 2 + 13 < 19 by omega)) (ok_X8_clear (S := sI (sI (sI (sI S 8 (0 + 13) 0 (nI 0)) 8 (0 + 13) 1 (nI 0)) 8 (1 + 13) 0 (nI 0)) 8 (1 + 13) 1 (nI 0)) hs (show 2 + 13 < 19 by omega) (nI 0)) (fun r15 S15 hp15 => ?_)
  obtain ⟨rfl, hq15⟩ := hp15
  rw [hq15]
  show Ok _ _ _ [] _ _
  refine r_iincN (q := 21) (L' := [some (zr 4 0), some (zr 9 cc), some (zr 9 s), some (zr 400 0), some (zi (nI 3)), none, none]) 1 rfl dX4_readMap_18 rfl rfl (by decide) rfl ?_
  refine r_goto (q := 3) dX4_readMap_21 (by decide) ?_
  refine r_iload (q := 5) dX4_readMap_3 rfl rfl ?_
  refine r_aload_n (q := 6) dX4_readMap_5 rfl rfl rfl ?_
  refine r_alen (q := 7) (by decide) (by decide) dX4_readMap_6 rfl (hs.e (by decide)) ?_
  refine r_topi (y := nI 3) (congrArg nI (hs.n rfl (by decide))) ?_
  refine r_icmp_geN (q := 10) (t := 24) (by omega) (by omega) dX4_readMap_7 (by decide) rfl (fun h7 => ?_) (fun h7 => absurd h7 (by omega))
  refine r_iconst (q := 25) (nI 0) dX4_readMap_24 rfl (by decide) ?_
  refine r_istore (q := 27) (L' := [some (zr 4 0), some (zr 9 cc), some (zr 9 s), some (zr 400 0), some (zi (nI 0)), none, none]) dX4_readMap_25 rfl (by decide) rfl ?_
  have hz : Fg (fun a b k => a = 8 ∧ (b = 13 ∨ b = 14 ∨ b = 15) ∧ k ≤ 1) S (sI (sI (sI (sI (sI (sI S 8 (0 + 13) 0 (nI 0)) 8 (0 + 13) 1 (nI 0)) 8 (1 + 13) 0 (nI 0)) 8 (1 + 13) 1 (nI 0)) 8 (2 + 13) 0 (nI 0)) 8 (2 + 13) 1 (nI 0)) := Fg.of22 hs rfl (fun a b k _ hz => by repeat (rw [gI_sI, if_neg (fun z => hz (by omega))])) (fun _ _ _ _ _ => rfl)
  have hz1 := hz.sd
  obtain ⟨tn, n1, n2, n3⟩ := hr.n
  have g0 : Fg tMp S (sI (sI (sI (sI (sI (sI S 8 (0 + 13) 0 (nI 0)) 8 (0 + 13) 1 (nI 0)) 8 (1 + 13) 0 (nI 0)) 8 (1 + 13) 1 (nI 0)) 8 (2 + 13) 0 (nI 0)) 8 (2 + 13) 1 (nI 0)) := hz.mono (fun a b k z => Or.inl (by omega))
  have hrf : Rc (sI (sI (sI (sI (sI (sI S 8 (0 + 13) 0 (nI 0)) 8 (0 + 13) 1 (nI 0)) 8 (1 + 13) 0 (nI 0)) 8 (1 + 13) 1 (nI 0)) 8 (2 + 13) 0 (nI 0)) 8 (2 + 13) 1 (nI 0)) ts := hr.cong (fun i => ⟨hz.I (by omega) (by omega), hz.I (by omega) (by omega), hz.J (by omega) (by omega)⟩) (fun k hk => hz.I (by omega) (by omega)) (hz.J (by omega) (by omega))
  have hIM : IMS (sI (sI (sI (sI (sI (sI S 8 (0 + 13) 0 (nI 0)) 8 (0 + 13) 1 (nI 0)) 8 (1 + 13) 0 (nI 0)) 8 (1 + 13) 1 (nI 0)) 8 (2 + 13) 0 (nI 0)) 8 (2 + 13) 1 (nI 0)) eW (fun _ => none) := fun a ha => ⟨fun _ => by
    have e1 := (hT a ha)
    obtain rfl | rfl | rfl : a = 0 ∨ a = 1 ∨ a = 2 := by omega
    all_goals
      refine ⟨by simp [gI_sI], ?_⟩
      obtain ⟨x1, x2, x3, x4, x5, x6, x7, x8⟩ := e1
      exact ⟨x1, 0, x3, x4, x5, x6, by simp [gI_sI], by omega⟩, fun c z => by cases z⟩
  exact Ok.mono (lp_rm27 hc4 hs4 hEW hEK hbW hdW hbK hdK hP2 hP n2 ts.length 0 _ (fun _ => none) ts (Nat.le_refl _) (by omega) h4 ((hz.I (by omega) (by omega)).trans n1) hz1 hrf hk hlk (hwW.fg hz (fun b k => ⟨by omega, by omega, by omega⟩)) (hwK.fg hz (fun b k => ⟨by omega, by omega, by omega⟩)) ((hz.I (by omega) (by omega)).trans hp0) hIM (fun a c z => by cases z)) fun r S2 y => RmR.pre g0 (hz.I (by omega) (by omega)) y

