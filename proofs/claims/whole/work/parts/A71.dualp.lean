/-! dual, pure: rows cleared from the left; there is one such set alone -/
def Dt (P n : Nat) (r : Nat → Nat) (x : Nat → Int) : Prop := (P : Int) ∣ smz (fun c => (r c : Int) * x c) n
theorem Dt.lin {P n : Nat} {a b d : Nat → Nat} {k m : Int} {x : Nat → Int} (h : ∀ c, c < n → (P : Int) ∣ (a c : Int) - (k * (b c : Int) + m * (d c : Int))) (hb : Dt P n b x) (hd : Dt P n d x) : Dt P n a x := by
  have e : smz (fun c => k * ((b c : Int) * x c) + m * ((d c : Int) * x c)) n = k * smz (fun c => (b c : Int) * x c) n + m * smz (fun c => (d c : Int) * x c) n := by rw [smz_add, smz_mul, smz_mul]
  have h1 : (P : Int) ∣ smz (fun c => k * ((b c : Int) * x c) + m * ((d c : Int) * x c)) n := by
    rw [e]
    exact Int.dvd_add (Int.dvd_mul_of_dvd_right hb) (Int.dvd_mul_of_dvd_right hd)
  have h2 : (P : Int) ∣ smz (fun c => (a c : Int) * x c) n - smz (fun c => k * ((b c : Int) * x c) + m * ((d c : Int) * x c)) n := by
    have := smz_dvd (P := P) (f := fun c => (a c : Int) * x c + -1 * (k * ((b c : Int) * x c) + m * ((d c : Int) * x c))) (n := n) (fun c hc => by
      have q : (P : Int) ∣ ((a c : Int) - (k * (b c : Int) + m * (d c : Int))) * x c := Int.dvd_mul_of_dvd_left (h c hc)
      rw [Int.sub_mul, Int.add_mul, Int.mul_assoc, Int.mul_assoc] at q
      show (P : Int) ∣ (a c : Int) * x c + -1 * (k * ((b c : Int) * x c) + m * ((d c : Int) * x c))
      rw [Int.neg_one_mul, ← Int.sub_eq_add_neg]
      exact q)
    rw [smz_add, smz_mul, Int.neg_one_mul, ← Int.sub_eq_add_neg] at this
    exact this
  exact dvd_of h2 h1
theorem Dt.cg {P n : Nat} {a b : Nat → Nat} {x : Nat → Int} (h : ∀ c, c < n → a c = b c) : Dt P n a x ↔ Dt P n b x := by
  unfold Dt
  rw [smz_cong (f := fun c => (a c : Int) * x c) (g := fun c => (b c : Int) * x c) (fun i hi => by rw [h i hi])]
theorem Dt.zero {P n : Nat} {a : Nat → Nat} {x : Nat → Int} (h : ∀ c, c < n → a c = 0) : Dt P n a x := smz_dvd fun i hi => by
  rw [h i hi]
  simp
def RRe (P n : Nat) (mk : Nat → Bool) (R : Nat → Nat → Nat) (Z : (Nat → Int) → Prop) : Prop := (∀ c, c < n → mk c = true → R c c = 1 ∧ (∀ j, j < c → R c j = 0) ∧ ∀ j, j < n → R c j < P) ∧ (∀ c d, c < n → d < n → mk c = true → mk d = true → c ≠ d → R c d = 0) ∧ ∀ x, Z x ↔ ∀ c, c < n → mk c = true → Dt P n (R c) x
def xf (mk : Nat → Bool) (R : Nat → Nat → Nat) (f j : Nat) : Int := if j = f then 1 else if mk j = true then -(R j f : Int) else 0
theorem smz_two {f g : Nat → Int} {a b : Int} {c d n : Nat} (hc : c < n) (hd : d < n) (h : ∀ j, j < n → f j = (if j = c then a else 0) + (if j = d then b else 0)) : smz f n = a + b := by
  have a1 : smz (fun j => if j = c then a else 0) n = a := smz_if (f := fun _ => a) hc
  have a2 : smz (fun j => if j = d then b else 0) n = b := smz_if (f := fun _ => b) hd
  rw [smz_cong h, smz_add, a1, a2]
theorem RRe.xf_in {P n : Nat} {mk : Nat → Bool} {R : Nat → Nat → Nat} {Z : (Nat → Int) → Prop} (h : RRe P n mk R Z) {f : Nat} (hf : f < n) (hm : mk f = false) : Z (xf mk R f) := by
  refine (h.2.2 _).mpr fun c hc hmc => ?_
  have hcf : c ≠ f := fun z => by rw [z, hm] at hmc; cases hmc
  unfold Dt
  rw [smz_two (g := fun _ => 0) (a := -(R c f : Int)) (b := (R c f : Int)) hc hf (fun j hj => ?_)]
  · exact ⟨0, by omega⟩
  · unfold xf
    by_cases e1 : j = c
    · subst e1
      rw [if_pos rfl, if_neg hcf, if_neg hcf, if_pos hmc, (h.1 j hc hmc).1]
      simp
    · rw [if_neg e1]
      by_cases e2 : j = f
      · subst e2
        rw [if_pos rfl, if_pos rfl]
        simp
      · rw [if_neg e2, if_neg e2]
        by_cases e3 : mk j = true
        · rw [if_pos e3, h.2.1 c j hc hj hmc e3 (fun z => e1 z.symm)]
          simp
        · rw [if_neg e3]
          simp
theorem RRe.mk_sub {P n : Nat} {mk mk' : Nat → Bool} {R R' : Nat → Nat → Nat} {Z : (Nat → Int) → Prop} (h : RRe P n mk R Z) (h' : RRe P n mk' R' Z) (hP : 2 ≤ P) {c : Nat} (hc : c < n) (hm : mk c = true) : mk' c = true := by
  cases q : mk' c with
  | true => rfl
  | false =>
    exfalso
    have d := (h.2.2 _).mp (h'.xf_in hc q) c hc hm
    unfold Dt at d
    rw [smz_two (g := fun _ => 0) (a := 1) (b := 0) hc hc (fun j hj => ?_)] at d
    · have := Int.le_of_dvd (by omega) d
      omega
    · unfold xf
      by_cases e1 : j = c
      · subst e1
        rw [if_pos rfl, if_pos rfl, if_pos rfl, (h.1 j hc hm).1]
        simp
      · rw [if_neg e1, if_neg e1, if_neg e1]
        rcases Nat.lt_or_gt_of_ne e1 with g | g
        · rw [(h.1 c hc hm).2.1 j g]
          simp
        · by_cases e3 : mk' j = true
          · rw [if_pos e3, (h'.1 j hj e3).2.1 c g]
            simp
          · rw [if_neg e3]
            simp
theorem dvd_eqN {P a b : Nat} (ha : a < P) (hb : b < P) (h : (P : Int) ∣ (a : Int) - (b : Int)) : a = b := by
  have h1 := Int.emod_eq_emod_iff_emod_sub_eq_zero.mpr (Int.emod_eq_zero_of_dvd h)
  rw [Int.emod_eq_of_lt (by omega) (by omega), Int.emod_eq_of_lt (by omega) (by omega)] at h1
  omega
theorem RRe.uniq {P n : Nat} {mk mk' : Nat → Bool} {R R' : Nat → Nat → Nat} {Z : (Nat → Int) → Prop} (h : RRe P n mk R Z) (h' : RRe P n mk' R' Z) (hP : 2 ≤ P) : ∀ c, c < n → mk c = mk' c ∧ (mk c = true → ∀ j, j < n → R c j = R' c j) := by
  have hmm : ∀ c, c < n → mk c = mk' c := fun c hc => by
    cases q : mk c with
    | true => exact (h.mk_sub h' hP hc q).symm
    | false =>
      cases q' : mk' c with
      | false => rfl
      | true => rw [h'.mk_sub h hP hc q'] at q; cases q
  intro c hc
  refine ⟨hmm c hc, fun hm j hj => ?_⟩
  have hm' : mk' c = true := (hmm c hc).symm.trans hm
  by_cases e : mk j = true
  · by_cases e1 : c = j
    · rw [← e1, (h.1 c hc hm).1, (h'.1 c hc hm').1]
    · rw [h.2.1 c j hc hj hm e e1, h'.2.1 c j hc hj hm' ((hmm j hj).symm.trans e) e1]
  · have hmf : mk j = false := by cases q : mk j with | true => exact absurd q e | false => rfl
    have hcf : c ≠ j := fun z => e (by rw [← z]; exact hm)
    have d := (h'.2.2 _).mp (h.xf_in hj hmf) c hc hm'
    unfold Dt at d
    rw [smz_two (g := fun _ => 0) (a := -(R c j : Int)) (b := (R' c j : Int)) hc hj (fun i hi => ?_)] at d
    · refine (dvd_eqN ((h'.1 c hc hm').2.2 j hj) ((h.1 c hc hm).2.2 j hj) ?_).symm
      rw [show (R' c j : Int) - (R c j : Int) = -(R c j : Int) + (R' c j : Int) by omega]
      exact d
    · unfold xf
      by_cases e1 : i = c
      · subst e1
        rw [if_pos rfl, if_neg hcf, if_neg hcf, if_pos hm, (h'.1 i hc hm').1]
        simp
      · rw [if_neg e1]
        by_cases e2 : i = j
        · subst e2
          rw [if_pos rfl, if_pos rfl]
          simp
        · rw [if_neg e2, if_neg e2]
          by_cases e3 : mk i = true
          · rw [if_pos e3, h'.2.1 c i hc hi hm' ((hmm i hi).symm.trans e3) (fun z => e1 z.symm)]
            simp
          · rw [if_neg e3]
            simp
/-! the dual world -/
def dtm (mk : Nat → Bool) (R : Nat → Nat → Nat) (P : Nat) (T : List (List Nat)) (f : Nat) : Nat → List zT
  | 0 => []
  | c + 1 => if mk c = true ∧ R c f ≠ 0 then (T.getD c [], (P - R c f) % P) :: dtm mk R P T f c else dtm mk R P T f c
def dlw (mk : Nat → Bool) (R : Nat → Nat → Nat) (P : Nat) (T : List (List Nat)) (f : Nat) : List zT := (T.getD f [], 1) :: dtm mk R P T f f
def dls (mk : Nat → Bool) (R : Nat → Nat → Nat) (P : Nat) (T : List (List Nat)) : Nat → List (Nat × List zT)
  | 0 => []
  | f + 1 => if mk f = true then dls mk R P T f else (3, dlw mk R P T f) :: dls mk R P T f
def dW (W : zWd) (mk : Nat → Bool) (R : Nat → Nat → Nat) : zWd := (W.1, W.2.1, W.2.2.1, dls mk R (wP W) (tl W 3) (tl W 3).length)
theorem dtm_cg {mk mk' : Nat → Bool} {R R' : Nat → Nat → Nat} {P n f : Nat} {T : List (List Nat)} (hf : f < n) (h : ∀ c, c < n → mk c = mk' c ∧ (mk c = true → ∀ j, j < n → R c j = R' c j)) : ∀ c, c ≤ n → dtm mk R P T f c = dtm mk' R' P T f c
  | 0, _ => rfl
  | c + 1, hc => by
    obtain ⟨h1, h2⟩ := h c (by omega)
    rw [dtm, dtm, dtm_cg hf h c (by omega), ← h1]
    by_cases e : mk c = true
    · rw [h2 e f hf]
    · rw [if_neg (fun z => e z.1), if_neg (fun z => e z.1)]
theorem dls_cg {mk mk' : Nat → Bool} {R R' : Nat → Nat → Nat} {P n : Nat} {T : List (List Nat)} (h : ∀ c, c < n → mk c = mk' c ∧ (mk c = true → ∀ j, j < n → R c j = R' c j)) : ∀ f, f ≤ n → dls mk R P T f = dls mk' R' P T f
  | 0, _ => rfl
  | f + 1, hf => by
    rw [dls, dls, dls_cg h f (by omega), ← (h f (by omega)).1]
    unfold dlw
    rw [dtm_cg (show f < n by omega) h f (by omega)]
/-- the number of a tree in a sum -/
def nmT : List zT → List Nat → Nat
  | [], _ => 0
  | p :: r, t => if p.1 = t then p.2 else nmT r t
def eqn (W : zWd) (l c : Nat) : Nat := (if ((tl W 3).getD c []).getD 1 0 = 0 then wP W - nmT (lw W l).2 ((tl W 3).getD c []) else nmT (lw W l).2 ((tl W 3).getD c [])) % wP W
def ZW (W : zWd) (x : Nat → Int) : Prop := ∀ l, l < wL W → Dt (wP W) (tl W 3).length (eqn W l) x
def IsD (W : zWd) (mk : Nat → Bool) (R : Nat → Nat → Nat) : Prop := RRe (wP W) (tl W 3).length mk R (ZW W)
theorem IsD.uniq {W : zWd} (hW : Wok W) {mk mk' : Nat → Bool} {R R' : Nat → Nat → Nat} (h : IsD W mk R) (h' : IsD W mk' R') : dW W mk R = dW W mk' R' := by
  unfold dW
  rw [dls_cg (RRe.uniq h h' hW.1.1) _ (Nat.le_refl _)]
/-- all acts have two entries, all laws three leaves -/
def Qd (W : zWd) : Prop := (∀ a, a < wA W → we W a = 2) ∧ ∀ l, l < wL W → (lw W l).1 = 3
theorem tc_1 {W : zWd} : tc W 1 = 1 + sm (fun a => foL (tcT W 0) (we W a) 1) (wA W) := rfl
theorem foL_2 {T : Nat → Nat} {m : Nat} : foL T 2 m = sm (fun j => T (j + 1) * foL T 1 (m - (j + 1))) (m - 1) := rfl
theorem tcT_1 {W : zWd} (h : Qd W) : tcT W 1 1 = 1 := by
  show 1 + sm (fun a => foL (tcT W 0) (we W a) 1) (wA W) = 1
  rw [sm_nul (fun a ha => by rw [h.1 a ha]; rfl)]
theorem tcT_2 {W : zWd} (h : Qd W) : tcT W 2 2 = wA W ∧ tcT W 2 1 = 1 := by
  refine ⟨?_, tcT_1 h⟩
  show 0 + sm (fun a => foL (tcT W 1) (we W a) 2) (wA W) = wA W
  rw [Nat.zero_add, sm_cong (g := fun _ => 1) (fun a ha => by
    rw [h.1 a ha, foL_2]
    show 0 + tcT W 1 1 * tcT W 1 1 = 1
    rw [tcT_1 h])]
  generalize wA W = n
  induction n with
  | zero => rfl
  | succ n ih => rw [sm, ih]
theorem tc_3 {W : zWd} (h : Qd W) : tc W 3 = wA W * (2 * wA W) := by
  show 0 + sm (fun a => foL (tcT W 2) (we W a) 3) (wA W) = _
  rw [Nat.zero_add, sm_cong (g := fun _ => 2 * wA W) (fun a ha => by
    rw [h.1 a ha, foL_2]
    show 0 + tcT W 2 1 * tcT W 2 2 + tcT W 2 2 * tcT W 2 1 = 2 * wA W
    rw [(tcT_2 h).1, (tcT_2 h).2]
    omega)]
  generalize 2 * wA W = m
  generalize wA W = n
  induction n with
  | zero => rw [Nat.zero_mul]; rfl
  | succ n ih => rw [sm, ih, Nat.succ_mul]
theorem tl3_18 {W : zWd} (hW : Wok W) (h : Qd W) : (tl W 3).length ≤ 18 := by
  rw [tl_len hW.2.1, tc_3 h]
  have := hW.2.1.1
  exact Nat.mul_le_mul this (Nat.mul_le_mul_left 2 this)
theorem dtm_mem {mk : Nat → Bool} {R : Nat → Nat → Nat} {P f : Nat} {T : List (List Nat)} {p : zT} : ∀ {c : Nat}, p ∈ dtm mk R P T f c → ∃ j, j < c ∧ mk j = true ∧ R j f ≠ 0 ∧ p = (T.getD j [], (P - R j f) % P)
  | 0, h => nomatch h
  | c + 1, h => by
    rw [dtm] at h
    by_cases e : mk c = true ∧ R c f ≠ 0
    · rw [if_pos e] at h
      rcases List.mem_cons.mp h with q | q
      · exact ⟨c, by omega, e.1, e.2, q⟩
      · obtain ⟨j, j1, j2⟩ := dtm_mem q
        exact ⟨j, by omega, j2⟩
    · rw [if_neg e] at h
      obtain ⟨j, j1, j2⟩ := dtm_mem h
      exact ⟨j, by omega, j2⟩
theorem tl_lt {W : zWd} (hE : Eok (wA W) (we W)) {n : Nat} (hn : n ≤ 7) {i j : Nat} (h : i < j) (hj : j < (tl W n).length) : ky ((tl W n).getD i []) < ky ((tl W n).getD j []) := by
  have := List.pairwise_iff_getElem.mp (tl_sorted hE hn) i j (by omega) hj h
  rw [List.getD_eq_getElem?_getD, List.getElem?_eq_getElem (by omega), List.getD_eq_getElem?_getD, List.getElem?_eq_getElem hj]
  exact this
theorem dtm_de {W : zWd} (hE : Eok (wA W) (we W)) {mk : Nat → Bool} {R : Nat → Nat → Nat} {P f : Nat} : ∀ {c : Nat}, c ≤ (tl W 3).length → De (dtm mk R P (tl W 3) f c)
  | 0, _ => List.Pairwise.nil
  | c + 1, h => by
    rw [dtm]
    by_cases e : mk c = true ∧ R c f ≠ 0
    · rw [if_pos e]
      refine List.Pairwise.cons (fun q hq => ?_) (dtm_de hE (by omega))
      obtain ⟨j, j1, -, -, rfl⟩ := dtm_mem hq
      exact tl_lt hE (by omega) j1 (by omega)
    · rw [if_neg e]
      exact dtm_de hE (by omega)
theorem dlw_ce {W : zWd} (hW : Wok W) {mk : Nat → Bool} {R : Nat → Nat → Nat} (h : IsD W mk R) {f : Nat} (hf : f < (tl W 3).length) : Ce (wA W) (we W) (wP W) 3 (dlw mk R (wP W) (tl W 3) f) := by
  have hP := hW.1.1
  have hm : ∀ p, p ∈ dlw mk R (wP W) (tl W 3) f → Tr (wA W) (we W) 3 p.1 ∧ p.2 < wP W ∧ p.2 ≠ 0 := fun p hp => by
    rcases List.mem_cons.mp hp with rfl | q
    · exact ⟨tl_tr hW.2.1 hf, by show 1 < wP W; omega, by show 1 ≠ 0; omega⟩
    · obtain ⟨j, j1, j2, j3, rfl⟩ := dtm_mem q
      have hR := (h.1 j (by omega) j2).2.2 f hf
      refine ⟨tl_tr hW.2.1 (by omega), Nat.mod_lt _ (by omega), ?_⟩
      show (wP W - R j f) % wP W ≠ 0
      rw [Nat.mod_eq_of_lt (by omega)]
      omega
  refine ⟨⟨List.Pairwise.cons (fun q hq => ?_) (dtm_de hW.2.1 (by omega)), fun p hp => ⟨(hm p hp).1, (hm p hp).2.1⟩⟩, fun p hp => (hm p hp).2.2⟩
  obtain ⟨j, j1, -, -, rfl⟩ := dtm_mem hq
  exact tl_lt hW.2.1 (by omega) j1 hf
theorem dls_mem {mk : Nat → Bool} {R : Nat → Nat → Nat} {P : Nat} {T : List (List Nat)} {q : Nat × List zT} : ∀ {m : Nat}, q ∈ dls mk R P T m → ∃ f, f < m ∧ mk f = false ∧ q = (3, dlw mk R P T f)
  | 0, h => nomatch h
  | m + 1, h => by
    rw [dls] at h
    by_cases e : mk m = true
    · rw [if_pos e] at h
      obtain ⟨f, f1, f2⟩ := dls_mem h
      exact ⟨f, by omega, f2⟩
    · rw [if_neg e] at h
      rcases List.mem_cons.mp h with z | z
      · exact ⟨m, by omega, by cases q : mk m with | true => exact absurd q e | false => rfl, z⟩
      · obtain ⟨f, f1, f2⟩ := dls_mem z
        exact ⟨f, by omega, f2⟩
theorem cntp_mono {pv : Nat → Bool} {a b : Nat} (h : a ≤ b) : cntp pv a ≤ cntp pv b := by
  induction b with
  | zero => rw [show a = 0 by omega]; exact Nat.le_refl _
  | succ b ih =>
    by_cases e : a = b + 1
    · rw [e]; exact Nat.le_refl _
    · have := ih (by omega)
      have e2 : cntp pv (b + 1) = cntp pv b + (if pv b = true then 1 else 0) := rfl
      omega
theorem cntp_lq {pv : Nat → Bool} : ∀ m, cntp pv m ≤ m
  | 0 => Nat.le_refl _
  | m + 1 => by
    have e2 : cntp pv (m + 1) = cntp pv m + (if pv m = true then 1 else 0) := rfl
    have := cntp_lq (pv := pv) m
    split at e2 <;> omega
theorem dtm_len {mk : Nat → Bool} {R : Nat → Nat → Nat} {P f : Nat} {T : List (List Nat)} : ∀ c, (dtm mk R P T f c).length ≤ cntp mk c
  | 0 => Nat.le_refl _
  | c + 1 => by
    have e2 : cntp mk (c + 1) = cntp mk c + (if mk c = true then 1 else 0) := rfl
    have := dtm_len (mk := mk) (R := R) (P := P) (f := f) (T := T) c
    rw [dtm]
    by_cases e : mk c = true ∧ R c f ≠ 0
    · rw [if_pos e]
      rw [if_pos e.1] at e2
      rw [List.length_cons]
      omega
    · rw [if_neg e]
      omega
theorem dls_len {mk : Nat → Bool} {R : Nat → Nat → Nat} {P : Nat} {T : List (List Nat)} : ∀ m, (dls mk R P T m).length = m - cntp mk m
  | 0 => rfl
  | m + 1 => by
    have e2 : cntp mk (m + 1) = cntp mk m + (if mk m = true then 1 else 0) := rfl
    have h1 := dls_len (mk := mk) (R := R) (P := P) (T := T) m
    have h2 := cntp_lq (pv := mk) m
    rw [dls]
    by_cases e : mk m = true
    · rw [if_pos e] at e2 ⊢
      omega
    · rw [if_neg e] at e2 ⊢
      rw [List.length_cons]
      omega
theorem dls_tot {mk : Nat → Bool} {R : Nat → Nat → Nat} {P n : Nat} {T : List (List Nat)} : ∀ m, m ≤ n → lfs (dls mk R P T m) (dls mk R P T m).length ≤ (m - cntp mk m) * (1 + cntp mk n)
  | 0, _ => Nat.zero_le _
  | m + 1, hm => by
    have e2 : cntp mk (m + 1) = cntp mk m + (if mk m = true then 1 else 0) := rfl
    have h1 := dls_tot (mk := mk) (R := R) (P := P) (n := n) (T := T) m (by omega)
    have h2 := cntp_lq (pv := mk) m
    have h3 := cntp_mono (pv := mk) (show m ≤ n by omega)
    have h4 := dtm_len (mk := mk) (R := R) (P := P) (f := m) (T := T) m
    rw [dls]
    by_cases e : mk m = true
    · rw [if_pos e] at e2 ⊢
      rw [show m + 1 - cntp mk (m + 1) = m - cntp mk m by omega]
      exact h1
    · rw [if_neg e] at e2 ⊢
      rw [show m + 1 - cntp mk (m + 1) = (m - cntp mk m) + 1 by omega, Nat.succ_mul]
      show (dlw mk R P T m).length + lfs (dls mk R P T m) (dls mk R P T m).length ≤ _
      have : (dlw mk R P T m).length = (dtm mk R P T m m).length + 1 := rfl
      omega
theorem b90 : ∀ n : Fin 19, ∀ r : Fin 19, (n.1 - r.1) * (1 + r.1) ≤ 200 := by decide
theorem dW_ok {W : zWd} (hW : Wok W) (hQ : Qd W) {mk : Nat → Bool} {R : Nat → Nat → Nat} (h : IsD W mk R) : Wok (dW W mk R) := by
  have hn := tl3_18 hW hQ
  have hc := cntp_lq (pv := mk) (tl W 3).length
  refine ⟨hW.1, hW.2.1, hW.2.2.1, ?_, ?_, fun L hL => ?_⟩
  · show (dls mk R (wP W) (tl W 3) (tl W 3).length).length ≤ 18
    rw [dls_len]
    omega
  · have h1 := dls_tot (mk := mk) (R := R) (P := wP W) (n := (tl W 3).length) (T := tl W 3) (tl W 3).length (Nat.le_refl _)
    have h2 := b90 ⟨(tl W 3).length, by omega⟩ ⟨cntp mk (tl W 3).length, by omega⟩
    exact Nat.le_trans h1 h2
  · have hm : lw (dW W mk R) L ∈ dls mk R (wP W) (tl W 3) (tl W 3).length := by
      show (dls mk R (wP W) (tl W 3) (tl W 3).length).getD L ld ∈ _
      have hL' : L < (dls mk R (wP W) (tl W 3) (tl W 3).length).length := hL
      rw [List.getD_eq_getElem?_getD, List.getElem?_eq_getElem hL']
      exact List.getElem_mem hL'
    obtain ⟨f, f1, -, f3⟩ := dls_mem hm
    rw [f3]
    exact ⟨by show 2 ≤ 3; omega, by show 3 ≤ 7; omega, dlw_ce hW h f1⟩
