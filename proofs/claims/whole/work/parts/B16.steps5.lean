/-! pairs that leave Inv: layered, map, koszul -/
theorem tSe_n {q a b k : Nat} (h : tSe q a b k = true) : b = 0 ∧ (a = 12 ∧ (k = 20 ∨ k = 21 ∨ k = 38 ∨ k = 39 ∨ k = 40 ∨ k = 43) ∨ 1316 ≤ a ∧ a ≤ 1342) := by
  unfold tSe at h
  simp only [Bool.or_eq_true] at h
  rcases h with (((h | h) | h) | h) | h
  · simp only [Bool.and_eq_true, Bool.or_eq_true, beq_iff_eq, decide_eq_true_eq] at h
    refine ⟨h.1, Or.inr ?_⟩
    omega
  · unfold tTq at h
    simp only [Bool.or_eq_true, Bool.and_eq_true, beq_iff_eq] at h
    omega
  · simp [tPt] at h; omega
  · simp [tPa] at h; omega
  · simp [tIv] at h; omega
theorem tLr_p {a b k : Nat} (h : tLr a b k = true) : sc_t a b k := by
  unfold tLr tLq tSr1 at h
  simp only [Bool.or_eq_true] at h
  unfold sc_t
  rcases h with ((h | h) | h) | h
  · have := tBy_n h; omega
  · simp [tLd] at h; omega
  · rcases h with (h | h) | h
    · have := tSe_n h; omega
    · simp at h; omega
    · simp [tPo] at h; omega
  · simp at h; omega
theorem sc_sm {a b k : Nat} (h : sc_t a b k) : sm_t a b k := by unfold sc_t at h; unfold sm_t; omega
theorem st_layered {NN A0 B0 : Nat} : pr_layered NN (Inv A0 B0) := fun k S a x _ h => by
  obtain ⟨-, cc, W, bs, hh, q, c4, c3, cW, cT, cB, cV, cK, cS, cP, cL, cKP, cF, cBr, cBs, cI, cSl, cBl⟩ := id h
  have hKs : ∀ m s, m < 2 → s < 4 → gI S 1204 0 m = nI s → Slot S s := fun m s hm hs hq => (cSl s hs (by
    have : m = 0 ∨ m = 1 := by omega
    rcases this with rfl | rfl
    · exact Or.inr (Or.inl hq)
    · exact Or.inr (Or.inr hq))).1
  refine pgj_keep (pg_layered2 h.1.1 c3 c4 cW cBs cKP hKs a x) h.1.2.1 (fun S2 z h5 => ?_)
  obtain ⟨s, hs4, f0, z2, z3, z4⟩ := z
  have f : Fg (fun a b k => (b = cc ∨ b = s) ∧ (a = 0 ∧ k = 2 ∨ 103 ≤ a ∧ a ≤ 108 ∨ 700 ≤ a ∧ a ≤ 703) ∨ sc_t a b k) S S2 := f0.mono (fun a b k y => by
    rcases y with y | y
    · unfold tLc tRe at y; unfold sc_t; omega
    · exact Or.inr (tLr_p y))
  obtain ⟨V, nv, mkv, rlv, hBv⟩ := z4
  have nt : ∀ a b k, ¬ sc_t a b k → ¬ (a = 0 ∧ k = 2 ∨ 103 ≤ a ∧ a ≤ 108 ∨ 700 ≤ a ∧ a ≤ 703) → ¬ ((b = cc ∨ b = s) ∧ (a = 0 ∧ k = 2 ∨ 103 ≤ a ∧ a ≤ 108 ∨ 700 ≤ a ∧ a ≤ 703) ∨ sc_t a b k) := fun a b k n1 n2 z => by
    rcases z with z | z
    · exact n2 z.2
    · exact n1 z
  refine h.same c4 c3 cW (fg_bm f) (fun a b k y => ?_) h5 ((f.N (by decide) (nt _ _ _ (by unfold sc_t; omega) (by omega))).trans h.1.2.2.1) ⟨bs, hh, q, ?_, ?_, ?_, ?_, ?_, ?_, z2, ?_, ?_, ?_⟩
  · rcases y with y | y
    · unfold sm_t; omega
    · exact sc_sm y
  · exact cT.sm f ⟨nt _ _ _ (by unfold sc_t; omega) (by omega), nt _ _ _ (by unfold sc_t; omega) (by omega), fun k => nt _ _ _ (by unfold sc_t; omega) (by omega), fun k => nt _ _ _ (by unfold sc_t; omega) (by omega)⟩
  · exact SR.fg lo_sq cS f (by decide) (fun k hk => nt _ _ _ (by unfold sc_t; omega) (by omega)) (fun k => ⟨nt _ _ _ (by unfold sc_t; omega) (by omega), nt _ _ _ (by unfold sc_t; omega) (by omega)⟩) (fun k a b => nt _ _ _ (by unfold sc_t; omega) (by omega))
  · exact Pst.fg lo_sq cP f ⟨nt _ _ _ (by unfold sc_t; omega) (by omega), nt _ _ _ (by unfold sc_t; omega) (by omega), nt _ _ _ (by unfold sc_t; omega) (by omega)⟩ (fun j k a b => ⟨fun _ => nt _ _ _ (by unfold sc_t; omega) (by omega), nt _ _ _ (by unfold sc_t; omega) (by omega), nt _ _ _ (by unfold sc_t; omega) (by omega)⟩) (fun k => nt _ _ _ (by unfold sc_t; omega) (by omega))
  · exact fun j hj => (cL j hj).fg4 f ⟨nt _ _ _ (by unfold sc_t; omega) (by omega), nt _ _ _ (by unfold sc_t; omega) (by omega), nt _ _ _ (by unfold sc_t; omega) (by omega)⟩
  · rw [f.I (by decide) (nt _ _ _ (by unfold sc_t; omega) (by omega)), f.I (by decide) (nt _ _ _ (by unfold sc_t; omega) (by omega))]; exact cF
  · rw [f.I (by decide) (nt _ _ _ (by unfold sc_t; omega) (by omega)), f.I (by decide) (nt _ _ _ (by unfold sc_t; omega) (by omega))]; exact cBr
  · intro b hb
    obtain ⟨i1, i2, i3, i4, i5⟩ := cI b hb
    have e1 : gI S2 1006 b 0 = nI 0 := (f.I (by decide) (nt _ _ _ (by unfold sc_t; omega) (by omega))).trans i1
    by_cases e : b = cc
    · subst e
      obtain ⟨n', mk', rl', hB'⟩ := z2.1
      exact ⟨e1, hB'.ini⟩
    · by_cases e2 : b = s
      · subst e2
        exact ⟨e1, hBv.ini⟩
      · have nb : ∀ x k, 103 ≤ x → x ≤ 108 → ¬ ((b = cc ∨ b = s) ∧ (x = 0 ∧ k = 2 ∨ 103 ≤ x ∧ x ≤ 108 ∨ 700 ≤ x ∧ x ≤ 703) ∨ sc_t x b k) := fun x k x1 x2 z => by unfold sc_t at z; omega
        exact ⟨e1, (f.I (by decide) (nb _ _ (by omega) (by omega))).trans i2, (f.I (by decide) (nb _ _ (by omega) (by omega))).trans i3, by rw [f.N (by decide) (nb _ _ (by omega) (by omega))]; exact i4, by rw [f.N (by decide) (nb _ _ (by omega) (by omega))]; exact i5⟩
  · exact cSl.of f ⟨nt _ _ _ (by unfold sc_t; omega) (by omega), fun k => nt _ _ _ (by unfold sc_t; omega) (by omega)⟩ z3 (fun b hb d => d.fg f (nt _ _ _ (by unfold sc_t; omega) (by omega)) (fun k => nt _ _ _ (by unfold sc_t; omega) (by omega)) (fun a k ha => nt _ _ _ (by unfold sc_t; omega) (by omega)))
  · exact cBl.sm f ⟨nt _ _ _ (by unfold sc_t; omega) (by omega), nt _ _ _ (by unfold sc_t; omega) (by omega), nt _ _ _ (by unfold sc_t; omega) (by omega)⟩
/-- what map may touch -/
def mx_t (s a b k : Nat) : Prop := b = s ∧ (a = 0 ∧ k = 2 ∨ 103 ≤ a ∧ a ≤ 108) ∨ 700 ≤ a ∧ a ≤ 703 ∨ a = 405 ∨ a = 3 ∨ a = 4 ∨ 500 ≤ a ∧ a ≤ 510 ∨ a = 11 ∧ k = 1 ∨ (a = 8 ∨ a = 902 ∨ a = 903) ∧ 13 ≤ b ∨ b = 0 ∧ (a = 12 ∧ k ≠ 58 ∨ a = 1308 ∧ 3 ≤ k ∨ 1316 ≤ a ∧ a ≤ 1349 ∨ 1370 ≤ a ∧ a ≤ 1384)
theorem tMx_p {s a b k : Nat} (h : tMx s a b k) : mx_t s a b k := by
  unfold mx_t
  rcases h with h | h
  · rcases h with h | h | h | h | h
    · rcases h with h | h
      · have := tBg_n h; omega
      · omega
    · have := tMp_n h; omega
    · unfold tRe at h; omega
    · unfold tBrk at h; omega
    · omega
  · unfold tMrp at h; omega
theorem st_map {NN A0 B0 : Nat} : pr_map NN (Inv A0 B0) := fun k S a _ h => by
  obtain ⟨-, cc, W, bs, hh, q, c4, c3, cW, cT, cB, cV, cK, cS, cP, cL, cKP, cF, cBr, cBs, cI, cSl, cBl⟩ := id h
  have hKs : ∀ m s, m < 2 → s < 4 → gI S 1204 0 m = nI s → Slot S s := fun m s hm hs hq => (cSl s hs (by
    have : m = 0 ∨ m = 1 := by omega
    rcases this with rfl | rfl
    · exact Or.inr (Or.inl hq)
    · exact Or.inr (Or.inr hq))).1
  refine pg_keep (pg_map h.1.1 c3 c4 cW cBs cT cL cKP hKs cBr a) h.1.2.1 (fun S2 z h5 => ?_)
  obtain ⟨s, f0, z2, z3, z4, z5, z6, z7, z8⟩ := z
  have f := f0.mono (fun a b k y => tMx_p y)
  refine h.same c4 c3 cW (fg_bm f) (fun a b k y => ?_) h5 ((f.N (by decide) (by unfold mx_t; omega)).trans h.1.2.2.1) ⟨[], hh, q, z2, ?_, ?_, z6, z3, z4, z5, ?_, ?_, ?_⟩
  · unfold mx_t at y; unfold sm_t; omega
  · exact SR.fg lo_sq cS f (by decide) (fun k hk => by unfold mx_t; omega) (fun k => ⟨by unfold mx_t; omega, by unfold mx_t; omega⟩) (fun k a b => by unfold mx_t; omega)
  · exact Pst.fg lo_sq cP f ⟨by unfold mx_t; omega, by unfold mx_t; omega, by unfold mx_t; omega⟩ (fun j k a b => ⟨fun _ => by unfold mx_t; omega, by unfold mx_t; omega, by unfold mx_t; omega⟩) (fun k => by unfold mx_t; omega)
  · refine cI.re (s := s) f (fun b => by unfold mx_t; omega) (fun b x k e x1 x2 => by unfold mx_t; omega) (fun hs => ?_)
    rcases z8 with z8 | z8
    · exact z8.2
    · omega
  · exact cSl.of f ⟨by unfold mx_t; omega, fun k => by unfold mx_t; omega⟩ z7 (fun b hb d => d.fg f (by unfold mx_t; omega) (fun k => by unfold mx_t; omega) (fun a k ha => by unfold mx_t; omega))
  · exact cBl.sm f ⟨by unfold mx_t; omega, by unfold mx_t; omega, by unfold mx_t; omega⟩
/-- kept things stay as they were -/
def fr_t (a b _k : Nat) : Prop := a ≠ 1204 ∧ a ≠ 1391 ∧ a ≠ 1392 ∧ a ≠ 1393 ∧ (a = 7 ∨ a = 801 ∨ a = 8 ∨ a = 902 ∨ a = 903 → b ≠ 1 ∧ b ≠ 2)
theorem KP.fr {S S1 : zS} {m : Nat} (hm : m < 2) (h : KP sq wq S m) {T : Nat → Nat → Nat → Prop} (f : Fg T S S1) (hT : ∀ a b k, T a b k → fr_t a b k) (hu : ∀ s, s < 4 → gI S 1204 0 m = nI s → ∀ a k, a = 9 ∨ 1002 ≤ a ∧ a ≤ 1009 → ¬ T a s k) : KP sq wq S1 m := by
  have nx : ∀ a b k, ¬ fr_t a b k → ¬ T a b k := fun a b k q z => q (hT _ _ _ z)
  have e4 : gI S1 1204 0 m = gI S 1204 0 m := f.I (by decide) (nx _ _ _ (by simp [fr_t]))
  have e3 : gI S1 1393 0 m = gI S 1393 0 m := f.I (by decide) (nx _ _ _ (by simp [fr_t]))
  rcases h with ⟨h1, h2⟩ | ⟨s, V, hs, h1, h2, h3, h4, h5⟩
  · exact Or.inl ⟨e4.trans h1, e3.trans h2⟩
  · have hm12 : m + 1 = 1 ∨ m + 1 = 2 := by omega
    refine Or.inr ⟨s, V, hs, e4.trans h1, e3.trans h2, h3.cong wlo_wq (fun a k ha => f.I (by omega) (hu s hs h1 a k (by omega))) (fun a k ha => f.J (by omega) (hu s hs h1 a k (by omega))) (fun k hk => f.I (by decide) (nx _ _ _ (by simp [fr_t]))) (fun i hi => f.J (by decide) (nx _ _ _ (by simp [fr_t]))), h4.cong (f.I (by decide) (nx _ _ _ (by unfold fr_t; omega))) (f.I (by decide) (nx _ _ _ (by simp [fr_t]))) (fun k hk => f.I (by decide) (nx _ _ _ (by unfold fr_t; omega))) (fun k hk => f.I (by decide) (nx _ _ _ (by simp [fr_t]))), SR.fg lo_sq h5 f (by decide) (fun k hk => nx _ _ _ (by unfold fr_t; omega)) (fun k => ⟨nx _ _ _ (by unfold fr_t; omega), nx _ _ _ (by unfold fr_t; omega)⟩) (fun k a b => nx _ _ _ (by simp [fr_t]))⟩
theorem KTv.fr {S S1 : zS} (h : KTv S) {T : Nat → Nat → Nat → Prop} (f : Fg T S S1) (hT : ∀ a b k, T a b k → fr_t a b k) (hu : ∀ m s, m < 2 → s < 4 → gI S 1204 0 m = nI s → ∀ a k, a = 9 ∨ 1002 ≤ a ∧ a ≤ 1009 → ¬ T a s k) : KTv S1 := fun m hm s hs hq V hV hc k hk => by
  have nx : ∀ a b k, ¬ fr_t a b k → ¬ T a b k := fun a b k q z => q (hT _ _ _ z)
  have e4 : gI S1 1204 0 m = gI S 1204 0 m := f.I (by decide) (nx _ _ _ (by simp [fr_t]))
  have hq0 := e4.symm.trans hq
  obtain ⟨v, v1, v2⟩ := h m hm s hs hq0 V hV (hc.back f (hu m s hm hs hq0)) k hk
  exact ⟨v, (f.I (by decide) (nx _ _ _ (by unfold fr_t; omega))).trans v1, v2⟩
def kz_t (cc s a b k : Nat) : Prop := (b = s ∧ (a = 9 ∨ 1002 ≤ a ∧ a ≤ 1009 ∧ (a = 1006 → 1 ≤ k) ∨ a = 109)) ∨ ((b = cc ∨ b = s) ∧ (a = 0 ∧ (k = 2 ∨ k = 12) ∨ 103 ≤ a ∧ a ≤ 108)) ∨ (b = cc ∧ a = 111) ∨ ((a = 8 ∨ a = 902 ∨ a = 903) ∧ b = 11) ∨ (301 ≤ a ∧ a ≤ 302 ∨ 601 ≤ a ∧ a ≤ 703 ∨ 10000 ≤ a) ∨ (b = 0 ∧ a = 1307) ∨ sc_t a b k
section
variable {cc s a b k : Nat}
theorem kz1 (h : b = s ∧ (a = 9 ∨ 1002 ≤ a ∧ a ≤ 1009 ∧ (a = 1006 → 1 ≤ k) ∨ a = 109)) : kz_t cc s a b k := Or.inl h
theorem kz2 (h : (b = cc ∨ b = s) ∧ (a = 0 ∧ (k = 2 ∨ k = 12) ∨ 103 ≤ a ∧ a ≤ 108)) : kz_t cc s a b k := Or.inr (Or.inl h)
theorem kz3 (h : b = cc ∧ a = 111) : kz_t cc s a b k := Or.inr (Or.inr (Or.inl h))
theorem kz4 (h : (a = 8 ∨ a = 902 ∨ a = 903) ∧ b = 11) : kz_t cc s a b k := Or.inr (Or.inr (Or.inr (Or.inl h)))
theorem kz5 (h : 301 ≤ a ∧ a ≤ 302 ∨ 601 ≤ a ∧ a ≤ 703 ∨ 10000 ≤ a) : kz_t cc s a b k := Or.inr (Or.inr (Or.inr (Or.inr (Or.inl h))))
theorem kz6 (h : b = 0 ∧ a = 1307) : kz_t cc s a b k := Or.inr (Or.inr (Or.inr (Or.inr (Or.inr (Or.inl h)))))
theorem kz7 (h : sc_t a b k) : kz_t cc s a b k := Or.inr (Or.inr (Or.inr (Or.inr (Or.inr (Or.inr h)))))
theorem kz_re {b0 : Nat} (hb : b0 = cc ∨ b0 = s) (h : tRe b0 a b k) : kz_t cc s a b k := by
  obtain ⟨e, h⟩ := h
  rw [e]
  rcases h with h | h | h
  · exact kz2 ⟨hb, Or.inl ⟨h.1, Or.inl h.2⟩⟩
  · exact kz2 ⟨hb, Or.inr h⟩
  · exact kz5 (Or.inr (Or.inl ⟨by omega, by omega⟩))
theorem tKa_p (h : tKa cc s a b k) : kz_t cc s a b k := by
  rcases h with h | h
  · rcases h with h | h | h | h
    · exact kz_re (Or.inl rfl) h
    · rcases h with h | h | h | h
      · rcases h with ⟨e, h⟩ | h | h | h | h
        · refine kz1 ⟨e, ?_⟩
          omega
        · exact kz4 (by omega)
        · exact kz4 (by omega)
        · exact kz5 (by omega)
        · exact kz5 (by omega)
      · unfold tFo tCt at h
        simp only [Bool.or_eq_true, Bool.and_eq_true, beq_iff_eq] at h
        rcases h with (h | h) | ⟨e, h | h⟩
        · exact kz1 ⟨h.2, Or.inr (Or.inl ⟨by omega, by omega, by omega⟩)⟩
        · exact kz5 (by omega)
        · exact kz2 ⟨Or.inr e, Or.inl h⟩
        · exact kz1 ⟨e, Or.inr (Or.inr h)⟩
      · rcases h with h | h
        · exact kz_re (Or.inr rfl) h
        · exact kz3 ⟨h.2, h.1⟩
      · exact kz2 ⟨Or.inl h.2.1, Or.inl ⟨h.1, Or.inr h.2.2⟩⟩
    · exact kz5 (by omega)
    · exact kz5 (by omega)
  · unfold tKz tMd2 tKl tSr0 at h
    simp only [Bool.or_eq_true] at h
    rcases h with ((h | h) | h) | h
    · rcases h with ((h | h) | h) | h
      · simp [tOw] at h
        exact kz7 (by unfold sc_t; omega)
      · have := tSe_n h
        exact kz7 (by unfold sc_t; omega)
      · simp [t07] at h
        exact kz6 ⟨h.2, h.1⟩
      · simp [tEq] at h
        exact kz7 (by unfold sc_t; omega)
    · simp [t22] at h
      exact kz7 (by unfold sc_t; omega)
    · rcases h with ((h | h) | h) | h
      · have := tBy_n h
        exact kz7 (by unfold sc_t; omega)
      · simp at h
        exact kz7 (by unfold sc_t; omega)
      · have := tSe_n h
        exact kz7 (by unfold sc_t; omega)
      · simp [tBk] at h
        exact kz7 (by unfold sc_t; omega)
    · simp at h
      exact kz7 (by unfold sc_t; omega)
end
theorem st_koszul {NN A0 B0 : Nat} : pr_koszul NN (Inv A0 B0) := fun k S a _ h => by
  obtain ⟨-, cc, W, bs, hh, q, c4, c3, cW, cT, cB, cV, cK, cS, cP, cL, cKP, cF, cBr, cBs, cI, cSl, cBl⟩ := id h
  obtain ⟨hW, hC, hR⟩ := cW.c
  have hD0 : DcK S cc W := (cSl cc c4 (Or.inl c3)).2 W hW hC
  refine pg_keep (pg_koszul2 h.1.1 c3 c4 cW cBs cL (fun s hs => (cI s hs).1) (fun s hs => (cI s hs).2) hD0 a) h.1.2.1 (fun S2 z h5 => ?_)
  rcases z with z | ⟨s, hk, f0, z3, z4⟩
  · rw [z]; exact inv_thr h
  · have f := f0.mono (fun a b k y => tKa_p y)
    have hsc : s ≠ cc := by rcases hk with hk | hk <;> omega
    have hus : ∀ b, b < 4 → (gI S 11 0 3 = nI b ∨ gI S 1204 0 0 = nI b ∨ gI S 1204 0 1 = nI b) → b ≠ s := fun b hb hq e => by
      subst e
      rcases hk with ⟨_, k2, k3, k4, _⟩ | hk
      · rcases hq with q | q | q
        · exact k2 ((nI_eq (by omega) (by omega)).mp (q.symm.trans c3))
        · exact k3 q.symm
        · exact k4 q.symm
      · omega
    have hu : ∀ m x, m < 2 → x < 4 → gI S 1204 0 m = nI x → ∀ a k, a = 9 ∨ 1002 ≤ a ∧ a ≤ 1009 → ¬ kz_t cc s a x k := fun m x hm hx hq a k ha => by
      have hm2 : m = 0 ∨ m = 1 := by omega
      have hxs : x ≠ s := hus x hx (by rcases hm2 with rfl | rfl; exact Or.inr (Or.inl hq); exact Or.inr (Or.inr hq))
      unfold kz_t sc_t; omega
    have hTL11 : TL S2 11 := by
      rcases hk with hk | hk
      · exact hk.2.2.2.2.1
      · exact hk.2
    have hC2 : wqC W (fun a k => gI S2 a cc k) (fun a k => gJ S2 a cc k) := hC.fg f (fun a k ha => by unfold kz_t sc_t; omega)
    have hB2 : Bc S2 cc W := ((cSl cc c4 (Or.inl c3)).1 W hW hC).2.fg f (fun k => ⟨by unfold kz_t sc_t; omega, by unfold kz_t sc_t; omega⟩)
    refine h.new (fg_bm f) h5 ((f.N (by decide) (by unfold kz_t sc_t; omega)).trans h.1.2.2.1) ⟨cc, W, bs, hh, q, c4, (f.I (by decide) (by unfold kz_t sc_t; omega)).trans c3, ?_, ?_, ?_, ?_, ?_, ?_, ?_, ?_, ?_, ?_, ?_, z3, ?_, ?_, ?_⟩
    · exact cW.cong wlo_wq (fun a k ha => f.I (by omega) (by unfold kz_t sc_t; omega)) (fun a k ha => f.J (by omega) (by unfold kz_t sc_t; omega)) (fun k hk => f.I (by decide) (by unfold kz_t sc_t; omega)) (fun i hi => f.J (by decide) (by unfold kz_t sc_t; omega))
    · exact cT.sm f ⟨by unfold kz_t sc_t; omega, by unfold kz_t sc_t; omega, fun k => by unfold kz_t sc_t; omega, fun k => by unfold kz_t sc_t; omega⟩
    · exact cB.cong (f.I (by decide) (by unfold kz_t sc_t; omega)) (f.I (by decide) (by unfold kz_t sc_t; omega)) (fun k hk => f.I (by decide) (by unfold kz_t sc_t; omega)) (fun k hk => f.I (by decide) (by unfold kz_t sc_t; omega))
    · intro k hk
      obtain ⟨v, v1, v2⟩ := cV k hk
      exact ⟨v, (f.I (by decide) (by unfold kz_t sc_t; omega)).trans v1, v2⟩
    · exact cK.fr f (fun a b k y => by unfold kz_t sc_t at y; unfold fr_t; omega) hu
    · exact SR.fg lo_sq cS f (by decide) (fun k hk => by unfold kz_t sc_t; omega) (fun k => ⟨by unfold kz_t sc_t; omega, by unfold kz_t sc_t; omega⟩) (fun k a b => by unfold kz_t sc_t; omega)
    · exact Pst.fg lo_sq cP f ⟨by unfold kz_t sc_t; omega, by unfold kz_t sc_t; omega, by unfold kz_t sc_t; omega⟩ (fun j k a b => ⟨fun _ => by unfold kz_t sc_t; omega, by unfold kz_t sc_t; omega, by unfold kz_t sc_t; omega⟩) (fun k => by unfold kz_t sc_t; omega)
    · intro j hj
      by_cases e : j = 11
      · subst e; exact hTL11
      · exact (cL j hj).fg4 f ⟨by unfold kz_t sc_t; omega, by unfold kz_t sc_t; omega, by unfold kz_t sc_t; omega⟩
    · exact fun m hm => KP.fr hm (cKP m hm) f (fun a b k y => by unfold kz_t sc_t at y; unfold fr_t; omega) (fun x hx hq => hu m x hm hx hq)
    · rw [f.I (by decide) (by unfold kz_t sc_t; omega), f.I (by decide) (by unfold kz_t sc_t; omega)]; exact cF
    · rw [f.I (by decide) (by unfold kz_t sc_t; omega), f.I (by decide) (by unfold kz_t sc_t; omega)]; exact cBr
    · intro b hb
      obtain ⟨i1, i2, i3, i4, i5⟩ := cI b hb
      have e1 : gI S2 1006 b 0 = nI 0 := (f.I (by decide) (by unfold kz_t sc_t; omega)).trans i1
      by_cases e : b = cc
      · subst e
        obtain ⟨n', mk', rl', hB'⟩ := z3.1
        exact ⟨e1, hB'.ini⟩
      · by_cases e2 : b = s
        · subst e2
          rcases hk with ⟨_, _, _, _, _, mk, R, n', mk', rl', _, _, hB'⟩ | hk
          · exact ⟨e1, hB'.ini⟩
          · omega
        · exact ⟨e1, (f.I (by decide) (by unfold kz_t sc_t; omega)).trans i2, (f.I (by decide) (by unfold kz_t sc_t; omega)).trans i3, by rw [f.N (by decide) (by unfold kz_t sc_t; omega)]; exact i4, by rw [f.N (by decide) (by unfold kz_t sc_t; omega)]; exact i5⟩
    · intro b hb hq
      rw [f.I (by decide) (by unfold kz_t sc_t; omega), f.I (by decide) (by unfold kz_t sc_t; omega), f.I (by decide) (by unfold kz_t sc_t; omega)] at hq
      have hbs := hus b hb hq
      by_cases e : b = cc
      · subst e
        exact ⟨Slot.mk hW hC2 z3.1 hB2, DcS.mk hW hC2 z4⟩
      · obtain ⟨s1, s2⟩ := cSl b hb hq
        exact ⟨s1.fg f ⟨by unfold kz_t sc_t; omega, fun x k a b => by unfold kz_t sc_t; omega⟩ (fun a k ha => by unfold kz_t sc_t; omega), s2.fg f (by unfold kz_t sc_t; omega) (fun k => by unfold kz_t sc_t; omega) (fun a k ha => by unfold kz_t sc_t; omega)⟩
    · exact cBl.sm f ⟨by unfold kz_t sc_t; omega, by unfold kz_t sc_t; omega, by unfold kz_t sc_t; omega⟩
