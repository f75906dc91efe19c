/-! pairs that leave Inv: world, dual -/
def nw_t (cc s a b k : Nat) : Prop := (a = 9 ∨ 1002 ≤ a ∧ a ≤ 1009 → b = s) ∧ (a = 1006 → 1 ≤ k) ∧ (a = 0 → b = s ∨ b = cc ∧ k = 2) ∧ (103 ≤ a ∧ a ≤ 108 → b = cc) ∧ (a = 109 → b = s) ∧ a ≠ 110 ∧ a ≠ 111 ∧ a ≠ 1204 ∧ a ≠ 1391 ∧ a ≠ 1392 ∧ a ≠ 1393 ∧ (a = 7 ∨ a = 801 ∨ a = 8 ∨ a = 902 ∨ a = 903 → b ≠ 1 ∧ b ≠ 2) ∧ (a = 11 → k = 1 ∨ k = 3 ∨ k = 10) ∧ (a = 12 → k ≠ 82) ∧ ¬ (200 ≤ a ∧ a ≤ 202) ∧ a ≠ 3 ∧ a ≠ 5000
/-- a new world in a free slot -/
theorem Inv.neww {A0 B0 k : Nat} {S S2 : zS} (h : Inv A0 B0 k S) {cc s : Nat} {W V : zWd} (c4 : cc < 4) (c3 : gI S 11 0 3 = nI cc) (cW : WR wq S W cc 1306 0 1308 0) (s4 : s < 4) (hsc : s ≠ cc) (hk0 : nI s ≠ gI S 1204 0 0) (hk1 : nI s ≠ gI S 1204 0 1) {T : Nat → Nat → Nat → Prop} (f : Fg T S S2) (hT : ∀ a b k, T a b k → nw_t cc s a b k) (h5 : gE S2 5000 0 = true) (h3 : gI S2 11 0 3 = nI s) (hV0 : WR wq S2 V s 1306 0 1308 0) (hb : ∃ bs, TapeR S2 bs) (htb : gI S2 7 0 0 = nI 1 ∧ gI S2 1306 0 3 = nI 1 ∧ ∀ k, k < 729 → gI S2 801 0 k = nI 0 ∧ gI S2 1306 0 (444 + k) = nI 0) (hSR : SR sq S2 V 0 1306 1173) (h10 : gI S2 11 0 10 = nI 0) (h58 : gI S2 12 0 58 = nI 0) (hTL : TLs S2) (hF : gI S2 4 0 14 = gI S2 12 0 13) (h33 : gI S2 12 0 33 = -1) (hIv : IvI S2) (hfo : gI S2 0 s 2 = nI 0 ∧ gI S2 0 s 12 = nI 0 ∧ ∀ k, k < 8 → gI S2 109 s k = -1) (hCB : ∃ n mk rl, CB S2 cc W n mk rl) : Inv A0 B0 (k + 1) S2 := by
  obtain ⟨-, cc', W', bs, hh, q, d4, d3, dW, cT, cB, cV, cK, cS, cP, cL, cKP, cF, cBr, cBs, cI, cSl, cBl⟩ := id h
  obtain ⟨rfl, rfl⟩ := wr_uniq c4 d4 c3 d3 cW dW
  obtain ⟨hW, hC, hR⟩ := cW.c
  obtain ⟨hV, hCV, hRV⟩ := hV0.c
  have nx : ∀ a b k, ¬ nw_t cc' s a b k → ¬ T a b k := fun a b k q z => q (hT _ _ _ z)
  have hus : ∀ b, b < 4 → us S b → b ≠ s := fun b hb hq e => by
    subst e
    rcases hq with q | q | q
    · exact hsc ((nI_eq (by omega) (by omega)).mp (q.symm.trans c3))
    · exact hk0 q.symm
    · exact hk1 q.symm
  have nu : ∀ b, b ≠ s → ∀ a k, a = 9 ∨ 1002 ≤ a ∧ a ≤ 1009 → ¬ T a b k := fun b hb a k ha z => hb ((hT _ _ _ z).1 ha)
  have hu : ∀ m s', m < 2 → s' < 4 → gI S 1204 0 m = nI s' → ∀ a k, a = 9 ∨ 1002 ≤ a ∧ a ≤ 1009 → ¬ T a s' k := fun m s' hm hs' hq => nu s' (hus s' hs' (us_k hm hq))
  have hfr : ∀ a b k, T a b k → fr_t a b k := fun a b k z => by
    obtain ⟨-, -, -, -, -, -, -, z4, z5, z6, z7, z8, -⟩ := hT _ _ _ z
    exact ⟨z4, z5, z6, z7, z8⟩
  have nown : gI S2 12 0 33 ≠ nI 1 := by rw [h33]; decide
  obtain ⟨bs1, p1⟩ := hb
  have e0 : ∀ b, b ≠ cc' → ∀ x k, 103 ≤ x → x ≤ 108 → ¬ T x b k := fun b hb x k x1 x2 z => hb ((hT _ _ _ z).2.2.2.1 ⟨x1, x2⟩)
  obtain ⟨i1, i2, i3, i4, i5⟩ := cI s s4
  have r0 : rfr V (0 + 1) = 0 := by show 0 + tri 0 = 0; decide
  have hB0 : CB S2 s V 0 (fun _ _ => 0) (fun _ _ _ => 0) := ⟨hfo.1, by omega, fun k hk => by rw [show k = 0 by omega]; exact (Nat.zero_le _ : tc V 0 ≤ 300), fun k a b => absurd a (by omega), (f.I (by decide) (e0 s hsc _ _ (by omega) (by omega))).trans i2, (f.I (by decide) (e0 s hsc _ _ (by omega) (by omega))).trans (i3.trans (by rw [r0])), by rw [r0]; exact Nat.zero_le _, by rw [f.N (by decide) (e0 s hsc _ _ (by omega) (by omega))]; exact i4, by rw [f.N (by decide) (e0 s hsc _ _ (by omega) (by omega))]; exact i5, fun k a b => absurd a (by omega)⟩
  refine h.new (fg_bm f) h5 ((f.N (by decide) (nx _ _ _ (by simp [nw_t]))).trans h.1.2.2.1) ⟨s, V, bs1, 0, q, s4, h3, hV0, p1, ⟨1, by omega, by omega, htb.1, htb.2.1, fun k hk => ?_⟩, fun k hk => ⟨0, (htb.2.2 k hk).1, by have := hV.1.1; omega⟩, cK.fr f hfr hu, hSR, ⟨h10, h58, by omega, (f.I (by decide) (nx _ _ _ (by simp [nw_t]))).trans cP.2.2.2.1, cP.2.2.2.2.1, fun i hi => absurd hi (Nat.not_lt_zero i)⟩, hTL, fun m hm => KP.fr hm (cKP m hm) f hfr (fun x hx hq => hu m x hm hx hq), hF, ?_, ⟨⟨_, _, _, hB0⟩, fun z => absurd z nown, fun z => absurd z nown, hIv⟩, ?_, ?_, ?_⟩
  · rw [Nat.zero_add]
    exact (htb.2.2 k hk).1.trans (htb.2.2 k hk).2.symm
  · rw [f.I (by decide) (nx _ _ _ (by simp [nw_t])), f.I (by decide) (nx _ _ _ (by simp [nw_t]))]; exact cBr
  · intro b hb
    obtain ⟨j1, j2, j3, j4, j5⟩ := cI b hb
    have e1 : gI S2 1006 b 0 = nI 0 := (f.I (by decide) (nx _ _ _ (by simp [nw_t]))).trans j1
    by_cases e : b = cc'
    · subst e
      obtain ⟨n', mk', rl', hB'⟩ := hCB
      exact ⟨e1, hB'.ini⟩
    · exact ⟨e1, (f.I (by decide) (e0 b e _ _ (by omega) (by omega))).trans j2, (f.I (by decide) (e0 b e _ _ (by omega) (by omega))).trans j3, by rw [f.N (by decide) (e0 b e _ _ (by omega) (by omega))]; exact j4, by rw [f.N (by decide) (e0 b e _ _ (by omega) (by omega))]; exact j5⟩
  · intro b hb hq
    rw [h3, f.I (by decide) (nx _ _ _ (by simp [nw_t])), f.I (by decide) (nx _ _ _ (by simp [nw_t]))] at hq
    by_cases e : b = s
    · subst e
      exact ⟨Slot.mk hV hCV ⟨_, _, _, hB0⟩ (fun n n1 n7 => Or.inl (hfo.2.2 n (by omega))), DcS.mk hV hCV ⟨0, by omega, hfo.2.1, fun mk R q k a c => absurd a (by omega)⟩⟩
    · have hqk : us S b := by
        rcases hq with q | q
        · exact absurd ((nI_eq (by omega) (by omega)).mp q).symm e
        · exact Or.inr q
      obtain ⟨s1, s2⟩ := cSl b hb hqk
      have hd2 : DcS S2 b := s2.fg f (nx _ _ _ (fun z => by have := z.2.2.1 rfl; omega)) (fun k => nx _ _ _ (by simp [nw_t])) (nu b e)
      by_cases e2 : b = cc'
      · subst e2
        exact ⟨Slot.mk hW (hC.fg f (nu b e)) hCB ((s1 W' hW hC).2.fg f (fun k => ⟨nx _ _ _ (fun z => by have := z.2.2.2.2.1 rfl; omega), nx _ _ _ (by simp [nw_t])⟩)), hd2⟩
      · refine ⟨s1.fg f ⟨nx _ _ _ (fun z => by have := z.2.2.1 rfl; omega), fun x k x1 x2 => nx _ _ _ (fun z => ?_)⟩ (nu b e), hd2⟩
        obtain ⟨-, -, -, y1, y2, y3, -⟩ := z
        omega
  · exact cBl.sm f ⟨nx _ _ _ (by simp [nw_t]), nx _ _ _ (by simp [nw_t]), nx _ _ _ (by simp [nw_t])⟩
theorem tWld_p {a b k : Nat} (h : tWld a b k = true) : b = 0 ∧ (a = 12 ∧ k ≠ 33 ∧ k ≠ 58 ∧ k ≠ 43 ∧ k ≠ 82 ∨ a = 1307 ∨ a = 1308 ∧ 3 ≤ k ∨ a = 1322 ∧ 1173 ≤ k ∨ a = 1323 ∧ k = 1 ∨ 1316 ≤ a ∧ a ≤ 1319 ∨ a = 1344 ∨ a = 1345 ∨ a = 1346 ∨ a = 1349) := by
  simp [tWld, tLn, tRs, tRq, tNb, tNx, tAT, tPa] at h
  omega
def wf_t (s a b k : Nat) : Prop := (a = 4 ∧ b = 0 ∨ 500 ≤ a ∧ a ≤ 510 ∨ a = 11 ∧ b = 0 ∧ k = 1 ∨ a = 8 ∧ b = 12 ∨ (a = 902 ∨ a = 903) ∧ b = 12 ∨ b = s ∧ (a = 9 ∨ a = 1002 ∨ a = 1003 ∨ a = 1005 ∨ a = 1006 ∧ 1 ≤ k ∨ a = 1007 ∨ a = 1008)) ∨ (b = 0 ∧ (a = 12 ∧ k ≠ 33 ∧ k ≠ 58 ∧ k ≠ 43 ∧ k ≠ 82 ∨ a = 1307 ∨ a = 1308 ∧ 3 ≤ k ∨ a = 1322 ∧ 1173 ≤ k ∨ a = 1323 ∧ k = 1 ∨ 1316 ≤ a ∧ a ≤ 1319 ∨ a = 1344 ∨ a = 1345 ∨ a = 1346 ∨ a = 1349))
def ww_t (s a b k : Nat) : Prop := (a = 4 ∧ b = 0 ∨ 500 ≤ a ∧ a ≤ 510 ∨ a = 11 ∧ b = 0 ∧ k = 1 ∨ a = 8 ∧ b = 12 ∨ (a = 902 ∨ a = 903) ∧ b = 12 ∨ b = s ∧ (a = 9 ∨ a = 1002 ∨ a = 1003 ∨ a = 1005 ∨ a = 1006 ∧ 1 ≤ k ∨ a = 1007 ∨ a = 1008)) ∨ (b = s ∧ (a = 1009 ∨ a = 0 ∧ (k = 2 ∨ k = 12) ∨ a = 109)) ∨ a = 11010 ∨ (b = 0 ∧ (a = 11 ∧ (k = 3 ∨ k = 10) ∨ a = 7 ∨ a = 801 ∨ a = 8 ∧ k < 2)) ∨ (b = 0 ∧ (a = 12 ∧ k ≠ 43 ∧ k ≠ 82 ∨ a = 1306 ∧ k < 1175 ∨ a = 1307 ∨ a = 1308 ∨ a = 1322 ∧ 1173 ≤ k ∨ a = 1323 ∧ k = 1 ∨ 1316 ≤ a ∧ a ≤ 1319 ∨ a = 1344 ∨ a = 1345 ∨ a = 1346 ∨ a = 1349))
theorem tWw_p {s a b k : Nat} (h : tWw s a b k) : ww_t s a b k := by
  rcases h with (h | h | h | h | h | h) | h
  · exact Or.inl (tWo_n h)
  · unfold tFo tCt at h
    simp only [Bool.or_eq_true, Bool.and_eq_true, beq_iff_eq] at h
    rcases h with (h | h) | ⟨e, h | h⟩
    · exact Or.inr (Or.inl ⟨h.2, Or.inl h.1⟩)
    · exact Or.inr (Or.inr (Or.inl h))
    · exact Or.inr (Or.inl ⟨e, Or.inr (Or.inl h)⟩)
    · exact Or.inr (Or.inl ⟨e, Or.inr (Or.inr h)⟩)
  · exact Or.inr (Or.inr (Or.inr (Or.inl ⟨h.2.1, Or.inl ⟨h.1, h.2.2⟩⟩)))
  · exact Or.inr (Or.inr (Or.inr (Or.inl ⟨h.2.1, Or.inr (Or.inl h.1)⟩)))
  · exact Or.inr (Or.inr (Or.inr (Or.inl ⟨h.2, Or.inr (Or.inr (Or.inl h.1))⟩)))
  · exact Or.inr (Or.inr (Or.inr (Or.inl ⟨h.2.1, Or.inr (Or.inr (Or.inr ⟨h.1, h.2.2⟩))⟩)))
  · exact Or.inr (Or.inr (Or.inr (Or.inr (tWlt_12 h))))
theorem ww_nw {cc s a b k : Nat} (z : ww_t s a b k) : nw_t cc s a b k := by
  unfold ww_t at z
  refine ⟨?_, ?_, ?_, ?_, ?_, ?_, ?_, ?_, ?_, ?_, ?_, ?_, ?_, ?_, ?_, ?_, ?_⟩ <;> omega
theorem sm_none {W : zWd} (hW : Wok W) : Sm W 1 [] := ⟨by omega, by omega, ce_nil, [], ⟨Nat.zero_le _, fun L hL e => by have := (hW.2.2.2.2.2 L hL).1; omega⟩, fun p hp => absurd hp List.not_mem_nil⟩
theorem st_world {NN A0 B0 : Nat} : pr_world NN (Inv A0 B0) := fun k S _ h => by
  obtain ⟨-, cc, W, bs, hh, q, c4, c3, cW, cT, cB, cV, cK, cS, cP, cL, cKP, cF, cBr, cBs, cI, cSl, cBl⟩ := id h
  obtain ⟨hW, hC, hR⟩ := cW.c
  refine pg_keep (pg_world h.1.1 c3 c4 cT (cL 12 (by omega)) (fun s hs => (cI s hs).1)) h.1.2.1 (fun S2 z h5 => ?_)
  obtain ⟨s, s4, hsc, hk0, hk1, z⟩ := z
  rcases z with ⟨f0, z2, z3, z4⟩ | ⟨V, f0, z2, z3, z4, z5, z6, z7, z8, z9, z10, z58, z33⟩
  · have f : Fg (wf_t s) S S2 := f0.mono (fun a b k y => y.elim (fun y => Or.inl (tWo_n y)) (fun y => Or.inr (tWld_p y)))
    have hus : ¬ us S s := fun hq => by
      rcases hq with q | q | q
      · exact hsc ((nI_eq (by omega) (by omega)).mp (q.symm.trans c3))
      · exact hk0 q.symm
      · exact hk1 q.symm
    refine h.stw c4 c3 cW f (fun a b k y => ?_) h5 ⟨[], z2⟩ (cB.cong (f.I (by decide) (by unfold wf_t; omega)) (f.I (by decide) (by unfold wf_t; omega)) (fun k hk => f.I (by decide) (by unfold wf_t; omega)) (fun k hk => f.I (by decide) (by unfold wf_t; omega))) (fun k hk => ?_) z3 z4
    · unfold wf_t at y
      refine ⟨fun ha => ?_, ?_, ?_, ?_, ?_, ?_, ?_, ?_, ?_, ?_, ?_, ?_, ?_, ?_, ?_, ?_, ?_, ?_, ?_, ?_, ?_, ?_⟩
      · have : b = s := by omega
        rw [this]; exact hus
      all_goals omega
    · obtain ⟨v, v1, v2⟩ := cV k hk
      exact ⟨v, (f.I (by decide) (by unfold wf_t; omega)).trans v1, v2⟩
  · have f : Fg (ww_t s) S S2 := f0.mono (fun a b k y => tWw_p y)
    have hV : Wok V := z6.1
    refine h.neww c4 c3 cW s4 hsc hk0 hk1 f (fun a b k y => ww_nw y) h5 z5 z6 ⟨[], z2⟩ z8 ⟨1, 0, z9.1, z9.2.2.1, z9.2.1, z9.2.2.2, by omega, [], rfl, sm_none hV, fun k hk => absurd hk (Nat.not_lt_zero k)⟩ z10 z58 (fun j hj => ?_) z4 z33 (cBs.2.2.2.fgq f (by unfold ww_t; omega) (fun k => by unfold ww_t; omega)) z7 ?_
    · by_cases e : j = 12
      · rw [e]; exact z3
      · by_cases e0 : j = 0
        · subst e0
          obtain ⟨n, e', t1, t2, t3, t4, t5, t6⟩ := cL 0 (by omega)
          exact ⟨n, 0, (f.N (by decide) (by unfold ww_t; omega)).trans t1, (f.N (by decide) (by unfold ww_t; omega)).trans t2, t3, t4, z9.2.1, Nat.zero_le _⟩
        · exact (cL j hj).fg4 f ⟨by unfold ww_t; omega, by unfold ww_t; omega, by unfold ww_t; omega⟩
    · obtain ⟨n, mk, rl, hB⟩ := cBs.1
      exact ⟨n, mk, rl, hB.fg f ⟨by unfold ww_t; omega, fun x k a b => by unfold ww_t; omega⟩⟩
theorem dW_lv {W : zWd} {mk : Nat → Bool} {R : Nat → Nat → Nat} {L : Nat} (hL : L < wL (dW W mk R)) : (lw (dW W mk R) L).1 = 3 := by
  have hm : lw (dW W mk R) L ∈ dls mk R (wP W) (tl W 3) (tl W 3).length := by
    show (dls mk R (wP W) (tl W 3) (tl W 3).length).getD L ld ∈ _
    have hL' : L < (dls mk R (wP W) (tl W 3) (tl W 3).length).length := hL
    rw [List.getD_eq_getElem?_getD, List.getElem?_eq_getElem hL']
    exact List.getElem_mem hL'
  obtain ⟨f, f1, -, f3⟩ := dls_mem hm
  exact congrArg Prod.fst f3
theorem sm_dual {W : zWd} (hW : Wok W) (hQ : Qd W) {mk : Nat → Bool} {R : Nat → Nat → Nat} (hV : Wok (dW W mk R)) {lv : Nat} {c : List zT} (h : Sm W lv c) : Sm (dW W mk R) lv c := by
  have hl := h.len
  obtain ⟨a1, a2, a3, U, u1, u2⟩ := h
  refine ⟨a1, a2, a3, ?_⟩
  by_cases e : lv = 3
  · refine ⟨tl W 3, ⟨Nat.le_trans (tl3_18 hW hQ) (by omega), fun L hL _ p hp => ?_⟩, fun p hp => ?_⟩
    · have h1 := ((hV.2.2.2.2.2 L hL).2.2.1.2 p hp).1
      rw [dW_lv hL] at h1
      exact (tl_mem hW.2.1).mpr h1
    · have h1 := (a3.1.2 p hp).1
      rw [e] at h1
      exact (tl_mem hW.2.1).mpr h1
  · exact ⟨c.map (fun p => p.1), ⟨by rw [List.length_map]; exact hl, fun L hL q => absurd (q.symm.trans (dW_lv hL)) e⟩, fun p hp => List.mem_map.mpr ⟨p, hp, rfl⟩⟩
theorem pg_dual2 {S : zS} (hs : Sd S) {W : zWd} {cc : Nat} (hcc : gI S 11 0 3 = nI cc) (hc4 : cc < 4) (hw : WR wq S W cc 1306 0 1308 0) (hb : BsC S cc W) (hTL : TLs S) (h6 : ∀ s, s < 4 → gI S 1006 s 0 = nI 0) : Pg mX11_dual 3 [zr 11 0] mX12_dual 2 [zr 12 0] S (fun S2 => S2 = sI S 12 0 0 (nI 0) ∨ Qd W ∧ DuP S S2 cc W) := by
  by_cases hQ : Qd W
  · exact Pg.mono (pg_dual hs hcc hc4 hw hb hTL h6) (fun S2 z => z.imp id (fun y => ⟨hQ, y⟩))
  · obtain ⟨hW, hC, hR⟩ := hw.c
    obtain ⟨hc, hT⟩ := wq_WC hC
    refine Ok.mono (cm_dual_n hs hW hcc hc4 hc hQ) fun r S1 z => ?_
    obtain ⟨rfl, rfl⟩ := z
    refine ⟨_, rfl, hs, Ok.mono (rm_dual_n hs hW hR hQ) fun r2 S2 y => ?_⟩
    obtain ⟨rfl, rfl⟩ := y
    exact ⟨rfl, Or.inl rfl⟩
def du_t (cc s a b k : Nat) : Prop := (b = cc ∧ (a = 0 ∧ k = 2 ∨ 103 ≤ a ∧ a ≤ 108)) ∨ (b = s ∧ (a = 9 ∨ 1002 ≤ a ∧ a ≤ 1009 ∧ (a = 1006 → 1 ≤ k) ∨ a = 0 ∧ (k = 2 ∨ k = 12) ∨ a = 109)) ∨ (b = 11 ∧ (a = 8 ∨ a = 902 ∨ a = 903)) ∨ (700 ≤ a ∧ a ≤ 703 ∨ a = 10300 ∨ a = 11010 ∨ 301 ≤ a ∧ a ≤ 302) ∨ (b = 0 ∧ (a = 11 ∧ (k = 3 ∨ k = 10) ∨ a = 7 ∨ a = 801 ∨ a = 1306 ∧ k < 1173 ∨ a = 1307 ∨ a = 12 ∧ k = 58)) ∨ sc_t a b k
theorem tDu_p {cc s a b k : Nat} (h : tDu cc s a b k) : du_t cc s a b k := by
  rcases h with (h | h | h | h | h | h) | h
  · obtain ⟨e, h | h | h⟩ := h
    · exact Or.inl ⟨e, Or.inl h⟩
    · exact Or.inl ⟨e, Or.inr h⟩
    · exact Or.inr (Or.inr (Or.inr (Or.inl (Or.inl h))))
  · rcases h with ⟨e, h⟩ | h | h | h | h
    · exact Or.inr (Or.inl ⟨e, by omega⟩)
    · exact Or.inr (Or.inr (Or.inl ⟨h.2, Or.inl h.1⟩))
    · exact Or.inr (Or.inr (Or.inl ⟨h.2, Or.inr h.1⟩))
    · exact Or.inr (Or.inr (Or.inr (Or.inl (by omega))))
    · exact Or.inr (Or.inr (Or.inr (Or.inl (by omega))))
  · unfold tFo tCt at h
    simp only [Bool.or_eq_true, Bool.and_eq_true, beq_iff_eq] at h
    rcases h with (h | h) | ⟨e, h | h⟩
    · exact Or.inr (Or.inl ⟨h.2, Or.inr (Or.inl ⟨by omega, by omega, by omega⟩)⟩)
    · exact Or.inr (Or.inr (Or.inr (Or.inl (by omega))))
    · exact Or.inr (Or.inl ⟨e, Or.inr (Or.inr (Or.inl h))⟩)
    · exact Or.inr (Or.inl ⟨e, Or.inr (Or.inr (Or.inr h))⟩)
  · exact Or.inr (Or.inr (Or.inr (Or.inr (Or.inl ⟨h.2.1, Or.inl ⟨h.1, h.2.2⟩⟩))))
  · exact Or.inr (Or.inr (Or.inr (Or.inr (Or.inl ⟨h.2.1, Or.inr (Or.inl h.1)⟩))))
  · exact Or.inr (Or.inr (Or.inr (Or.inr (Or.inl ⟨h.2, Or.inr (Or.inr (Or.inl h.1))⟩))))
  · unfold tDv tMd2 at h
    simp only [Bool.or_eq_true] at h
    rcases h with ((((h | h) | h) | h) | h) | h
    · simp [tOw] at h
      exact Or.inr (Or.inr (Or.inr (Or.inr (Or.inr (by unfold sc_t; omega)))))
    · have := tSe_n h
      exact Or.inr (Or.inr (Or.inr (Or.inr (Or.inr (by unfold sc_t; omega)))))
    · simp [t07] at h
      exact Or.inr (Or.inr (Or.inr (Or.inr (Or.inl (by omega)))))
    · simp [tEq] at h
      exact Or.inr (Or.inr (Or.inr (Or.inr (Or.inr (by unfold sc_t; omega)))))
    · simp [t06] at h
      exact Or.inr (Or.inr (Or.inr (Or.inr (Or.inl (by omega)))))
    · simp at h
      by_cases e : k = 58
      · exact Or.inr (Or.inr (Or.inr (Or.inr (Or.inl (by omega)))))
      · exact Or.inr (Or.inr (Or.inr (Or.inr (Or.inr (by unfold sc_t; omega)))))
theorem du_nw {cc s a b k : Nat} (z : du_t cc s a b k) : nw_t cc s a b k := by
  unfold du_t sc_t at z
  refine ⟨?_, ?_, ?_, ?_, ?_, ?_, ?_, ?_, ?_, ?_, ?_, ?_, ?_, ?_, ?_, ?_, ?_⟩ <;> omega
theorem st_dual {NN A0 B0 : Nat} : pr_dual NN (Inv A0 B0) := fun k S _ h => by
  obtain ⟨-, cc, W, bs, hh, q, c4, c3, cW, cT, cB, cV, cK, cS, cP, cL, cKP, cF, cBr, cBs, cI, cSl, cBl⟩ := id h
  obtain ⟨hW, hC, hR⟩ := cW.c
  refine pg_keep (pg_dual2 h.1.1 c3 c4 cW cBs cL (fun s hs => (cI s hs).1)) h.1.2.1 (fun S2 z h5 => ?_)
  rcases z with z | ⟨hQ, s, mk, R, s4, hsc, hk0, hk1, hD, f0, z3, z4, z5, z6, z10, z58, z33, zI, zL, zC⟩
  · rw [z]; exact inv_thr h
  · have f : Fg (du_t cc s) S S2 := f0.mono (fun a b k y => tDu_p y)
    have hV : Wok (dW W mk R) := z4.1
    have hS2 : SR sq S2 W 0 1306 1173 := SR.fg lo_sq cS f (by decide) (fun k hk => by unfold du_t sc_t; omega) (fun k => ⟨by unfold du_t sc_t; omega, by unfold du_t sc_t; omega⟩) (fun k a b => by unfold du_t sc_t; omega)
    obtain ⟨lv, e, q1, q2, q3, q4, q5, c, y1, y2, y3⟩ := hS2
    refine h.neww c4 c3 cW s4 hsc hk0 hk1 f (fun a b k y => du_nw y) h5 z3 z4 ⟨bs, cT.sm f ⟨by unfold du_t sc_t; omega, by unfold du_t sc_t; omega, fun k => by unfold du_t sc_t; omega, fun k => by unfold du_t sc_t; omega⟩⟩ z6 ⟨lv, e, q1, q2, q3, q4, q5, c, y1, sm_dual hW hQ hV y2, y3⟩ z10 z58 (fun j hj => ?_) ?_ z33 zI z5 zC
    · by_cases e : j = 11
      · rw [e]; exact zL
      · exact (cL j hj).fg4 f ⟨by unfold du_t sc_t; omega, by unfold du_t sc_t; omega, by unfold du_t sc_t; omega⟩
    · rw [f.I (by decide) (by unfold du_t sc_t; omega), f.I (by decide) (by unfold du_t sc_t; omega)]; exact cF
