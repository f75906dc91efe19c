/-! pairs that leave Inv: those that only read -/
theorem inv_thr {A0 B0 k : Nat} {S : zS} (h : Inv A0 B0 k S) : Inv A0 B0 (k + 1) (sI S 12 0 0 (nI 0)) := by
  have hs := h.1.1
  have f : Fg (fun a b k => a = 12 ∧ b = 0 ∧ k = 0) S (sI S 12 0 0 (nI 0)) := (Fr.rf.i (T := fun x y k => x == 12 && y == 0 && k == 0) rfl).fg hs (fun a b k z => by simp only [Bool.and_eq_true, beq_iff_eq] at z; exact ⟨z.1.1, z.1.2, z.2⟩)
  have hN : Nice (fun a b k => a = 12 ∧ b = 0 ∧ k = 0) := fun a b k z => by
    obtain ⟨rfl, rfl, rfl⟩ := z
    simp [nice]
  obtain ⟨-, cc, W, bs, hh, q, c4, c3, cW, cT, cB, cV, cK, cS, cP, cL, -⟩ := id h
  refine h.quiet (fg_bm f) (fun a b k z => ?_) (fun j a b => ?_) h.1.2.1 h.1.2.2.1 (fun cc W _ _ _ hb => hb.pl hN f ⟨by omega, fun k => by omega, fun k => by omega, fun k _ => by omega⟩)
  · obtain ⟨rfl, rfl, rfl⟩ := z
    simp [qu_t, nic0]
  · exact (cL j b).cong rfl rfl (by rw [gI_sI, if_neg (by omega)])
theorem st_fault {NN A0 B0 : Nat} : pr_fault NN (Inv A0 B0) := fun k S _ h => by
  obtain ⟨-, cc, W, bs, hh, q, c4, c3, cW, cT, cB, cV, cK, cS, cP, cL, cKP, cF, -⟩ := id h
  exact pg_keep (pg_fault h.1.1 cF) h.1.2.1 (fun S2 e _ => by rw [e]; exact inv_thr h)
theorem st_broken {NN A0 B0 : Nat} : pr_broken NN (Inv A0 B0) := fun k S _ h => by
  obtain ⟨-, cc, W, bs, hh, q, c4, c3, cW, cT, cB, cV, cK, cS, cP, cL, cKP, cF, cBr, -⟩ := id h
  exact pg_keep (pg_broken h.1.1 cBr) h.1.2.1 (fun S2 e _ => by rw [e]; exact inv_thr h)
theorem st_leaves {NN A0 B0 : Nat} : pr_leaves NN (Inv A0 B0) := fun k S _ h => by
  obtain ⟨-, cc, W, bs, hh, q, c4, c3, cW, cT, cB, cV, cK, cS, -⟩ := id h
  obtain ⟨lv, c, hS, s1, s2, -⟩ := cS.get
  exact pg_keep (pg_leaves h.1.1 (s1.trans s2.symm)) h.1.2.1 (fun S2 e _ => by rw [e]; exact inv_thr h)
theorem st_act {NN A0 B0 : Nat} : pr_act NN (Inv A0 B0) := fun k S a _ h => by
  obtain ⟨-, cc, W, bs, hh, q, c4, c3, cW, -⟩ := id h
  obtain ⟨hW, hC, hR⟩ := cW.c
  exact pg_keep (pg_act h.1.1 c3 c4 hC.2.1 hR.2.1 hW.2.1.1 (fun a ha => (hC.2.2.2.1 a ha).1.trans (hR.2.2.2.1 a ha).1.symm) a) h.1.2.1 (fun S2 e _ => by rw [e]; exact inv_thr h)
theorem st_law {NN A0 B0 : Nat} : pr_law NN (Inv A0 B0) := fun k S a w _ h => by
  obtain ⟨-, cc, W, bs, hh, q, c4, c3, cW, -⟩ := id h
  obtain ⟨hW, hC, hR⟩ := cW.c
  exact pg_keep (pg_law h.1.1 c3 c4 hC.2.2.1 hR.2.2.1 hW.2.2.2.1 (fun l hl => (hC.2.2.2.2.1 l hl).trans (hR.2.2.2.2.1 l hl).symm) (fun l hl => (hC.2.2.2.2.2.1 l hl).trans (hR.2.2.2.2.2.1 l hl).symm) a w) h.1.2.1 (fun S2 e _ => by rw [e]; exact inv_thr h)
theorem st_count {NN A0 B0 : Nat} : pr_count NN (Inv A0 B0) := fun k S a _ h => by
  obtain ⟨-, cc, W, bs, hh, q, c4, c3, cW, cT, cB, cV, cK, cS, -⟩ := id h
  obtain ⟨hW, hC, hR⟩ := cW.c
  obtain ⟨lv, c, hS, s1, s2, s3, s4, s5⟩ := cS.get
  obtain ⟨w, w1, w3, w4, w5, w6⟩ := cB
  have w5 : gI S 1306 0 3 = nI w := w5
  have s4 : gI S 1306 0 1174 = nI c.length := s4
  exact pg_keep (pg_count h.1.1 c3 c4 (hC.1.trans hR.1.symm) (hC.2.1.trans hR.2.1.symm) (hC.2.2.1.trans hR.2.2.1.symm) (s3.trans s4.symm) (w4.trans w5.symm) (cT.2.1.trans cT.2.2.1.symm) a) h.1.2.1 (fun S2 e _ => by rw [e]; exact inv_thr h)
theorem wr_uniq {S : zS} {W V : zWd} {cc bb : Nat} (h4 : cc < 4) (h5 : bb < 4) (h : gI S 11 0 3 = nI cc) (g : gI S 11 0 3 = nI bb) (hw : WR wq S W cc 1306 0 1308 0) (hv : WR wq S V bb 1306 0 1308 0) : bb = cc ∧ V = W := by
  have e : cc = bb := (nI_eq (by omega) (by omega)).mp (h.symm.trans g)
  subst e
  obtain ⟨hW, hC, -⟩ := hw.c
  obtain ⟨hV, hD, -⟩ := hv.c
  exact ⟨rfl, wqC_uniq hV hW hD hC⟩
theorem st_trees {NN A0 B0 : Nat} : pr_trees NN (Inv A0 B0) := fun k S a _ h => by
  obtain ⟨-, cc, W, bs, hh, q, c4, c3, cW, cT, cB, cV, cK, cS, cP, cL, cKP, cF, cBr, cBs, -⟩ := id h
  refine pgj_keep (pg_trees2 h.1.1 c3 c4 cW cBs a) h.1.2.1 (fun S2 e h5 => ?_)
  obtain ⟨f, hb⟩ := e
  have hf : ∀ a b k, tTc a b k = true → b = 0 ∧ (a = 12 ∧ (k = 0 ∨ k = 33) ∨ a = 1322 ∨ a = 1323 ∨ a = 1334 ∨ a = 1335) := fun a b k z => by
    simp [tTc, tOw, tTq] at z
    omega
  refine h.quiet (fg_bm (f.fg h.1.1 (U := fun a b k => b = 0 ∧ (a = 12 ∧ (k = 0 ∨ k = 33) ∨ a = 1322 ∨ a = 1323 ∨ a = 1334 ∨ a = 1335)) hf)) (fun a b k z => ?_) (fun j a b => (cL j b).cong (gN_22 f.2.2) (gN_22 f.2.2) (f.1 _ _ _ (bfalse fun z => by have := hf _ _ _ z; omega))) h5 ((gN_22 f.2.2).trans h.1.2.2.1) (fun cc' W' q1 q2 q3 _ => ?_)
  · obtain ⟨rfl, (⟨rfl, (rfl | rfl)⟩ | rfl | rfl | rfl | rfl)⟩ := z <;> simp [qu_t, nic0]
  · obtain ⟨rfl, rfl⟩ := wr_uniq c4 q1 c3 q2 cW q3
    exact hb
theorem nice_tTz : Nice tTz := fun a b k z => by
  rcases z with ⟨rfl, rfl, rfl⟩ | ⟨rfl, rfl⟩ <;> simp [nice]
/-- the out row written, thrown or not -/
theorem inv_tz {A0 B0 k : Nat} {S S3 : zS} (h : Inv A0 B0 k S) (x3 : Fg tTz (bmp S) S3) (x4 : gN S3 5000 0 = 1) (h5 : gE S3 5000 0 = true) (cL : TLs S) : Inv A0 B0 (k + 1) S3 := by
  refine h.quiet x3 (fun a b k z => ?_) (fun j a b => (cL j b).cong (x3.N (by decide) (by unfold tTz; omega)) (x3.N (by decide) (by unfold tTz; omega)) (x3.I (by decide) (by unfold tTz; omega))) h5 x4 (fun cc W _ _ _ hb => BsC.pl (S := bmp S) hb nice_tTz x3 ⟨by unfold tTz; omega, fun k => by unfold tTz; omega, fun k => by unfold tTz; omega, fun k _ => by unfold tTz; omega⟩)
  rcases z with ⟨rfl, rfl, rfl⟩ | ⟨rfl, rfl⟩ <;> simp [qu_t, nic0]
theorem st_term {NN A0 B0 : Nat} : pr_term NN (Inv A0 B0) := fun n f k S a L Po _ h hL K => by
  obtain ⟨-, cc, W, bs, hh, q, c4, c3, cW, cT, cB, cV, cK, cS, cP, cL, cKP, cF, cBr, cBs, -⟩ := id h
  refine pg_term h.1.1 h.1.2.1 h.1.2.2.1 cS cL a hL (fun v S1 hv hs1 hE1 z => K v S1 hv hs1 (Ok.mono (Ok.keepE z) fun r2 S2 y => ?_))
  obtain ⟨⟨b, y1, y2, y3⟩, hE2⟩ := y
  refine ⟨b, y1, y2, Ok.mono (Ok.keepE y3) fun r3 S3 x => ?_⟩
  obtain ⟨⟨x1, x2, x3, x4⟩, hE3⟩ := x
  refine ⟨x1, x2, ?_⟩
  exact inv_tz h x3 x4 (hE3 _ _ (hE2 _ _ hE1)) cL
theorem st_termAt {NN A0 B0 : Nat} : pr_termAt NN (Inv A0 B0) := fun k S a b _ h => by
  obtain ⟨-, cc, W, bs, hh, q, c4, c3, cW, cT, cB, cV, cK, cS, cP, cL, cKP, cF, cBr, cBs, -⟩ := id h
  refine pg_keep (pg_termAt h.1.1 c3 c4 cW cS cL a b) h.1.2.1 (fun S2 e h5 => ?_)
  have f : Fr (fun x y k => tWx x y k || tWr x y k) S S2 := by
    obtain ⟨S1, e1, e2⟩ := e
    have g1 : Fr (fun x y k => tWx x y k || tWr x y k) S S1 := by
      rcases e1 with e1 | e1
      · rw [e1]; exact Fr.rf
      · exact e1.mono fun x y k z => by simp [z]
    rcases e2 with e2 | e2
    · rw [e2]; exact g1.i (by simp [tWr])
    · exact g1.tr (e2.mono fun x y k z => by simp [z])
  have hf : ∀ x y k, (tWx x y k || tWr x y k) = true → y = 0 ∧ (x = 12 ∧ k ≠ 2 ∧ k ≠ 13 ∧ k ≠ 33 ∧ k ≠ 43 ∧ k ≠ 58 ∧ k ≠ 82 ∨ 1100 ≤ x ∧ x ≤ 1102 ∨ x = 10 ∨ 1316 ≤ x ∧ x ≤ 1319 ∨ x = 1359 ∨ x = 1360 ∨ x = 1361) := fun x y k z => by
    simp [tWx, tWr, tWc, tWb, tWq, tPa] at z
    omega
  have fg := f.fg h.1.1 (U := fun x y k => y = 0 ∧ (x = 12 ∧ k ≠ 2 ∧ k ≠ 13 ∧ k ≠ 33 ∧ k ≠ 43 ∧ k ≠ 58 ∧ k ≠ 82 ∨ 1100 ≤ x ∧ x ≤ 1102 ∨ x = 10 ∨ 1316 ≤ x ∧ x ≤ 1319 ∨ x = 1359 ∨ x = 1360 ∨ x = 1361)) hf
  refine h.quiet (fg_bm fg) (fun x y k z => ?_) (fun j a b => (cL j b).cong (gN_22 f.2.2) (gN_22 f.2.2) (fg.I (by decide) (by omega))) h5 ((gN_22 f.2.2).trans h.1.2.2.1) (fun _ _ _ _ _ hb => hb.pl (fun x y k z => ?_) fg ⟨by omega, fun k => by omega, fun k => by omega, fun k _ => by omega⟩)
  · unfold qu_t nic0; refine ⟨⟨?_, ?_, ?_, ?_, ?_⟩, ?_, ?_, ?_, ?_, ?_, ?_, ?_, ?_, ?_, ?_, ?_, ?_, ?_, ?_, ?_, ?_⟩ <;> omega
  · unfold nice; omega
