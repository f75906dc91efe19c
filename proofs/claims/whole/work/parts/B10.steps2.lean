/-! pairs that leave Inv: the tape, and those that keep a sum -/
theorem cz_B : ∀ c, c < 256 → (nI c).toInt8.toBitVec.toNat = c := by decide +kernel
def cz (y : Int32) : Nat := y.toInt8.toBitVec.toNat
theorem cz_lt (y : Int32) : cz y < 256 := y.toInt8.toBitVec.isLt
theorem cz_sbt (y : Int32) : sbt (cz y) = y.toInt8.toInt32 := by
  unfold sbt
  have h := cz_B (cz y) (cz_lt y)
  have : (nI (cz y)).toInt8 = y.toInt8 := Int8.toBitVec_inj.mp (BitVec.eq_of_toNat_eq h)
  rw [this]
theorem by5_b (a b c d e : Int32) (j : Nat) : (by5 a b c d e j).toInt8.toInt32 = by5 a b c d e j := by
  unfold by5
  split
  · exact by8_b _ _
  · split
    · exact by8_b _ _
    · split
      · exact by8_b _ _
      · split
        · exact by8_b _ _
        · exact by8_b _ _
theorem TapeR.tp {S : zS} {bs : List Nat} (h : TapeR S bs) : Tp S bs.length := ⟨h.1, h.2.1, h.2.2.1, fun k hk => (h.2.2.2.1.1 k hk).trans (h.2.2.2.2.1 k hk).symm⟩
theorem pg_end2 {S : zS} (hs : Sd S) {bs : List Nat} (h : TapeR S bs) (a : Int32) : Pg mX11_end 2 [zr 11 0, zi a] mX12_end 2 [zr 12 0, zi a] S (fun S2 => (∃ b2, TapeR S2 b2) ∧ Fr tTape S S2) := by
  obtain ⟨h9, h1, h2, h3, h4⟩ := id h
  by_cases ha : 0 ≤ a ∧ a ≤ nI bs.length
  · obtain ⟨m, hm, rfl⟩ := zz_le ha (by omega)
    refine Pg.mono (pg_put (S1 := sI S 11 0 1 (nI m)) hs (ok_X11_end_in hs h1 h9 hm) (ok_X12_end_in (S := sI S 11 0 1 (nI m)) hs h2 h9 hm) rfl) fun S2 e => ?_
    subst e
    have hl : (bs.take m).length = m := by rw [List.length_take]; omega
    have hc : ∀ c, c ∈ bs.take m → c < 256 := fun c hc => h3.2 c (List.mem_of_mem_take hc)
    refine ⟨⟨bs.take m, by omega, by rw [hl]; rfl, by rw [hl]; rfl, ⟨fun k hk => ?_, hc⟩, ⟨fun k hk => ?_, hc⟩⟩, ((Fr.rf.i rfl).i rfl).i rfl⟩
    · rw [hl] at hk
      rw [getD_take hk]; exact h3.1 k (by omega)
    · rw [hl] at hk
      rw [getD_take hk]; exact h4.1 k (by omega)
  · refine Pg.mono (pg_put hs (ok_X11_end_out hs h1 h9 ha) (ok_X12_end_out hs h2 h9 ha) rfl) fun S2 e => ?_
    subst e
    exact ⟨⟨bs, h9, h1, h2, h3, h4⟩, Fr.rf.i rfl⟩
theorem pg_feed2 {S : zS} (hs : Sd S) {bs : List Nat} (h : TapeR S bs) (a b c d e : Int32) : Pg mX11_feed 6 [zr 11 0, zi a, zi b, zi c, zi d, zi e] mX12_feed 6 [zr 12 0, zi a, zi b, zi c, zi d, zi e] S (fun S2 => (∃ b2, TapeR S2 b2) ∧ Fr tTape S S2) := by
  obtain ⟨h9, h1, h2, h3, h4⟩ := id h
  by_cases ht : bs.length + 20 ≤ 940
  · have k1 := ok_X11_feed hs h1 h9 a b c d e
    rw [if_pos ht, if_pos ht] at k1
    have g2 : gI (fed5 S 1200 11 1 bs.length a b c d e) 12 0 2 = nI bs.length := (fed5_x (by decide) (by decide) (by decide)).trans h2
    have k2 := ok_X12_feed (S := fed5 S 1200 11 1 bs.length a b c d e) hs g2 h9 a b c d e
    rw [if_pos ht, if_pos ht] at k2
    refine Pg.mono (pg_put (S1 := fed5 S 1200 11 1 bs.length a b c d e) hs k1 k2 rfl) fun S2 e2 => ?_
    subst e2
    have hl : (bs ++ (List.range 20).map (fun j => cz (by5 a b c d e j))).length = bs.length + 20 := by rw [List.length_append, List.length_map, List.length_range]
    have hg : ∀ k, k < bs.length + 20 → (bs ++ (List.range 20).map (fun j => cz (by5 a b c d e j))).getD k 0 = if k < bs.length then bs.getD k 0 else cz (by5 a b c d e (k - bs.length)) := fun k hk => by
      by_cases q : k < bs.length
      · rw [if_pos q, List.getD_eq_getElem?_getD, List.getElem?_append_left q, ← List.getD_eq_getElem?_getD]
      · rw [if_neg q, List.getD_eq_getElem?_getD, List.getElem?_append_right (by omega), List.getElem?_map, List.getElem?_range (by omega)]
        rfl
    have hc : ∀ x, x ∈ bs ++ (List.range 20).map (fun j => cz (by5 a b c d e j)) → x < 256 := fun x hx => by
      rcases List.mem_append.mp hx with q | q
      · exact h3.2 x q
      · obtain ⟨j, _, rfl⟩ := List.mem_map.mp q
        exact cz_lt _
    refine ⟨⟨bs ++ (List.range 20).map (fun j => cz (by5 a b c d e j)), by omega, ?_, by rw [hl]; exact fed5_f, ⟨fun k hk => ?_, hc⟩, ⟨fun k hk => ?_, hc⟩⟩, ((Fr.rf.fed5 (fun _ => rfl) rfl).i rfl).fed5 (fun _ => rfl) rfl⟩
    · rw [hl, fed5_x (by decide) (by decide) (by decide), gI_sI, if_neg (by decide)]
      exact fed5_f
    · rw [hl] at hk
      rw [hg k hk, fed5_x (by decide) (fun z => absurd z.1 (by decide)) (fun z => absurd z.1 (by decide)), gI_sI, if_neg (fun z => absurd z.1 (by decide)), fed5_A (by decide)]
      by_cases q : k < bs.length
      · rw [if_pos q, if_neg (by omega)]; exact h3.1 k q
      · rw [if_neg q, if_pos (by omega), cz_sbt, by5_b]
    · rw [hl] at hk
      rw [hg k hk, fed5_A (by decide)]
      by_cases q : k < bs.length
      · rw [if_pos q, if_neg (by omega), gI_sI, if_neg (fun z => absurd z.1 (by decide)), fed5_x (by decide) (fun z => absurd z.1 (by decide)) (fun z => absurd z.1 (by decide))]
        exact h4.1 k q
      · rw [if_neg q, if_pos (by omega), cz_sbt, by5_b]
  · have k1 := ok_X11_feed hs h1 h9 a b c d e
    rw [if_neg ht, if_neg ht] at k1
    have k2 := ok_X12_feed hs h2 h9 a b c d e
    rw [if_neg ht, if_neg ht] at k2
    refine Pg.mono (pg_put hs k1 k2 rfl) fun S2 e2 => ?_
    subst e2
    exact ⟨⟨bs, h9, h1, h2, h3, h4⟩, Fr.rf.i rfl⟩
/-- a frame that leaves sums and slots alone: only the tape, faults, told things and scratch may change -/
def pl_t (a b k : Nat) : Prop := sm_t a b k ∧ nic0 a b k ∧ (a = 8 ∨ a = 902 ∨ a = 903 → 12 < b) ∧ a ≠ 1306 ∧ a ≠ 1308 ∧ a ≠ 1357 ∧ (a = 11 → k ≠ 10 ∧ k ≠ 11) ∧ (a = 12 → k ≠ 58 ∧ k ≠ 33 ∧ k ≠ 43) ∧ ¬ (1322 ≤ a ∧ a ≤ 1334) ∧ a ≠ 1342
theorem Inv.plain {A0 B0 k : Nat} {S S1 : zS} (h : Inv A0 B0 k S) {T : Nat → Nat → Nat → Prop} (f : Fg T S S1) (hT : ∀ a b k, T a b k → pl_t a b k) (hTL : ∀ j, 12 < j → j < 19 → TL S1 j) (h5 : gE S1 5000 0 = true) (t5 : ¬ T 5000 0 0) (hb : ∃ bs, TapeR S1 bs) (hF : gI S1 4 0 14 = gI S1 12 0 13) (hBr : gI S1 3 0 1 = gI S1 12 0 82) (hB3 : Bl3 S1) : Inv A0 B0 (k + 1) S1 := by
  obtain ⟨⟨h1, h2, h3, h4, h4'⟩, cc, W, bs, hh, q, c4, c3, cW, cT, cB, cV, cK, cS, cP, cL, cKP, cF, cBr, cBs, cI, cSl, cBl⟩ := id h
  have nx : ∀ a b k, ¬ pl_t a b k → ¬ T a b k := fun a b k q z => q (hT _ _ _ z)
  obtain ⟨bs1, p1⟩ := hb
  refine h.same c4 c3 cW (fg_bm f) (fun a b k z => (hT _ _ _ z).1) h5 ((f.N (by decide) t5).trans h3) ⟨bs1, hh, q, p1, ?_, ?_, ?_, hF, hBr, ?_, ?_, ?_, hB3⟩
  · exact SR.fg lo_sq cS f (by decide) (fun k hk => nx _ _ _ (by simp [pl_t, sm_t, nic0])) (fun k => ⟨nx _ _ _ (by simp [pl_t, sm_t, nic0]), nx _ _ _ (by simp [pl_t, sm_t, nic0])⟩) (fun k a b => nx _ _ _ (by simp [pl_t, sm_t, nic0]))
  · exact Pst.fg lo_sq cP f ⟨nx _ _ _ (by simp [pl_t, sm_t, nic0]), nx _ _ _ (by simp [pl_t, sm_t, nic0]), nx _ _ _ (by simp [pl_t, sm_t, nic0])⟩ (fun j k a b => ⟨fun _ => nx _ _ _ (by simp [pl_t, sm_t, nic0] <;> omega), nx _ _ _ (by simp [pl_t, sm_t, nic0] <;> omega), nx _ _ _ (by simp [pl_t, sm_t, nic0] <;> omega)⟩) (fun k => nx _ _ _ (by simp [pl_t, sm_t, nic0]))
  · intro j hj
    by_cases e : 12 < j
    · exact hTL j e hj
    · exact (cL j hj).fg4 f ⟨nx _ _ _ (by simp [pl_t, sm_t, nic0] <;> omega), nx _ _ _ (by simp [pl_t, sm_t, nic0] <;> omega), nx _ _ _ (by simp [pl_t, sm_t, nic0] <;> omega)⟩
  · obtain ⟨⟨n, mk, rl, hB⟩, hcr, hO, hI⟩ := cBs
    have rc := (RcI.of f ⟨nx _ _ _ (by simp [pl_t, sm_t, nic0]), nx _ _ _ (by simp [pl_t, sm_t, nic0]), fun x k a b => nx _ _ _ (fun z => by obtain ⟨-, -, -, -, -, -, -, -, z1, z2⟩ := z; omega), fun k _ => nx _ _ _ (by simp [pl_t, sm_t, nic0])⟩).rc (W := W)
    exact ⟨⟨n, mk, rl, hB.fg f ⟨nx _ _ _ (by simp [pl_t, sm_t, nic0]), fun x k a b => nx _ _ _ (fun z => by have := z.2.1; unfold nic0 at this; omega)⟩⟩, rc.1 hcr, rc.2.1 hO, rc.2.2 hI⟩
  · exact cI.fg f (fun b => ⟨nx _ _ _ (by simp [pl_t, sm_t, nic0]), nx _ _ _ (by simp [pl_t, sm_t, nic0]), nx _ _ _ (by simp [pl_t, sm_t, nic0]), nx _ _ _ (by simp [pl_t, sm_t, nic0])⟩)
  · exact cSl.nice (fun a b k z => (hT _ _ _ z).2.1) (nx _ _ _ (by simp [pl_t, sm_t, nic0])) f
theorem tTape_pl {a b k : Nat} (h : tTape a b k = true) : b = 0 ∧ (a = 1200 ∨ a = 1301 ∨ a = 11 ∧ k = 1 ∨ a = 12 ∧ (k = 0 ∨ k = 2)) := by
  simp [tTape] at h; omega
theorem inv_tape {A0 B0 k : Nat} {S S1 : zS} (h : Inv A0 B0 k S) (f : Fr tTape S S1) (hb : ∃ bs, TapeR S1 bs) (h5 : gE S1 5000 0 = true) : Inv A0 B0 (k + 1) S1 := by
  obtain ⟨⟨h1, h2, h3, h4, h4'⟩, cc, W, bs, hh, q, c4, c3, cW, cT, cB, cV, cK, cS, cP, cL, cKP, cF, cBr, cBs, cI, cSl, cBl⟩ := id h
  refine h.plain (f.fg h1 (fun a b k z => tTape_pl z)) (fun a b k z => ?_) (fun j a b => (cL j b).cong (gN_22 f.2.2) (gN_22 f.2.2) (f.1 _ _ _ rfl)) h5 (by omega) hb ?_ ?_ ?_
  · obtain ⟨rfl, (rfl | rfl | ⟨rfl, rfl⟩ | ⟨rfl, (rfl | rfl)⟩)⟩ := z <;> simp [pl_t, sm_t, nic0]
  · rw [f.1 4 0 14 rfl, f.1 12 0 13 rfl]; exact cF
  · rw [f.1 3 0 1 rfl, f.1 12 0 82 rfl]; exact cBr
  · obtain ⟨L, b1, b2, b3, b4⟩ := cBl
    exact ⟨L, b1, (gN_22 f.2.2).trans b2, (gN_22 f.2.2).trans b3, (gN_22 f.2.2).trans b4⟩
theorem st_feed {NN A0 B0 : Nat} : pr_feed NN (Inv A0 B0) := fun k S a b c d e _ h => by
  obtain ⟨-, cc, W, bs, hh, q, c4, c3, cW, cT, -⟩ := id h
  exact pg_keep (pg_feed2 h.1.1 cT a b c d e) h.1.2.1 (fun S2 z h5 => inv_tape h z.2 z.1 h5)
theorem st_end {NN A0 B0 : Nat} : pr_end NN (Inv A0 B0) := fun k S a _ h => by
  obtain ⟨-, cc, W, bs, hh, q, c4, c3, cW, cT, -⟩ := id h
  exact pg_keep (pg_end2 h.1.1 cT a) h.1.2.1 (fun S2 z h5 => inv_tape h z.2 z.1 h5)
