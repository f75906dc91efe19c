/-! pairs that leave Inv: space, table, world, dual -/
theorem RB.w {S S1 : zS} {W : zWd} (hE : Eok (wA W) (we W)) {L : Nat} {pvs : Nat → Nat → Bool} {bss : Nat → Nat → Nat → Nat} (h : RB S W 0 L pvs bss) (hI : ∀ x k, x = 1322 ∧ k = 0 ∨ x = 1323 ∧ k = 0 ∨ 1324 ≤ x ∧ x ≤ 1332 → gI S1 x 0 k = gI S x 0 k) (hJ : ∀ k, gJ S1 1334 0 k = gJ S 1334 0 k) : RB S1 W 0 L pvs bss := by
  have f : Fr (fun a b k => decide (¬ (b = 0 ∧ (a = 1322 ∧ k = 0 ∨ a = 1323 ∧ k = 0 ∨ 1324 ≤ a ∧ a ≤ 1332 ∨ a = 1334)))) S ((fun x y k => if 1322 ≤ x ∧ x ≤ 1332 ∧ y = 0 then S1.1 x y k else S.1 x y k, fun x y k => if x = 1334 ∧ y = 0 then S1.2.1 x y k else S.2.1 x y k, S.2.2) : zS) := by
    refine ⟨fun a b k z => ?_, fun a b k z => ?_, rfl⟩
    · have z := of_decide_eq_false z
      show (if 1322 ≤ a ∧ a ≤ 1332 ∧ b = 0 then gI S1 a b k else gI S a b k) = gI S a b k
      split
      · rename_i q
        obtain ⟨q1, q2, rfl⟩ := q
        exact hI a k (by omega)
      · rfl
    · show (if a = 1334 ∧ b = 0 then gJ S1 a b k else gJ S a b k) = gJ S a b k
      split
      · rename_i q
        obtain ⟨rfl, rfl⟩ := q
        exact hJ k
      · rfl
  have g := RB.fr hE (by omega) h f (by simp) (by simp) (fun s a b => ⟨by simp, by simp, by simp, by simp⟩) (fun k a b => ⟨by simp, by simp, by simp⟩) (fun k a b => by simp) (fun i a b => by simp)
  refine RB.fg g (fun x k a b => ?_) (fun k => ?_)
  · show gI S1 x 0 k = (if 1322 ≤ x ∧ x ≤ 1332 ∧ 0 = 0 then S1.1 x 0 k else S.1 x 0 k)
    rw [if_pos ⟨a, b, rfl⟩]
    rfl
  · show gJ S1 1334 0 k = (if 1334 = 1334 ∧ 0 = 0 then S1.2.1 1334 0 k else S.2.1 1334 0 k)
    rw [if_pos ⟨rfl, rfl⟩]
    rfl
theorem bsc_cw {S S1 : zS} {cc : Nat} {W : zWd} (hW : Wok W) (h : BsC S cc W) {T : Nat → Nat → Nat → Prop} (f : Fg T S S1) (t : ¬ T 0 cc 2 ∧ ∀ x k, 103 ≤ x → x ≤ 108 → ¬ T x cc k) (t1 : ¬ T 12 0 33 ∧ ¬ T 12 0 43 ∧ ∀ k, ¬ T 1342 0 k) (t2 : ∀ k, k < 444 → ¬ T 1322 0 k) (t3 : ¬ T 1323 0 0 ∧ (∀ x k, 1324 ≤ x → x ≤ 1332 → ¬ T x 0 k) ∧ ∀ k, ¬ T 1334 0 k) (t4 : ∀ k, k < 444 → k ≠ 3 → ¬ T 1306 0 k) : BsC S1 cc W := by
  obtain ⟨⟨n, mk, rl, hB⟩, hcr, hO, hI⟩ := h
  have e33 : gI S1 12 0 33 = gI S 12 0 33 := f.I (by decide) t1.1
  refine ⟨⟨n, mk, rl, hB.fg f t⟩, fun z => ?_, fun z k hk k3 => ?_, hI.fgq f t1.2.1 t1.2.2⟩
  · obtain ⟨L, p, b, q⟩ := hcr (e33.symm.trans z)
    refine ⟨L, p, b, RB.w hW.2.1 q (fun x k hx => ?_) (fun i => f.J (by decide) (t3.2.2 _))⟩
    rcases hx with ⟨rfl, rfl⟩ | ⟨rfl, rfl⟩ | hx
    · exact f.I (by decide) (t2 0 (by omega))
    · exact f.I (by decide) t3.1
    · exact f.I (by omega) (t3.2.1 x k hx.1 hx.2)
  · rw [f.I (by decide) (t2 k hk), f.I (by decide) (t4 k hk k3)]
    exact hO (e33.symm.trans z) k hk k3
theorem WR.w {S S1 : zS} {W : zWd} {cc : Nat} (h : WR wq S W cc 1306 0 1308 0) {T : Nat → Nat → Nat → Prop} (f : Fg T S S1) (t : ∀ a k, a = 9 ∨ 1002 ≤ a ∧ a ≤ 1009 → ¬ T a cc k) (t1 : ∀ k, k < 444 → k ≠ 3 → ¬ T 1306 0 k) (t2 : ∀ i, i < 3 → ¬ T 1308 0 i) : WR wq S1 W cc 1306 0 1308 0 :=
  wlo_wq _ _ _ _ _ _ _ _ _ (fun a k z => (f.I (by have := wI_f z; omega) (t a k (by have := wI_f z; omega))).symm) (fun a k z => (f.J (by have := wJ_f z; omega) (t a k (by have := wJ_f z; omega))).symm) (fun k hk k3 => (f.I (by decide) (by rw [Nat.zero_add]; exact t1 k hk k3)).symm) (fun i hi => (f.J (by decide) (by rw [Nat.zero_add]; exact t2 i hi)).symm) h
/-- slots in use -/
def us (S : zS) (b : Nat) : Prop := gI S 11 0 3 = nI b ∨ gI S 1204 0 0 = nI b ∨ gI S 1204 0 1 = nI b
theorem us_k {S : zS} {m x : Nat} (hm : m < 2) (h : gI S 1204 0 m = nI x) : us S x := by
  have : m = 0 ∨ m = 1 := by omega
  rcases this with rfl | rfl
  · exact Or.inr (Or.inl h)
  · exact Or.inr (Or.inr h)
/-- a frame in which the world at hand stays; its table, the tape and a free slot may change -/
def pw_t (S : zS) (a b k : Nat) : Prop := (a = 9 ∨ 1002 ≤ a ∧ a ≤ 1009 → ¬ us S b) ∧ (a = 1006 → 1 ≤ k) ∧ a ≠ 1204 ∧ a ≠ 1391 ∧ a ≠ 1392 ∧ a ≠ 1393 ∧ (a = 7 ∨ a = 801 → b ≠ 1 ∧ b ≠ 2) ∧ (a = 8 ∨ a = 902 ∨ a = 903 → b = 12) ∧ a ≠ 0 ∧ ¬ (103 ≤ a ∧ a ≤ 111) ∧ (a = 1306 → k = 3 ∨ 444 ≤ k ∧ k < 1173) ∧ (a = 1308 → 3 ≤ k) ∧ (a = 11 → k = 1) ∧ (a = 12 → k ≠ 33 ∧ k ≠ 43 ∧ k ≠ 58 ∧ k ≠ 82) ∧ a ≠ 1357 ∧ (a = 1322 → 1173 ≤ k) ∧ (a = 1323 → k = 1) ∧ ¬ (1324 ≤ a ∧ a ≤ 1334) ∧ a ≠ 1342 ∧ ¬ (200 ≤ a ∧ a ≤ 202) ∧ a ≠ 3 ∧ a ≠ 5000
theorem Inv.stw {A0 B0 k : Nat} {S S1 : zS} (h : Inv A0 B0 k S) {cc : Nat} {W : zWd} (c4 : cc < 4) (c3 : gI S 11 0 3 = nI cc) (cW : WR wq S W cc 1306 0 1308 0) {T : Nat → Nat → Nat → Prop} (f : Fg T S S1) (hT : ∀ a b k, T a b k → pw_t S a b k) (h5 : gE S1 5000 0 = true) (hb : ∃ bs, TapeR S1 bs) (hTB : TB S1 0 1306 0) (hTv : TbV S1 (wP W)) (hTL : TL S1 12) (hF : gI S1 4 0 14 = gI S1 12 0 13) : Inv A0 B0 (k + 1) S1 := by
  obtain ⟨-, cc', W', bs, hh, q, d4, d3, dW, cT, cB, cV, cK, cS, cP, cL, cKP, cF, cBr, cBs, cI, cSl, cBl⟩ := id h
  obtain ⟨rfl, rfl⟩ := wr_uniq c4 d4 c3 d3 cW dW
  obtain ⟨hW, hC, hR⟩ := cW.c
  have nx : ∀ a b k, ¬ pw_t S a b k → ¬ T a b k := fun a b k q z => q (hT _ _ _ z)
  have nu : ∀ b, us S b → ∀ a k, a = 9 ∨ 1002 ≤ a ∧ a ≤ 1009 → ¬ T a b k := fun b hb a k ha z => (hT _ _ _ z).1 ha hb
  have hu : ∀ m s, m < 2 → s < 4 → gI S 1204 0 m = nI s → ∀ a k, a = 9 ∨ 1002 ≤ a ∧ a ≤ 1009 → ¬ T a s k := fun m s hm _ hq => nu s (us_k hm hq)
  have hfr : ∀ a b k, T a b k → fr_t a b k := fun a b k z => by
    obtain ⟨-, -, z3, z4, z5, z6, z7, z8, -⟩ := hT _ _ _ z
    unfold fr_t; omega
  obtain ⟨bs1, p1⟩ := hb
  refine h.new (fg_bm f) h5 ((f.N (by decide) (nx _ _ _ (by simp [pw_t]))).trans h.1.2.2.1) ⟨cc', W', bs1, hh, q, c4, (f.I (by decide) (nx _ _ _ (by simp [pw_t]))).trans c3, ?_, p1, hTB, hTv, cK.fr f hfr hu, ?_, ?_, ?_, fun m hm => KP.fr hm (cKP m hm) f hfr (fun x hx hq => hu m x hm hx hq), hF, ?_, ?_, ?_, ?_, ?_⟩
  · exact cW.w f (nu cc' (Or.inl c3)) (fun k k4 k3 => nx _ _ _ (by simp [pw_t]; omega)) (fun i hi => nx _ _ _ (by simp [pw_t]; omega))
  · exact SR.fg lo_sq cS f (by decide) (fun k hk => nx _ _ _ (by simp [pw_t])) (fun k => ⟨nx _ _ _ (by simp [pw_t]), nx _ _ _ (by simp [pw_t])⟩) (fun k a b => nx _ _ _ (by simp [pw_t]; omega))
  · exact Pst.fg lo_sq cP f ⟨nx _ _ _ (by simp [pw_t]), nx _ _ _ (by simp [pw_t]), nx _ _ _ (by simp [pw_t])⟩ (fun j k a b => ⟨fun _ => nx _ _ _ (by simp [pw_t]; omega), nx _ _ _ (by simp [pw_t]; omega), nx _ _ _ (by simp [pw_t]; omega)⟩) (fun k => nx _ _ _ (by simp [pw_t]))
  · intro j hj
    by_cases e : j = 12
    · rw [e]; exact hTL
    · exact (cL j hj).fg4 f ⟨nx _ _ _ (by simp [pw_t]; omega), nx _ _ _ (by simp [pw_t]; omega), nx _ _ _ (by simp [pw_t]; omega)⟩
  · rw [f.I (by decide) (nx _ _ _ (by simp [pw_t])), f.I (by decide) (nx _ _ _ (by simp [pw_t]))]; exact cBr
  · exact bsc_cw hW cBs f ⟨nx _ _ _ (by simp [pw_t]), fun x k a b => nx _ _ _ (fun z => by have := z.2.2.2.2.2.2.2.2.2.1; omega)⟩ ⟨nx _ _ _ (by simp [pw_t]), nx _ _ _ (by simp [pw_t]), fun k => nx _ _ _ (by simp [pw_t])⟩ (fun k hk => nx _ _ _ (by simp [pw_t]; omega)) ⟨nx _ _ _ (by simp [pw_t]), fun x k a b => nx _ _ _ (fun z => by obtain ⟨-, -, -, -, -, -, -, -, -, -, -, -, -, -, -, -, -, z1, -⟩ := z; omega), fun k => nx _ _ _ (by simp [pw_t])⟩ (fun k hk k3 => nx _ _ _ (by simp [pw_t]; omega))
  · exact cI.fg f (fun b => ⟨nx _ _ _ (by simp [pw_t]), nx _ _ _ (by simp [pw_t]), nx _ _ _ (by simp [pw_t]), nx _ _ _ (by simp [pw_t])⟩)
  · intro b hb hq
    rw [f.I (by decide) (nx _ _ _ (by simp [pw_t])), f.I (by decide) (nx _ _ _ (by simp [pw_t])), f.I (by decide) (nx _ _ _ (by simp [pw_t]))] at hq
    obtain ⟨s1, s2⟩ := cSl b hb hq
    exact ⟨s1.fg f ⟨nx _ _ _ (by simp [pw_t]), fun x k a b => nx _ _ _ (fun z => by have := z.2.2.2.2.2.2.2.2.2.1; omega)⟩ (nu b hq), s2.fg f (nx _ _ _ (by simp [pw_t])) (fun k => nx _ _ _ (by simp [pw_t])) (nu b hq)⟩
  · exact cBl.sm f ⟨nx _ _ _ (by simp [pw_t]), nx _ _ _ (by simp [pw_t]), nx _ _ _ (by simp [pw_t])⟩
def tS2 (a b k : Nat) : Prop := b = 0 ∧ (a = 7 ∨ a = 801 ∨ a = 12 ∧ k = 0 ∨ a = 1306 ∧ (k = 3 ∨ 444 ≤ k ∧ k < 1173))
theorem st_space {NN A0 B0 : Nat} : pr_space NN (Inv A0 B0) := fun k S a _ h => by
  obtain ⟨-, cc, W, bs, hh, q, c4, c3, cW, cT, cB, cV, cK, cS, cP, cL, cKP, cF, cBr, cBs, cI, cSl, cBl⟩ := id h
  obtain ⟨hW, hC, hR⟩ := cW.c
  refine pg_keep (pg_space h.1.1 a) h.1.2.1 (fun S2 z h5 => ?_)
  rcases z with z | ⟨m, z1, z2⟩
  · rw [z]; exact inv_thr h
  · have f : Fg tS2 S S2 := by
      rw [z1]
      exact Fg.of22 h.1.1 rfl (fun a b k _ n => by unfold tS2 at n; exact sp_x (by omega) (by omega) (by omega) (by omega)) (fun a b k _ n => rfl)
    refine h.stw c4 c3 cW f (fun a b k z => by unfold tS2 at z; refine ⟨?_, ?_⟩ <;> omega) h5 ⟨bs, cT.sm f ⟨by unfold tS2; omega, by unfold tS2; omega, fun k => by unfold tS2; omega, fun k => by unfold tS2; omega⟩⟩ z2 (fun k hk => ⟨0, ?_, by have := hW.1.1; omega⟩) ((cL 12 (by omega)).fg4 f ⟨by unfold tS2; omega, by unfold tS2; omega, by unfold tS2; omega⟩) ?_
    · rw [z1]; unfold spS
      rw [gI_flS, if_neg (by omega), gI_sI, if_neg (by omega), gI_sI, if_neg (by omega), gI_flS, if_pos (by omega)]
    · rw [f.I (by decide) (by unfold tS2; omega), f.I (by decide) (by unfold tS2; omega)]; exact cF
def tT2 (a b k : Nat) : Prop := b = 0 ∧ (a = 801 ∨ a = 12 ∧ (k = 0 ∨ k = 2 ∨ k = 3 ∨ k = 4 ∨ k = 5) ∨ a = 11 ∧ k = 1 ∨ a = 1306 ∧ 444 ≤ k ∧ k < 1173)
theorem st_table {NN A0 B0 : Nat} : pr_table NN (Inv A0 B0) := fun k S a _ h => by
  obtain ⟨-, cc, W, bs, hh, q, c4, c3, cW, cT, cB, cV, cK, cS, cP, cL, cKP, cF, cBr, cBs, cI, cSl, cBl⟩ := id h
  obtain ⟨hW, hC, hR⟩ := cW.c
  refine pg_keep (pg_table h.1.1 cT.tp c3 c4 hC.2.1 hR.2.1 hW.2.1.1 hC.1 hR.1 hW.1.1 hW.1.2.1 (fun a ha => ⟨we W a, (hW.2.1.2 a ha).1, (hW.2.1.2 a ha).2, (hC.2.2.2.1 a ha).1, (hR.2.2.2.1 a ha).1⟩) cB a) h.1.2.1 (fun S2 z h5 => ?_)
  obtain ⟨z1, z2, z3⟩ := z
  have f : Fg tT2 S S2 := by
    rcases z1 with z1 | ⟨m, m3, mt, z1⟩
    · rw [z1]
      exact Fg.of22 h.1.1 rfl (fun a b k _ n => by unfold tT2 at n; exact tbF_x (by omega) (by omega)) (fun a b k _ n => rfl)
    · rw [z1]
      exact Fg.of22 h.1.1 rfl (fun a b k _ n => by unfold tT2 at n; exact tbT_x (by omega) (by omega) (by omega) (by omega)) (fun a b k _ n => rfl)
  refine h.stw c4 c3 cW f (fun a b k z => by unfold tT2 at z; refine ⟨?_, ?_⟩ <;> omega) h5 ⟨[], tape_nil z2.2.1 z2.2.2.1⟩ z3 (fun k hk => ?_) ((cL 12 (by omega)).fg4 f ⟨by unfold tT2; omega, by unfold tT2; omega, by unfold tT2; omega⟩) ?_
  · rcases z1 with z1 | ⟨m, m3, mt, z1⟩
    · obtain ⟨v, v1, v2⟩ := cV k hk
      exact ⟨v, by rw [z1, tbF_x (by omega) (by omega)]; exact v1, v2⟩
    · by_cases e : m * 243 ≤ k ∧ k < m * 243 + bs.length
      · refine ⟨bt (gI S 1200 0 (k - m * 243)) % wP W, ?_, Nat.mod_lt _ (by have := hW.1.1; omega)⟩
        rw [z1]; unfold tbT
        rw [gI_fm, if_neg (fun z => absurd z.1 (by omega)), gI_tkS (by omega), gI_fm, if_pos ⟨rfl, rfl, by omega, by omega⟩]
      · obtain ⟨v, v1, v2⟩ := cV k hk
        exact ⟨v, by rw [z1, tbT_x (by omega) (by omega) (by omega) (by omega)]; exact v1, v2⟩
  · rw [f.I (by decide) (by unfold tT2; omega), f.I (by decide) (by unfold tT2; omega)]; exact cF
