/-! what is made is kept: both sides -/
def tRef (a b k : Nat) : Prop := b = 0 ∧ (a = 12 ∧ k ≠ 58 ∧ k ≠ 2 ∧ k ≠ 13 ∧ k ≠ 82 ∧ k ≠ 43 ∨ a = 1344 ∨ a = 1345 ∨ a = 1346 ∨ 1316 ≤ a ∧ a ≤ 1319 ∨ a = 1322 ∧ k < 1173 ∨ a = 1323 ∧ k = 0)
def tMd (a b k : Nat) : Prop := a = 8 ∧ b = 11 ∧ k < 2 ∨ (a = 902 ∨ a = 903) ∧ b = 11
def tKp (a b k : Nat) : Prop := a = 8 ∧ (b = 0 ∨ 3 ≤ b ∧ b ≤ 11) ∧ k < 2 ∨ (a = 902 ∨ a = 903) ∧ (b = 0 ∨ 3 ≤ b ∧ b ≤ 11) ∨ a = 11 ∧ b = 0 ∧ (k = 10 ∨ k = 11)
def tKs (a b k : Nat) : Prop := b = 0 ∧ (a = 12 ∧ k = 58 ∨ a = 1306 ∧ 1173 ≤ k ∨ a = 1357)
theorem tAT_ref (a b k : Nat) (h : tAT a b k = true) : tRef a b k := by
  simp [tAT, tPa] at h
  unfold tRef
  omega
theorem cpR_get {S : zS} {a0 b0 a1 b1 so to lo hi x y k : Nat} : gI (cpR S a0 b0 a1 b1 so to lo hi) x y k = if x = a1 ∧ y = b1 ∧ to + lo ≤ k ∧ k < to + hi then gI S a0 b0 (so + (k - to)) else gI S x y k := rfl
theorem fg_kpS {S : zS} (hs : Sd S) {h e : Nat} : Fg tKs S (kpS S h e) := by
  have e22 : (kpS S h e).2.2 = S.2.2 := by
    unfold kpS held
    split <;> rfl
  refine Fg.of22 hs e22 (fun a b k _ hz => ks_x (fun z => hz (by unfold tKs; omega)) (fun z => hz (by unfold tKs; omega)) (fun z => hz (by unfold tKs; omega))) (fun a b k _ _ => ?_)
  have : (kpS S h e).2.1 = S.2.1 := by
    unfold kpS held
    split <;> rfl
  unfold gJ
  rw [this]
theorem fg_kpM {S : zS} (hs : Sd S) {q p h e0 n1 e1 o : Nat} (hq : q < 8) (a2 : gN S 902 (q + 3) = n1) (a3 : gN S 903 (q + 3) = n1) (h1 : 1 ≤ n1) (h2 : n1 ≤ 1200) (b2 : gN S 902 0 = o) (b3 : gN S 903 0 = o) (h3 : 1 ≤ o) (h4 : o ≤ 1200) (he0 : e0 ≤ 1200) (he1 : e1 ≤ 1200) : Fg tKp S (kpM S q p h e0 n1 e1 o) := by
  unfold kpM
  have f1 : Fg tKp S (tcp S (q + 3) 0 e0 n1) := Fg.tcp hs (by omega) a2 a3 h1 h2 he0 (fun k => ⟨fun _ => by unfold tKp; omega, by unfold tKp; omega, by unfold tKp; omega⟩)
  have f2 : Fg tKp (tcp S (q + 3) 0 e0 n1) (sI (sI (tcp S (q + 3) 0 e0 n1) 11 0 11 (nI p)) 11 0 10 (nI (min 8 (h + 1)))) := Fg.of22 f1.sd rfl (fun a b k _ hz => by rw [gI_sI, if_neg (fun z => hz (by unfold tKp; omega)), gI_sI, if_neg (fun z => hz (by unfold tKp; omega))]) (fun _ _ _ _ _ => rfl)
  have c2 : gN (tcp S (q + 3) 0 e0 n1) 902 0 = o := by rw [tcp_N, gN_room8_x (by omega) (by omega)]; exact b2
  have c3 : gN (tcp S (q + 3) 0 e0 n1) 903 0 = o := by rw [tcp_N, gN_room8_x (by omega) (by omega)]; exact b3
  exact (f1.tr f2).tr (Fg.tcp f2.sd (by omega) c2 c3 h3 h4 he1 (fun k => ⟨fun _ => by unfold tKp; omega, by unfold tKp; omega, by unfold tKp; omega⟩))
/-- made holds a sum: it becomes the sum at hand of the class, and the same sum that of the reference -/
theorem keep2 {T0 : Nat → Nat → Nat → Prop} {S S2 : zS} {W : zWd} {h q lv : Nat} {c : List zT} (hP : Pst sq S W h q) (hA : SR sq S W 0 1306 1173) (hT : TLs S) (hf : Fg T0 S S2)
    (ht : ∀ j k, j ≠ 11 → j < 12 → (k < 2 → ¬ T0 8 j k) ∧ ¬ T0 902 j k ∧ ¬ T0 903 j k) (ht1 : ¬ T0 11 0 10 ∧ ¬ T0 11 0 11 ∧ ¬ T0 12 0 58) (ht2 : ∀ k, (1173 ≤ k → ¬ T0 1306 0 k) ∧ ¬ T0 1357 0 k) (hTL : TLs S2)
    (hc : Ty S2 11 c) (hl : gI S2 8 11 0 = nI lv) (hS : Sm W lv c) : Ok mX11_keepMade 0 (ent 1 [zr 11 0]) [] S2 (fun r S3 => r = some (zi (nI c.length)) ∧ Fg tKp S2 S3 ∧ ∀ T, Fg tRef S3 T → Rz T c → gI T 12 0 48 = nI lv → Ok mX12_keepSum 0 (ent 2 [zr 12 0]) [] T (fun r S4 => r = some (zi (nI c.length)) ∧ Fg tKs T S4 ∧ SR sq S4 W 0 1306 1173 ∧ Pst sq S4 W (min 8 (h + 1)) ((q + 1) % 8) ∧ TLs S4)) := by
  have hs2 := hf.sd
  have hP2 : Pst sq S2 W h q := hP.fg lo_sq hf ht1 (fun j k h1 h2 => ht j k (by omega) (by omega)) (fun k => (ht2 k).2)
  have hA2 : SR sq S2 W 0 1306 1173 := hA.fg lo_sq hf (by omega) (fun k hk => (ht 0 k (by omega) (by omega)).1 hk) (fun k => (ht 0 k (by omega) (by omega)).2) (fun k hk _ => (ht2 k).1 hk)
  obtain ⟨p1, p2, p3, p4, p5, p6⟩ := hP2
  obtain ⟨n1, e9, a1, a2, a3, a4, a5, a6⟩ := hTL (q + 3) (by omega)
  obtain ⟨o, e0, b1, b2, b3, b4, b5, b6⟩ := hTL 0 (by omega)
  obtain ⟨c1, c2, m, c3, c4, c5, c6, c7⟩ := hc
  have hlen := hS.len
  refine Ok.mono (ok_X11_keepMade hs2 p1 p4 p3 p5 rfl a1 a2 (by omega) a4 b5 b1 b2 b6 (by omega) b4 c1 c3 c4 c7 c6 hlen) fun r S3 z => ⟨z.1, ?_, fun T f3 hR hl2 => ?_⟩
  · rw [z.2]
    exact fg_kpM hs2 p5 a1 a2 (by omega) a4 b1 b2 (by omega) b4 (by omega) hlen
  · obtain ⟨z1, rfl⟩ := z
    have h58 : gI T 12 0 58 = nI h := by
      rw [f3.I (by omega) (by unfold tRef; omega), kp_x (by omega) (by omega) (by omega) (by omega)]
      exact p2
    refine Ok.mono (ok_X12_keepSum f3.sd h58 p3 hR.1 (by omega)) fun r2 S4 z2 => ⟨z2.1, by rw [z2.2]; exact fg_kpS f3.sd, ?_⟩
    rw [z2.2]
    refine keep_rel lo_sq ⟨p1, p2, p3, p4, p5, p6⟩ hA2 hTL rfl a1 a2 b1 b2 b5 (by omega) hl hlen (fun x y k hx => f3.I (by omega) (by unfold tRef; omega)) (fun x y hx => f3.N (by omega) (by unfold tRef; omega)) hl2 ⟨c, rfl, hS, fun k hk => ?_⟩
    show (gI S2 902 11 k, gI S2 903 11 k, gI T 1344 0 k, gI T 1345 0 k) = _
    rw [(c2 k hk).1, (c2 k hk).2, (hR.2 k hk).1, (hR.2 k hk).2]
/-- the reference's own world is taken when it has to be -/
def OwS (S S1 : zS) : Prop := gI S 12 0 33 = nI 1 ∧ gI S1 12 0 33 = nI 1 ∧ (∀ k, k < 1173 → gI S1 1322 0 k = gI S 1322 0 k) ∧ gI S1 1323 0 0 = gI S 1323 0 0 ∨ gI S 12 0 33 ≠ nI 1 ∧ gI S1 12 0 33 = nI 1 ∧ gI S1 1323 0 0 = nI 0 ∧ ∀ k, k < 1173 → gI S1 1322 0 k = gI S 1306 0 k
def Cw (S : zS) : Prop := gI S 12 0 33 = nI 1 → ∀ k, k < 444 → k ≠ 3 → gI S 1322 0 k = gI S 1306 0 k
def tOw (a b k : Nat) : Bool := b == 0 && (a == 12 && k == 33 || a == 1322 && decide (k < 1173) || a == 1323 && k == 0)
theorem tOw_ref (a b k : Nat) (h : tOw a b k = true) : tRef a b k := by
  simp [tOw] at h
  unfold tRef
  omega
theorem owS_w {S : zS} {k : Nat} (hk : k < 1173) : gI (owS S) 1322 0 k = gI S 1306 0 k := by
  unfold owS
  rw [gI_sI, if_neg (by omega)]
  show (if 1322 = 1322 ∧ 0 = 0 ∧ 0 + 0 ≤ k ∧ k < 0 + 1173 then gI (sI S 12 0 33 (nI 1)) 1306 0 (0 + (k - 0)) else _) = _
  rw [if_pos (by omega), gI_sI, if_neg (by omega), Nat.zero_add, Nat.sub_zero]
theorem fr_owS {S : zS} : Fr tOw S (owS S) := by
  refine ⟨fun a b k hz => ?_, fun _ _ _ _ => rfl, rfl⟩
  simp [tOw] at hz
  unfold owS
  rw [gI_sI, if_neg (by omega)]
  show (if a = 1322 ∧ b = 0 ∧ 0 + 0 ≤ k ∧ k < 0 + 1173 then gI (sI S 12 0 33 (nI 1)) 1306 0 (0 + (k - 0)) else gI (sI S 12 0 33 (nI 1)) a b k) = _
  rw [if_neg (by omega), gI_sI, if_neg (by omega)]
theorem ok_X12_ownWorld {S : zS} (hs : Sd S) (hO : Cw S) : Ok mX12_ownWorld 0 (ent 2 [zr 12 0]) [] S (fun r S1 => r = none ∧ Fr tOw S S1 ∧ OwS S S1 ∧ ∀ k, k < 444 → k ≠ 3 → gI S1 1322 0 k = gI S1 1306 0 k) := by
  by_cases h : gI S 12 0 33 = nI 1
  · exact Ok.mono (ok_X12_ownWorld_y hs h) fun r S1 z => ⟨z.1, by rw [z.2]; exact Fr.rf, by rw [z.2]; exact Or.inl ⟨h, h, fun _ _ => rfl, rfl⟩, by rw [z.2]; exact hO h⟩
  · refine Ok.mono (ok_X12_ownWorld_n hs h) fun r S1 z => ⟨z.1, by rw [z.2]; exact fr_owS, ?_, fun k hk hk3 => ?_⟩
    · rw [z.2]
      refine Or.inr ⟨h, ?_, ?_, fun k hk => owS_w hk⟩
      · unfold owS
        rw [gI_sI, if_neg (by omega), cpR_get, if_neg (by omega), gI_sI, if_pos ⟨rfl, rfl, rfl⟩]
      · unfold owS
        rw [gI_sI, if_pos ⟨rfl, rfl, rfl⟩]
    · rw [z.2, owS_w (by omega), fr_owS.1 1306 0 k rfl]
def tSm (a b k : Nat) : Prop := tMd a b k ∨ tKp a b k ∨ tRef a b k ∨ tKs a b k
/-- a call that kept a sum -/
def Kept (S S2 : zS) (W : zWd) (h q : Nat) : Prop := Fg tSm S S2 ∧ OwS S S2 ∧ Cw S2 ∧ SR sq S2 W 0 1306 1173 ∧ Pst sq S2 W (min 8 (h + 1)) ((q + 1) % 8) ∧ TLs S2
theorem OwS.pre {T0 : Nat → Nat → Nat → Prop} {S S3 T : zS} (hf : Fg T0 S S3) (ht : ∀ k, ¬ T0 12 0 33 ∧ ¬ T0 1322 0 k ∧ ¬ T0 1323 0 0 ∧ (k < 1173 → ¬ T0 1306 0 k)) (h : OwS S3 T) : OwS S T := by
  have e1 : gI S3 12 0 33 = gI S 12 0 33 := hf.I (by omega) (ht 0).1
  have e2 : ∀ k, gI S3 1322 0 k = gI S 1322 0 k := fun k => hf.I (by omega) (ht k).2.1
  have e3 : gI S3 1323 0 0 = gI S 1323 0 0 := hf.I (by omega) (ht 0).2.2.1
  rcases h with ⟨h1, h2, h3, h4⟩ | ⟨h1, h2, h3, h4⟩
  · exact Or.inl ⟨e1.symm.trans h1, h2, fun k hk => (h3 k hk).trans (e2 k), h4.trans e3⟩
  · exact Or.inr ⟨fun z => h1 (e1.trans z), h2, h3, fun k hk => (h4 k hk).trans (hf.I (by omega) ((ht k).2.2.2 hk))⟩
theorem OwS.post {T0 : Nat → Nat → Nat → Prop} {S T S4 : zS} (hf : Fg T0 T S4) (ht : ∀ k, ¬ T0 12 0 33 ∧ ¬ T0 1322 0 k ∧ ¬ T0 1323 0 0) (h : OwS S T) : OwS S S4 := by
  have e1 : gI S4 12 0 33 = gI T 12 0 33 := hf.I (by omega) (ht 0).1
  have e2 : ∀ k, gI S4 1322 0 k = gI T 1322 0 k := fun k => hf.I (by omega) (ht k).2.1
  have e3 : gI S4 1323 0 0 = gI T 1323 0 0 := hf.I (by omega) (ht 0).2.2
  rcases h with ⟨h1, h2, h3, h4⟩ | ⟨h1, h2, h3, h4⟩
  · exact Or.inl ⟨h1, e1.trans h2, fun k hk => (e2 k).trans (h3 k hk), e3.trans h4⟩
  · exact Or.inr ⟨h1, e1.trans h2, e3.trans h3, fun k hk => (e2 k).trans (h4 k hk)⟩
theorem OwS.cw {S S4 : zS} (h : OwS S S4) (hO : Cw S) (hs : ∀ k, k < 444 → gI S4 1306 0 k = gI S 1306 0 k) : Cw S4 := by
  intro _ k hk h3
  rw [hs k hk]
  rcases h with ⟨h1, h2, h3', h4⟩ | ⟨h1, h2, h3', h4⟩
  · rw [h3' k (by omega)]; exact hO h1 k hk h3
  · exact h4 k (by omega)
/-- what both halves give together -/
theorem kept_of {T0 : Nat → Nat → Nat → Prop} {S S3 T S4 : zS} {W : zWd} {h q : Nat} (f : Fg (fun a b k => tMd a b k ∨ tKp a b k) S S3) (hO : Cw S) (f3 : Fg tRef S3 T) (ho : OwS S3 T) (z : Fg tKs T S4 ∧ SR sq S4 W 0 1306 1173 ∧ Pst sq S4 W (min 8 (h + 1)) ((q + 1) % 8) ∧ TLs S4) : Kept S S4 W h q := by
  have o1 : OwS S T := ho.pre f (fun k => by unfold tMd tKp; omega)
  have o2 : OwS S S4 := o1.post z.1 (fun k => by unfold tKs; omega)
  have f4 : Fg tSm S S4 := ((f.mono fun a b k y => y.elim (fun y => Or.inl y) (fun y => Or.inr (Or.inl y))).tr (f3.mono fun a b k y => Or.inr (Or.inr (Or.inl y)))).tr (z.1.mono fun a b k y => Or.inr (Or.inr (Or.inr y)))
  exact ⟨f4, o2, o2.cw hO (fun k hk => f4.I (by omega) (by unfold tSm tMd tKp tRef tKs; omega)), z.2⟩
