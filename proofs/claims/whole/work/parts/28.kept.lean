section
variable {S T : zS} {q p h e0 n1 e1 o x y k : Nat}
theorem kp_0 (hq : q < 8) : gI (kpM S q p h e0 n1 e1 o) 8 0 0 = gI S 8 11 0 := by
  unfold kpM
  rw [tcp_0, gI_sI, if_neg (by omega), gI_sI, if_neg (by omega), tcp_x (by decide) (by omega) (by omega)]
theorem kp_1 : gI (kpM S q p h e0 n1 e1 o) 8 0 1 = nI e1 := tcp_1
theorem kp_k (hq : q < 8) (hk : k < e1) : gI (kpM S q p h e0 n1 e1 o) 902 0 k = gI S 902 11 k := by
  unfold kpM
  rw [tcp_keys (by omega) hk, gI_sI, if_neg (by omega), gI_sI, if_neg (by omega), tcp_x (by decide) (by omega) (by omega)]
theorem kp_n (hq : q < 8) (hk : k < e1) : gI (kpM S q p h e0 n1 e1 o) 903 0 k = gI S 903 11 k := by
  unfold kpM
  rw [tcp_nums (by omega) hk, gI_sI, if_neg (by omega), gI_sI, if_neg (by omega), tcp_x (by decide) (by omega) (by omega)]
/-- the outer copy and the two fields leave the rest as it was -/
theorem kp_o (hx : x ≠ 99999) (h1 : ¬ (x = 8 ∧ y = 0 ∧ k < 2)) (h2 : ¬ ((x = 902 ∨ x = 903) ∧ y = 0)) (h3 : ¬ (x = 11 ∧ y = 0 ∧ (k = 10 ∨ k = 11))) : gI (kpM S q p h e0 n1 e1 o) x y k = gI (tcp S (q + 3) 0 e0 n1) x y k := by
  unfold kpM
  rw [tcp_x hx (by omega) (by omega), gI_sI, if_neg (by omega), gI_sI, if_neg (by omega)]
theorem kp_p0 : gI (kpM S q p h e0 n1 e1 o) 8 (q + 3) 0 = gI S 8 0 0 := by
  rw [kp_o (by decide) (by omega) (by omega) (by omega), tcp_0]
theorem kp_p1 : gI (kpM S q p h e0 n1 e1 o) 8 (q + 3) 1 = nI e0 := by
  rw [kp_o (by decide) (by omega) (by omega) (by omega), tcp_1]
theorem kp_pk (hk : k < e0) : gI (kpM S q p h e0 n1 e1 o) 902 (q + 3) k = gI S 902 0 k := by
  rw [kp_o (by decide) (by omega) (by omega) (by omega), tcp_keys (by omega) hk]
theorem kp_pn (hk : k < e0) : gI (kpM S q p h e0 n1 e1 o) 903 (q + 3) k = gI S 903 0 k := by
  rw [kp_o (by decide) (by omega) (by omega) (by omega), tcp_nums (by omega) hk]
theorem kp_x (hx : x ≠ 99999) (h1 : ¬ (x = 8 ∧ (y = 0 ∨ y = q + 3) ∧ k < 2)) (h2 : ¬ ((x = 902 ∨ x = 903) ∧ (y = 0 ∨ y = q + 3))) (h3 : ¬ (x = 11 ∧ y = 0 ∧ (k = 10 ∨ k = 11))) : gI (kpM S q p h e0 n1 e1 o) x y k = gI S x y k := by
  rw [kp_o hx (by omega) (by omega) (by omega), tcp_x hx (by omega) (by omega)]
theorem kp_c : gI (kpM S q p h e0 n1 e1 o) 11 0 10 = nI (min 8 (h + 1)) := by
  unfold kpM
  rw [tcp_x (by decide) (by omega) (by omega), gI_sI, if_pos ⟨rfl, rfl, rfl⟩]
theorem kp_q : gI (kpM S q p h e0 n1 e1 o) 11 0 11 = nI p := by
  unfold kpM
  rw [tcp_x (by decide) (by omega) (by omega), gI_sI, if_neg (by omega), gI_sI, if_pos ⟨rfl, rfl, rfl⟩]
theorem tls_kpM (hT : TLs S) (hq : q < 8) (a2 : gN S 902 (q + 3) = n1) (a3 : gN S 903 (q + 3) = n1) (b2 : gN S 902 0 = o) (b3 : gN S 903 0 = o) (he0 : e0 ≤ 1200) (he1 : e1 ≤ 1200) : TLs (kpM S q p h e0 n1 e1 o) := by
  have t1 : TLs (tcp S (q + 3) 0 e0 n1) := hT.tcp (by omega) a2 a3 he0
  have t2 : TLs (sI (sI (tcp S (q + 3) 0 e0 n1) 11 0 11 (nI p)) 11 0 10 (nI (min 8 (h + 1)))) := fun j hj => (t1 j hj).cong rfl rfl (by rw [gI_sI, if_neg (by omega), gI_sI, if_neg (by omega)])
  exact t2.tcp (i := 11) (by omega) ((gN_room8_x (by decide) (by omega)).trans b2) ((gN_room8_x (by decide) (by omega)).trans b3) he1
/-! the reference's side -/
theorem ks_x (h1 : ¬ (x = 1357 ∧ y = 0)) (h2 : ¬ (x = 12 ∧ y = 0 ∧ k = 58)) (h3 : ¬ (x = 1306 ∧ y = 0 ∧ 1173 ≤ k)) : gI (kpS T h e1) x y k = gI T x y k := by
  unfold kpS
  rw [gI_cp2, if_neg (by omega), if_neg (by omega), gI_sI, if_neg (by omega), gI_sI, if_neg (by omega), held_x h1 h2]
theorem ks_0 : gI (kpS T h e1) 1306 0 1173 = gI T 12 0 48 := by
  unfold kpS
  rw [gI_cp2, if_neg (by omega), if_neg (by omega), gI_sI, if_neg (by omega), gI_sI, if_pos ⟨rfl, rfl, rfl⟩]
theorem ks_1 : gI (kpS T h e1) 1306 0 1174 = nI e1 := by
  unfold kpS
  rw [gI_cp2, if_neg (by omega), if_neg (by omega), gI_sI, if_pos ⟨rfl, rfl, rfl⟩]
theorem ks_k (hk : k < e1) : gI (kpS T h e1) 1306 0 (1175 + k) = gI T 1344 0 k := by
  unfold kpS
  rw [gI_cp2, if_pos (by omega), gI_sI, if_neg (by omega), gI_sI, if_neg (by omega), held_x (by omega) (by omega), Nat.add_sub_cancel_left]
theorem ks_n (he : e1 ≤ 1300) (hk : k < e1) : gI (kpS T h e1) 1306 0 (2475 + k) = gI T 1345 0 k := by
  unfold kpS
  rw [gI_cp2, if_neg (by omega), if_pos (by omega), gI_sI, if_neg (by omega), gI_sI, if_neg (by omega), held_x (by omega) (by omega), Nat.add_sub_cancel_left]
theorem ks_h : gI (kpS T h e1) 1357 0 k = gI (held T h) 1357 0 k := by
  unfold kpS
  rw [gI_cp2, if_neg (by omega), if_neg (by omega), gI_sI, if_neg (by omega), gI_sI, if_neg (by omega)]
theorem ks_m (h8 : h ≤ 8) : gI (kpS T h e1) 12 0 58 = nI (min 8 (h + 1)) := by
  unfold kpS
  rw [gI_cp2, if_neg (by omega), if_neg (by omega), gI_sI, if_neg (by omega), gI_sI, if_neg (by omega)]
  unfold held
  by_cases h7 : h ≤ 7
  · rw [if_pos h7, gI_sI, if_pos ⟨rfl, rfl, rfl⟩, Nat.min_eq_right (by omega)]
  · rw [if_neg h7, gI_sI, if_pos ⟨rfl, rfl, rfl⟩, Nat.min_eq_left (by omega)]
/-- the newest block -/
theorem held_top (h8 : h ≤ 8) (hk : k < 2602) : gI (held T h) 1357 0 (2602 * (min 8 (h + 1) - 1) + k) = gI T 1306 0 (1173 + k) := by
  unfold held
  by_cases h7 : h ≤ 7
  · rw [if_pos h7, gI_sI, if_neg (by omega), gI_cpR, show min 8 (h + 1) - 1 = h by omega, if_pos (by omega), Nat.add_sub_cancel_left]
  · rw [if_neg h7, gI_sI, if_neg (by omega), gI_cpR, show min 8 (h + 1) - 1 = 7 by omega, if_pos (by omega), gI_sI, if_neg (by omega), gI_shf, if_neg (by omega), Nat.add_sub_cancel_left]
/-- the blocks before it -/
theorem held_old {i : Nat} (h8 : h ≤ 8) (hi : i + 1 < min 8 (h + 1)) (hk : k < 2602) : gI (held T h) 1357 0 (2602 * (min 8 (h + 1) - 1 - (i + 1)) + k) = gI T 1357 0 (2602 * (h - 1 - i) + k) := by
  unfold held
  by_cases h7 : h ≤ 7
  · rw [if_pos h7, gI_sI, if_neg (by omega), gI_cpR, show min 8 (h + 1) - 1 - (i + 1) = h - 1 - i by omega, if_neg (by omega)]
  · obtain rfl : h = 8 := by omega
    rw [if_neg h7, gI_sI, if_neg (by omega), gI_cpR, if_neg (by omega), gI_sI, if_neg (by omega), gI_shf, if_pos (by omega)]
    congr 1
    omega
end
/-- keepMade, then keepSum: the relation again, with one sum more in the past -/
theorem keep_rel {α : Type} {SQ : zQ2 α} (hQ : Lo SQ) {S T : zS} {E : α} {h q p e0 n1 e1 o lv : Nat} (hP : Pst SQ S E h q) (hA : SR SQ S E 0 1306 1173) (hT : TLs S) (hp : (q + 1) % 8 = p) (a2 : gN S 902 (q + 3) = n1) (a3 : gN S 903 (q + 3) = n1) (b2 : gN S 902 0 = o) (b3 : gN S 903 0 = o) (ht0 : gI S 8 0 1 = nI e0) (he0 : e0 ≤ 1200) (hl : gI S 8 11 0 = nI lv) (he1 : e1 ≤ 1200)
    (hag : ∀ x y k, x = 8 ∨ x = 902 ∨ x = 903 ∨ x = 11 ∨ x = 1306 ∨ x = 1357 → gI T x y k = gI (kpM S q p h e0 n1 e1 o) x y k) (hgN : ∀ x y, x = 902 ∨ x = 903 → gN T x y = gN (kpM S q p h e0 n1 e1 o) x y)
    (hl2 : gI T 12 0 48 = nI lv) (hsq : SQ E lv e1 (fun k => (gI S 902 11 k, gI S 903 11 k, gI T 1344 0 k, gI T 1345 0 k))) : SR SQ (kpS T h e1) E 0 1306 1173 ∧ Pst SQ (kpS T h e1) E (min 8 (h + 1)) p ∧ TLs (kpS T h e1) := by
  obtain ⟨p1, p2, p3, p4, p5, p6⟩ := hP
  have g : ∀ x y k, x = 8 ∨ x = 902 ∨ x = 903 ∨ x = 11 → gI (kpS T h e1) x y k = gI (kpM S q p h e0 n1 e1 o) x y k := fun x y k hx => (ks_x (by omega) (by omega) (by omega)).trans (hag x y k (by omega))
  have t7 : ∀ k, gI T 1357 0 k = gI S 1357 0 k := fun k => (hag 1357 0 k (by omega)).trans (kp_x (by decide) (by omega) (by omega) (by omega))
  have t6 : ∀ k, gI T 1306 0 k = gI S 1306 0 k := fun k => (hag 1306 0 k (by omega)).trans (kp_x (by decide) (by omega) (by omega) (by omega))
  refine ⟨⟨lv, e1, ?_, ks_0.trans hl2, ?_, ks_1, he1, hQ E lv e1 _ _ (fun k hk => ?_) hsq⟩, ⟨?_, ks_m p3, by omega, ?_, by omega, fun i hi => ?_⟩, fun j hj => ?_⟩
  · rw [g 8 0 0 (by omega), kp_0 p5]; exact hl
  · rw [g 8 0 1 (by omega), kp_1]
  · unfold rw4
    rw [g 902 0 k (by omega), g 903 0 k (by omega), kp_k p5 hk, kp_n p5 hk, ks_k hk, ks_n (by omega) hk]
  · rw [g 11 0 10 (by omega), kp_c]
  · rw [g 11 0 11 (by omega), kp_q]
  · match i, hi with
    | 0, hi =>
      rw [show (p + 7 - 0) % 8 = q by omega, Nat.sub_zero]
      refine hA.cong hQ ?_ ?_ ?_ ?_ fun e' k hee hl hk => ?_
      · rw [g 8 _ 0 (by omega), kp_p0]
      · rw [g 8 _ 1 (by omega), kp_p1]; exact ht0.symm
      · have := held_top (T := T) (h := h) (k := 0) p3 (by omega)
        rw [ks_h]; exact this.trans (t6 _)
      · rw [ks_h]; exact (held_top (T := T) (h := h) (k := 1) p3 (by omega)).trans (t6 _)
      · have : e' = e0 := by
          have t1 := congrArg Int32.toInt (hee.symm.trans ht0)
          rw [nI_toInt (by omega), nI_toInt (by omega)] at t1
          omega
        subst this
        unfold rw4
        have w1 := held_top (T := T) (h := h) (k := 2 + k) p3 (by omega)
        have w2 := held_top (T := T) (h := h) (k := 1302 + k) p3 (by omega)
        rw [← Nat.add_assoc, ← Nat.add_assoc] at w1 w2
        rw [g 902 _ k (by omega), g 903 _ k (by omega), kp_pk hk, kp_pn hk, ks_h, ks_h, w1, w2, t6, t6]
    | i + 1, hi =>
      have z := p6 i (by omega)
      rw [show (p + 7 - (i + 1)) % 8 = (q + 7 - i) % 8 by omega]
      have hne : (q + 7 - i) % 8 ≠ q := by omega
      refine z.cong hQ ?_ ?_ ?_ ?_ fun e' k hee hl hk => ?_
      · rw [g 8 _ 0 (by omega), kp_x (by decide) (by omega) (by omega) (by omega)]
      · rw [g 8 _ 1 (by omega), kp_x (by decide) (by omega) (by omega) (by omega)]
      · rw [ks_h]; exact (held_old (T := T) (k := 0) p3 hi (by omega)).trans (t7 _)
      · rw [ks_h]; exact (held_old (T := T) (k := 1) p3 hi (by omega)).trans (t7 _)
      · unfold rw4
        have w1 := held_old (T := T) (k := 2 + k) p3 hi (by omega)
        have w2 := held_old (T := T) (k := 1302 + k) p3 hi (by omega)
        rw [← Nat.add_assoc, ← Nat.add_assoc] at w1 w2
        rw [g 902 _ k (by omega), g 903 _ k (by omega), kp_x (by decide) (by omega) (by omega) (by omega), kp_x (by decide) (by omega) (by omega) (by omega), ks_h, ks_h, w1, w2, t7, t7]
  · have t1 : TLs (kpM S q p h e0 n1 e1 o) := tls_kpM hT p5 a2 a3 b2 b3 he0 he1
    have hr : ∀ x y, gN (kpS T h e1) x y = gN T x y := fun x y => by
      unfold kpS
      show gN (held T h) x y = gN T x y
      unfold gN
      rw [held_r]
    exact (t1 j hj).cong ((hr _ _).trans (hgN _ _ (by omega))) ((hr _ _).trans (hgN _ _ (by omega))) (g 8 j 1 (by omega))
