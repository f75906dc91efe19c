/-! WORLDS. WQ: the pure relation of a world's rows and of a block (ints below 444 but the ways at 3; three names) -/
abbrev zW (α : Type) : Type := α → (Nat → Nat → Int32) → (Nat → Nat → Int64) → (Nat → Int32) → (Nat → Int64) → Prop
def wI (a : Nat) : Bool := a == 9 || a == 1003 || a == 1005 || a == 1006 || a == 1007 || a == 1008
def wJ (a : Nat) : Bool := a == 1002 || a == 1009
def WLo {α : Type} (WQ : zW α) : Prop := ∀ W f f' g g' b b' n n', (∀ a k, wI a = true → f a k = f' a k) → (∀ a k, wJ a = true → g a k = g' a k) → (∀ k, k < 444 → k ≠ 3 → b k = b' k) → (∀ i, i < 3 → n i = n' i) → WQ W f g b n → WQ W f' g' b' n'
def WR {α : Type} (WQ : zW α) (S : zS) (W : α) (j A off B no : Nat) : Prop := WQ W (fun a k => gI S a j k) (fun a k => gJ S a j k) (fun k => gI S A 0 (off + k)) (fun i => gJ S B 0 (no + i))
def TB (S : zS) (j A off : Nat) : Prop := ∃ w, 1 ≤ w ∧ w ≤ 3 ∧ gI S 7 j 0 = nI w ∧ gI S A 0 (off + 3) = nI w ∧ ∀ k, k < 729 → gI S 801 j k = gI S A 0 (off + 444 + k)
def KP {α : Type} (SQ : zQ2 α) (WQ : zW α) (S : zS) (m : Nat) : Prop := gI S 1204 0 m = -1 ∧ gI S 1393 0 m = nI 0 ∨ ∃ s W, s < 4 ∧ gI S 1204 0 m = nI s ∧ gI S 1393 0 m = nI 1 ∧ WR WQ S W s 1391 (3775 * m) 1392 (3 * m) ∧ TB S (m + 1) 1391 (3775 * m) ∧ SR SQ S W (m + 1) 1391 (3775 * m + 1173)
theorem in12 {a : Int32} (h : nI 0 ≤ a ∧ a ≤ nI 1) : 0 ≤ a ∧ a < nI 2 := by
  refine ⟨h.1, ?_⟩
  have := Int32.le_iff_toInt_le.mp h.2
  rw [nI_toInt (by omega)] at this
  rw [Int32.lt_iff_toInt_lt, nI_toInt (by omega)]
  omega
/-! the class's image, then the reference's -/
def imS1 (S : zS) (m e n : Nat) : zS := tcp (tbc (sI S 1204 0 m (gI S 11 0 3)) (m + 1) 0) (m + 1) 0 e n
def imS (S : zS) (m e n : Nat) : zS := imM (imS1 S m e n) m
section
variable {S : zS} {m e n x y k : Nat}
theorem gI_imM : gI (imM S m) x y k = if x = 1393 ∧ y = 0 ∧ k = m then nI 1 else if x = 1391 ∧ y = 0 ∧ 3775 * m ≤ k ∧ k < 3775 * m + 3775 then gI S 1306 0 (k - 3775 * m) else if x = 12 ∧ y = 0 ∧ k = 0 then nI 0 else gI S x y k := by
  unfold imM
  rw [gI_sI, gI_sJ, gI_sJ, gI_sJ, gI_cpR, gI_sI]
  by_cases h1 : x = 1393 ∧ y = 0 ∧ k = m
  · rw [if_pos h1, if_pos h1]
  · rw [if_neg h1, if_neg h1]
    by_cases h2 : x = 1391 ∧ y = 0 ∧ 3775 * m ≤ k ∧ k < 3775 * m + 3775
    · rw [if_pos (by omega), if_pos h2, if_neg (by omega), Nat.zero_add]
    · rw [if_neg (by omega), if_neg h2, gI_sI]
theorem gJ_imM : gJ (imM S m) x y k = if x = 1392 ∧ y = 0 ∧ 3 * m ≤ k ∧ k < 3 * m + 3 then gJ S 1308 0 (k - 3 * m) else gJ S x y k := by
  unfold imM
  simp only [gJ_sI, gJ_sJ, gJ_cpR]
  by_cases h2 : x = 1392 ∧ y = 0 ∧ 3 * m ≤ k ∧ k < 3 * m + 3
  · rw [if_pos h2]
    obtain ⟨rfl, rfl, h3, h4⟩ := h2
    obtain ⟨i, rfl⟩ : ∃ i, k = 3 * m + i := ⟨k - 3 * m, by omega⟩
    rw [Nat.add_sub_cancel_left]
    have : i = 0 ∨ i = 1 ∨ i = 2 := by omega
    rcases this with rfl | rfl | rfl <;> simp
  · rw [if_neg h2, if_neg (by omega), if_neg (by omega), if_neg (by omega)]
theorem im1_x (hx : x ≠ 99999) (h1 : ¬ (x = 1204 ∧ y = 0 ∧ k = m)) (h2 : ¬ ((x = 7 ∨ x = 801 ∨ x = 8 ∨ x = 902 ∨ x = 903) ∧ y = m + 1)) : gI (imS1 S m e n) x y k = gI S x y k := by
  unfold imS1
  rw [tcp_x hx (by omega) (by omega)]
  unfold tbc
  rw [gI_cpS, if_neg (by omega), gI_sI, if_neg (by omega), gI_sI, if_neg (by omega)]
theorem im_x (hx : x ≠ 99999) (h1 : ¬ (x = 1204 ∧ y = 0 ∧ k = m)) (h2 : ¬ ((x = 7 ∨ x = 801 ∨ x = 8 ∨ x = 902 ∨ x = 903) ∧ y = m + 1)) (h3 : ¬ (x = 1393 ∧ y = 0 ∧ k = m)) (h4 : ¬ (x = 1391 ∧ y = 0 ∧ 3775 * m ≤ k ∧ k < 3775 * m + 3775)) (h5 : ¬ (x = 12 ∧ y = 0 ∧ k = 0)) : gI (imS S m e n) x y k = gI S x y k := by
  unfold imS
  rw [gI_imM, if_neg h3, if_neg h4, if_neg h5, im1_x hx h1 h2]
theorem im_b (hk : k < 3775) : gI (imS S m e n) 1391 0 (3775 * m + k) = gI S 1306 0 k := by
  unfold imS
  rw [gI_imM, if_neg (by omega), if_pos (by omega), im1_x (by decide) (by omega) (by omega), Nat.add_sub_cancel_left]
theorem im_c (hx : x ≠ 12) (hx2 : x ≠ 1391) (hx3 : x ≠ 1393) : gI (imS S m e n) x y k = gI (imS1 S m e n) x y k := by
  unfold imS
  rw [gI_imM, if_neg (by omega), if_neg (by omega), if_neg (by omega)]
theorem im_J (hx : x ≠ 99999) (h : ¬ (x = 1392 ∧ y = 0 ∧ 3 * m ≤ k ∧ k < 3 * m + 3)) : gJ (imS S m e n) x y k = gJ S x y k := by
  unfold imS
  rw [gJ_imM, if_neg h]
  unfold imS1
  rw [tcp_J hx]
  rfl
theorem im_N (hk : k < 3) : gJ (imS S m e n) 1392 0 (3 * m + k) = gJ S 1308 0 k := by
  unfold imS
  rw [gJ_imM, if_pos (by omega), Nat.add_sub_cancel_left]
  unfold imS1
  rw [tcp_J (by decide)]
  rfl
theorem im_k : gI (imS S m e n) 1204 0 m = gI S 11 0 3 := by
  rw [im_c (by decide) (by decide) (by decide)]
  unfold imS1
  rw [tcp_x (by decide) (by omega) (by omega), tbc_x (by decide) (by decide), gI_sI, if_pos ⟨rfl, rfl, rfl⟩]
theorem im_i : gI (imS S m e n) 1393 0 m = nI 1 := by
  unfold imS
  rw [gI_imM, if_pos ⟨rfl, rfl, rfl⟩]
theorem im_w : gI (imS S m e n) 7 (m + 1) 0 = gI S 7 0 0 := by
  rw [im_c (by decide) (by decide) (by decide)]
  unfold imS1
  rw [tcp_x (by decide) (by omega) (by omega)]
  unfold tbc
  rw [gI_cpS, if_neg (by omega), gI_sI, if_pos ⟨rfl, rfl, rfl⟩, gI_sI, if_neg (by omega)]
theorem im_t (hk : k < 729) : gI (imS S m e n) 801 (m + 1) k = gI S 801 0 k := by
  rw [im_c (by decide) (by decide) (by decide)]
  unfold imS1
  rw [tcp_x (by decide) (by omega) (by omega)]
  unfold tbc
  rw [gI_cpS, if_pos ⟨rfl, rfl⟩, pk_cpy_in (Nat.zero_le _) (by omega), gI_sI, if_neg (by omega), gI_sI, if_neg (by omega), Nat.sub_zero, Nat.zero_add]
end
theorem wI_f {a : Nat} (h : wI a = true) : a = 9 ∨ a = 1003 ∨ a = 1005 ∨ a = 1006 ∨ a = 1007 ∨ a = 1008 := by
  simp [wI] at h
  omega
theorem wJ_f {a : Nat} (h : wJ a = true) : a = 1002 ∨ a = 1009 := by
  simp [wJ] at h
  omega
theorem WR.cong {α : Type} {WQ : zW α} (hW : WLo WQ) {S S1 : zS} {W : α} {j A off B no A1 off1 B1 no1 : Nat} (h : WR WQ S W j A off B no) (h1 : ∀ a k, a = 9 ∨ a = 1003 ∨ a = 1005 ∨ a = 1006 ∨ a = 1007 ∨ a = 1008 → gI S1 a j k = gI S a j k) (h2 : ∀ a k, a = 1002 ∨ a = 1009 → gJ S1 a j k = gJ S a j k) (h3 : ∀ k, k < 444 → gI S1 A1 0 (off1 + k) = gI S A 0 (off + k)) (h4 : ∀ i, i < 3 → gJ S1 B1 0 (no1 + i) = gJ S B 0 (no + i)) : WR WQ S1 W j A1 off1 B1 no1 :=
  hW _ _ _ _ _ _ _ _ _ (fun a k z => (h1 a k (wI_f z)).symm) (fun a k z => (h2 a k (wJ_f z)).symm) (fun k hk _ => (h3 k hk).symm) (fun i hi => (h4 i hi).symm) h
theorem TB.cong {S S1 : zS} {j A off j1 A1 off1 : Nat} (h : TB S j A off) (h0 : gI S1 7 j1 0 = gI S 7 j 0) (h1 : gI S1 A1 0 (off1 + 3) = gI S A 0 (off + 3)) (h2 : ∀ k, k < 729 → gI S1 801 j1 k = gI S 801 j k) (h3 : ∀ k, k < 729 → gI S1 A1 0 (off1 + 444 + k) = gI S A 0 (off + 444 + k)) : TB S1 j1 A1 off1 := by
  obtain ⟨w, q1, q2, q3, q4, q5⟩ := h
  exact ⟨w, q1, q2, h0.trans q3, h1.trans q4, fun k hk => (h2 k hk).trans ((q5 k hk).trans (h3 k hk).symm)⟩
theorem pg_image {α : Type} {SQ : zQ2 α} (hQ : Lo SQ) {WQ : zW α} (hW : WLo WQ) {S : zS} (hs : Sd S) {W : α} {c : Nat} (hc : gI S 11 0 3 = nI c) (hc4 : c < 4) (hw : WR WQ S W c 1306 0 1308 0) (hb : TB S 0 1306 0) (hA : SR SQ S W 0 1306 1173) (hT : TLs S) (hK : ∀ m, m < 2 → KP SQ WQ S m) (a : Int32) : Pg mX11_image 2 [zr 11 0, zi a] mX12_image 3 [zr 12 0, zi a] S (fun S2 => S2 = sI S 12 0 0 (nI 0) ∨ ∃ m e n, m < 2 ∧ S2 = imS S m e n ∧ (∀ m, m < 2 → KP SQ WQ S2 m) ∧ TLs S2) := by
  by_cases ha : 0 ≤ a ∧ a < nI 2
  · obtain ⟨m, hm, rfl⟩ := zz_of ha (by omega)
    obtain ⟨n, e9, a1, a2, a3, a4, a5, a6⟩ := hT (m + 1) (by omega)
    obtain ⟨o, e, b1, b2, b3, b4, b5, b6⟩ := hT 0 (by omega)
    have k1 := ok_X11_image_in hs hm a1 a2 (by omega) a4 (show e ≤ 1200 by omega) b5 b1 b2 b6 b4
    have s1 : Sd (imS1 S m e n) := sd_tcp (S := tbc (sI S 1204 0 m (gI S 11 0 3)) (m + 1) 0) hs
    refine Pg.mono (pg_put (S1 := imS1 S m e n) (S2 := imS S m e n) s1 k1 (ok_X12_image_in s1 hm) rfl) fun S2 z => Or.inr ⟨m, e, n, hm, z, ?_⟩
    subst z
    have wc : ∀ s x k, x = 9 ∨ x = 1003 ∨ x = 1005 ∨ x = 1006 ∨ x = 1007 ∨ x = 1008 → gI (imS S m e n) x s k = gI S x s k := fun s x k hx => im_x (by omega) (by omega) (by omega) (by omega) (by omega) (by omega)
    have wj : ∀ s x k, x = 1002 ∨ x = 1009 → gJ (imS S m e n) x s k = gJ S x s k := fun s x k hx => im_J (by omega) (by omega)
    refine ⟨fun m' hm' => ?_, ?_⟩
    · by_cases em : m' = m
      · subst em
        refine Or.inr ⟨c, W, hc4, im_k.trans hc, im_i, hw.cong hW (wc c) (wj c) (fun k hk => by rw [im_b (by omega), Nat.zero_add]) (fun i hi => by rw [im_N hi, Nat.zero_add]), hb.cong im_w (by rw [im_b (by omega)]) (fun k hk => im_t hk) (fun k hk => by rw [Nat.add_assoc, im_b (by omega), Nat.add_assoc, Nat.zero_add]), ?_⟩
        refine hA.cong hQ ?_ ?_ ?_ ?_ fun e' k hee hl hk => ?_
        · rw [im_c (by decide) (by decide) (by decide)]; unfold imS1; rw [tcp_0, tbc_x (by decide) (by decide), gI_sI, if_neg (by omega)]
        · rw [im_c (by decide) (by decide) (by decide)]; unfold imS1; rw [tcp_1]; exact b5.symm
        · exact im_b (by omega)
        · rw [Nat.add_assoc]; exact im_b (by omega)
        · have : e' = e := by
            have t1 := congrArg Int32.toInt (hee.symm.trans b5)
            rw [nI_toInt (by omega), nI_toInt (by omega)] at t1
            omega
          subst this
          unfold rw4
          rw [im_c (by decide) (by decide) (by decide), im_c (by decide) (by decide) (by decide)]
          have w1 := im_b (S := S) (m := m') (e := e') (n := n) (k := 1173 + 2 + k) (by omega)
          have w2 := im_b (S := S) (m := m') (e := e') (n := n) (k := 1173 + 1302 + k) (by omega)
          rw [← Nat.add_assoc, ← Nat.add_assoc] at w1 w2
          rw [w1, w2]
          unfold imS1
          rw [tcp_keys (by omega) hk, tcp_nums (by omega) hk, tbc_x (by decide) (by decide), tbc_x (by decide) (by decide), gI_sI, if_neg (by omega), gI_sI, if_neg (by omega)]
      · have ib : ∀ k, k < 3775 → gI (imS S m e n) 1391 0 (3775 * m' + k) = gI S 1391 0 (3775 * m' + k) := fun k hk => im_x (by decide) (by omega) (by omega) (by omega) (by omega) (by omega)
        rcases hK m' hm' with z | ⟨s, W', q1, q2, q3, q4, q5, q6⟩
        · refine Or.inl ⟨?_, ?_⟩
          · rw [im_x (by decide) (by omega) (by omega) (by omega) (by omega) (by omega)]; exact z.1
          · rw [im_x (by decide) (by omega) (by omega) (by omega) (by omega) (by omega)]; exact z.2
        · refine Or.inr ⟨s, W', q1, ?_, ?_, q4.cong hW (wc s) (wj s) (fun k hk => ib k (by omega)) (fun i hi => im_J (by decide) (by omega)), q5.cong ?_ (ib 3 (by omega)) (fun k hk => ?_) (fun k hk => by rw [Nat.add_assoc]; exact ib (444 + k) (by omega)), ?_⟩
          · rw [im_x (by decide) (by omega) (by omega) (by omega) (by omega) (by omega)]; exact q2
          · rw [im_x (by decide) (by omega) (by omega) (by omega) (by omega) (by omega)]; exact q3
          · exact im_x (by decide) (by omega) (by omega) (by omega) (by omega) (by omega)
          · exact im_x (by decide) (by omega) (by omega) (by omega) (by omega) (by omega)
          · refine q6.cong hQ ?_ ?_ ?_ ?_ fun e' k hee hl hk => ?_
            · exact im_x (by decide) (by omega) (by omega) (by omega) (by omega) (by omega)
            · exact im_x (by decide) (by omega) (by omega) (by omega) (by omega) (by omega)
            · exact ib 1173 (by omega)
            · exact ib 1174 (by omega)
            · unfold rw4
              rw [im_x (by decide) (by omega) (by omega) (by omega) (by omega) (by omega), im_x (by decide) (by omega) (by omega) (by omega) (by omega) (by omega), im_x (by decide) (by omega) (by omega) (by omega) (by omega) (by omega), im_x (by decide) (by omega) (by omega) (by omega) (by omega) (by omega)]
    · have t0 : TLs (tbc (sI S 1204 0 m (gI S 11 0 3)) (m + 1) 0) := fun j hj => (hT j hj).cong rfl rfl (by rw [tbc_x (by decide) (by decide), gI_sI, if_neg (by omega)])
      have t1 : TLs (imS1 S m e n) := t0.tcp (i := 0) (by omega) a1 a2 (show e ≤ 1200 by omega)
      exact fun j hj => (t1 j hj).cong rfl rfl (im_c (by decide) (by decide) (by decide))
  · exact Pg.mono (pg_get hs (ok_X11_image_out hs ha) (ok_X12_image_out hs (fun z => ha (in12 z))) rfl) fun S2 z => Or.inl z
