def rsS1 (S : zS) (m e n : Nat) : zS := sI (tcp (tbc (sI S 11 0 3 (gI S 1204 0 m)) 0 (m + 1)) 0 (m + 1) e n) 11 0 10 (nI 0)
def rsS (S : zS) (m e n : Nat) : zS := rsM (rsS1 S m e n) m
section
variable {S : zS} {m e n x y k : Nat}
theorem gI_rsM : gI (rsM S m) x y k = if x = 12 ∧ y = 0 ∧ k = 58 then nI 0 else if x = 12 ∧ y = 0 ∧ k = 33 then -1 else if x = 1306 ∧ y = 0 ∧ k < 3775 then gI S 1391 0 (3775 * m + k) else if x = 12 ∧ y = 0 ∧ k = 0 then nI 0 else gI S x y k := by
  unfold rsM
  rw [gI_sI, gI_sI, gI_sJ, gI_sJ, gI_sJ, gI_cpR, gI_sI]
  by_cases h1 : x = 12 ∧ y = 0 ∧ k = 58
  · rw [if_pos h1, if_pos h1]
  · rw [if_neg h1, if_neg h1]
    by_cases h0 : x = 12 ∧ y = 0 ∧ k = 33
    · rw [if_pos h0, if_pos h0]
    · rw [if_neg h0, if_neg h0]
      by_cases h2 : x = 1306 ∧ y = 0 ∧ k < 3775
      · rw [if_pos (by omega), if_pos h2, if_neg (by omega), Nat.sub_zero]
      · rw [if_neg (by omega), if_neg h2, gI_sI]
theorem gJ_rsM : gJ (rsM S m) x y k = if x = 1308 ∧ y = 0 ∧ k < 3 then gJ S 1392 0 (3 * m + k) else gJ S x y k := by
  unfold rsM
  simp only [gJ_sI, gJ_sJ, gJ_cpR]
  by_cases h2 : x = 1308 ∧ y = 0 ∧ k < 3
  · rw [if_pos h2]
    obtain ⟨rfl, rfl, h3⟩ := h2
    have : k = 0 ∨ k = 1 ∨ k = 2 := by omega
    rcases this with rfl | rfl | rfl <;> simp
  · rw [if_neg h2, if_neg (by omega), if_neg (by omega), if_neg (by omega)]
theorem rs1_x (hx : x ≠ 99999) (h1 : ¬ (x = 11 ∧ y = 0 ∧ (k = 3 ∨ k = 10))) (h2 : ¬ ((x = 7 ∨ x = 801 ∨ x = 8 ∨ x = 902 ∨ x = 903) ∧ y = 0)) : gI (rsS1 S m e n) x y k = gI S x y k := by
  unfold rsS1
  rw [gI_sI, if_neg (by omega), tcp_x hx (by omega) (by omega)]
  unfold tbc
  rw [gI_cpS, if_neg (by omega), gI_sI, if_neg (by omega), gI_sI, if_neg (by omega)]
theorem rs_x (hx : x ≠ 99999) (h1 : ¬ (x = 11 ∧ y = 0 ∧ (k = 3 ∨ k = 10))) (h2 : ¬ ((x = 7 ∨ x = 801 ∨ x = 8 ∨ x = 902 ∨ x = 903) ∧ y = 0)) (h3 : ¬ (x = 12 ∧ y = 0 ∧ (k = 0 ∨ k = 33 ∨ k = 58))) (h4 : ¬ (x = 1306 ∧ y = 0 ∧ k < 3775)) : gI (rsS S m e n) x y k = gI S x y k := by
  unfold rsS
  rw [gI_rsM, if_neg (by omega), if_neg (by omega), if_neg h4, if_neg (by omega), rs1_x hx h1 h2]
theorem rs_b (hk : k < 3775) : gI (rsS S m e n) 1306 0 k = gI S 1391 0 (3775 * m + k) := by
  unfold rsS
  rw [gI_rsM, if_neg (by omega), if_neg (by omega), if_pos (by omega), rs1_x (by decide) (by omega) (by omega)]
theorem rs_c (hx : x ≠ 12) (hx2 : x ≠ 1306) : gI (rsS S m e n) x y k = gI (rsS1 S m e n) x y k := by
  unfold rsS
  rw [gI_rsM, if_neg (by omega), if_neg (by omega), if_neg (by omega), if_neg (by omega)]
theorem rs_J (hx : x ≠ 99999) (h : ¬ (x = 1308 ∧ y = 0 ∧ k < 3)) : gJ (rsS S m e n) x y k = gJ S x y k := by
  unfold rsS
  rw [gJ_rsM, if_neg h]
  unfold rsS1
  rw [gJ_sI, tcp_J hx]
  rfl
theorem rs_N (hk : k < 3) : gJ (rsS S m e n) 1308 0 k = gJ S 1392 0 (3 * m + k) := by
  unfold rsS
  rw [gJ_rsM, if_pos (by omega)]
  unfold rsS1
  rw [gJ_sI, tcp_J (by decide)]
  rfl
theorem rs_k : gI (rsS S m e n) 11 0 3 = gI S 1204 0 m := by
  rw [rs_c (by decide) (by decide)]
  unfold rsS1
  rw [gI_sI, if_neg (by omega), tcp_x (by decide) (by omega) (by omega), tbc_x (by decide) (by decide), gI_sI, if_pos ⟨rfl, rfl, rfl⟩]
theorem rs_w : gI (rsS S m e n) 7 0 0 = gI S 7 (m + 1) 0 := by
  rw [rs_c (by decide) (by decide)]
  unfold rsS1
  rw [gI_sI, if_neg (by omega), tcp_x (by decide) (by omega) (by omega)]
  unfold tbc
  rw [gI_cpS, if_neg (by omega), gI_sI, if_pos ⟨rfl, rfl, rfl⟩, gI_sI, if_neg (by omega)]
theorem rs_t (hk : k < 729) : gI (rsS S m e n) 801 0 k = gI S 801 (m + 1) k := by
  rw [rs_c (by decide) (by decide)]
  unfold rsS1
  rw [gI_sI, if_neg (by omega), tcp_x (by decide) (by omega) (by omega)]
  unfold tbc
  rw [gI_cpS, if_pos ⟨rfl, rfl⟩, pk_cpy_in (Nat.zero_le _) (by omega), gI_sI, if_neg (by omega), gI_sI, if_neg (by omega), Nat.sub_zero, Nat.zero_add]
end
theorem pg_restore {α : Type} {SQ : zQ2 α} (hQ : Lo SQ) {WQ : zW α} (hW : WLo WQ) {S : zS} (hs : Sd S) {q : Nat} (hq : gI S 11 0 11 = nI q) (hq8 : q < 8) (hT : TLs S) (hK : ∀ m, m < 2 → KP SQ WQ S m) (a : Int32) : Pg mX11_restore 2 [zr 11 0, zi a] mX12_restore 3 [zr 12 0, zi a] S (fun S2 => S2 = sI S 12 0 0 (nI 0) ∨ ∃ m e n s W, m < 2 ∧ s < 4 ∧ S2 = rsS S m e n ∧ gI S2 11 0 3 = nI s ∧ WR WQ S2 W s 1306 0 1308 0 ∧ TB S2 0 1306 0 ∧ SR SQ S2 W 0 1306 1173 ∧ (∀ E, Pst SQ S2 E 0 q) ∧ (∀ m, m < 2 → KP SQ WQ S2 m) ∧ TLs S2) := by
  by_cases ha : 0 ≤ a ∧ a < nI 2
  · obtain ⟨m, hm, rfl⟩ := zz_of ha (by omega)
    rcases hK m hm with z | ⟨s, W, q1, q2, q3, q4, q5, q6⟩
    · exact Pg.mono (pg_get hs (ok_X11_restore_no hs hm z.1) (ok_X12_restore_no hs hm z.2) rfl) fun S2 z => Or.inl z
    · obtain ⟨n, e9, a1, a2, a3, a4, a5, a6⟩ := hT 0 (by omega)
      obtain ⟨o, e, b1, b2, b3, b4, b5, b6⟩ := hT (m + 1) (by omega)
      have k1 := ok_X11_restore_in hs hm q2 q1 a1 a2 (by omega) a4 (show e ≤ 1200 by omega) b5 b1 b2 b6 b4
      have s1 : Sd (rsS1 S m e n) := sd_tcp (S := tbc (sI S 11 0 3 (gI S 1204 0 m)) 0 (m + 1)) hs (j := 0) (i := m + 1) (e := e) (n := n)
      have k2 := ok_X12_restore_in s1 hm ((rs1_x (by decide) (by omega) (by omega)).trans q3)
      refine Pg.mono (pg_put (S1 := rsS1 S m e n) (S2 := rsS S m e n) s1 k1 k2 rfl) fun S2 z => Or.inr ⟨m, e, n, s, W, hm, q1, z, ?_⟩
      subst z
      have wc : ∀ s x k, x = 9 ∨ x = 1003 ∨ x = 1005 ∨ x = 1006 ∨ x = 1007 ∨ x = 1008 → gI (rsS S m e n) x s k = gI S x s k := fun s x k hx => rs_x (by omega) (by omega) (by omega) (by omega) (by omega)
      have wj : ∀ s x k, x = 1002 ∨ x = 1009 → gJ (rsS S m e n) x s k = gJ S x s k := fun s x k hx => rs_J (by omega) (by omega)
      refine ⟨rs_k.trans q2, q4.cong hW (wc s) (wj s) (fun k hk => by rw [Nat.zero_add, rs_b (by omega)]) (fun i hi => by rw [Nat.zero_add, rs_N hi]), q5.cong rs_w (by rw [Nat.zero_add, rs_b (by omega)]) (fun k hk => rs_t hk) (fun k hk => by rw [Nat.zero_add, rs_b (by omega), Nat.add_assoc]), ?_, fun E => ⟨?_, ?_, by omega, ?_, hq8, fun i hi => absurd hi (by omega)⟩, fun m' hm' => ?_, ?_⟩
      · refine q6.cong hQ ?_ ?_ ?_ ?_ fun e' k hee hl hk => ?_
        · rw [rs_c (by decide) (by decide)]; unfold rsS1; rw [gI_sI, if_neg (by omega), tcp_0, tbc_x (by decide) (by decide), gI_sI, if_neg (by omega)]
        · rw [rs_c (by decide) (by decide)]; unfold rsS1; rw [gI_sI, if_neg (by omega), tcp_1]; exact b5.symm
        · exact rs_b (by omega)
        · exact rs_b (by omega)
        · have : e' = e := by
            have t1 := congrArg Int32.toInt (hee.symm.trans b5)
            rw [nI_toInt (by omega), nI_toInt (by omega)] at t1
            omega
          subst this
          unfold rw4
          rw [rs_c (by decide) (by decide), rs_c (by decide) (by decide), rs_b (by omega), rs_b (by omega)]
          unfold rsS1
          rw [gI_sI, if_neg (by omega), tcp_keys (by omega) hk, gI_sI, if_neg (by omega), tcp_nums (by omega) hk, tbc_x (by decide) (by decide), tbc_x (by decide) (by decide), gI_sI, if_neg (by omega), gI_sI, if_neg (by omega)]
          simp only [Nat.add_assoc]
      · rw [rs_c (by decide) (by decide)]; unfold rsS1; rw [gI_sI, if_pos ⟨rfl, rfl, rfl⟩]
      · unfold rsS; rw [gI_rsM, if_pos ⟨rfl, rfl, rfl⟩]
      · rw [rs_x (by decide) (by omega) (by omega) (by omega) (by omega)]; exact hq
      · have ib : ∀ k, gI (rsS S m e n) 1391 0 k = gI S 1391 0 k := fun k => rs_x (by decide) (by omega) (by omega) (by omega) (by omega)
        rcases hK m' hm' with z | ⟨s', W', r1, r2, r3, r4, r5, r6⟩
        · refine Or.inl ⟨?_, ?_⟩
          · rw [rs_x (by decide) (by omega) (by omega) (by omega) (by omega)]; exact z.1
          · rw [rs_x (by decide) (by omega) (by omega) (by omega) (by omega)]; exact z.2
        · refine Or.inr ⟨s', W', r1, ?_, ?_, r4.cong hW (wc s') (wj s') (fun k hk => ib _) (fun i hi => rs_J (by decide) (by omega)), r5.cong ?_ (ib _) (fun k hk => ?_) (fun k hk => ib _), ?_⟩
          · rw [rs_x (by decide) (by omega) (by omega) (by omega) (by omega)]; exact r2
          · rw [rs_x (by decide) (by omega) (by omega) (by omega) (by omega)]; exact r3
          · exact rs_x (by decide) (by omega) (by omega) (by omega) (by omega)
          · exact rs_x (by decide) (by omega) (by omega) (by omega) (by omega)
          · refine r6.cong hQ ?_ ?_ (ib _) (ib _) fun e' k hee hl hk => ?_
            · exact rs_x (by decide) (by omega) (by omega) (by omega) (by omega)
            · exact rs_x (by decide) (by omega) (by omega) (by omega) (by omega)
            · unfold rw4
              rw [rs_x (by decide) (by omega) (by omega) (by omega) (by omega), rs_x (by decide) (by omega) (by omega) (by omega) (by omega), ib, ib]
      · have t0 : TLs (tbc (sI S 11 0 3 (gI S 1204 0 m)) 0 (m + 1)) := fun j hj => (hT j hj).cong rfl rfl (by rw [tbc_x (by decide) (by decide), gI_sI, if_neg (by omega)])
        have t1 : TLs (tcp (tbc (sI S 11 0 3 (gI S 1204 0 m)) 0 (m + 1)) 0 (m + 1) e n) := t0.tcp (i := m + 1) (by omega) a1 a2 (show e ≤ 1200 by omega)
        exact fun j hj => (t1 j hj).cong rfl rfl ((rs_c (by decide) (by decide)).trans (by unfold rsS1; rw [gI_sI, if_neg (by omega)]))
  · exact Pg.mono (pg_get hs (ok_X11_restore_out hs ha) (ok_X12_restore_out hs (fun z => ha (in12 z))) rfl) fun S2 z => Or.inl z
/-! space -/
def spS (S : zS) (m : Nat) : zS := flS (sI (sI (flS (sI S 7 0 0 (nI m)) 801 0 0 729 (nI 0)) 12 0 0 (nI 0)) 1306 0 3 (nI m)) 1306 0 444 1173 (nI 0)
theorem gI_flS {S : zS} {a b lo hi x y k : Nat} {v : Int32} : gI (flS S a b lo hi v) x y k = if x = a ∧ y = b ∧ lo ≤ k ∧ k < hi then v else gI S x y k := rfl
theorem sp_x {S : zS} {m x y k : Nat} (h1 : ¬ (x = 7 ∧ y = 0 ∧ k = 0)) (h2 : ¬ (x = 801 ∧ y = 0)) (h3 : ¬ (x = 12 ∧ y = 0 ∧ k = 0)) (h4 : ¬ (x = 1306 ∧ y = 0 ∧ (k = 3 ∨ 444 ≤ k ∧ k < 1173))) : gI (spS S m) x y k = gI S x y k := by
  unfold spS
  rw [gI_flS, if_neg (by omega), gI_sI, if_neg (by omega), gI_sI, if_neg (by omega), gI_flS, if_neg (by omega), gI_sI, if_neg (by omega)]
theorem pg_space {S : zS} (hs : Sd S) (a : Int32) : Pg mX11_space 2 [zr 11 0, zi a] mX12_space 3 [zr 12 0, zi a] S (fun S2 => S2 = sI S 12 0 0 (nI 0) ∨ ∃ m, S2 = spS S m ∧ TB S2 0 1306 0) := by
  by_cases ha : nI 1 ≤ a ∧ a ≤ nI 3
  · obtain ⟨m, h1, h3, rfl⟩ := zz_in ha (by omega) (by omega)
    refine Pg.mono (pg_put (S1 := flS (sI S 7 0 0 (nI m)) 801 0 0 729 (nI 0)) (S2 := spS S m) hs (ok_X11_space_in hs h1 h3) (ok_X12_space_in (S := flS (sI S 7 0 0 (nI m)) 801 0 0 729 (nI 0)) hs h1 h3) rfl) fun S2 z => Or.inr ⟨m, z, ?_⟩
    subst z
    refine ⟨m, h1, h3, ?_, ?_, fun k hk => ?_⟩
    · unfold spS
      rw [gI_flS, if_neg (by omega), gI_sI, if_neg (by omega), gI_sI, if_neg (by omega), gI_flS, if_neg (by omega), gI_sI, if_pos ⟨rfl, rfl, rfl⟩]
    · unfold spS
      rw [gI_flS, if_neg (by omega), gI_sI, if_pos ⟨rfl, rfl, rfl⟩]
    · unfold spS
      rw [gI_flS, if_neg (by omega), gI_sI, if_neg (by omega), gI_sI, if_neg (by omega), gI_flS, if_pos (by omega), gI_flS, if_pos (by omega)]
  · exact Pg.mono (pg_get hs (ok_X11_space_out hs ha) (ok_X12_space_out hs ha) rfl) fun S2 z => Or.inl z
