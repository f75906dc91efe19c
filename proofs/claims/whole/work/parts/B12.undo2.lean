/-! undo, image and restore again, with the lengths of the rows at hand -/
theorem pg_undo2 {α : Type} {SQ : zQ2 α} (hQ : Lo SQ) {S : zS} (hs : Sd S) {E : α} {h q : Nat} (hP : Pst SQ S E h q) (hT : TLs S) : Pg mX11_undo 1 [zr 11 0] mX12_undo 2 [zr 12 0] S (fun S2 => S2 = sI S 12 0 0 (nI 0) ∧ h = 0 ∨ ∃ p e n, (gN S 902 0 = n ∧ gN S 903 0 = n ∧ 1 ≤ n ∧ n ≤ 1200 ∧ e ≤ 1200) ∧ S2 = unS S h p e n ∧ SR SQ S2 E 0 1306 1173 ∧ Pst SQ S2 E (h - 1) p ∧ TLs S2) := by
  obtain ⟨p1, p2, p3, p4, p5, p6⟩ := hP
  by_cases h0 : h = 0
  · subst h0
    exact Pg.mono (pg_get hs (ok_X11_undo_0 hs p1) (ok_X12_undo_0 hs p2) rfl) fun S2 z => Or.inl ⟨z, rfl⟩
  · obtain ⟨n, e9, a1, a2, a3, a4, a5, a6⟩ := hT 0 (by omega)
    obtain ⟨p, hp⟩ : ∃ p, (q + 8 - 1) % 8 = p := ⟨_, rfl⟩
    have hp8 : p < 8 := by omega
    obtain ⟨o, e, b1, b2, b3, b4, b5, b6⟩ := hT (p + 3) (by omega)
    have k1 := ok_X11_undo hs p1 p4 (by omega) p3 p5 hp hp8 a1 a2 (by omega) a4 (show e ≤ 1200 by omega) b5 b1 b2 b6 b4
    have s1 : Sd (unS1 S h p e n) := sd_tcp (S := sI (sI S 11 0 10 (nI (h - 1))) 11 0 11 (nI p)) hs
    have hh1 : gI (unS1 S h p e n) 12 0 58 = nI h := by
      unfold unS1
      rw [tcp_x (by decide) (by omega) (by omega), gI_sI, if_neg (by omega), gI_sI, if_neg (by omega)]
      exact p2
    have k2 := ok_X12_undo s1 hh1 (by omega) p3
    have hsr := p6 0 (by omega)
    rw [show (q + 7 - 0) % 8 = p by omega, show h - 1 - 0 = h - 1 by omega] at hsr
    have ee : nI e = gI (unS S h p e n) 1306 0 1174 := by
      obtain ⟨lv, e', q1, q2, q3, q4, q5, q6⟩ := hsr
      exact (b5.symm.trans q3).trans (q4.symm.trans (un_s (k := 1) (by omega)).symm)
    refine Pg.mono (pg_put (S1 := unS1 S h p e n) (S2 := unS S h p e n) s1 k1 k2 ee) fun S2 z => Or.inr ⟨p, e, n, ⟨a1, a2, by omega, by omega, by omega⟩, z, ?_⟩
    subst z
    refine ⟨?_, ⟨?_, ?_, by omega, ?_, hp8, fun i hi => ?_⟩, ?_⟩
    · refine hsr.cong hQ ?_ ?_ ?_ ?_ fun e' k he hl hk => ?_
      · rw [un_t (by omega)]; unfold unS1; rw [tcp_0, gI_sI, if_neg (by omega), gI_sI, if_neg (by omega)]
      · rw [un_t (by omega)]; unfold unS1; rw [tcp_1]; exact b5.symm
      · exact un_s (k := 0) (by omega)
      · exact un_s (k := 1) (by omega)
      · have hee : e' = e := by
          have := he.symm.trans b5
          have t1 := congrArg Int32.toInt this
          rw [nI_toInt (by omega), nI_toInt (by omega)] at t1
          omega
        subst hee
        unfold rw4
        rw [un_t (by omega), un_t (by omega)]
        have w1 := un_s (S := S) (h := h) (p := p) (e := e') (n := n) (k := 2 + k) (by omega)
        have w2 := un_s (S := S) (h := h) (p := p) (e := e') (n := n) (k := 1302 + k) (by omega)
        rw [← Nat.add_assoc, ← Nat.add_assoc] at w1 w2
        rw [w1, w2]
        unfold unS1
        rw [tcp_keys (by omega) hk, tcp_nums (by omega) hk, gI_sI, if_neg (by omega), gI_sI, if_neg (by omega), gI_sI, if_neg (by omega), gI_sI, if_neg (by omega)]
    · rw [un_t (by omega)]; unfold unS1; rw [tcp_x (by decide) (by omega) (by omega), gI_sI, if_neg (by omega), gI_sI, if_pos ⟨rfl, rfl, rfl⟩]
    · unfold unS; rw [gI_cpR, if_neg (by omega), gI_sI, if_pos ⟨rfl, rfl, rfl⟩]
    · rw [un_t (by omega)]; unfold unS1; rw [tcp_x (by decide) (by omega) (by omega), gI_sI, if_pos ⟨rfl, rfl, rfl⟩]
    · have z := p6 (i + 1) (by omega)
      rw [show (q + 7 - (i + 1)) % 8 = (p + 7 - i) % 8 by omega, show h - 1 - (i + 1) = h - 1 - 1 - i by omega] at z
      refine z.cong hQ ?_ ?_ ?_ ?_ fun e' k _ _ _ => ?_
      · exact un_x (by omega) (by omega) (by omega) (by omega) (by omega) (by decide)
      · exact un_x (by omega) (by omega) (by omega) (by omega) (by omega) (by decide)
      · exact un_x (by omega) (by omega) (by omega) (by omega) (by omega) (by decide)
      · exact un_x (by omega) (by omega) (by omega) (by omega) (by omega) (by decide)
      · unfold rw4
        rw [un_x (by omega) (by omega) (by omega) (by omega) (by omega) (by decide), un_x (by omega) (by omega) (by omega) (by omega) (by omega) (by decide), un_x (by omega) (by omega) (by omega) (by omega) (by omega) (by decide), un_x (by omega) (by omega) (by omega) (by omega) (by omega) (by decide)]
    · have t0 : TLs (sI (sI S 11 0 10 (nI (h - 1))) 11 0 11 (nI p)) := fun j hj => (hT j hj).cong rfl rfl (by rw [gI_sI, if_neg (by omega), gI_sI, if_neg (by omega)])
      have t1 : TLs (unS1 S h p e n) := t0.tcp (i := p + 3) (by omega) a1 a2 (show e ≤ 1200 by omega)
      exact fun j hj => (t1 j hj).cong rfl rfl (un_t (by omega))
theorem pg_image2 {α : Type} {SQ : zQ2 α} (hQ : Lo SQ) {WQ : zW α} (hW : WLo WQ) {S : zS} (hs : Sd S) {W : α} {c : Nat} (hc : gI S 11 0 3 = nI c) (hc4 : c < 4) (hw : WR WQ S W c 1306 0 1308 0) (hb : TB S 0 1306 0) (hA : SR SQ S W 0 1306 1173) (hT : TLs S) (hK : ∀ m, m < 2 → KP SQ WQ S m) (a : Int32) : Pg mX11_image 2 [zr 11 0, zi a] mX12_image 3 [zr 12 0, zi a] S (fun S2 => S2 = sI S 12 0 0 (nI 0) ∨ ∃ m e n, m < 2 ∧ (gN S 902 (m + 1) = n ∧ gN S 903 (m + 1) = n ∧ 1 ≤ n ∧ n ≤ 1200 ∧ e ≤ 1200) ∧ S2 = imS S m e n ∧ (∀ m, m < 2 → KP SQ WQ S2 m) ∧ TLs S2) := by
  by_cases ha : 0 ≤ a ∧ a < nI 2
  · obtain ⟨m, hm, rfl⟩ := zz_of ha (by omega)
    obtain ⟨n, e9, a1, a2, a3, a4, a5, a6⟩ := hT (m + 1) (by omega)
    obtain ⟨o, e, b1, b2, b3, b4, b5, b6⟩ := hT 0 (by omega)
    have k1 := ok_X11_image_in hs hm a1 a2 (by omega) a4 (show e ≤ 1200 by omega) b5 b1 b2 b6 b4
    have s1 : Sd (imS1 S m e n) := sd_tcp (S := tbc (sI S 1204 0 m (gI S 11 0 3)) (m + 1) 0) hs
    refine Pg.mono (pg_put (S1 := imS1 S m e n) (S2 := imS S m e n) s1 k1 (ok_X12_image_in s1 hm) rfl) fun S2 z => Or.inr ⟨m, e, n, hm, ⟨a1, a2, by omega, by omega, by omega⟩, z, ?_⟩
    subst z
    have wc : ∀ s x k, x = 9 ∨ x = 1003 ∨ x = 1005 ∨ x = 1006 ∨ x = 1007 ∨ x = 1008 → gI (imS S m e n) x s k = gI S x s k := fun s x k hx => im_x (by omega) (by omega) (by omega) (by omega) (by omega) (by omega)
    have wj : ∀ s x k, x = 1002 ∨ x = 1009 → gJ (imS S m e n) x s k = gJ S x s k := fun s x k hx => im_J (by omega) (by omega)
    refine ⟨fun m' hm' => ?_, ?_⟩
    · by_cases em : m' = m
      · subst em
        refine Or.inr ⟨c, W, hc4, im_k.trans hc, im_i, hw.cong hW (wc c) (wj c) (fun k hk => by rw [im_b (by omega), Nat.zero_add]) (fun i hi => by rw [im_N hi, Nat.zero_add]), hb.cong im_w (by rw [im_b (by omega)]) (fun k hk => im_t hk) (fun k hk => by rw [Nat.add_assoc, im_b (by omega), Nat.add_assoc, Nat.zero_add]), ?_⟩
        refine hA.cong hQ ?_ ?_ ?_ ?_ fun e' k hee hl hk => ?_
        · rw [im_c (by decide) (by decide) (by decide)]; unfold imS1; rw [tcp_0, tbc_x (by decide) (by decide), gI_sI, if_neg (by omega)]
        · rw [im_c (by decide) (by decide) (by decide)]; unfold imS1; rw [tcp_1]; exact b5.symm
        · exact im_b (by omega)
        · rw [Nat.add_assoc]; exact im_b (by omega)
        · have : e' = e := by
            have t1 := congrArg Int32.toInt (hee.symm.trans b5)
            rw [nI_toInt (by omega), nI_toInt (by omega)] at t1
            omega
          subst this
          unfold rw4
          rw [im_c (by decide) (by decide) (by decide), im_c (by decide) (by decide) (by decide)]
          have w1 := im_b (S := S) (m := m') (e := e') (n := n) (k := 1173 + 2 + k) (by omega)
          have w2 := im_b (S := S) (m := m') (e := e') (n := n) (k := 1173 + 1302 + k) (by omega)
          rw [← Nat.add_assoc, ← Nat.add_assoc] at w1 w2
          rw [w1, w2]
          unfold imS1
          rw [tcp_keys (by omega) hk, tcp_nums (by omega) hk, tbc_x (by decide) (by decide), tbc_x (by decide) (by decide), gI_sI, if_neg (by omega), gI_sI, if_neg (by omega)]
      · have ib : ∀ k, k < 3775 → gI (imS S m e n) 1391 0 (3775 * m' + k) = gI S 1391 0 (3775 * m' + k) := fun k hk => im_x (by decide) (by omega) (by omega) (by omega) (by omega) (by omega)
        rcases hK m' hm' with z | ⟨s, W', q1, q2, q3, q4, q5, q6⟩
        · refine Or.inl ⟨?_, ?_⟩
          · rw [im_x (by decide) (by omega) (by omega) (by omega) (by omega) (by omega)]; exact z.1
          · rw [im_x (by decide) (by omega) (by omega) (by omega) (by omega) (by omega)]; exact z.2
        · refine Or.inr ⟨s, W', q1, ?_, ?_, q4.cong hW (wc s) (wj s) (fun k hk => ib k (by omega)) (fun i hi => im_J (by decide) (by omega)), q5.cong ?_ (ib 3 (by omega)) (fun k hk => ?_) (fun k hk => by rw [Nat.add_assoc]; exact ib (444 + k) (by omega)), ?_⟩
          · rw [im_x (by decide) (by omega) (by omega) (by omega) (by omega) (by omega)]; exact q2
          · rw [im_x (by decide) (by omega) (by omega) (by omega) (by omega) (by omega)]; exact q3
          · exact im_x (by decide) (by omega) (by omega) (by omega) (by omega) (by omega)
          · exact im_x (by decide) (by omega) (by omega) (by omega) (by omega) (by omega)
          · refine q6.cong hQ ?_ ?_ ?_ ?_ fun e' k hee hl hk => ?_
            · exact im_x (by decide) (by omega) (by omega) (by omega) (by omega) (by omega)
            · exact im_x (by decide) (by omega) (by omega) (by omega) (by omega) (by omega)
            · exact ib 1173 (by omega)
            · exact ib 1174 (by omega)
            · unfold rw4
              rw [im_x (by decide) (by omega) (by omega) (by omega) (by omega) (by omega), im_x (by decide) (by omega) (by omega) (by omega) (by omega) (by omega), im_x (by decide) (by omega) (by omega) (by omega) (by omega) (by omega), im_x (by decide) (by omega) (by omega) (by omega) (by omega) (by omega)]
    · have t0 : TLs (tbc (sI S 1204 0 m (gI S 11 0 3)) (m + 1) 0) := fun j hj => (hT j hj).cong rfl rfl (by rw [tbc_x (by decide) (by decide), gI_sI, if_neg (by omega)])
      have t1 : TLs (imS1 S m e n) := t0.tcp (i := 0) (by omega) a1 a2 (show e ≤ 1200 by omega)
      exact fun j hj => (t1 j hj).cong rfl rfl (im_c (by decide) (by decide) (by decide))
  · exact Pg.mono (pg_get hs (ok_X11_image_out hs ha) (ok_X12_image_out hs (fun z => ha (in12 z))) rfl) fun S2 z => Or.inl z
theorem pg_restore2 {α : Type} {SQ : zQ2 α} (hQ : Lo SQ) {WQ : zW α} (hW : WLo WQ) {S : zS} (hs : Sd S) {q : Nat} (hq : gI S 11 0 11 = nI q) (hq8 : q < 8) (hT : TLs S) (hK : ∀ m, m < 2 → KP SQ WQ S m) (a : Int32) : Pg mX11_restore 2 [zr 11 0, zi a] mX12_restore 3 [zr 12 0, zi a] S (fun S2 => S2 = sI S 12 0 0 (nI 0) ∨ ∃ m e n s W, m < 2 ∧ s < 4 ∧ (gN S 902 0 = n ∧ gN S 903 0 = n ∧ 1 ≤ n ∧ n ≤ 1200 ∧ e ≤ 1200) ∧ S2 = rsS S m e n ∧ gI S2 11 0 3 = nI s ∧ WR WQ S2 W s 1306 0 1308 0 ∧ TB S2 0 1306 0 ∧ SR SQ S2 W 0 1306 1173 ∧ (∀ E, Pst SQ S2 E 0 q) ∧ (∀ m, m < 2 → KP SQ WQ S2 m) ∧ TLs S2) := by
  by_cases ha : 0 ≤ a ∧ a < nI 2
  · obtain ⟨m, hm, rfl⟩ := zz_of ha (by omega)
    rcases hK m hm with z | ⟨s, W, q1, q2, q3, q4, q5, q6⟩
    · exact Pg.mono (pg_get hs (ok_X11_restore_no hs hm z.1) (ok_X12_restore_no hs hm z.2) rfl) fun S2 z => Or.inl z
    · obtain ⟨n, e9, a1, a2, a3, a4, a5, a6⟩ := hT 0 (by omega)
      obtain ⟨o, e, b1, b2, b3, b4, b5, b6⟩ := hT (m + 1) (by omega)
      have k1 := ok_X11_restore_in hs hm q2 q1 a1 a2 (by omega) a4 (show e ≤ 1200 by omega) b5 b1 b2 b6 b4
      have s1 : Sd (rsS1 S m e n) := sd_tcp (S := tbc (sI S 11 0 3 (gI S 1204 0 m)) 0 (m + 1)) hs (j := 0) (i := m + 1) (e := e) (n := n)
      have k2 := ok_X12_restore_in s1 hm ((rs1_x (by decide) (by omega) (by omega)).trans q3)
      refine Pg.mono (pg_put (S1 := rsS1 S m e n) (S2 := rsS S m e n) s1 k1 k2 rfl) fun S2 z => Or.inr ⟨m, e, n, s, W, hm, q1, ⟨a1, a2, by omega, by omega, by omega⟩, z, ?_⟩
      subst z
      have wc : ∀ s x k, x = 9 ∨ x = 1003 ∨ x = 1005 ∨ x = 1006 ∨ x = 1007 ∨ x = 1008 → gI (rsS S m e n) x s k = gI S x s k := fun s x k hx => rs_x (by omega) (by omega) (by omega) (by omega) (by omega)
      have wj : ∀ s x k, x = 1002 ∨ x = 1009 → gJ (rsS S m e n) x s k = gJ S x s k := fun s x k hx => rs_J (by omega) (by omega)
      refine ⟨rs_k.trans q2, q4.cong hW (wc s) (wj s) (fun k hk => by rw [Nat.zero_add, rs_b (by omega)]) (fun i hi => by rw [Nat.zero_add, rs_N hi]), q5.cong rs_w (by rw [Nat.zero_add, rs_b (by omega)]) (fun k hk => rs_t hk) (fun k hk => by rw [Nat.zero_add, rs_b (by omega), Nat.add_assoc]), ?_, fun E => ⟨?_, ?_, by omega, ?_, hq8, fun i hi => absurd hi (by omega)⟩, fun m' hm' => ?_, ?_⟩
      · refine q6.cong hQ ?_ ?_ ?_ ?_ fun e' k hee hl hk => ?_
        · rw [rs_c (by decide) (by decide)]; unfold rsS1; rw [gI_sI, if_neg (by omega), tcp_0, tbc_x (by decide) (by decide), gI_sI, if_neg (by omega)]
        · rw [rs_c (by decide) (by decide)]; unfold rsS1; rw [gI_sI, if_neg (by omega), tcp_1]; exact b5.symm
        · exact rs_b (by omega)
        · exact rs_b (by omega)
        · have : e' = e := by
            have t1 := congrArg Int32.toInt (hee.symm.trans b5)
            rw [nI_toInt (by omega), nI_toInt (by omega)] at t1
            omega
          subst this
          unfold rw4
          rw [rs_c (by decide) (by decide), rs_c (by decide) (by decide), rs_b (by omega), rs_b (by omega)]
          unfold rsS1
          rw [gI_sI, if_neg (by omega), tcp_keys (by omega) hk, gI_sI, if_neg (by omega), tcp_nums (by omega) hk, tbc_x (by decide) (by decide), tbc_x (by decide) (by decide), gI_sI, if_neg (by omega), gI_sI, if_neg (by omega)]
          simp only [Nat.add_assoc]
      · rw [rs_c (by decide) (by decide)]; unfold rsS1; rw [gI_sI, if_pos ⟨rfl, rfl, rfl⟩]
      · unfold rsS; rw [gI_rsM, if_pos ⟨rfl, rfl, rfl⟩]
      · rw [rs_x (by decide) (by omega) (by omega) (by omega) (by omega)]; exact hq
      · have ib : ∀ k, gI (rsS S m e n) 1391 0 k = gI S 1391 0 k := fun k => rs_x (by decide) (by omega) (by omega) (by omega) (by omega)
        rcases hK m' hm' with z | ⟨s', W', r1, r2, r3, r4, r5, r6⟩
        · refine Or.inl ⟨?_, ?_⟩
          · rw [rs_x (by decide) (by omega) (by omega) (by omega) (by omega)]; exact z.1
          · rw [rs_x (by decide) (by omega) (by omega) (by omega) (by omega)]; exact z.2
        · refine Or.inr ⟨s', W', r1, ?_, ?_, r4.cong hW (wc s') (wj s') (fun k hk => ib _) (fun i hi => rs_J (by decide) (by omega)), r5.cong ?_ (ib _) (fun k hk => ?_) (fun k hk => ib _), ?_⟩
          · rw [rs_x (by decide) (by omega) (by omega) (by omega) (by omega)]; exact r2
          · rw [rs_x (by decide) (by omega) (by omega) (by omega) (by omega)]; exact r3
          · exact rs_x (by decide) (by omega) (by omega) (by omega) (by omega)
          · exact rs_x (by decide) (by omega) (by omega) (by omega) (by omega)
          · refine r6.cong hQ ?_ ?_ (ib _) (ib _) fun e' k hee hl hk => ?_
            · exact rs_x (by decide) (by omega) (by omega) (by omega) (by omega)
            · exact rs_x (by decide) (by omega) (by omega) (by omega) (by omega)
            · unfold rw4
              rw [rs_x (by decide) (by omega) (by omega) (by omega) (by omega), rs_x (by decide) (by omega) (by omega) (by omega) (by omega), ib, ib]
      · have t0 : TLs (tbc (sI S 11 0 3 (gI S 1204 0 m)) 0 (m + 1)) := fun j hj => (hT j hj).cong rfl rfl (by rw [tbc_x (by decide) (by decide), gI_sI, if_neg (by omega)])
        have t1 : TLs (tcp (tbc (sI S 11 0 3 (gI S 1204 0 m)) 0 (m + 1)) 0 (m + 1) e n) := t0.tcp (i := m + 1) (by omega) a1 a2 (show e ≤ 1200 by omega)
        exact fun j hj => (t1 j hj).cong rfl rfl ((rs_c (by decide) (by decide)).trans (by unfold rsS1; rw [gI_sI, if_neg (by omega)]))
  · exact Pg.mono (pg_get hs (ok_X11_restore_out hs ha) (ok_X12_restore_out hs (fun z => ha (in12 z))) rfl) fun S2 z => Or.inl z
def Rst (S : zS) : Prop := ∃ cc W bs h q, cc < 4 ∧ gI S 11 0 3 = nI cc ∧ WR wq S W cc 1306 0 1308 0 ∧ TapeR S bs ∧ TB S 0 1306 0 ∧ TbV S (wP W) ∧ KTv S ∧ SR sq S W 0 1306 1173 ∧ Pst sq S W h q ∧ TLs S ∧ (∀ m, m < 2 → KP sq wq S m) ∧ gI S 4 0 14 = gI S 12 0 13 ∧ gI S 3 0 1 = gI S 12 0 82 ∧ BsC S cc W ∧ Ini S ∧ Sls S ∧ Bl3 S
theorem Inv.new {A0 B0 k : Nat} {S S1 : zS} (h : Inv A0 B0 k S) {T : Nat → Nat → Nat → Prop} (f : Fg T (bmp S) S1) (h5 : gE S1 5000 0 = true) (hn5 : gN S1 5000 0 = 1) (hr : Rst S1) : Inv A0 B0 (k + 1) S1 := by
  obtain ⟨⟨h1, h2, h3, h4, h4'⟩, -⟩ := h
  have r1 : gC S1 + pC S1 ≤ gC S + 1 + pC S := f.2.2.2.2.1
  have r2 : gQ S1 + pQ S1 ≤ gQ S + 6 + pQ S := f.2.2.2.2.2
  exact ⟨⟨f.sd, h5, hn5, by omega, by omega⟩, hr⟩
def tU2 (a b k : Nat) : Prop := a = 11 ∧ b = 0 ∧ (k = 10 ∨ k = 11) ∨ a = 12 ∧ b = 0 ∧ (k = 0 ∨ k = 58) ∨ (a = 8 ∨ a = 902 ∨ a = 903) ∧ b = 0 ∨ a = 1306 ∧ b = 0 ∧ 1173 ≤ k
theorem unS_fg {S : zS} (hs : Sd S) {h p e n : Nat} (h2 : gN S 902 0 = n ∧ gN S 903 0 = n ∧ 1 ≤ n ∧ n ≤ 1200 ∧ e ≤ 1200) : Fg tU2 S (unS S h p e n) := by
  have f0 : Fg tU2 S (sI (sI S 11 0 10 (nI (h - 1))) 11 0 11 (nI p)) := Fg.of22 hs rfl (fun a b k _ n => by unfold tU2 at n; rw [gI_sI, if_neg (by omega), gI_sI, if_neg (by omega)]) (fun a b k _ n => rfl)
  have f1 : Fg tU2 (sI (sI S 11 0 10 (nI (h - 1))) 11 0 11 (nI p)) (unS1 S h p e n) := Fg.tcp f0.1 (by decide) h2.1 h2.2.1 h2.2.2.1 h2.2.2.2.1 h2.2.2.2.2 (fun k => by unfold tU2; omega)
  have f2 : Fg tU2 (unS1 S h p e n) (unS S h p e n) := Fg.of22 f1.1 rfl (fun a b k _ n => by unfold tU2 at n; unfold unS; rw [gI_cpR, if_neg (by omega), gI_sI, if_neg (by omega), gI_sI, if_neg (by omega)]) (fun a b k _ n => rfl)
  exact (f0.tr f1).tr f2
theorem st_undo {NN A0 B0 : Nat} : pr_undo NN (Inv A0 B0) := fun k S _ h => by
  obtain ⟨-, cc, W, bs, hh, q, c4, c3, cW, cT, cB, cV, cK, cS, cP, cL, cKP, cF, cBr, cBs, cI, cSl, cBl⟩ := id h
  refine pg_keep (pg_undo2 lo_sq h.1.1 cP cL) h.1.2.1 (fun S2 z h5 => ?_)
  rcases z with ⟨z, -⟩ | ⟨p, e, n, z1, z2, z3, z4, z5⟩
  · rw [z]; exact inv_thr h
  · have f : Fg tU2 S S2 := by rw [z2]; exact unS_fg h.1.1 z1
    refine h.kpt c4 c3 cW f (fun a b k z => by unfold tU2 at z; unfold kb_t sm_t nic0; omega) h5 ⟨bs, cT.sm f ⟨by unfold tU2; omega, by unfold tU2; omega, fun k => by unfold tU2; omega, fun k => by unfold tU2; omega⟩⟩ z3 ⟨_, _, z4⟩ z5 ?_ ?_ ?_
    · rw [f.I (by decide) (by unfold tU2; omega), f.I (by decide) (by unfold tU2; omega)]; exact cF
    · rw [f.I (by decide) (by unfold tU2; omega), f.I (by decide) (by unfold tU2; omega)]; exact cBr
    · exact cBs.pl (fun a b k z => by unfold tU2 at z; unfold nice; omega) f ⟨by unfold tU2; omega, fun k => by unfold tU2; omega, fun k => by unfold tU2; omega, fun k _ => by unfold tU2; omega⟩
def tI2 (a b k : Nat) : Prop := a = 1204 ∧ b = 0 ∨ (a = 7 ∨ a = 801 ∨ a = 8 ∨ a = 902 ∨ a = 903) ∧ (b = 1 ∨ b = 2) ∨ (a = 1391 ∨ a = 1392 ∨ a = 1393) ∧ b = 0 ∨ a = 12 ∧ b = 0 ∧ k = 0
theorem imS_fg {S : zS} (hs : Sd S) {m e n : Nat} (hm : m < 2) (h2 : gN S 902 (m + 1) = n ∧ gN S 903 (m + 1) = n ∧ 1 ≤ n ∧ n ≤ 1200 ∧ e ≤ 1200) : Fg tI2 S (imS S m e n) := by
  have f0 : Fg tI2 S (tbc (sI S 1204 0 m (gI S 11 0 3)) (m + 1) 0) := Fg.of22 hs rfl (fun a b k _ n => by unfold tI2 at n; unfold tbc; rw [gI_cpS, if_neg (by omega), gI_sI, if_neg (by omega), gI_sI, if_neg (by omega)]) (fun a b k _ n => rfl)
  have f1 : Fg tI2 (tbc (sI S 1204 0 m (gI S 11 0 3)) (m + 1) 0) (imS1 S m e n) := Fg.tcp f0.1 (by omega) h2.1 h2.2.1 h2.2.2.1 h2.2.2.2.1 h2.2.2.2.2 (fun k => by unfold tI2; omega)
  have f2 : Fg tI2 (imS1 S m e n) (imS S m e n) := Fg.of22 f1.1 rfl (fun a b k _ n => by unfold tI2 at n; unfold imS; rw [gI_imM, if_neg (by omega), if_neg (by omega), if_neg (by omega)]) (fun a b k _ n => by unfold tI2 at n; unfold imS; rw [gJ_imM, if_neg (by omega)])
  exact (f0.tr f1).tr f2
theorem bsc_rc {S S1 : zS} {cc : Nat} {W : zWd} (h : BsC S cc W) {T : Nat → Nat → Nat → Prop} (f : Fg T S S1) (t : ¬ T 0 cc 2 ∧ ∀ x k, 103 ≤ x → x ≤ 108 → ¬ T x cc k) (r : RcI S S1) : BsC S1 cc W := by
  obtain ⟨⟨n, mk, rl, hB⟩, hcr, hO, hI⟩ := h
  have rc := r.rc (W := W)
  exact ⟨⟨n, mk, rl, hB.fg f t⟩, rc.1 hcr, rc.2.1 hO, rc.2.2 hI⟩
theorem st_image {NN A0 B0 : Nat} : pr_image NN (Inv A0 B0) := fun k S a _ h => by
  obtain ⟨-, cc, W, bs, hh, q, c4, c3, cW, cT, cB, cV, cK, cS, cP, cL, cKP, cF, cBr, cBs, cI, cSl, cBl⟩ := id h
  obtain ⟨hW, hC, hR⟩ := cW.c
  refine pg_keep (pg_image2 lo_sq wlo_wq h.1.1 c3 c4 cW cB cS cL cKP a) h.1.2.1 (fun S2 z h5 => ?_)
  rcases z with z | ⟨m, e, n, hm, z1, z2, z3, z4⟩
  · rw [z]; exact inv_thr h
  · have f : Fg tI2 S S2 := by rw [z2]; exact imS_fg h.1.1 hm z1
    have im4 : ∀ x, x ≠ m → gI S2 1204 0 x = gI S 1204 0 x := fun x hx => by rw [z2]; exact im_x (by decide) (by omega) (by omega) (by omega) (by omega) (by omega)
    have im3 : gI S2 1204 0 m = gI S 11 0 3 := by rw [z2]; exact im_k
    refine h.new (fg_bm f) h5 ((f.N (by decide) (by unfold tI2; omega)).trans h.1.2.2.1) ⟨cc, W, bs, hh, q, c4, (f.I (by decide) (by unfold tI2; omega)).trans c3, ?_, ?_, ?_, ?_, ?_, ?_, ?_, z4, z3, ?_, ?_, ?_, ?_, ?_, ?_⟩
    · exact cW.cong wlo_wq (fun a k ha => f.I (by omega) (by unfold tI2; omega)) (fun a k ha => f.J (by omega) (by unfold tI2; omega)) (fun k hk => f.I (by decide) (by unfold tI2; omega)) (fun i hi => f.J (by decide) (by unfold tI2; omega))
    · exact cT.sm f ⟨by unfold tI2; omega, by unfold tI2; omega, fun k => by unfold tI2; omega, fun k => by unfold tI2; omega⟩
    · exact cB.cong (f.I (by decide) (by unfold tI2; omega)) (f.I (by decide) (by unfold tI2; omega)) (fun k hk => f.I (by decide) (by unfold tI2; omega)) (fun k hk => f.I (by decide) (by unfold tI2; omega))
    · intro k hk
      obtain ⟨v, v1, v2⟩ := cV k hk
      exact ⟨v, (f.I (by decide) (by unfold tI2; omega)).trans v1, v2⟩
    · intro m' hm' s hs hq V hV hc k hk
      have hb := hc.back f (fun a k ha => by unfold tI2; omega)
      by_cases em : m' = m
      · subst em
        have es : cc = s := (nI_eq (by omega) (by omega)).mp (c3.symm.trans (im3.symm.trans hq))
        subst es
        rw [wqC_uniq hV hW hb hC]
        obtain ⟨v, v1, v2⟩ := cV k hk
        exact ⟨v, by rw [z2, im_t hk]; exact v1, v2⟩
      · obtain ⟨v, v1, v2⟩ := cK m' hm' s hs ((im4 _ em).symm.trans hq) V hV hb k hk
        exact ⟨v, by rw [z2, im_x (by decide) (by omega) (by omega) (by omega) (by omega) (by omega)]; exact v1, v2⟩
    · exact SR.fg lo_sq cS f (by decide) (fun k hk => by unfold tI2; omega) (fun k => ⟨by unfold tI2; omega, by unfold tI2; omega⟩) (fun k a b => by unfold tI2; omega)
    · exact Pst.fg lo_sq cP f ⟨by unfold tI2; omega, by unfold tI2; omega, by unfold tI2; omega⟩ (fun j k a b => ⟨fun _ => by unfold tI2; omega, by unfold tI2; omega, by unfold tI2; omega⟩) (fun k => by unfold tI2; omega)
    · rw [f.I (by decide) (by unfold tI2; omega), f.I (by decide) (by unfold tI2; omega)]; exact cF
    · rw [f.I (by decide) (by unfold tI2; omega), f.I (by decide) (by unfold tI2; omega)]; exact cBr
    · exact bsc_rc cBs f ⟨by unfold tI2; omega, fun x k a b => by unfold tI2; omega⟩ (RcI.of f ⟨by unfold tI2; omega, by unfold tI2; omega, fun x k a b => by unfold tI2; omega, fun k _ => by unfold tI2; omega⟩)
    · exact cI.fg f (fun b => ⟨by unfold tI2; omega, by unfold tI2; omega, by unfold tI2; omega, by unfold tI2; omega⟩)
    · intro b hb hq
      have e4 : ∀ x, gI S2 1204 0 x = nI b → gI S 11 0 3 = nI b ∨ gI S 1204 0 x = nI b := fun x q => by
        by_cases e : x = m
        · rw [e, im3] at q; exact Or.inl q
        · rw [im4 _ e] at q; exact Or.inr q
      have hq2 : gI S 11 0 3 = nI b ∨ gI S 1204 0 0 = nI b ∨ gI S 1204 0 1 = nI b := by
        rcases hq with q | q | q
        · exact Or.inl ((f.I (by decide) (by unfold tI2; omega)).symm.trans q)
        · exact (e4 _ q).elim Or.inl (fun q => Or.inr (Or.inl q))
        · exact (e4 _ q).elim Or.inl (fun q => Or.inr (Or.inr q))
      obtain ⟨s1, s2⟩ := cSl b hb hq2
      exact ⟨s1.fg f ⟨by unfold tI2; omega, fun x k a b => by unfold tI2; omega⟩ (fun a k ha => by unfold tI2; omega), s2.fg f (by unfold tI2; omega) (fun k => by unfold tI2; omega) (fun a k ha => by unfold tI2; omega)⟩
    · exact cBl.sm f ⟨by unfold tI2; omega, by unfold tI2; omega, by unfold tI2; omega⟩
def tR2 (a b k : Nat) : Prop := a = 11 ∧ b = 0 ∧ (k = 3 ∨ k = 10) ∨ (a = 7 ∨ a = 801 ∨ a = 8 ∨ a = 902 ∨ a = 903) ∧ b = 0 ∨ a = 12 ∧ b = 0 ∧ (k = 0 ∨ k = 33 ∨ k = 58) ∨ (a = 1306 ∨ a = 1308) ∧ b = 0
theorem rsS_fg {S : zS} (hs : Sd S) {m e n : Nat} (hm : m < 2) (h2 : gN S 902 0 = n ∧ gN S 903 0 = n ∧ 1 ≤ n ∧ n ≤ 1200 ∧ e ≤ 1200) : Fg tR2 S (rsS S m e n) := by
  have f0 : Fg tR2 S (tbc (sI S 11 0 3 (gI S 1204 0 m)) 0 (m + 1)) := Fg.of22 hs rfl (fun a b k _ n => by unfold tR2 at n; unfold tbc; rw [gI_cpS, if_neg (by omega), gI_sI, if_neg (by omega), gI_sI, if_neg (by omega)]) (fun a b k _ n => rfl)
  have f1 : Fg tR2 (tbc (sI S 11 0 3 (gI S 1204 0 m)) 0 (m + 1)) (tcp (tbc (sI S 11 0 3 (gI S 1204 0 m)) 0 (m + 1)) 0 (m + 1) e n) := Fg.tcp f0.1 (by omega) h2.1 h2.2.1 h2.2.2.1 h2.2.2.2.1 h2.2.2.2.2 (fun k => by unfold tR2; omega)
  have f2 : Fg tR2 (tcp (tbc (sI S 11 0 3 (gI S 1204 0 m)) 0 (m + 1)) 0 (m + 1) e n) (rsS S m e n) := Fg.of22 f1.1 rfl (fun a b k _ n => by unfold tR2 at n; unfold rsS; rw [gI_rsM, if_neg (by omega), if_neg (by omega), if_neg (by omega), if_neg (by omega)]; unfold rsS1; rw [gI_sI, if_neg (by omega)]) (fun a b k _ n => by unfold tR2 at n; unfold rsS; rw [gJ_rsM, if_neg (by omega)]; rfl)
  exact (f0.tr f1).tr f2
theorem st_restore {NN A0 B0 : Nat} : pr_restore NN (Inv A0 B0) := fun k S a _ h => by
  obtain ⟨-, cc, W, bs, hh, q, c4, c3, cW, cT, cB, cV, cK, cS, cP, cL, cKP, cF, cBr, cBs, cI, cSl, cBl⟩ := id h
  refine pg_keep (pg_restore2 lo_sq wlo_wq h.1.1 cP.2.2.2.1 cP.2.2.2.2.1 cL cKP a) h.1.2.1 (fun S2 z h5 => ?_)
  rcases z with z | ⟨m, e, n, s, V, hm, hs4, z1, z2, z3, z4, z5, z6, z7, z8, z9⟩
  · rw [z]; exact inv_thr h
  · have f : Fg tR2 S S2 := by rw [z2]; exact rsS_fg h.1.1 hm z1
    obtain ⟨hV, hC, hR⟩ := z4.c
    have e4 : gI S2 11 0 3 = gI S 1204 0 m := by rw [z2]; exact rs_k
    have em : gI S 1204 0 m = nI s := e4.symm.trans z3
    have u4 : ∀ x, gI S 1204 0 m = nI x → gI S 11 0 3 = nI x ∨ gI S 1204 0 0 = nI x ∨ gI S 1204 0 1 = nI x := fun x y => by
      have : m = 0 ∨ m = 1 := by omega
      rcases this with rfl | rfl
      · exact Or.inr (Or.inl y)
      · exact Or.inr (Or.inr y)
    have gS : ∀ b, Slot S b → Slot S2 b := fun b s1 => s1.fg f ⟨by unfold tR2; omega, fun x k a b => by unfold tR2; omega⟩ (fun a k ha => by unfold tR2; omega)
    have own : gI S2 12 0 33 = -1 := by rw [z2]; unfold rsS; rw [gI_rsM, if_neg (by omega), if_pos ⟨rfl, rfl, rfl⟩]
    have nown : gI S2 12 0 33 ≠ nI 1 := by rw [own]; decide
    refine h.new (fg_bm f) h5 ((f.N (by decide) (by unfold tR2; omega)).trans h.1.2.2.1) ⟨s, V, bs, 0, q, hs4, z3, z4, ?_, z5, ?_, ?_, z6, z7 V, z9, z8, ?_, ?_, ?_, ?_, ?_, ?_⟩
    · exact cT.sm f ⟨by unfold tR2; omega, by unfold tR2; omega, fun k => by unfold tR2; omega, fun k => by unfold tR2; omega⟩
    · intro k hk
      obtain ⟨v, v1, v2⟩ := cK m hm s hs4 em V hV (hC.back f (fun a k ha => by unfold tR2; omega)) k hk
      exact ⟨v, by rw [z2, rs_t hk]; exact v1, v2⟩
    · intro m' hm' s' hs' hq' V' hV' hc' k hk
      obtain ⟨v, v1, v2⟩ := cK m' hm' s' hs' ((f.I (by decide) (by unfold tR2; omega)).symm.trans hq') V' hV' (hc'.back f (fun a k ha => by unfold tR2; omega)) k hk
      exact ⟨v, (f.I (by decide) (by unfold tR2; omega)).trans v1, v2⟩
    · rw [f.I (by decide) (by unfold tR2; omega), f.I (by decide) (by unfold tR2; omega)]; exact cF
    · rw [f.I (by decide) (by unfold tR2; omega), f.I (by decide) (by unfold tR2; omega)]; exact cBr
    · exact ⟨(gS s (cSl s hs4 (u4 s em)).1 V hV hC).1, fun z => absurd z nown, fun z => absurd z nown, cBs.2.2.2.fgq f (by unfold tR2; omega) (fun k => by unfold tR2; omega)⟩
    · exact cI.fg f (fun b => ⟨by unfold tR2; omega, by unfold tR2; omega, by unfold tR2; omega, by unfold tR2; omega⟩)
    · intro b hb hq
      rw [e4, f.I (by decide) (by unfold tR2; omega), f.I (by decide) (by unfold tR2; omega)] at hq
      have hq2 : gI S 11 0 3 = nI b ∨ gI S 1204 0 0 = nI b ∨ gI S 1204 0 1 = nI b := hq.elim (u4 b) Or.inr
      obtain ⟨s1, s2⟩ := cSl b hb hq2
      exact ⟨gS b s1, s2.fg f (by unfold tR2; omega) (fun k => by unfold tR2; omega) (fun a k ha => by unfold tR2; omega)⟩
    · exact cBl.sm f ⟨by unfold tR2; omega, by unfold tR2; omega, by unfold tR2; omega⟩
