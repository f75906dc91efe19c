theorem pwr (b d : Nat) (h1 : 1 ≤ b) (h3 : b ≤ 3) (d2 : 2 ≤ d) (d4 : d ≤ 4) : ∃ w, w ≤ 243 ∧ (∀ T : zS, Ok mX11_power 0 (ent 4 [zi (nI b), zi (nI (d + 1))]) [] T (fun r S1 => r = some (zi (nI w)) ∧ S1 = T)) ∧ ∀ (T : zS) (m : Nat), m < 3 → Sd T → gI T 1306 0 3 = nI b → gI T 1306 0 (4 + m) = nI d → Ok mX12_table0 0 (ent 4 [zr 12 0, zi (nI m)]) [] T (fun r S1 => r = some (zi (nI w)) ∧ S1 = T) := by
  have hb : b = 1 ∨ b = 2 ∨ b = 3 := by omega
  have hd : d = 2 ∨ d = 3 ∨ d = 4 := by omega
  rcases hb with rfl | rfl | rfl <;> rcases hd with rfl | rfl | rfl
  · exact ⟨1, by decide, fun T => ok_X11_power_1_3, fun T m hm hs h1 h2 => ok_X12_table0_1_2 hs hm h1 h2⟩
  · exact ⟨1, by decide, fun T => ok_X11_power_1_4, fun T m hm hs h1 h2 => ok_X12_table0_1_3 hs hm h1 h2⟩
  · exact ⟨1, by decide, fun T => ok_X11_power_1_5, fun T m hm hs h1 h2 => ok_X12_table0_1_4 hs hm h1 h2⟩
  · exact ⟨8, by decide, fun T => ok_X11_power_2_3, fun T m hm hs h1 h2 => ok_X12_table0_2_2 hs hm h1 h2⟩
  · exact ⟨16, by decide, fun T => ok_X11_power_2_4, fun T m hm hs h1 h2 => ok_X12_table0_2_3 hs hm h1 h2⟩
  · exact ⟨32, by decide, fun T => ok_X11_power_2_5, fun T m hm hs h1 h2 => ok_X12_table0_2_4 hs hm h1 h2⟩
  · exact ⟨27, by decide, fun T => ok_X11_power_3_3, fun T m hm hs h1 h2 => ok_X12_table0_3_2 hs hm h1 h2⟩
  · exact ⟨81, by decide, fun T => ok_X11_power_3_4, fun T m hm hs h1 h2 => ok_X12_table0_3_3 hs hm h1 h2⟩
  · exact ⟨243, by decide, fun T => ok_X11_power_3_5, fun T m hm hs h1 h2 => ok_X12_table0_3_4 hs hm h1 h2⟩
theorem gI_tkS {S : zS} {x y k : Nat} (h : ¬ (x = 12 ∧ y = 0 ∧ (k = 0 ∨ k = 2 ∨ k = 3 ∨ k = 4 ∨ k = 5))) : gI (tkS S) x y k = gI S x y k := by
  unfold tkS
  rw [gI_sI, if_neg (by omega), gI_sI, if_neg (by omega), gI_sI, if_neg (by omega), gI_sI, if_neg (by omega), gI_sI, if_neg (by omega)]
theorem tk_2 {S : zS} : gI (tkS S) 12 0 2 = nI 0 := by
  unfold tkS
  rw [gI_sI, if_neg (by omega), gI_sI, if_neg (by omega), gI_sI, if_pos ⟨rfl, rfl, rfl⟩]
/-- table: both tapes empty -/
def tbF (S : zS) : zS := tkS (sI S 11 0 1 (nI 0))
def tbT (S : zS) (m t P : Nat) : zS := fm (tkS (fm (sI S 11 0 1 (nI 0)) 801 0 (m * 243) 0 t (fun k => nI (bt (gI S 1200 0 k) % P)))) 1306 0 (444 + (243 * m)) 0 t (fun k => nI (bt (gI S 1301 0 k) % P))
theorem tbF_x {S : zS} {x y k : Nat} (h1 : ¬ (x = 12 ∧ y = 0 ∧ (k = 0 ∨ k = 2 ∨ k = 3 ∨ k = 4 ∨ k = 5))) (h2 : ¬ (x = 11 ∧ y = 0 ∧ k = 1)) : gI (tbF S) x y k = gI S x y k := by
  unfold tbF
  rw [gI_tkS h1, gI_sI, if_neg h2]
set_option maxRecDepth 100000 in
theorem tbT_x {S : zS} {m t P x y k : Nat} (h1 : ¬ (x = 12 ∧ y = 0 ∧ (k = 0 ∨ k = 2 ∨ k = 3 ∨ k = 4 ∨ k = 5))) (h2 : ¬ (x = 11 ∧ y = 0 ∧ k = 1)) (h3 : ¬ (x = 801 ∧ y = 0 ∧ m * 243 ≤ k ∧ k < m * 243 + t)) (h4 : ¬ (x = 1306 ∧ y = 0 ∧ 444 + 243 * m ≤ k ∧ k < 444 + 243 * m + t)) : gI (tbT S m t P) x y k = gI S x y k := by
  unfold tbT
  rw [gI_fm, if_neg (fun z => h4 ⟨z.1, z.2.1, z.2.2.1, z.2.2.2⟩), gI_tkS h1, gI_fm, if_neg (fun z => h3 ⟨z.1, z.2.1, z.2.2.1, z.2.2.2⟩), gI_sI, if_neg h2]
set_option maxRecDepth 100000 in
theorem pg_table {S : zS} (hs : Sd S) {t c A P : Nat} (hp : Tp S t) (hc : gI S 11 0 3 = nI c) (hc4 : c < 4) (hA : gI S 9 c 1 = nI A) (hA2 : gI S 1306 0 1 = nI A) (hAm : A ≤ 3) (hP : gI S 9 c 0 = nI P) (hP2 : gI S 1306 0 0 = nI P) (p2 : 2 ≤ P) (p97 : P ≤ 97) (hE : ∀ a, a < A → ∃ d, 2 ≤ d ∧ d ≤ 4 ∧ gI S 1003 c a = nI d ∧ gI S 1306 0 (4 + a) = nI d) (hB : TB S 0 1306 0) (a : Int32) : Pg mX11_table 5 [zr 11 0, zi a] mX12_table 3 [zr 12 0, zi a] S (fun S2 => (S2 = tbF S ∨ ∃ m, m < 3 ∧ t ≤ 243 ∧ S2 = tbT S m t P) ∧ Tp S2 0 ∧ TB S2 0 1306 0) := by
  obtain ⟨t9, t1, t2, t3⟩ := hp
  have fF : Tp (tbF S) 0 ∧ TB (tbF S) 0 1306 0 := by
    refine ⟨⟨by omega, ?_, tk_2, fun k hk => absurd hk (by omega)⟩, hB.cong ?_ ?_ (fun k hk => ?_) (fun k hk => ?_)⟩
    · unfold tbF; rw [gI_tkS (by omega), gI_sI, if_pos ⟨rfl, rfl, rfl⟩]
    · exact tbF_x (by omega) (by omega)
    · exact tbF_x (by omega) (by omega)
    · exact tbF_x (by omega) (by omega)
    · exact tbF_x (by omega) (by omega)
  by_cases ha : 0 ≤ a ∧ a < nI A
  · obtain ⟨m, hm, rfl⟩ := zz_of ha (by omega)
    obtain ⟨d, d2, d4, e1, e2⟩ := hE m hm
    obtain ⟨b, b1, b3, g1, g2, g3⟩ := id hB
    rw [Nat.zero_add] at g2
    obtain ⟨w, hw, hpw, htb⟩ := pwr b d b1 b3 d2 d4
    by_cases hq : t = w
    · have k1 := ok_X11_table_eq hs hc hc4 hA hAm t1 t9 hm g1 e1 d4 b3 hw hpw hq p2 p97 hP
      have k2 := ok_X12_table_eq (S := fm (sI S 11 0 1 (nI 0)) 801 0 (m * 243) 0 t (fun k => nI (bt (gI S 1200 0 k) % P))) hs hA2 hAm t2 t9 hm hw (fun T hT z1 z2 => htb T m (by omega) hT (z1.trans g2) (z2.trans e2)) hq p2 p97 hP2
      refine Pg.mono (pg_put (S1 := fm (sI S 11 0 1 (nI 0)) 801 0 (m * 243) 0 t (fun k => nI (bt (gI S 1200 0 k) % P))) (S2 := tbT S m t P) hs k1 k2 rfl) fun S2 z => ?_
      subst z
      refine ⟨Or.inr ⟨m, by omega, by omega, rfl⟩, ⟨by omega, ?_, ?_, fun k hk => absurd hk (by omega)⟩, ⟨b, b1, b3, ?_, ?_, fun k hk => ?_⟩⟩
      · unfold tbT; rw [gI_fm, if_neg (by omega), gI_tkS (by omega), gI_fm, if_neg (by omega), gI_sI, if_pos ⟨rfl, rfl, rfl⟩]
      · unfold tbT; rw [gI_fm, if_neg (by omega)]; exact tk_2
      · rw [tbT_x (by omega) (by omega) (by omega) (by omega)]; exact g1
      · rw [Nat.zero_add, tbT_x (by omega) (by omega) (by omega) (by omega)]; exact g2
      · rw [Nat.zero_add]
        by_cases hk2 : m * 243 ≤ k ∧ k < m * 243 + t
        · unfold tbT
          rw [gI_fm, if_neg (by omega), gI_tkS (by omega), gI_fm, if_pos (by omega), gI_fm, if_pos (by omega), show 444 + k - (444 + 243 * m) = k - m * 243 by omega, t3 _ (by omega)]
        · rw [tbT_x (by omega) (by omega) (by omega) (by omega), tbT_x (by omega) (by omega) (by omega) (by omega)]
          have := g3 k hk
          rw [Nat.zero_add] at this
          exact this
    · have k1 := ok_X11_table_ne hs hc hc4 hA hAm t1 t9 hm g1 e1 d4 b3 hw hpw hq
      have k2 := ok_X12_table_ne (S := sI S 11 0 1 (nI 0)) hs hA2 hAm t2 t9 hm hw (fun T hT z1 z2 => htb T m (by omega) hT (z1.trans g2) (z2.trans e2)) hq
      refine Pg.mono (pg_put (S1 := sI S 11 0 1 (nI 0)) (S2 := tbF S) hs k1 k2 rfl) fun S2 z => ?_
      subst z
      exact ⟨Or.inl rfl, fF⟩
  · have k1 := ok_X11_table_out hs hc hc4 hA hAm t1 t9 ha
    have k2 := ok_X12_table_out (S := sI S 11 0 1 (nI 0)) hs hA2 hAm t2 t9 ha
    refine Pg.mono (pg_put (S1 := sI S 11 0 1 (nI 0)) (S2 := tbF S) hs k1 k2 rfl) fun S2 z => ?_
    subst z
    exact ⟨Or.inl rfl, fF⟩
