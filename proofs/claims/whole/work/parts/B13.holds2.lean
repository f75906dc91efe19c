/-! holds again: its frame leaves the tape alone -/
def tRhq (x y k : Nat) : Bool := tRdt x y k || x == 1387 && y == 0 || x == 12 && y == 0 && k == 0
theorem RhI.fq {S S1 : zS} {w P A n l f : Nat} {e : Nat → Nat} {tb : Nat → Nat → Nat} {cs : List zT} (h : RhI S w P A n l f e tb cs) (g : Fr tRhq S S1) : RhI S1 w P A n l f e tb cs := by
  obtain ⟨h1, h2, h3, h4, h5, h6, h7, h8, h9⟩ := h
  have k1 : ∀ k, gI S1 1306 0 k = gI S 1306 0 k := fun k => g.1 _ _ _ rfl
  exact ⟨h1.fr g, (k1 _).trans h2, fun a ha => (k1 _).trans (h3 a ha), (k1 _).trans h4, fun a ha i hi => ⟨(k1 _).trans (h5 a ha i hi).1, (h5 a ha i hi).2⟩, (k1 _).trans h6, (k1 _).trans h7, (k1 _).trans h8, fun k hk => ⟨(k1 _).trans (h9 k hk).1, (k1 _).trans (h9 k hk).2⟩⟩
set_option maxRecDepth 100000 in
theorem lp_rh54q {w P A n l f : Nat} {e : Nat → Nat} (hE : Eok A e) {tb : Nat → Nat → Nat} {cs : List zT} (hq : Ce A e P n cs) (hl18 : l < 18) (h1 : 1 ≤ w) (h3 : w ≤ 3) (hP2 : 2 ≤ P) (hP97 : P ≤ 97) (hn7 : n ≤ 7) (hf : f + cs.length ≤ 200) (hp9 : w ^ n ≤ 2187) : ∀ (d r : Nat) (S : zS), r + d = w ^ n → RhI S w P A n l f e tb cs → (∀ k, k < r → ∀ o, o < w → dsA (fun t => (dvS w P e tb (fun i => k / w ^ i % w) n t).1 0 o) P cs cs.length = 0) → Ok mX12_holds 54 [some (zr 12 0), some (zi (nI l)), some (zi (nI w)), some (zi (nI (w ^ n))), some (zi (nI r)), none, none] [] S (fun z S1 => Fr tRhq S S1 ∧ ∃ v, v ≤ 1 ∧ z = some (zi (nI v)) ∧ (v = 1 ↔ ∀ r, r < w ^ n → ∀ o, o < w → dsA (fun t => (dvS w P e tb (fun i => r / w ^ i % w) n t).1 0 o) P cs cs.length = 0)) := by
  intro d
  induction d with
  | zero =>
    intro r S hr hI hlo
    have hs := hI.1
    obtain rfl : r = w ^ n := by omega
    refine r_iload (q := 56) dX12_holds_54 rfl rfl ?_
    refine r_iload_n (q := 57) dX12_holds_56 rfl rfl rfl ?_
    refine r_icmp_geN (q := 60) (t := 218) (by omega) (by omega) dX12_holds_57 (by decide) rfl (fun h57 => ?_) (fun h57 => absurd h57 (by omega))
    refine r_iconst (q := 219) (nI 1) dX12_holds_218 rfl (by decide) ?_
    refine r_ireturn dX12_holds_219 rfl ?_
    exact ⟨Fr.rf, 1, Nat.le_refl _, rfl, fun _ => hlo, fun _ => rfl⟩
  | succ d ih =>
    intro r S hr hI hlo
    have hrn : r < w ^ n := by omega
    obtain ⟨hs, i2, i3, i4, i5, i6, i7, i8, i9⟩ := id hI
    refine r_iload (q := 56) dX12_holds_54 rfl rfl ?_
    refine r_iload_n (q := 57) dX12_holds_56 rfl rfl rfl ?_
    refine r_icmp_geN (q := 60) (t := 218) (by omega) (by omega) dX12_holds_57 (by decide) rfl (fun h57 => absurd h57 (by omega)) (fun h57 => ?_)
    refine r_iload (q := 62) dX12_holds_60 rfl rfl ?_
    refine r_istore (q := 64) (L' := [some (zr 12 0), some (zi (nI l)), some (zi (nI w)), some (zi (nI (w ^ n))), some (zi (nI r)), some (zi (nI r)), none]) dX12_holds_62 rfl (by decide) rfl ?_
    refine r_iconst (q := 65) (nI 0) dX12_holds_64 rfl (by decide) ?_
    refine r_istore (q := 67) (L' := [some (zr 12 0), some (zi (nI l)), some (zi (nI w)), some (zi (nI (w ^ n))), some (zi (nI r)), some (zi (nI r)), some (zi (nI 0))]) dX12_holds_65 rfl (by decide) rfl ?_
    refine r_locs (L1 := [some (zr 12 0), some (zi (nI l)), some (zi (nI w)), some (zi (nI (w ^ n))), some (zi (nI r)), some (zi (nI (r / w ^ 0))), some (zi (nI 0))]) (by rw [Nat.pow_zero, Nat.div_one]) ?_
    refine lp_rh67 hl18 h1 h3 hn7 (by omega) n 0 S (by omega) hs i6 (fun i hi => absurd hi (Nat.not_lt_zero i)) (fun S2 f2 hwy2 => ?_)
    have hs2 : Sd S2 := hs.fr f2
    refine r_iconst (q := 105) (nI 0) dX12_holds_104 rfl (by decide) ?_
    refine r_istore (q := 107) (L' := [some (zr 12 0), some (zi (nI l)), some (zi (nI w)), some (zi (nI (w ^ n))), some (zi (nI r)), some (zi (nI (r / w ^ n))), some (zi (nI 0))]) dX12_holds_105 rfl (by decide) rfl ?_
    refine lp_rh107 3 0 S2 (by omega) hs2 (fun i hi => absurd hi (Nat.not_lt_zero i)) (fun S3 f3 hz3 => ?_)
    have g3 : Fr tRhq S S3 := (f2.mono (fun x y k h => by simp [tWyo] at h; simp [tRhq, h])).tr (f3.mono (fun x y k h => by simp [tRds] at h; simp [tRhq, tRdt, h]))
    have hI3 := hI.fq g3
    have hs3 := hI3.1
    refine r_aload_n (q := 128) dX12_holds_127 rfl rfl rfl ?_
    refine r_getr (q := 131) (some (1306, 0)) ck12 dX12_holds_128 rfl (k := 6) (by decide) wt1284 rfl (hs3.e (by decide)) (hs3.r (by decide) (by decide)) ?_
    refine r_bipush (q := 133) (nI 25) dX12_holds_131 rfl (by decide) ?_
    refine r_iload_n (q := 134) dX12_holds_133 rfl rfl rfl ?_
    refine r_iaddN (q := 135) dX12_holds_134 rfl ?_
    refine r_ialdN (q := 136) 3775 (by decide) rfl dX12_holds_135 rfl (hs3.e (by decide)) (hs3.n rfl (by decide)) (by omega) (by decide) ?_
    refine r_topi (y := nI f) hI3.2.2.2.2.2.2.1 ?_
    refine r_istore (q := 138) (L' := [some (zr 12 0), some (zi (nI l)), some (zi (nI w)), some (zi (nI (w ^ n))), some (zi (nI r)), some (zi (nI (r / w ^ n))), some (zi (nI f))]) dX12_holds_136 rfl (by decide) rfl ?_
    refine lp_rh138 hE hq hl18 h1 h3 hP2 hP97 hn7 hf (r := r) cs.length 0 S3 (by omega) hI3 (fun i hi => (f3.1 _ _ _ rfl).trans (hwy2 i hi)) (fun j hj => hz3 j (by omega)) (fun S4 f4 hD4 => ?_)
    have g4 : Fr tRhq S S4 := g3.tr (f4.mono (fun x y k h => by simp [tRhq, h]))
    have hs4 : Sd S4 := hs.fr g4
    refine r_iconst (q := 186) (nI 0) dX12_holds_185 rfl (by decide) ?_
    refine r_istore (q := 188) (L' := [some (zr 12 0), some (zi (nI l)), some (zi (nI w)), some (zi (nI (w ^ n))), some (zi (nI r)), some (zi (nI (r / w ^ n))), some (zi (nI 0))]) dX12_holds_186 rfl (by decide) rfl ?_
    refine lp_rh188 hs4 h3 (D := fun j => dsA (fun t => (dvS w P e tb (fun i => r / w ^ i % w) n t).1 0 j) P cs cs.length) (fun j hj => ⟨hD4 j hj, Nat.lt_of_lt_of_le (dsA_lt (by omega) _) hP97⟩) (fun hz => ?_) (fun hz => ⟨g4, 0, Nat.zero_le _, rfl, fun z => absurd z (by decide), fun z => by obtain ⟨j, j1, j2⟩ := hz; exact absurd (z r hrn j j1) j2⟩) w 0 (by omega) (fun i hi => absurd hi (Nat.not_lt_zero i))
    refine r_iincN (q := 215) (L' := [some (zr 12 0), some (zi (nI l)), some (zi (nI w)), some (zi (nI (w ^ n))), some (zi (nI (r + 1))), some (zi (nI (r / w ^ n))), some (zi (nI w))]) 1 rfl dX12_holds_212 rfl rfl (by decide) rfl ?_
    refine r_goto (q := 54) dX12_holds_215 (by decide) ?_
    refine r_mask [true, true, true, true, true, false, false] rfl ?_
    exact Ok.mono (ih (r + 1) S4 (by omega) (hI.fq g4) (fun k hk => by by_cases e : k = r; (rw [e]; exact hz); exact hlo k (by omega))) (fun z S5 h => ⟨g4.tr h.1, h.2⟩)
set_option maxRecDepth 100000 in
theorem rm_ho_yq {S : zS} {w P A n l f : Nat} {e : Nat → Nat} (hE : Eok A e) {tb : Nat → Nat → Nat} {cs : List zT} (hq : Ce A e P n cs) (hl18 : l < 18) (h1 : 1 ≤ w) (h3 : w ≤ 3) (hP2 : 2 ≤ P) (hP97 : P ≤ 97) (hn7 : n ≤ 7) (hf : f + cs.length ≤ 200) (hI : RhI S w P A n l f e tb cs) {m : Nat} (hm : gI S 1306 0 2 = nI m) (hm18 : m ≤ 18) (hlm : l < m) : Ok mX12_holds 0 (ent 7 [zr 12 0, zi (nI l)]) [] S (fun z S1 => Fr tRhq S S1 ∧ ∃ v, v ≤ 1 ∧ z = some (zi (nI v)) ∧ (v = 1 ↔ hoP w P e tb n cs)) := by
  have hs := hI.1
  have hp9 : w ^ n ≤ 2187 := Nat.le_trans (Nat.pow_le_pow_left h3 n) (Nat.le_trans (Nat.pow_le_pow_right (show 1 ≤ 3 by omega) hn7) (by decide))
  show Ok mX12_holds 0 [some (zr 12 0), some (zi (nI l)), none, none, none, none, none] [] S _
  refine r_aload_n (q := 1) dX12_holds_0 rfl rfl rfl ?_
  refine r_iconst (q := 2) (nI 0) dX12_holds_1 rfl (by decide) ?_
  refine r_puti (q := 5) ck12 dX12_holds_2 rfl (k := 0) (by decide) wt1278 (Or.inl rfl) rfl (hI.1.e (by decide)) ?_
  refine r_aload_n (q := 6) dX12_holds_5 rfl rfl rfl ?_
  refine r_iload_n (q := 7) dX12_holds_6 rfl rfl rfl ?_
  refine r_callV (Mc := mX12_isLaw) (q := 10) (As := [zi (nI l)]) (st := []) ck12 dX12_holds_7 rfl rfl mkX12_isLaw wt1677 wt1679 wp89 rfl (Nat.le_of_ble_eq_true rfl) (Nat.le_of_ble_eq_true rfl) (by decide) (by decide) (by decide) (Or.inl rfl) (hI.1.e (by decide)) (ok_X12_isLaw_in (S := sI S 12 0 0 (nI 0)) hs hm hm18 hlm) (fun r7 S7 hp7 => ?_)
  obtain ⟨rfl, hq7⟩ := hp7
  rw [hq7]
  show Ok _ _ _ [zi (nI 1)] _ _
  refine r_if_neN (q := 13) (t := 15) (by omega) dX12_holds_10 (by decide) rfl (fun h10 => ?_) (fun h10 => absurd h10 (by omega))
  refine r_aload_n (q := 16) dX12_holds_15 rfl rfl rfl ?_
  refine r_getr (q := 19) (some (1306, 0)) ck12 dX12_holds_16 rfl (k := 6) (by decide) wt1284 rfl (hI.1.e (by decide)) (hI.1.r (by decide) (by decide)) ?_
  refine r_iconst (q := 20) (nI 3) dX12_holds_19 rfl (by decide) ?_
  refine r_ialdN (q := 21) 3775 (by decide) rfl dX12_holds_20 rfl (hI.1.e (by decide)) (hI.1.n rfl (by decide)) (by omega) (by decide) ?_
  refine r_topi (y := gI S 1306 0 3) (by simp [gI_sI, gJ_sJ, gI_sJ, gJ_sI]) ?_
  refine r_topi (y := nI w) hI.2.2.2.1 ?_
  refine r_istore_n (q := 22) (L' := [some (zr 12 0), some (zi (nI l)), some (zi (nI w)), none, none, none, none]) dX12_holds_21 rfl rfl (by decide) rfl ?_
  refine r_iconst (q := 23) (nI 1) dX12_holds_22 rfl (by decide) ?_
  refine r_istore_n (q := 24) (L' := [some (zr 12 0), some (zi (nI l)), some (zi (nI w)), some (zi (nI 1)), none, none, none]) dX12_holds_23 rfl rfl (by decide) rfl ?_
  refine r_iconst (q := 25) (nI 0) dX12_holds_24 rfl (by decide) ?_
  refine r_istore (q := 27) (L' := [some (zr 12 0), some (zi (nI l)), some (zi (nI w)), some (zi (nI 1)), some (zi (nI 0)), none, none]) dX12_holds_25 rfl (by decide) rfl ?_
  have f1 : Fr tRhq S (sI S 12 0 0 (nI 0)) := Fr.rf.i (by simp [tRhq])
  have hI1 := hI.fq f1
  have hs1 := hI1.1
  refine r_locs (L1 := [some (zr 12 0), some (zi (nI l)), some (zi (nI w)), some (zi (nI (w ^ 0))), some (zi (nI 0)), none, none]) (by rw [Nat.pow_zero]) ?_
  refine lp_rh27 hs1 hl18 h1 h3 hn7 hI1.2.2.2.2.2.1 ?_ n 0 (by omega)
  refine r_iconst (q := 52) (nI 0) dX12_holds_51 rfl (by decide) ?_
  refine r_istore (q := 54) (L' := [some (zr 12 0), some (zi (nI l)), some (zi (nI w)), some (zi (nI (w ^ n))), some (zi (nI 0)), none, none]) dX12_holds_52 rfl (by decide) rfl ?_
  exact Ok.mono (lp_rh54q hE hq hl18 h1 h3 hP2 hP97 hn7 hf hp9 (w ^ n) 0 _ (by omega) hI1 (fun k hk => absurd hk (Nat.not_lt_zero k))) (fun z S5 h => ⟨f1.tr h.1, by obtain ⟨v, v1, v2, v3⟩ := h.2; exact ⟨v, v1, v2, v3.trans (hoP_r (by omega) (fun k hk => (hq.1.2 _ (mem_getD hk)).1)).symm⟩⟩)
set_option maxRecDepth 100000 in
theorem rm_ho_nq {S : zS} (hs : Sd S) {m : Nat} (hm : gI S 1306 0 2 = nI m) (hm18 : m ≤ 18) {a : Int32} (ha : ¬ (0 ≤ a ∧ a < nI m)) : Ok mX12_holds 0 (ent 7 [zr 12 0, zi a]) [] S (fun r S1 => r = some (zi (-1)) ∧ Fr tRhq S S1) := by
  show Ok mX12_holds 0 [some (zr 12 0), some (zi a), none, none, none, none, none] [] S _
  refine r_aload_n (q := 1) dX12_holds_0 rfl rfl rfl ?_
  refine r_iconst (q := 2) (nI 0) dX12_holds_1 rfl (by decide) ?_
  refine r_puti (q := 5) ck12 dX12_holds_2 rfl (k := 0) (by decide) wt1278 (Or.inl rfl) rfl (hs.e (by decide)) ?_
  refine r_aload_n (q := 6) dX12_holds_5 rfl rfl rfl ?_
  refine r_iload_n (q := 7) dX12_holds_6 rfl rfl rfl ?_
  refine r_callV (Mc := mX12_isLaw) (q := 10) (As := [zi a]) (st := []) ck12 dX12_holds_7 rfl rfl mkX12_isLaw wt1677 wt1679 wp89 rfl (Nat.le_of_ble_eq_true rfl) (Nat.le_of_ble_eq_true rfl) (by decide) (by decide) (by decide) (Or.inl rfl) (hs.e (by decide)) (ok_X12_isLaw_out (S := sI S 12 0 0 (nI 0)) hs hm hm18 ha) (fun r7 S7 hp7 => ?_)
  obtain ⟨rfl, hq7⟩ := hp7
  rw [hq7]
  show Ok _ _ _ [zi (nI 0)] _ _
  refine r_if_neN (q := 13) (t := 15) (by omega) dX12_holds_10 (by decide) rfl (fun h10 => absurd h10 (by omega)) (fun h10 => ?_)
  refine r_iconst (q := 14) ((-1 : Int32)) dX12_holds_13 rfl (by decide) ?_
  refine r_ireturn dX12_holds_14 rfl ?_
  exact ⟨rfl, Fr.rf.i (by simp [tRhq])⟩
def tHq (a b k : Nat) : Prop := tNo a b k ∨ tRhq a b k = true
theorem pg_holds2 {S : zS} (hs : Sd S) {W : zWd} {cc : Nat} (hcc : gI S 11 0 3 = nI cc) (hc4 : cc < 4) (hw : WR wq S W cc 1306 0 1308 0) (hTB : TB S 0 1306 0) (hTv : TbV S (wP W)) (hL3 : Bl3 S) (a : Int32) : Pg mX11_holds 3 [zr 11 0, zi a] mX12_holds 7 [zr 12 0, zi a] S (fun S2 => Fg tHq S S2 ∧ Bl3 S2) := by
  obtain ⟨hW, hC, hR⟩ := hw.c
  obtain ⟨w, w1, w3, w4, w5, w6⟩ := hTB
  have w5 : gI S 1306 0 3 = nI w := w5
  have hP := hW.1
  have hE := hW.2.1
  have hL18 := hW.2.2.2.1
  have hc9 : gI S 9 cc 4 = nI (wL W) := hC.2.2.1
  have hr2 : gI S 1306 0 2 = nI (wL W) := hR.2.2.1
  by_cases ha : 0 ≤ a ∧ a < nI (wL W)
  · obtain ⟨l, hl, rfl⟩ := zz_of ha (by omega)
    obtain ⟨hn1, hn7, hq⟩ := hW.2.2.2.2.2 l hl
    have hf := hW.lf2 hl
    obtain ⟨L0, hL0, n0, n1, n2⟩ := hL3
    have hEa : ∀ a, a < wA W → a < 3 := fun a ha => by have := hE.1; omega
    have tv : ∀ k, k < 729 → gI S 801 0 k = nI ((gI S 801 0 k).toInt.toNat) ∧ (gI S 801 0 k).toInt.toNat < wP W := fun k hk => by
      obtain ⟨v, v1, v2⟩ := hTv k hk
      rw [v1, nI_toInt (by omega)]
      exact ⟨rfl, v2⟩
    have hTC : ∀ a, a < wA W → TbC S a (wP W) (fun i => (gI S 801 0 (a * 243 + i)).toInt.toNat) := fun a ha i hi => tv (a * 243 + i) (by have := hEa a ha; omega)
    have hI : NoI S cc w (wP W) (wA W) (lw W l).1 l (lf W l) L0 (we W) (fun a i => (gI S 801 0 (a * 243 + i)).toInt.toNat) (lw W l).2 := ⟨hs, hC.1, hC.2.1, fun a ha => (hC.2.2.2.1 a ha).1, w4, hTC, n0, n1, n2, hC.2.2.2.2.1 l hl, hC.2.2.2.2.2.1 l (by omega), (hC.2.2.2.2.2.1 (l + 1) (by omega)).trans (by rw [lf_succ hl]), fun k hk => hC.2.2.2.2.2.2.1 l k hl hk⟩
    refine Ok.mono (cm_ho_y hE hI hL0 hq hc4 w1 w3 hP.1 hP.2.1 hn1 hn7 hf hcc hc9 hL18 hl) fun r S1 z => ?_
    obtain ⟨f1, b1, v, v1, rfl, v3⟩ := z
    have e1 : ∀ k, gI S1 1306 0 k = gI S 1306 0 k := fun k => f1.I (by omega) (by unfold tNo tFb tBk1 tRm; omega)
    have hI2 : RhI S1 w (wP W) (wA W) (lw W l).1 l (lf W l) (we W) (fun a i => (gI S 801 0 (a * 243 + i)).toInt.toNat) (lw W l).2 := ⟨f1.sd, (e1 _).trans hR.1, fun a ha => (e1 _).trans (hR.2.2.2.1 a ha).1, (e1 _).trans w5, fun a ha i hi => ⟨by rw [e1, ← (hTC a ha i hi).1, w6 (a * 243 + i) (by have := hEa a ha; omega), show 0 + 444 + (a * 243 + i) = 444 + 243 * a + i by omega], (hTC a ha i hi).2⟩, (e1 _).trans (hR.2.2.2.2.1 l hl), (e1 _).trans (hR.2.2.2.2.2.1 l (by omega)), (e1 _).trans ((hR.2.2.2.2.2.1 (l + 1) (by omega)).trans (by rw [lf_succ hl])), fun k hk => ⟨(e1 _).trans (hR.2.2.2.2.2.2 l k hl hk).1, (e1 _).trans (hR.2.2.2.2.2.2 l k hl hk).2⟩⟩
    refine ⟨_, rfl, f1.sd, Ok.mono (rm_ho_yq hE hq (by omega) w1 w3 hP.1 hP.2.1 hn7 hf hI2 ((e1 _).trans hr2) hL18 hl) fun r2 S2 z2 => ?_⟩
    obtain ⟨f2, v', v1', rfl, v3'⟩ := z2
    have ev : v' = v := by
      have := v3.trans v3'.symm
      omega
    refine ⟨by rw [ev], (f1.mono fun _ _ _ z => Or.inl z).tr (f2.fg f1.sd fun _ _ _ z => Or.inr z), ?_⟩
    obtain ⟨L, l1, m0, m1, m2⟩ := b1
    exact ⟨L, l1, (gN_22 f2.2.2).trans m0, (gN_22 f2.2.2).trans m1, (gN_22 f2.2.2).trans m2⟩
  · refine Ok.mono (cm_ho_n hs hc4 hcc hc9 hL18 ha) fun r S1 z => ?_
    obtain ⟨rfl, rfl⟩ := z
    refine ⟨_, rfl, hs, Ok.mono (rm_ho_nq hs hr2 hL18 ha) fun r2 S2 z2 => ?_⟩
    obtain ⟨L, l1, m0, m1, m2⟩ := hL3
    exact ⟨z2.1, z2.2.fg hs fun _ _ _ z => Or.inr z, L, l1, (gN_22 z2.2.2.2).trans m0, (gN_22 z2.2.2.2).trans m1, (gN_22 z2.2.2.2).trans m2⟩
