/-! dual: laws from the dualizer's tally -/
set_option maxRecDepth 100000 in
theorem ok_addLaw11 {S : zS} (hs : Sd S) {s : Nat} (hs4 : s < 4) {W : zWd} (hc : WC S s W) (hL : wL W < 18) {n : Nat} {c : List zT} (hn : gI S 8 11 0 = nI n) (hT : Ty S 11 c) (hl : lf W (wL W) + c.length ≤ 200) : Ok mX9_addLaw 0 (ent 3 [zr 9 s, zr 8 11]) [] S (fun r S1 => r = none ∧ S1 = sI (sI (cpS (cpS (sI S 1005 s (wL W) (nI n)) 902 11 1007 s 0 (lf W (wL W)) c.length) 903 11 1008 s 0 (lf W (wL W)) c.length) 9 s 4 (nI (wL W + 1))) 1006 s (wL W + 1) (nI (lf W (wL W) + c.length))) := by
  obtain ⟨q1, q2, m, m2, m3, m4, m5, m6⟩ := id hT
  show Ok mX9_addLaw 0 [some (zr 9 s), some (zr 8 11), none] [] S _
  refine r_aload_n (q := 1) dX9_addLaw_0 rfl rfl rfl ?_
  refine r_getr (q := 4) (some (1006, s)) ck9 dX9_addLaw_1 rfl (k := 6) (by decide) wt322 rfl (hs.e (show s < 4 by omega)) (hs.r (show s < 4 by omega) (by decide)) ?_
  refine r_aload_n (q := 5) dX9_addLaw_4 rfl rfl rfl ?_
  refine r_geti (q := 8) ck9 dX9_addLaw_5 rfl (k := 4) (by decide) wt312 (Or.inl rfl) (hs.e (show s < 4 by omega)) ?_
  refine r_topi (y := nI (wL W)) hc.2.2.1 ?_
  refine r_ialdN (q := 9) 19 (by decide) rfl dX9_addLaw_8 rfl (hs.e (show s < 4 by omega)) (hs.n rfl (show s < 4 by omega)) (by omega) (by decide) ?_
  refine r_topi (y := nI (lf W (wL W))) (hc.2.2.2.2.2.1 (wL W) (Nat.le_refl _)) ?_
  refine r_istore_n (q := 10) (L' := [some (zr 9 s), some (zr 8 11), some (zi (nI (lf W (wL W))))]) dX9_addLaw_9 rfl rfl (by decide) rfl ?_
  refine r_aload_n (q := 11) dX9_addLaw_10 rfl rfl rfl ?_
  refine r_geti (q := 14) ck9 dX9_addLaw_11 rfl (k := 4) (by decide) wt312 (Or.inl rfl) (hs.e (show s < 4 by omega)) ?_
  refine r_topi (y := nI (wL W)) hc.2.2.1 ?_
  refine r_bipush (q := 16) (nI 18) dX9_addLaw_14 rfl (by decide) ?_
  refine r_icmp_geN (q := 19) (t := 31) (by omega) (by omega) dX9_addLaw_16 (by decide) rfl (fun h16 => absurd h16 (by omega)) (fun h16 => ?_)
  refine r_iload_n (q := 20) dX9_addLaw_19 rfl rfl rfl ?_
  refine r_aload_n (q := 21) dX9_addLaw_20 rfl rfl rfl ?_
  refine r_geti (q := 24) ck8 dX9_addLaw_21 rfl (k := 1) (by decide) wt65 (Or.inl rfl) (hs.e (by decide)) ?_
  refine r_topi (y := nI c.length) hT.1 ?_
  refine r_iaddN (q := 25) dX9_addLaw_24 rfl ?_
  refine r_sipush (q := 28) (nI 200) dX9_addLaw_25 rfl (by decide) ?_
  refine r_icmp_leN (q := 31) (t := 32) (by omega) (by omega) dX9_addLaw_28 (by decide) rfl (fun h28 => ?_) (fun h28 => absurd h28 (by omega))
  refine r_aload_n (q := 33) dX9_addLaw_32 rfl rfl rfl ?_
  refine r_getr (q := 36) (some (1005, s)) ck9 dX9_addLaw_33 rfl (k := 5) (by decide) wt317 rfl (hs.e (show s < 4 by omega)) (hs.r (show s < 4 by omega) (by decide)) ?_
  refine r_aload_n (q := 37) dX9_addLaw_36 rfl rfl rfl ?_
  refine r_geti (q := 40) ck9 dX9_addLaw_37 rfl (k := 4) (by decide) wt312 (Or.inl rfl) (hs.e (show s < 4 by omega)) ?_
  refine r_topi (y := nI (wL W)) hc.2.2.1 ?_
  refine r_aload_n (q := 41) dX9_addLaw_40 rfl rfl rfl ?_
  refine r_geti (q := 44) ck8 dX9_addLaw_41 rfl (k := 0) (by decide) wt57 (Or.inl rfl) (hs.e (by decide)) ?_
  refine r_topi (y := nI n) hn ?_
  refine r_iastN (q := 45) 18 (by decide) rfl dX9_addLaw_44 rfl (hs.e (show s < 4 by omega)) (hs.n rfl (show s < 4 by omega)) (by omega) (by decide) ?_
  refine r_aload_n (q := 46) dX9_addLaw_45 rfl rfl rfl ?_
  refine r_getr (q := 49) (some (902, 11)) ck8 dX9_addLaw_46 rfl (k := 2) (by decide) wt71 rfl (hs.e (by decide)) (hs.r (by decide) (by decide)) ?_
  refine r_iconst (q := 50) (nI 0) dX9_addLaw_49 rfl (by decide) ?_
  refine r_aload_n (q := 51) dX9_addLaw_50 rfl rfl rfl ?_
  refine r_getr (q := 54) (some (1007, s)) ck9 dX9_addLaw_51 rfl (k := 7) (by decide) wt328 rfl (hs.e (show s < 4 by omega)) (hs.r (show s < 4 by omega) (by decide)) ?_
  refine r_iload_n (q := 55) dX9_addLaw_54 rfl rfl rfl ?_
  refine r_aload_n (q := 56) dX9_addLaw_55 rfl rfl rfl ?_
  refine r_geti (q := 59) ck8 dX9_addLaw_56 rfl (k := 1) (by decide) wt65 (Or.inl rfl) (hs.e (by decide)) ?_
  refine r_topi (y := gI S 8 11 1) (by simp [gI_sI, gJ_sJ, gI_sJ, gJ_sI]) ?_
  refine r_topi (y := nI c.length) hT.1 ?_
  refine r_copyi (q := 62) (by decide) (by decide) rfl rfl (hs.e (by decide)) (hs.e (show s < 4 by omega)) dX9_addLaw_59 rfl wt655 wt640 wt641 wt16 (Nat.le_of_ble_eq_true rfl) (by decide) (by decide) (by omega) (by omega) (by omega) (by rw [show gN (sI S 1005 s (wL W) (nI n)) 902 11 = m from m2]; omega) (by rw [show gN (sI S 1005 s (wL W) (nI n)) 1007 s = 200 from (hs.n rfl (show s < 4 by omega))]; omega) ?_
  refine r_aload_n (q := 63) dX9_addLaw_62 rfl rfl rfl ?_
  refine r_getr (q := 66) (some (903, 11)) ck8 dX9_addLaw_63 rfl (k := 3) (by decide) wt77 rfl (hs.e (by decide)) (hs.r (by decide) (by decide)) ?_
  refine r_iconst (q := 67) (nI 0) dX9_addLaw_66 rfl (by decide) ?_
  refine r_aload_n (q := 68) dX9_addLaw_67 rfl rfl rfl ?_
  refine r_getr (q := 71) (some (1008, s)) ck9 dX9_addLaw_68 rfl (k := 8) (by decide) wt333 rfl (hs.e (show s < 4 by omega)) (hs.r (show s < 4 by omega) (by decide)) ?_
  refine r_iload_n (q := 72) dX9_addLaw_71 rfl rfl rfl ?_
  refine r_aload_n (q := 73) dX9_addLaw_72 rfl rfl rfl ?_
  refine r_geti (q := 76) ck8 dX9_addLaw_73 rfl (k := 1) (by decide) wt65 (Or.inl rfl) (hs.e (by decide)) ?_
  refine r_topi (y := gI S 8 11 1) (by simp [gI_sI, gJ_sJ, gI_sJ, gJ_sI, gI_cpS, gJ_cpS]) ?_
  refine r_topi (y := nI c.length) hT.1 ?_
  refine r_copyi (q := 79) (by decide) (by decide) rfl rfl (hs.e (by decide)) (hs.e (show s < 4 by omega)) dX9_addLaw_76 rfl wt655 wt640 wt641 wt16 (Nat.le_of_ble_eq_true rfl) (by decide) (by decide) (by omega) (by omega) (by omega) (by rw [show gN (cpS (sI S 1005 s (wL W) (nI n)) 902 11 1007 s 0 (lf W (wL W)) c.length) 903 11 = m from m3]; omega) (by rw [show gN (cpS (sI S 1005 s (wL W) (nI n)) 902 11 1007 s 0 (lf W (wL W)) c.length) 1008 s = 200 from (hs.n rfl (show s < 4 by omega))]; omega) ?_
  refine r_aload_n (q := 80) dX9_addLaw_79 rfl rfl rfl ?_
  refine r_dup (q := 81) dX9_addLaw_80 rfl rfl ?_
  refine r_geti (q := 84) ck9 dX9_addLaw_81 rfl (k := 4) (by decide) wt312 (Or.inl rfl) (hs.e (show s < 4 by omega)) ?_
  refine r_topi (y := gI S 9 s 4) (by simp [gI_sI, gJ_sJ, gI_sJ, gJ_sI, gI_cpS, gJ_cpS]) ?_
  refine r_topi (y := nI (wL W)) hc.2.2.1 ?_
  refine r_iconst (q := 85) (nI 1) dX9_addLaw_84 rfl (by decide) ?_
  refine r_iaddN (q := 86) dX9_addLaw_85 rfl ?_
  refine r_puti (q := 89) ck9 dX9_addLaw_86 rfl (k := 4) (by decide) wt312 (Or.inl rfl) rfl (hs.e (show s < 4 by omega)) ?_
  refine r_aload_n (q := 90) dX9_addLaw_89 rfl rfl rfl ?_
  refine r_getr (q := 93) (some (1006, s)) ck9 dX9_addLaw_90 rfl (k := 6) (by decide) wt322 rfl (hs.e (show s < 4 by omega)) (hs.r (show s < 4 by omega) (by decide)) ?_
  refine r_aload_n (q := 94) dX9_addLaw_93 rfl rfl rfl ?_
  refine r_geti (q := 97) ck9 dX9_addLaw_94 rfl (k := 4) (by decide) wt312 (Or.inl rfl) (hs.e (show s < 4 by omega)) ?_
  refine r_topi (y := nI ((wL W) + 1)) (by simp [gI_sI, gJ_sJ, gI_sJ, gJ_sI, gI_cpS, gJ_cpS]) ?_
  refine r_iload_n (q := 98) dX9_addLaw_97 rfl rfl rfl ?_
  refine r_aload_n (q := 99) dX9_addLaw_98 rfl rfl rfl ?_
  refine r_geti (q := 102) ck8 dX9_addLaw_99 rfl (k := 1) (by decide) wt65 (Or.inl rfl) (hs.e (by decide)) ?_
  refine r_topi (y := gI S 8 11 1) (by simp [gI_sI, gJ_sJ, gI_sJ, gJ_sI, gI_cpS, gJ_cpS]) ?_
  refine r_topi (y := nI c.length) hT.1 ?_
  refine r_iaddN (q := 103) dX9_addLaw_102 rfl ?_
  refine r_iastN (q := 104) 19 (by decide) rfl dX9_addLaw_103 rfl (hs.e (show s < 4 by omega)) (hs.n rfl (show s < 4 by omega)) (by omega) (by decide) ?_
  refine r_return dX9_addLaw_104 rfl ?_
  exact ⟨rfl, rfl⟩

theorem WC.law11 {S : zS} {s : Nat} {W : zWd} (h : Wok W) (hc : WC S s W) {n : Nat} {c : List zT} (hT : Ty S 11 c) : WC (sI (sI (cpS (cpS (sI S 1005 s (wL W) (nI n)) 902 11 1007 s 0 (lf W (wL W)) c.length) 903 11 1008 s 0 (lf W (wL W)) c.length) 9 s 4 (nI (wL W + 1))) 1006 s (wL W + 1) (nI (lf W (wL W) + c.length))) s (addW W n c) := by
  have g7 : ∀ x y k, x ≠ 1005 → x ≠ 1007 → x ≠ 1008 → x ≠ 1006 → ¬ (x = 9 ∧ k = 4) → gI (sI (sI (cpS (cpS (sI S 1005 s (wL W) (nI n)) 902 11 1007 s 0 (lf W (wL W)) c.length) 903 11 1008 s 0 (lf W (wL W)) c.length) 9 s 4 (nI (wL W + 1))) 1006 s (wL W + 1) (nI (lf W (wL W) + c.length))) x y k = gI S x y k := fun x y k a1 a2 a3 a4 a5 => by
    rw [gI_sI, if_neg (by omega), gI_sI, if_neg (by omega), gI_cpS, if_neg (by omega), gI_cpS, if_neg (by omega), gI_sI, if_neg (by omega)]
  have v7 : ∀ k, gI (sI (sI (cpS (cpS (sI S 1005 s (wL W) (nI n)) 902 11 1007 s 0 (lf W (wL W)) c.length) 903 11 1008 s 0 (lf W (wL W)) c.length) 9 s 4 (nI (wL W + 1))) 1006 s (wL W + 1) (nI (lf W (wL W) + c.length))) 1007 s k = if lf W (wL W) ≤ k ∧ k < lf W (wL W) + c.length then gI S 902 11 (k - lf W (wL W)) else gI S 1007 s k := fun k => by
    rw [gI_sI, if_neg (by omega), gI_sI, if_neg (by omega), gI_cpS, if_neg (by omega), gI_cpS, if_pos ⟨rfl, rfl⟩]
    unfold va_cpy
    split
    · rw [gI_sI, if_neg (by omega), Nat.zero_add]
    · rw [gI_sI, if_neg (by omega)]
  have v8 : ∀ k, gI (sI (sI (cpS (cpS (sI S 1005 s (wL W) (nI n)) 902 11 1007 s 0 (lf W (wL W)) c.length) 903 11 1008 s 0 (lf W (wL W)) c.length) 9 s 4 (nI (wL W + 1))) 1006 s (wL W + 1) (nI (lf W (wL W) + c.length))) 1008 s k = if lf W (wL W) ≤ k ∧ k < lf W (wL W) + c.length then gI S 903 11 (k - lf W (wL W)) else gI S 1008 s k := fun k => by
    rw [gI_sI, if_neg (by omega), gI_sI, if_neg (by omega), gI_cpS, if_pos ⟨rfl, rfl⟩]
    unfold va_cpy
    split
    · rw [gI_cpS, if_neg (by omega), gI_sI, if_neg (by omega), Nat.zero_add]
    · rw [gI_cpS, if_neg (by omega), gI_sI, if_neg (by omega)]
  refine ⟨(g7 9 s 0 (by omega) (by omega) (by omega) (by omega) (by omega)).trans hc.1, (g7 9 s 1 (by omega) (by omega) (by omega) (by omega) (by omega)).trans hc.2.1, by rw [gI_sI, if_neg (by omega), gI_sI, if_pos ⟨rfl, rfl, rfl⟩, addW_L], fun a ha => ⟨(g7 1003 s a (by omega) (by omega) (by omega) (by omega) (by omega)).trans (hc.2.2.2.1 a ha).1, (hc.2.2.2.1 a ha).2⟩, fun L hL => ?_, fun L hL => ?_, fun L k hL hk => ?_⟩
  · rw [addW_L] at hL
    rw [gI_sI, if_neg (by omega), gI_sI, if_neg (by omega), gI_cpS, if_neg (by omega), gI_cpS, if_neg (by omega), gI_sI]
    by_cases e : L = wL W
    · rw [if_pos ⟨rfl, rfl, e⟩, e, addW_eq]
    · rw [if_neg (by omega), addW_lt (by omega)]; exact hc.2.2.2.2.1 L (by omega)
  · rw [addW_L] at hL
    rw [gI_sI]
    by_cases e : L = wL W + 1
    · rw [if_pos ⟨rfl, rfl, e⟩, e, addW_f1]
    · rw [if_neg (by omega), gI_sI, if_neg (by omega), gI_cpS, if_neg (by omega), gI_cpS, if_neg (by omega), gI_sI, if_neg (by omega), addW_f (by omega)]
      exact hc.2.2.2.2.2.1 L (by omega)
  · rw [addW_L] at hL
    by_cases e : L = wL W
    · subst e
      rw [addW_eq] at hk ⊢
      rw [addW_f (Nat.le_refl _), v7, v8, if_pos ⟨by omega, by have hk : k < c.length := hk; omega⟩, if_pos ⟨by omega, by have hk : k < c.length := hk; omega⟩, Nat.add_sub_cancel_left]
      exact hT.2.1 k hk
    · have hL' : L < wL W := by omega
      rw [addW_lt hL'] at hk ⊢
      have b1 := lf_succ hL'
      have b2 := lf_mono (W := W) (show L + 1 ≤ wL W from hL')
      rw [addW_f (by omega), v7, v8, if_neg (by omega), if_neg (by omega)]
      exact hc.2.2.2.2.2.2 L k hL' hk


theorem tyTL {S : zS} {j : Nat} {c : List zT} (h : Ty S j c) : TL S j := by
  obtain ⟨h1, -, m, h2, h3, h4, h5, h6⟩ := h
  exact ⟨m, c.length, h2, h3, h4, h5, h1, h6⟩
theorem rs_neg1 {P a : Nat} (hP : 0 < P) (ha : a < P) (h97 : P ≤ 97) : rsN (-(nI a)) P = (P - a) % P := by
  rw [show -(nI a) = (-1 : Int32) * nI a by rw [Int32.neg_mul, Int32.one_mul]]
  exact rs_neg hP ha h97
theorem addT_hd {P : Nat} {t : List Nat} {v : Nat} {p : zT} {r : List zT} (h : ky t < ky p.1) : addT P t v (p :: r) = p :: addT P t v r := by
  rw [addT, if_neg (fun z => by rw [z] at h; exact Nat.lt_irrefl _ h), if_pos h]
theorem addT_tp {P : Nat} {t : List Nat} {v : Nat} : ∀ {r : List zT}, (∀ p, p ∈ r → ky p.1 < ky t) → addT P t v r = (t, v % P) :: r
  | [], _ => rfl
  | p :: r, h => by
    have h1 := h p List.mem_cons_self
    rw [addT, if_neg (fun z => by rw [z] at h1; exact Nat.lt_irrefl _ h1), if_neg (by omega)]
theorem cl_idq {r : List zT} (h : ∀ p, p ∈ r → p.2 ≠ 0) : cl r = r := List.filter_eq_self.mpr (fun p hp => by simp [h p hp])
/-- a pivot's number put -/
theorem put_dtm {W : zWd} (hW : Wok W) {mk : Nat → Bool} {R : Nat → Nat → Nat} (h : IsD W mk R) {f c : Nat} (hf : f < (tl W 3).length) (hcf : c < f) (hm : mk c = true) : cl (addT (wP W) ((tl W 3).getD c []) ((wP W - R c f) % wP W) (((tl W 3).getD f [], 1) :: dtm mk R (wP W) (tl W 3) f c)) = ((tl W 3).getD f [], 1) :: dtm mk R (wP W) (tl W 3) f (c + 1) := by
  have hP := hW.1
  have hR := (h.1 c (by omega) hm).2.2 f hf
  have hnz : ∀ p, p ∈ dtm mk R (wP W) (tl W 3) f c → p.2 ≠ 0 ∧ ky p.1 < ky ((tl W 3).getD c []) := fun p hp => by
    obtain ⟨j, j1, j2, j3, rfl⟩ := dtm_mem hp
    have hRj := (h.1 j (by omega) j2).2.2 f hf
    refine ⟨?_, tl_lt hW.2.1 (by omega) j1 (by omega)⟩
    show (wP W - R j f) % wP W ≠ 0
    rw [Nat.mod_eq_of_lt (by omega)]
    omega
  rw [addT_hd (tl_lt hW.2.1 (by omega) hcf hf), addT_tp (fun p hp => (hnz p hp).2), Nat.mod_mod, dtm]
  by_cases e : R c f = 0
  · rw [if_neg (fun z => z.2 e), e, Nat.sub_zero, Nat.mod_self]
    show (((tl W 3).getD f [], 1) :: ((tl W 3).getD c [], 0) :: dtm mk R (wP W) (tl W 3) f c).filter (fun p => p.2 != 0) = _
    rw [List.filter_cons_of_pos (by simp), List.filter_cons_of_neg (by simp)]
    exact congrArg _ (cl_idq (fun p hp => (hnz p hp).1))
  · rw [if_pos ⟨hm, e⟩]
    refine cl_idq (fun p hp => ?_)
    rcases List.mem_cons.mp hp with rfl | q
    · show (1 : Nat) ≠ 0; omega
    · rcases List.mem_cons.mp q with rfl | q
      · show (wP W - R c f) % wP W ≠ 0
        rw [Nat.mod_eq_of_lt (by omega)]
        omega
      · exact (hnz p q).1
/-- a world with these acts and other laws -/
def mkWs (W : zWd) (ls : List (Nat × List zT)) : zWd := (W.1, W.2.1, W.2.2.1, ls)
theorem mkWs_ok {W : zWd} (hW : Wok W) : Wok (mkWs W []) := ⟨hW.1, hW.2.1, hW.2.2.1, Nat.zero_le _, Nat.zero_le _, fun L hL => absurd hL (Nat.not_lt_zero L)⟩
theorem lfs_app2 : ∀ (a b : List (Nat × List zT)), lfs (a ++ b) (a ++ b).length = lfs a a.length + lfs b b.length
  | [], b => by
    show lfs b b.length = 0 + lfs b b.length
    omega
  | x :: a, b => by
    show x.2.length + lfs (a ++ b) (a ++ b).length = x.2.length + lfs a a.length + lfs b b.length
    rw [lfs_app2 a b]
    omega
theorem lfs_nil : lfs [] 0 = 0 := rfl
/-- what has been told fits -/
theorem mkWs_fit {W : zWd} {mk : Nat → Bool} {R : Nat → Nat → Nat} (h : Wok (dW W mk R)) {ls : List (Nat × List zT)} {f : Nat} (hls : ls ++ dls mk R (wP W) (tl W 3) (f + 1) = dls mk R (wP W) (tl W 3) (tl W 3).length) (hm : mk f = false) : wL (mkWs W ls) < 18 ∧ lf (mkWs W ls) (wL (mkWs W ls)) + (dlw mk R (wP W) (tl W 3) f).length ≤ 200 ∧ (ls ++ [(3, dlw mk R (wP W) (tl W 3) f)]) ++ dls mk R (wP W) (tl W 3) f = dls mk R (wP W) (tl W 3) (tl W 3).length := by
  have e1 : dls mk R (wP W) (tl W 3) (f + 1) = (3, dlw mk R (wP W) (tl W 3) f) :: dls mk R (wP W) (tl W 3) f := by
    rw [dls, if_neg (by rw [hm]; decide)]
  have h18 : (dls mk R (wP W) (tl W 3) (tl W 3).length).length ≤ 18 := h.2.2.2.1
  have h200 : lfs (dls mk R (wP W) (tl W 3) (tl W 3).length) (dls mk R (wP W) (tl W 3) (tl W 3).length).length ≤ 200 := h.2.2.2.2.1
  rw [e1] at hls
  rw [← hls] at h18 h200
  rw [lfs_app2] at h200
  rw [List.length_append, List.length_cons] at h18
  have e2 : lfs ((3, dlw mk R (wP W) (tl W 3) f) :: dls mk R (wP W) (tl W 3) f) ((3, dlw mk R (wP W) (tl W 3) f) :: dls mk R (wP W) (tl W 3) f).length = (dlw mk R (wP W) (tl W 3) f).length + lfs (dls mk R (wP W) (tl W 3) f) (dls mk R (wP W) (tl W 3) f).length := rfl
  refine ⟨?_, ?_, by rw [List.append_assoc]; exact hls⟩
  · show ls.length < 18
    omega
  · show lfs ls ls.length + _ ≤ 200
    omega
