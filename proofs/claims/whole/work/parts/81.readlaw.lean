set_option maxRecDepth 100000 in
theorem ok_addLaw {S : zS} (hs : Sd S) {s : Nat} (hs4 : s < 4) {W : zWd} (hc : WC S s W) (hL : wL W < 18) {n : Nat} {c : List zT} (hn : gI S 8 12 0 = nI n) (hT : Ty S 12 c) (hl : lf W (wL W) + c.length ≤ 200) : Ok mX9_addLaw 0 (ent 3 [zr 9 s, zr 8 12]) [] S (fun r S1 => r = none ∧ S1 = sI (sI (cpS (cpS (sI S 1005 s (wL W) (nI n)) 902 12 1007 s 0 (lf W (wL W)) c.length) 903 12 1008 s 0 (lf W (wL W)) c.length) 9 s 4 (nI (wL W + 1))) 1006 s (wL W + 1) (nI (lf W (wL W) + c.length))) := by
  obtain ⟨q1, q2, m, m2, m3, m4, m5, m6⟩ := id hT
  show Ok mX9_addLaw 0 [some (zr 9 s), some (zr 8 12), none] [] S _
  refine r_aload_n (q := 1) dX9_addLaw_0 rfl rfl rfl ?_
  refine r_getr (q := 4) (some (1006, s)) ck9 dX9_addLaw_1 rfl (k := 6) (by decide) wt322 rfl (hs.e (show s < 4 by omega)) (hs.r (show s < 4 by omega) (by decide)) ?_
  refine r_aload_n (q := 5) dX9_addLaw_4 rfl rfl rfl ?_
  refine r_geti (q := 8) ck9 dX9_addLaw_5 rfl (k := 4) (by decide) wt312 (Or.inl rfl) (hs.e (show s < 4 by omega)) ?_
  refine r_topi (y := nI (wL W)) hc.2.2.1 ?_
  refine r_ialdN (q := 9) 19 (by decide) rfl dX9_addLaw_8 rfl (hs.e (show s < 4 by omega)) (hs.n rfl (show s < 4 by omega)) (by omega) (by decide) ?_
  refine r_topi (y := nI (lf W (wL W))) (hc.2.2.2.2.2.1 (wL W) (Nat.le_refl _)) ?_
  refine r_istore_n (q := 10) (L' := [some (zr 9 s), some (zr 8 12), some (zi (nI (lf W (wL W))))]) dX9_addLaw_9 rfl rfl (by decide) rfl ?_
  refine r_aload_n (q := 11) dX9_addLaw_10 rfl rfl rfl ?_
  refine r_geti (q := 14) ck9 dX9_addLaw_11 rfl (k := 4) (by decide) wt312 (Or.inl rfl) (hs.e (show s < 4 by omega)) ?_
  refine r_topi (y := nI (wL W)) hc.2.2.1 ?_
  refine r_bipush (q := 16) (nI 18) dX9_addLaw_14 rfl (by decide) ?_
  refine r_icmp_geN (q := 19) (t := 31) (by omega) (by omega) dX9_addLaw_16 (by decide) rfl (fun h16 => absurd h16 (by omega)) (fun h16 => ?_)
  refine r_iload_n (q := 20) dX9_addLaw_19 rfl rfl rfl ?_
  refine r_aload_n (q := 21) dX9_addLaw_20 rfl rfl rfl ?_
  refine r_geti (q := 24) ck8 dX9_addLaw_21 rfl (k := 1) (by decide) wt65 (Or.inl rfl) (hs.e (by decide)) ?_
  refine r_topi (y := nI c.length) hT.1 ?_
  refine r_iaddN (q := 25) dX9_addLaw_24 rfl ?_
  refine r_sipush (q := 28) (nI 200) dX9_addLaw_25 rfl (by decide) ?_
  refine r_icmp_leN (q := 31) (t := 32) (by omega) (by omega) dX9_addLaw_28 (by decide) rfl (fun h28 => ?_) (fun h28 => absurd h28 (by omega))
  refine r_aload_n (q := 33) dX9_addLaw_32 rfl rfl rfl ?_
  refine r_getr (q := 36) (some (1005, s)) ck9 dX9_addLaw_33 rfl (k := 5) (by decide) wt317 rfl (hs.e (show s < 4 by omega)) (hs.r (show s < 4 by omega) (by decide)) ?_
  refine r_aload_n (q := 37) dX9_addLaw_36 rfl rfl rfl ?_
  refine r_geti (q := 40) ck9 dX9_addLaw_37 rfl (k := 4) (by decide) wt312 (Or.inl rfl) (hs.e (show s < 4 by omega)) ?_
  refine r_topi (y := nI (wL W)) hc.2.2.1 ?_
  refine r_aload_n (q := 41) dX9_addLaw_40 rfl rfl rfl ?_
  refine r_geti (q := 44) ck8 dX9_addLaw_41 rfl (k := 0) (by decide) wt57 (Or.inl rfl) (hs.e (by decide)) ?_
  refine r_topi (y := nI n) hn ?_
  refine r_iastN (q := 45) 18 (by decide) rfl dX9_addLaw_44 rfl (hs.e (show s < 4 by omega)) (hs.n rfl (show s < 4 by omega)) (by omega) (by decide) ?_
  refine r_aload_n (q := 46) dX9_addLaw_45 rfl rfl rfl ?_
  refine r_getr (q := 49) (some (902, 12)) ck8 dX9_addLaw_46 rfl (k := 2) (by decide) wt71 rfl (hs.e (by decide)) (hs.r (by decide) (by decide)) ?_
  refine r_iconst (q := 50) (nI 0) dX9_addLaw_49 rfl (by decide) ?_
  refine r_aload_n (q := 51) dX9_addLaw_50 rfl rfl rfl ?_
  refine r_getr (q := 54) (some (1007, s)) ck9 dX9_addLaw_51 rfl (k := 7) (by decide) wt328 rfl (hs.e (show s < 4 by omega)) (hs.r (show s < 4 by omega) (by decide)) ?_
  refine r_iload_n (q := 55) dX9_addLaw_54 rfl rfl rfl ?_
  refine r_aload_n (q := 56) dX9_addLaw_55 rfl rfl rfl ?_
  refine r_geti (q := 59) ck8 dX9_addLaw_56 rfl (k := 1) (by decide) wt65 (Or.inl rfl) (hs.e (by decide)) ?_
  refine r_topi (y := gI S 8 12 1) (by simp [gI_sI, gJ_sJ, gI_sJ, gJ_sI]) ?_
  refine r_topi (y := nI c.length) hT.1 ?_
  refine r_copyi (q := 62) (by decide) (by decide) rfl rfl (hs.e (by decide)) (hs.e (show s < 4 by omega)) dX9_addLaw_59 rfl wt655 wt640 wt641 wt16 (Nat.le_of_ble_eq_true rfl) (by decide) (by decide) (by omega) (by omega) (by omega) (by rw [show gN (sI S 1005 s (wL W) (nI n)) 902 12 = m from m2]; omega) (by rw [show gN (sI S 1005 s (wL W) (nI n)) 1007 s = 200 from (hs.n rfl (show s < 4 by omega))]; omega) ?_
  refine r_aload_n (q := 63) dX9_addLaw_62 rfl rfl rfl ?_
  refine r_getr (q := 66) (some (903, 12)) ck8 dX9_addLaw_63 rfl (k := 3) (by decide) wt77 rfl (hs.e (by decide)) (hs.r (by decide) (by decide)) ?_
  refine r_iconst (q := 67) (nI 0) dX9_addLaw_66 rfl (by decide) ?_
  refine r_aload_n (q := 68) dX9_addLaw_67 rfl rfl rfl ?_
  refine r_getr (q := 71) (some (1008, s)) ck9 dX9_addLaw_68 rfl (k := 8) (by decide) wt333 rfl (hs.e (show s < 4 by omega)) (hs.r (show s < 4 by omega) (by decide)) ?_
  refine r_iload_n (q := 72) dX9_addLaw_71 rfl rfl rfl ?_
  refine r_aload_n (q := 73) dX9_addLaw_72 rfl rfl rfl ?_
  refine r_geti (q := 76) ck8 dX9_addLaw_73 rfl (k := 1) (by decide) wt65 (Or.inl rfl) (hs.e (by decide)) ?_
  refine r_topi (y := gI S 8 12 1) (by simp [gI_sI, gJ_sJ, gI_sJ, gJ_sI, gI_cpS, gJ_cpS]) ?_
  refine r_topi (y := nI c.length) hT.1 ?_
  refine r_copyi (q := 79) (by decide) (by decide) rfl rfl (hs.e (by decide)) (hs.e (show s < 4 by omega)) dX9_addLaw_76 rfl wt655 wt640 wt641 wt16 (Nat.le_of_ble_eq_true rfl) (by decide) (by decide) (by omega) (by omega) (by omega) (by rw [show gN (cpS (sI S 1005 s (wL W) (nI n)) 902 12 1007 s 0 (lf W (wL W)) c.length) 903 12 = m from m3]; omega) (by rw [show gN (cpS (sI S 1005 s (wL W) (nI n)) 902 12 1007 s 0 (lf W (wL W)) c.length) 1008 s = 200 from (hs.n rfl (show s < 4 by omega))]; omega) ?_
  refine r_aload_n (q := 80) dX9_addLaw_79 rfl rfl rfl ?_
  refine r_dup (q := 81) dX9_addLaw_80 rfl rfl ?_
  refine r_geti (q := 84) ck9 dX9_addLaw_81 rfl (k := 4) (by decide) wt312 (Or.inl rfl) (hs.e (show s < 4 by omega)) ?_
  refine r_topi (y := gI S 9 s 4) (by simp [gI_sI, gJ_sJ, gI_sJ, gJ_sI, gI_cpS, gJ_cpS]) ?_
  refine r_topi (y := nI (wL W)) hc.2.2.1 ?_
  refine r_iconst (q := 85) (nI 1) dX9_addLaw_84 rfl (by decide) ?_
  refine r_iaddN (q := 86) dX9_addLaw_85 rfl ?_
  refine r_puti (q := 89) ck9 dX9_addLaw_86 rfl (k := 4) (by decide) wt312 (Or.inl rfl) rfl (hs.e (show s < 4 by omega)) ?_
  refine r_aload_n (q := 90) dX9_addLaw_89 rfl rfl rfl ?_
  refine r_getr (q := 93) (some (1006, s)) ck9 dX9_addLaw_90 rfl (k := 6) (by decide) wt322 rfl (hs.e (show s < 4 by omega)) (hs.r (show s < 4 by omega) (by decide)) ?_
  refine r_aload_n (q := 94) dX9_addLaw_93 rfl rfl rfl ?_
  refine r_geti (q := 97) ck9 dX9_addLaw_94 rfl (k := 4) (by decide) wt312 (Or.inl rfl) (hs.e (show s < 4 by omega)) ?_
  refine r_topi (y := nI ((wL W) + 1)) (by simp [gI_sI, gJ_sJ, gI_sJ, gJ_sI, gI_cpS, gJ_cpS]) ?_
  refine r_iload_n (q := 98) dX9_addLaw_97 rfl rfl rfl ?_
  refine r_aload_n (q := 99) dX9_addLaw_98 rfl rfl rfl ?_
  refine r_geti (q := 102) ck8 dX9_addLaw_99 rfl (k := 1) (by decide) wt65 (Or.inl rfl) (hs.e (by decide)) ?_
  refine r_topi (y := gI S 8 12 1) (by simp [gI_sI, gJ_sJ, gI_sJ, gJ_sI, gI_cpS, gJ_cpS]) ?_
  refine r_topi (y := nI c.length) hT.1 ?_
  refine r_iaddN (q := 103) dX9_addLaw_102 rfl ?_
  refine r_iastN (q := 104) 19 (by decide) rfl dX9_addLaw_103 rfl (hs.e (show s < 4 by omega)) (hs.n rfl (show s < 4 by omega)) (by omega) (by decide) ?_
  refine r_return dX9_addLaw_104 rfl ?_
  exact ⟨rfl, rfl⟩

theorem WC.law {S : zS} {s : Nat} {W : zWd} (h : Wok W) (hc : WC S s W) {n : Nat} {c : List zT} (hT : Ty S 12 c) : WC (sI (sI (cpS (cpS (sI S 1005 s (wL W) (nI n)) 902 12 1007 s 0 (lf W (wL W)) c.length) 903 12 1008 s 0 (lf W (wL W)) c.length) 9 s 4 (nI (wL W + 1))) 1006 s (wL W + 1) (nI (lf W (wL W) + c.length))) s (addW W n c) := by
  have g7 : ∀ x y k, x ≠ 1005 → x ≠ 1007 → x ≠ 1008 → x ≠ 1006 → ¬ (x = 9 ∧ k = 4) → gI (sI (sI (cpS (cpS (sI S 1005 s (wL W) (nI n)) 902 12 1007 s 0 (lf W (wL W)) c.length) 903 12 1008 s 0 (lf W (wL W)) c.length) 9 s 4 (nI (wL W + 1))) 1006 s (wL W + 1) (nI (lf W (wL W) + c.length))) x y k = gI S x y k := fun x y k a1 a2 a3 a4 a5 => by
    rw [gI_sI, if_neg (by omega), gI_sI, if_neg (by omega), gI_cpS, if_neg (by omega), gI_cpS, if_neg (by omega), gI_sI, if_neg (by omega)]
  have v7 : ∀ k, gI (sI (sI (cpS (cpS (sI S 1005 s (wL W) (nI n)) 902 12 1007 s 0 (lf W (wL W)) c.length) 903 12 1008 s 0 (lf W (wL W)) c.length) 9 s 4 (nI (wL W + 1))) 1006 s (wL W + 1) (nI (lf W (wL W) + c.length))) 1007 s k = if lf W (wL W) ≤ k ∧ k < lf W (wL W) + c.length then gI S 902 12 (k - lf W (wL W)) else gI S 1007 s k := fun k => by
    rw [gI_sI, if_neg (by omega), gI_sI, if_neg (by omega), gI_cpS, if_neg (by omega), gI_cpS, if_pos ⟨rfl, rfl⟩]
    unfold va_cpy
    split
    · rw [gI_sI, if_neg (by omega), Nat.zero_add]
    · rw [gI_sI, if_neg (by omega)]
  have v8 : ∀ k, gI (sI (sI (cpS (cpS (sI S 1005 s (wL W) (nI n)) 902 12 1007 s 0 (lf W (wL W)) c.length) 903 12 1008 s 0 (lf W (wL W)) c.length) 9 s 4 (nI (wL W + 1))) 1006 s (wL W + 1) (nI (lf W (wL W) + c.length))) 1008 s k = if lf W (wL W) ≤ k ∧ k < lf W (wL W) + c.length then gI S 903 12 (k - lf W (wL W)) else gI S 1008 s k := fun k => by
    rw [gI_sI, if_neg (by omega), gI_sI, if_neg (by omega), gI_cpS, if_pos ⟨rfl, rfl⟩]
    unfold va_cpy
    split
    · rw [gI_cpS, if_neg (by omega), gI_sI, if_neg (by omega), Nat.zero_add]
    · rw [gI_cpS, if_neg (by omega), gI_sI, if_neg (by omega)]
  refine ⟨(g7 9 s 0 (by omega) (by omega) (by omega) (by omega) (by omega)).trans hc.1, (g7 9 s 1 (by omega) (by omega) (by omega) (by omega) (by omega)).trans hc.2.1, by rw [gI_sI, if_neg (by omega), gI_sI, if_pos ⟨rfl, rfl, rfl⟩, addW_L], fun a ha => ⟨(g7 1003 s a (by omega) (by omega) (by omega) (by omega) (by omega)).trans (hc.2.2.2.1 a ha).1, (hc.2.2.2.1 a ha).2⟩, fun L hL => ?_, fun L hL => ?_, fun L k hL hk => ?_⟩
  · rw [addW_L] at hL
    rw [gI_sI, if_neg (by omega), gI_sI, if_neg (by omega), gI_cpS, if_neg (by omega), gI_cpS, if_neg (by omega), gI_sI]
    by_cases e : L = wL W
    · rw [if_pos ⟨rfl, rfl, e⟩, e, addW_eq]
    · rw [if_neg (by omega), addW_lt (by omega)]; exact hc.2.2.2.2.1 L (by omega)
  · rw [addW_L] at hL
    rw [gI_sI]
    by_cases e : L = wL W + 1
    · rw [if_pos ⟨rfl, rfl, e⟩, e, addW_f1]
    · rw [if_neg (by omega), gI_sI, if_neg (by omega), gI_cpS, if_neg (by omega), gI_cpS, if_neg (by omega), gI_sI, if_neg (by omega), addW_f (by omega)]
      exact hc.2.2.2.2.2.1 L (by omega)
  · rw [addW_L] at hL
    by_cases e : L = wL W
    · subst e
      rw [addW_eq] at hk ⊢
      rw [addW_f (Nat.le_refl _), v7, v8, if_pos ⟨by omega, by have hk : k < c.length := hk; omega⟩, if_pos ⟨by omega, by have hk : k < c.length := hk; omega⟩, Nat.add_sub_cancel_left]
      exact hT.2.1 k hk
    · have hL' : L < wL W := by omega
      rw [addW_lt hL'] at hk ⊢
      have b1 := lf_succ hL'
      have b2 := lf_mono (W := W) (show L + 1 ≤ wL W from hL')
      rw [addW_f (by omega), v7, v8, if_neg (by omega), if_neg (by omega)]
      exact hc.2.2.2.2.2.2 L k hL' hk

