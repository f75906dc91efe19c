set_option maxRecDepth 100000 in
theorem ok_addLaw {S : zS} (hs : Sd S) {s : Nat} (hs4 : s < 4) {W : zWd} (hc : WC S s W) (hL : wL W < 18) {n : Nat} {c : List zT} (hn : gI S 8 12 0 = nI n) (hT : Ty S 12 c) (hl : lf W (wL W) + c.length ≤ 200) : Ok mX9_addLaw 0 (ent 3 [zr 9 s, zr 8 12]) [] S (fun r S1 => r = none ∧ S1 = sI (sI (cpS (cpS (sI S 1005 s (wL W) (nI n)) 902 12 1007 s 0 (lf W (wL W)) c.length) 903 12 1008 s 0 (lf W (wL W)) c.length) 9 s 4 (nI (wL W + 1))) 1006 s (wL W + 1) (nI (lf W (wL W) + c.length))) := by
  obtain ⟨q1, q2, m, m2, m3, m4, m5, m6⟩ := id hT
  show Ok mX9_addLaw 0 [some (zr 9 s), some (zr 8 12), none] [] S _
  refine r_aload_n (q := 1) dX9_addLaw_0 rfl rfl rfl ?_
  refine r_getr (q := 4) (some (1006, s)) ck9 dX9_addLaw_1 rfl (k := 6) (by decide) wt322 rfl (hs.e (show s < 4 by omega)) (hs.r (show s < 4 by omega) (by decide)) ?_
  refine r_aload_n (q := 5) dX9_addLaw_4 rfl rfl rfl ?_
  refine r_geti (q := 8) ck9 dX9_addLaw_5 rfl (k := 4) (by decide) wt312 (Or.inl rfl) (hs.e (show s < 4 by omega)) ?_
  refine r_topi (y := nI (wL W)) hc.2.2.1 ?_
  refine r_ialdN (q := 9) 19 (by decide) rfl dX9_addLaw_8 rfl (hs.e (show s < 4 by omega)) (hs.n rfl (show s < 4 by omega)) (by omega) (by decide) ?_
  refine r_topi (y := nI (lf W (wL W))) (hc.2.2.2.2.2.1 (wL W) (Nat.le_refl _)) ?_
  refine r_istore_n (q := 10) (L' := [some (zr 9 s), some (zr 8 12), some (zi (nI (lf W (wL W))))]) dX9_addLaw_9 rfl rfl (by decide) rfl ?_
  refine r_aload_n (q := 11) dX9_addLaw_10 rfl rfl rfl ?_
  refine r_geti (q := 14) ck9 dX9_addLaw_11 rfl (k := 4) (by decide) wt312 (Or.inl rfl) (hs.e (show s < 4 by omega)) ?_
  refine r_topi (y := nI (wL W)) hc.2.2.1 ?_
  refine r_bipush (q := 16) (nI 18) dX9_addLaw_14 rfl (by decide) ?_
  refine r_icmp_geN (q := 19) (t := 31) (by omega) (by omega) dX9_addLaw_16 (by decide) rfl (fun h16 => absurd h16 (by omega)) (fun h16 => ?_)
  refine r_iload_n (q := 20) dX9_addLaw_19 rfl rfl rfl ?_
  refine r_aload_n (q := 21) dX9_addLaw_20 rfl rfl rfl ?_
  refine r_geti (q := 24) ck8 dX9_addLaw_21 rfl (k := 1) (by decide) wt65 (Or.inl rfl) (hs.e (by decide)) ?_
  refine r_topi (y := nI c.length) hT.1 ?_
  refine r_iaddN (q := 25) dX9_addLaw_24 rfl ?_
  refine r_sipush (q := 28) (nI 200) dX9_addLaw_25 rfl (by decide) ?_
  refine r_icmp_leN (q := 31) (t := 32) (by omega) (by omega) dX9_addLaw_28 (by decide) rfl (fun h28 => ?_) (fun h28 => absurd h28 (by omega))
  refine r_aload_n (q := 33) dX9_addLaw_32 rfl rfl rfl ?_
  refine r_getr (q := 36) (some (1005, s)) ck9 dX9_addLaw_33 rfl (k := 5) (by decide) wt317 rfl (hs.e (show s < 4 by omega)) (hs.r (show s < 4 by omega) (by decide)) ?_
  refine r_aload_n (q := 37) dX9_addLaw_36 rfl rfl rfl ?_
  refine r_geti (q := 40) ck9 dX9_addLaw_37 rfl (k := 4) (by decide) wt312 (Or.inl rfl) (hs.e (show s < 4 by omega)) ?_
  refine r_topi (y := nI (wL W)) hc.2.2.1 ?_
  refine r_aload_n (q := 41) dX9_addLaw_40 rfl rfl rfl ?_
  refine r_geti (q := 44) ck8 dX9_addLaw_41 rfl (k := 0) (by decide) wt57 (Or.inl rfl) (hs.e (by decide)) ?_
  refine r_topi (y := nI n) hn ?_
  refine r_iastN (q := 45) 18 (by decide) rfl dX9_addLaw_44 rfl (hs.e (show s < 4 by omega)) (hs.n rfl (show s < 4 by omega)) (by omega) (by decide) ?_
  refine r_aload_n (q := 46) dX9_addLaw_45 rfl rfl rfl ?_
  refine r_getr (q := 49) (some (902, 12)) ck8 dX9_addLaw_46 rfl (k := 2) (by decide) wt71 rfl (hs.e (by decide)) (hs.r (by decide) (by decide)) ?_
  refine r_iconst (q := 50) (nI 0) dX9_addLaw_49 rfl (by decide) ?_
  refine r_aload_n (q := 51) dX9_addLaw_50 rfl rfl rfl ?_
  refine r_getr (q := 54) (some (1007, s)) ck9 dX9_addLaw_51 rfl (k := 7) (by decide) wt328 rfl (hs.e (show s < 4 by omega)) (hs.r (show s < 4 by omega) (by decide)) ?_
  refine r_iload_n (q := 55) dX9_addLaw_54 rfl rfl rfl ?_
  refine r_aload_n (q := 56) dX9_addLaw_55 rfl rfl rfl ?_
  refine r_geti (q := 59) ck8 dX9_addLaw_56 rfl (k := 1) (by decide) wt65 (Or.inl rfl) (hs.e (by decide)) ?_
  refine r_topi (y := gI S 8 12 1) (by simp [gI_sI, gJ_sJ, gI_sJ, gJ_sI]) ?_
  refine r_topi (y := nI c.length) hT.1 ?_
  refine r_copyi (q := 62) (by decide) (by decide) rfl rfl (hs.e (by decide)) (hs.e (show s < 4 by omega)) dX9_addLaw_59 rfl wt655 wt640 wt641 wt16 (Nat.le_of_ble_eq_true rfl) (by decide) (by decide) (by omega) (by omega) (by omega) (by rw [show gN (sI S 1005 s (wL W) (nI n)) 902 12 = m from m2]; omega) (by rw [show gN (sI S 1005 s (wL W) (nI n)) 1007 s = 200 from (hs.n rfl (show s < 4 by omega))]; omega) ?_
  refine r_aload_n (q := 63) dX9_addLaw_62 rfl rfl rfl ?_
  refine r_getr (q := 66) (some (903, 12)) ck8 dX9_addLaw_63 rfl (k := 3) (by decide) wt77 rfl (hs.e (by decide)) (hs.r (by decide) (by decide)) ?_
  refine r_iconst (q := 67) (nI 0) dX9_addLaw_66 rfl (by decide) ?_
  refine r_aload_n (q := 68) dX9_addLaw_67 rfl rfl rfl ?_
  refine r_getr (q := 71) (some (1008, s)) ck9 dX9_addLaw_68 rfl (k := 8) (by decide) wt333 rfl (hs.e (show s < 4 by omega)) (hs.r (show s < 4 by omega) (by decide)) ?_
  refine r_iload_n (q := 72) dX9_addLaw_71 rfl rfl rfl ?_
  refine r_aload_n (q := 73) dX9_addLaw_72 rfl rfl rfl ?_
  refine r_geti (q := 76) ck8 dX9_addLaw_73 rfl (k := 1) (by decide) wt65 (Or.inl rfl) (hs.e (by decide)) ?_
  refine r_topi (y := gI S 8 12 1) (by simp [gI_sI, gJ_sJ, gI_sJ, gJ_sI, gI_cpS, gJ_cpS]) ?_
  refine r_topi (y := nI c.length) hT.1 ?_
  refine r_copyi (q := 79) (by decide) (by decide) rfl rfl (hs.e (by decide)) (hs.e (show s < 4 by omega)) dX9_addLaw_76 rfl wt655 wt640 wt641 wt16 (Nat.le_of_ble_eq_true rfl) (by decide) (by decide) (by omega) (by omega) (by omega) (by rw [show gN (cpS (sI S 1005 s (wL W) (nI n)) 902 12 1007 s 0 (lf W (wL W)) c.length) 903 12 = m from m3]; omega) (by rw [show gN (cpS (sI S 1005 s (wL W) (nI n)) 902 12 1007 s 0 (lf W (wL W)) c.length) 1008 s = 200 from (hs.n rfl (show s < 4 by omega))]; omega) ?_
  refine r_aload_n (q := 80) dX9_addLaw_79 rfl rfl rfl ?_
  refine r_dup (q := 81) dX9_addLaw_80 rfl rfl ?_
  refine r_geti (q := 84) ck9 dX9_addLaw_81 rfl (k := 4) (by decide) wt312 (Or.inl rfl) (hs.e (show s < 4 by omega)) ?_
  refine r_topi (y := gI S 9 s 4) (by simp [gI_sI, gJ_sJ, gI_sJ, gJ_sI, gI_cpS, gJ_cpS]) ?_
  refine r_topi (y := nI (wL W)) hc.2.2.1 ?_
  refine r_iconst (q := 85) (nI 1) dX9_addLaw_84 rfl (by decide) ?_
  refine r_iaddN (q := 86) dX9_addLaw_85 rfl ?_
  refine r_puti (q := 89) ck9 dX9_addLaw_86 rfl (k := 4) (by decide) wt312 (Or.inl rfl) rfl (hs.e (show s < 4 by omega)) ?_
  refine r_aload_n (q := 90) dX9_addLaw_89 rfl rfl rfl ?_
  refine r_getr (q := 93) (some (1006, s)) ck9 dX9_addLaw_90 rfl (k := 6) (by decide) wt322 rfl (hs.e (show s < 4 by omega)) (hs.r (show s < 4 by omega) (by decide)) ?_
  refine r_aload_n (q := 94) dX9_addLaw_93 rfl rfl rfl ?_
  refine r_geti (q := 97) ck9 dX9_addLaw_94 rfl (k := 4) (by decide) wt312 (Or.inl rfl) (hs.e (show s < 4 by omega)) ?_
  refine r_topi (y := nI ((wL W) + 1)) (by simp [gI_sI, gJ_sJ, gI_sJ, gJ_sI, gI_cpS, gJ_cpS]) ?_
  refine r_iload_n (q := 98) dX9_addLaw_97 rfl rfl rfl ?_
  refine r_aload_n (q := 99) dX9_addLaw_98 rfl rfl rfl ?_
  refine r_geti (q := 102) ck8 dX9_addLaw_99 rfl (k := 1) (by decide) wt65 (Or.inl rfl) (hs.e (by decide)) ?_
  refine r_topi (y := gI S 8 12 1) (by simp [gI_sI, gJ_sJ, gI_sJ, gJ_sI, gI_cpS, gJ_cpS]) ?_
  refine r_topi (y := nI c.length) hT.1 ?_
  refine r_iaddN (q := 103) dX9_addLaw_102 rfl ?_
  refine r_iastN (q := 104) 19 (by decide) rfl dX9_addLaw_103 rfl (hs.e (show s < 4 by omega)) (hs.n rfl (show s < 4 by omega)) (by omega) (by decide) ?_
  refine r_return dX9_addLaw_104 rfl ?_
  exact ⟨rfl, rfl⟩

theorem WC.law {S : zS} {s : Nat} {W : zWd} (h : Wok W) (hc : WC S s W) {n : Nat} {c : List zT} (hT : Ty S 12 c) : WC (sI (sI (cpS (cpS (sI S 1005 s (wL W) (nI n)) 902 12 1007 s 0 (lf W (wL W)) c.length) 903 12 1008 s 0 (lf W (wL W)) c.length) 9 s 4 (nI (wL W + 1))) 1006 s (wL W + 1) (nI (lf W (wL W) + c.length))) s (addW W n c) := by
  have g7 : ∀ x y k, x ≠ 1005 → x ≠ 1007 → x ≠ 1008 → x ≠ 1006 → ¬ (x = 9 ∧ k = 4) → gI (sI (sI (cpS (cpS (sI S 1005 s (wL W) (nI n)) 902 12 1007 s 0 (lf W (wL W)) c.length) 903 12 1008 s 0 (lf W (wL W)) c.length) 9 s 4 (nI (wL W + 1))) 1006 s (wL W + 1) (nI (lf W (wL W) + c.length))) x y k = gI S x y k := fun x y k a1 a2 a3 a4 a5 => by
    rw [gI_sI, if_neg (by omega), gI_sI, if_neg (by omega), gI_cpS, if_neg (by omega), gI_cpS, if_neg (by omega), gI_sI, if_neg (by omega)]
  have v7 : ∀ k, gI (sI (sI (cpS (cpS (sI S 1005 s (wL W) (nI n)) 902 12 1007 s 0 (lf W (wL W)) c.length) 903 12 1008 s 0 (lf W (wL W)) c.length) 9 s 4 (nI (wL W + 1))) 1006 s (wL W + 1) (nI (lf W (wL W) + c.length))) 1007 s k = if lf W (wL W) ≤ k ∧ k < lf W (wL W) + c.length then gI S 902 12 (k - lf W (wL W)) else gI S 1007 s k := fun k => by
    rw [gI_sI, if_neg (by omega), gI_sI, if_neg (by omega), gI_cpS, if_neg (by omega), gI_cpS, if_pos ⟨rfl, rfl⟩]
    unfold va_cpy
    split
    · rw [gI_sI, if_neg (by omega), Nat.zero_add]
    · rw [gI_sI, if_neg (by omega)]
  have v8 : ∀ k, gI (sI (sI (cpS (cpS (sI S 1005 s (wL W) (nI n)) 902 12 1007 s 0 (lf W (wL W)) c.length) 903 12 1008 s 0 (lf W (wL W)) c.length) 9 s 4 (nI (wL W + 1))) 1006 s (wL W + 1) (nI (lf W (wL W) + c.length))) 1008 s k = if lf W (wL W) ≤ k ∧ k < lf W (wL W) + c.length then gI S 903 12 (k - lf W (wL W)) else gI S 1008 s k := fun k => by
    rw [gI_sI, if_neg (by omega), gI_sI, if_neg (by omega), gI_cpS, if_pos ⟨rfl, rfl⟩]
    unfold va_cpy
    split
    · rw [gI_cpS, if_neg (by omega), gI_sI, if_neg (by omega), Nat.zero_add]
    · rw [gI_cpS, if_neg (by omega), gI_sI, if_neg (by omega)]
  refine ⟨(g7 9 s 0 (by omega) (by omega) (by omega) (by omega) (by omega)).trans hc.1, (g7 9 s 1 (by omega) (by omega) (by omega) (by omega) (by omega)).trans hc.2.1, by rw [gI_sI, if_neg (by omega), gI_sI, if_pos ⟨rfl, rfl, rfl⟩, addW_L], fun a ha => ⟨(g7 1003 s a (by omega) (by omega) (by omega) (by omega) (by omega)).trans (hc.2.2.2.1 a ha).1, (hc.2.2.2.1 a ha).2⟩, fun L hL => ?_, fun L hL => ?_, fun L k hL hk => ?_⟩
  · rw [addW_L] at hL
    rw [gI_sI, if_neg (by omega), gI_sI, if_neg (by omega), gI_cpS, if_neg (by omega), gI_cpS, if_neg (by omega), gI_sI]
    by_cases e : L = wL W
    · rw [if_pos ⟨rfl, rfl, e⟩, e, addW_eq]
    · rw [if_neg (by omega), addW_lt (by omega)]; exact hc.2.2.2.2.1 L (by omega)
  · rw [addW_L] at hL
    rw [gI_sI]
    by_cases e : L = wL W + 1
    · rw [if_pos ⟨rfl, rfl, e⟩, e, addW_f1]
    · rw [if_neg (by omega), gI_sI, if_neg (by omega), gI_cpS, if_neg (by omega), gI_cpS, if_neg (by omega), gI_sI, if_neg (by omega), addW_f (by omega)]
      exact hc.2.2.2.2.2.1 L (by omega)
  · rw [addW_L] at hL
    by_cases e : L = wL W
    · subst e
      rw [addW_eq] at hk ⊢
      rw [addW_f (Nat.le_refl _), v7, v8, if_pos ⟨by omega, by have hk : k < c.length := hk; omega⟩, if_pos ⟨by omega, by have hk : k < c.length := hk; omega⟩, Nat.add_sub_cancel_left]
      exact hT.2.1 k hk
    · have hL' : L < wL W := by omega
      rw [addW_lt hL'] at hk ⊢
      have b1 := lf_succ hL'
      have b2 := lf_mono (W := W) (show L + 1 ≤ wL W from hL')
      rw [addW_f (by omega), v7, v8, if_neg (by omega), if_neg (by omega)]
      exact hc.2.2.2.2.2.2 L k hL' hk

theorem WC.fg {S S1 : zS} {s : Nat} {W : zWd} {T : Nat → Nat → Nat → Prop} (h : WC S s W) (f : Fg T S S1) (t : ∀ a k, a = 9 ∨ 1002 ≤ a ∧ a ≤ 1008 → ¬ T a s k) : WC S1 s W :=
  ⟨(f.I (by omega) (t 9 0 (by omega))).trans h.1, (f.I (by omega) (t 9 1 (by omega))).trans h.2.1, (f.I (by omega) (t 9 4 (by omega))).trans h.2.2.1, fun a ha => ⟨(f.I (by omega) (t _ _ (by omega))).trans (h.2.2.2.1 a ha).1, (f.J (by omega) (t _ _ (by omega))).trans (h.2.2.2.1 a ha).2⟩, fun L hL => (f.I (by omega) (t _ _ (by omega))).trans (h.2.2.2.2.1 L hL), fun L hL => (f.I (by omega) (t _ _ (by omega))).trans (h.2.2.2.2.2.1 L hL), fun L k hL hk => ⟨(f.I (by omega) (t _ _ (by omega))).trans (h.2.2.2.2.2.2 L k hL hk).1, (f.I (by omega) (t _ _ (by omega))).trans (h.2.2.2.2.2.2 L k hL hk).2⟩⟩
theorem tTm_w {a k b : Nat} (h : a = 9 ∨ 1002 ≤ a ∧ a ≤ 1008) : ¬ tTm 12 a b k := by
  unfold tTm tTy
  simp [tTr, tCa, tSk]
  omega
def tLw (s a b k : Nat) : Prop := tTm 12 a b k ∨ b = s ∧ (a = 9 ∧ k = 4 ∨ a = 1005 ∨ a = 1006 ∧ 1 ≤ k ∨ a = 1007 ∨ a = 1008)
def LwR (S S1 : zS) (s : Nat) (told0 : Bool) (r : Option zV) : zEr ⊕ ((Bool × zWd) × List zTk) → Prop
  | Sum.inl x => r = some (zi (nI 0)) ∧ Fg (tLw s) S S1 ∧ Fl S1 x ∧ TL S1 12
  | Sum.inr ((told, W), ts) => r = some (zi (nI 1)) ∧ Fg (tLw s) S S1 ∧ gI S1 4 0 14 = gI S 4 0 14 ∧ Rc S1 ts ∧ WC S1 s W ∧ TL S1 12 ∧ told = told0
theorem fr_tm {T : Nat → Nat → Nat → Bool} {S S1 : zS} (hs : Sd S) (f : Fr T S S1) (t : ∀ a b k, T a b k = true → tSk a b k = true) (s : Nat) : Fg (tLw s) S S1 := f.fg hs fun a b k z => Or.inl (Or.inr (Or.inr (by unfold tTr tCa; rw [t a b k z]; rfl)))

set_option maxRecDepth 100000 in
theorem ok_readLaw_a {S : zS} (hs : Sd S) {ts : List zTk} (hr : Rc S ts) {s : Nat} (hs4 : s < 4) {W : zWd} (h : Wpk W ts) (hc : WC S s W) (hTL : TL S 12) (told : Bool) (hq : 18 ≤ wL W) : Ok mX4_readLaw 0 (ent 2 [zr 4 0, zr 9 s]) [] S (fun r S1 => LwR S S1 s told r (lawP told W ts)) := by
  obtain ⟨f5, f6, f7⟩ := hr.f
  obtain ⟨t1, t2, t3, t4⟩ := h.2.1.hd
  have hL18 := h.1.2.2.2.1
  have e : lawP told W ts = Sum.inl (4, (hdT ts).2.1) := if_pos hq
  rw [e]
  show Ok mX4_readLaw 0 [some (zr 4 0), some (zr 9 s)] [] S _
  refine r_aload_n (q := 1) dX4_readLaw_0 rfl rfl rfl ?_
  refine r_geti (q := 4) ck9 dX4_readLaw_1 rfl (k := 4) (by decide) wt314 (Or.inl rfl) (hs.e (show s < 4 by omega)) ?_
  refine r_topi (y := nI (wL W)) hc.2.2.1 ?_
  refine r_bipush (q := 6) (nI 18) dX4_readLaw_4 rfl (by decide) ?_
  refine r_icmp_ltN (q := 9) (t := 19) (by omega) (by omega) dX4_readLaw_6 (by decide) rfl (fun h6 => absurd h6 (by omega)) (fun h6 => ?_)
  refine r_aload_n (q := 10) dX4_readLaw_9 rfl rfl rfl ?_
  refine r_iconst (q := 11) (nI 4) dX4_readLaw_10 rfl (by decide) ?_
  refine r_aload_n (q := 12) dX4_readLaw_11 rfl rfl rfl ?_
  refine r_geti (q := 15) ck4 dX4_readLaw_12 rfl (k := 6) (by decide) wt127 (Or.inl rfl) (hs.e (by decide)) ?_
  refine r_topi (y := nI ((hdT ts).2.1)) f6 ?_
  refine r_callV (Mc := mX4_fail) (q := 18) (As := [zi (nI 4), zi (nI ((hdT ts).2.1))]) (st := []) ck4 dX4_readLaw_15 rfl rfl mkX4_fail wt550 wt552 wp7 rfl (Nat.le_of_ble_eq_true rfl) (Nat.le_of_ble_eq_true rfl) (by decide) (by decide) (by decide) (Or.inl rfl) (hs.e (by decide)) (ok_fail hs 4 ((hdT ts).2.1)) (fun r15 S15 hp15 => ?_)
  obtain ⟨rfl, w15, x15⟩ := hp15
  show Ok _ _ _ [zi (nI 0)] _ _
  refine r_zreturn (by decide) dX4_readLaw_18 rfl ?_
  exact ⟨rfl, fr_tm hs w15 tSk_fl s, x15, hTL.cong (gN_22 w15.2.2) (gN_22 w15.2.2) (w15.1 _ _ _ rfl)⟩

set_option maxRecDepth 100000 in
theorem ok_readLaw_b {S : zS} (hs : Sd S) {ts : List zTk} (hr : Rc S ts) {s : Nat} (hs4 : s < 4) {W : zWd} (h : Wpk W ts) (hc : WC S s W) (hTL : TL S 12) (told : Bool) (hq : ¬ 18 ≤ wL W) {x : zEr} (sq : sumQ (wn W) (we W) (wA W) (wP W) 0 2 (adv ts) = Sum.inl x) : Ok mX4_readLaw 0 (ent 2 [zr 4 0, zr 9 s]) [] S (fun r S1 => LwR S S1 s told r (lawP told W ts)) := by
  obtain ⟨f5, f6, f7⟩ := hr.f
  obtain ⟨t1, t2, t3, t4⟩ := h.2.1.hd
  have hL18 := h.1.2.2.2.1
  have e : lawP told W ts = Sum.inl x := (if_neg hq).trans (by rw [sq])
  rw [e]
  show Ok mX4_readLaw 0 [some (zr 4 0), some (zr 9 s)] [] S _
  refine r_aload_n (q := 1) dX4_readLaw_0 rfl rfl rfl ?_
  refine r_geti (q := 4) ck9 dX4_readLaw_1 rfl (k := 4) (by decide) wt314 (Or.inl rfl) (hs.e (show s < 4 by omega)) ?_
  refine r_topi (y := nI (wL W)) hc.2.2.1 ?_
  refine r_bipush (q := 6) (nI 18) dX4_readLaw_4 rfl (by decide) ?_
  refine r_icmp_ltN (q := 9) (t := 19) (by omega) (by omega) dX4_readLaw_6 (by decide) rfl (fun h6 => ?_) (fun h6 => absurd h6 (by omega))
  refine r_aload_n (q := 20) dX4_readLaw_19 rfl rfl rfl ?_
  refine r_callV (Mc := mX4_advance) (q := 23) (As := []) (st := []) ck4 dX4_readLaw_20 rfl rfl mkX4_advance wt529 wt531 wp4 rfl (Nat.le_of_ble_eq_true rfl) (Nat.le_of_ble_eq_true rfl) (by decide) (by decide) (by decide) (Or.inl rfl) (hs.e (by decide)) (ok_advance hs hr) (fun r20 S20 hp20 => ?_)
  obtain ⟨rfl, w20, x20⟩ := hp20
  have hW1 : WC S20 s W := hc.fr w20 (fun a k ha => by unfold tAv; simp; omega)
  have hT1 : TL S20 12 := hTL.cong (gN_22 w20.2.2) (gN_22 w20.2.2) (w20.1 _ _ _ rfl)
  show Ok _ _ _ [] _ _
  refine r_aload_n (q := 24) dX4_readLaw_23 rfl rfl rfl ?_
  refine r_aload_n (q := 25) dX4_readLaw_24 rfl rfl rfl ?_
  refine r_aload_n (q := 26) dX4_readLaw_25 rfl rfl rfl ?_
  refine r_getr (q := 29) (some (8, 12)) ck4 dX4_readLaw_26 rfl (k := 13) (by decide) wt134 rfl ((hs.fr w20).e (by decide)) ((hs.fr w20).r (by decide) (by decide)) ?_
  refine r_iconst (q := 30) (nI 0) dX4_readLaw_29 rfl (by decide) ?_
  refine r_iconst (q := 31) (nI 2) dX4_readLaw_30 rfl (by decide) ?_
  refine r_callV (Mc := mX4_readTerms) (q := 34) (As := [zr 9 s, zr 8 12, zi (nI 0), zi (nI 2)]) (st := []) ck4 dX4_readLaw_31 rfl rfl mkX4_readTerms wt582 wt584 wp11 rfl (Nat.le_of_ble_eq_true rfl) (Nat.le_of_ble_eq_true rfl) (by decide) (by decide) (by decide) (Or.inr ⟨Nat.le_of_ble_eq_true rfl, rfl, rfl⟩) ((hs.fr w20).e (by decide)) (ok_readTerms (nm := wn W) (e := we W) (wn0 := 0) (ls := 2) hs4 h.1.2.1 (fun a ha => (h.1.2.2.1.2.1 a ha).1) (wok_inj h.1) h.1.1.1 h.1.1.2.1 (show 12 < 19 by omega) (hs.fr w20) ⟨hW1.2.1, hW1.2.2.2.1⟩ hW1.1 x20 h.2.1.adv h.2.2.1.ad hT1 (by omega) (by omega)) (fun r31 S31 hp31 => ?_)
  rw [sq] at hp31
  obtain ⟨rfl, y1, y2, y3⟩ := hp31
  show Ok _ _ _ [zi (nI 0)] _ _
  refine r_if_neN (q := 37) (t := 39) (by omega) dX4_readLaw_34 (by decide) rfl (fun h34 => absurd h34 (by omega)) (fun h34 => ?_)
  refine r_iconst (q := 38) (nI 0) dX4_readLaw_37 rfl (by decide) ?_
  refine r_zreturn (by decide) dX4_readLaw_38 rfl ?_
  exact ⟨rfl, (fr_tm hs w20 tSk_av s).tr (y1.mono fun _ _ _ z => Or.inl z), y2, y3⟩

set_option maxRecDepth 100000 in
theorem ok_readLaw_c {S : zS} (hs : Sd S) {ts : List zTk} (hr : Rc S ts) {s : Nat} (hs4 : s < 4) {W : zWd} (h : Wpk W ts) (hc : WC S s W) (hTL : TL S 12) (told : Bool) (hq : ¬ 18 ≤ wL W) {n : Nat} {acc : List zT} {ts' : List zTk} (sq : sumQ (wn W) (we W) (wA W) (wP W) 0 2 (adv ts) = Sum.inr ((n, acc), ts')) (hl : lf W (wL W) + (cl (adds (wP W) 1 [] acc)).length ≤ 200) : Ok mX4_readLaw 0 (ent 2 [zr 4 0, zr 9 s]) [] S (fun r S1 => LwR S S1 s told r (lawP told W ts)) := by
  obtain ⟨f5, f6, f7⟩ := hr.f
  obtain ⟨t1, t2, t3, t4⟩ := h.2.1.hd
  have hL18 := h.1.2.2.2.1
  have e : lawP told W ts = Sum.inr ((told, addW W n (cl (adds (wP W) 1 [] acc))), ts') := (if_neg hq).trans (by rw [sq]; rfl)
  rw [e]
  show Ok mX4_readLaw 0 [some (zr 4 0), some (zr 9 s)] [] S _
  refine r_aload_n (q := 1) dX4_readLaw_0 rfl rfl rfl ?_
  refine r_geti (q := 4) ck9 dX4_readLaw_1 rfl (k := 4) (by decide) wt314 (Or.inl rfl) (hs.e (show s < 4 by omega)) ?_
  refine r_topi (y := nI (wL W)) hc.2.2.1 ?_
  refine r_bipush (q := 6) (nI 18) dX4_readLaw_4 rfl (by decide) ?_
  refine r_icmp_ltN (q := 9) (t := 19) (by omega) (by omega) dX4_readLaw_6 (by decide) rfl (fun h6 => ?_) (fun h6 => absurd h6 (by omega))
  refine r_aload_n (q := 20) dX4_readLaw_19 rfl rfl rfl ?_
  refine r_callV (Mc := mX4_advance) (q := 23) (As := []) (st := []) ck4 dX4_readLaw_20 rfl rfl mkX4_advance wt529 wt531 wp4 rfl (Nat.le_of_ble_eq_true rfl) (Nat.le_of_ble_eq_true rfl) (by decide) (by decide) (by decide) (Or.inl rfl) (hs.e (by decide)) (ok_advance hs hr) (fun r20 S20 hp20 => ?_)
  obtain ⟨rfl, w20, x20⟩ := hp20
  have hW1 : WC S20 s W := hc.fr w20 (fun a k ha => by unfold tAv; simp; omega)
  have hT1 : TL S20 12 := hTL.cong (gN_22 w20.2.2) (gN_22 w20.2.2) (w20.1 _ _ _ rfl)
  show Ok _ _ _ [] _ _
  refine r_aload_n (q := 24) dX4_readLaw_23 rfl rfl rfl ?_
  refine r_aload_n (q := 25) dX4_readLaw_24 rfl rfl rfl ?_
  refine r_aload_n (q := 26) dX4_readLaw_25 rfl rfl rfl ?_
  refine r_getr (q := 29) (some (8, 12)) ck4 dX4_readLaw_26 rfl (k := 13) (by decide) wt134 rfl ((hs.fr w20).e (by decide)) ((hs.fr w20).r (by decide) (by decide)) ?_
  refine r_iconst (q := 30) (nI 0) dX4_readLaw_29 rfl (by decide) ?_
  refine r_iconst (q := 31) (nI 2) dX4_readLaw_30 rfl (by decide) ?_
  refine r_callV (Mc := mX4_readTerms) (q := 34) (As := [zr 9 s, zr 8 12, zi (nI 0), zi (nI 2)]) (st := []) ck4 dX4_readLaw_31 rfl rfl mkX4_readTerms wt582 wt584 wp11 rfl (Nat.le_of_ble_eq_true rfl) (Nat.le_of_ble_eq_true rfl) (by decide) (by decide) (by decide) (Or.inr ⟨Nat.le_of_ble_eq_true rfl, rfl, rfl⟩) ((hs.fr w20).e (by decide)) (ok_readTerms (nm := wn W) (e := we W) (wn0 := 0) (ls := 2) hs4 h.1.2.1 (fun a ha => (h.1.2.2.1.2.1 a ha).1) (wok_inj h.1) h.1.1.1 h.1.1.2.1 (show 12 < 19 by omega) (hs.fr w20) ⟨hW1.2.1, hW1.2.2.2.1⟩ hW1.1 x20 h.2.1.adv h.2.2.1.ad hT1 (by omega) (by omega)) (fun r31 S31 hp31 => ?_)
  rw [sq] at hp31
  obtain ⟨rfl, y1, y2, y3, y4⟩ := hp31
  show Ok _ _ _ [zi (nI 1)] _ _
  refine r_if_neN (q := 37) (t := 39) (by omega) dX4_readLaw_34 (by decide) rfl (fun h34 => ?_) (fun h34 => absurd h34 (by omega))
  have hW2 : WC S31 s W := hW1.fg y1 (fun a k ha => tTm_w ha)
  refine r_aload_n (q := 40) dX4_readLaw_39 rfl rfl rfl ?_
  refine r_aload_n (q := 41) dX4_readLaw_40 rfl rfl rfl ?_
  refine r_getr (q := 44) (some (8, 12)) ck4 dX4_readLaw_41 rfl (k := 13) (by decide) wt134 rfl (y1.sd.e (by decide)) (y1.sd.r (by decide) (by decide)) ?_
  refine r_callV (Mc := mX9_addLaw) (q := 47) (As := [zr 8 12]) (st := []) ck9 dX4_readLaw_44 rfl rfl mkX9_addLaw wt651 wt652 wt653 rfl (Nat.le_of_ble_eq_true rfl) (Nat.le_of_ble_eq_true rfl) (by decide) (by decide) (by decide) (Or.inl rfl) (y1.sd.e (show s < 4 by omega)) (ok_addLaw y1.sd hs4 hW2 (by omega) y4.1 y4.2.1 hl) (fun r44 S44 hp44 => ?_)
  obtain ⟨rfl, hq44⟩ := hp44
  rw [hq44]
  show Ok _ _ _ [] _ _
  refine r_iconst (q := 48) (nI 1) dX4_readLaw_47 rfl (by decide) ?_
  refine r_zreturn (by decide) dX4_readLaw_48 rfl ?_
  have g0 : Fg (tLw s) S31 (sI (sI (cpS (cpS (sI S31 1005 s (wL W) (nI n)) 902 12 1007 s 0 (lf W (wL W)) (cl (adds (wP W) 1 [] acc)).length) 903 12 1008 s 0 (lf W (wL W)) (cl (adds (wP W) 1 [] acc)).length) 9 s 4 (nI (wL W + 1))) 1006 s (wL W + 1) (nI (lf W (wL W) + (cl (adds (wP W) 1 [] acc)).length))) := Fg.of22 (S1 := sI (sI (cpS (cpS (sI S31 1005 s (wL W) (nI n)) 902 12 1007 s 0 (lf W (wL W)) (cl (adds (wP W) 1 [] acc)).length) 903 12 1008 s 0 (lf W (wL W)) (cl (adds (wP W) 1 [] acc)).length) 9 s 4 (nI (wL W + 1))) 1006 s (wL W + 1) (nI (lf W (wL W) + (cl (adds (wP W) 1 [] acc)).length))) y1.sd rfl (fun a b k _ hz => by rw [gI_sI, if_neg (fun z => hz (Or.inr ⟨z.2.1, by omega⟩)), gI_sI, if_neg (fun z => hz (Or.inr ⟨z.2.1, by omega⟩)), gI_cpS, if_neg (fun z => hz (Or.inr ⟨z.2, by omega⟩)), gI_cpS, if_neg (fun z => hz (Or.inr ⟨z.2, by omega⟩)), gI_sI, if_neg (fun z => hz (Or.inr ⟨z.2.1, by omega⟩))]) (fun _ _ _ _ _ => rfl)
  have hn : ∀ x y k, x = 4 ∨ x = 8 ∨ x = 500 ∨ x = 501 ∨ x = 902 ∨ x = 903 → gI (sI (sI (cpS (cpS (sI S31 1005 s (wL W) (nI n)) 902 12 1007 s 0 (lf W (wL W)) (cl (adds (wP W) 1 [] acc)).length) 903 12 1008 s 0 (lf W (wL W)) (cl (adds (wP W) 1 [] acc)).length) 9 s 4 (nI (wL W + 1))) 1006 s (wL W + 1) (nI (lf W (wL W) + (cl (adds (wP W) 1 [] acc)).length))) x y k = gI S31 x y k := fun x y k hx => by rw [gI_sI, if_neg (by omega), gI_sI, if_neg (by omega), gI_cpS, if_neg (by omega), gI_cpS, if_neg (by omega), gI_sI, if_neg (by omega)]
  exact ⟨rfl, ((fr_tm hs w20 tSk_av s).tr (y1.mono fun _ _ _ z => Or.inl z)).tr g0, (hn 4 0 14 (by omega)).trans (y2.trans (w20.1 _ _ _ rfl)), y3.cong (fun i => ⟨hn 500 0 i (by omega), hn 501 0 i (by omega), rfl⟩) (fun k _ => hn 4 0 k (by omega)) rfl, hW2.law h.1 y4.2.1, y4.2.1.tl.cong rfl rfl (hn 8 12 1 (by omega)), rfl⟩

theorem ok_readLaw {S : zS} (hs : Sd S) {ts : List zTk} (hr : Rc S ts) {s : Nat} (hs4 : s < 4) {W : zWd} (h : Wpk W ts) (hc : WC S s W) (hTL : TL S 12) (told : Bool) (hw : isWb ts 7102839 = true) : Ok mX4_readLaw 0 (ent 2 [zr 4 0, zr 9 s]) [] S (fun r S1 => LwR S S1 s told r (lawP told W ts)) := by
  by_cases hq : 18 ≤ wL W
  · exact ok_readLaw_a hs hr hs4 h hc hTL told hq
  cases sq : sumQ (wn W) (we W) (wA W) (wP W) 0 2 (adv ts) with
  | inl x => exact ok_readLaw_b hs hr hs4 h hc hTL told hq sq
  | inr x =>
    obtain ⟨⟨n, acc⟩, ts'⟩ := x
    refine ok_readLaw_c hs hr hs4 h hc hTL told hq sq ?_
    have e : lawP told W ts = Sum.inr ((told, addW W n (cl (adds (wP W) 1 [] acc))), ts') := (if_neg hq).trans (by rw [sq]; rfl)
    have := (lawP_ok h hw e).1.1.2.2.2.2.1
    rw [addW_L, addW_f1] at this
    exact this

