def tCt (s a b _k : Nat) : Bool := a == 1009 && b == s || a == 11010
def Cf (S : zS) (T : Nat → Nat) (s n : Nat) : Prop := ∀ i, 1 ≤ i → i < n → gJ S 1009 s i = lN (T i) ∧ ∀ o, 1 ≤ o → o ≤ 4 → gJ S 11010 (5 * s + o) i = lN (foL T o i)

set_option maxRecDepth 100000 in
theorem lp_c3 {Po : Option zV → zS → Prop} {T : Nat → Nat} {s n o : Nat} (hs4 : s < 4) (hn : 1 ≤ n) (hn10 : n ≤ 10) (ho2 : 2 ≤ o) (ho4 : o ≤ 4) {S : zS} (hs : Sd S) (hT : ∀ i, 1 ≤ i → i < n → gJ S 1009 s i = lN (T i)) (hF : ∀ i, 1 ≤ i → i < n → gJ S 11010 (5 * s + (o - 1)) i = lN (foL T (o - 1) i)) (K : Ok mX9_countTrees 56 [some (zr 9 s), some (zi (nI n)), some (zi (nI o)), some (zl (lN (foL T o n))), none, some (zi (nI n))] [] S Po) : ∀ (d j x : Nat), j + d = n - 1 → x = sm (fun j => T (j + 1) * foL T (o - 1) (n - (j + 1))) j → Ok mX9_countTrees 20 [some (zr 9 s), some (zi (nI n)), some (zi (nI o)), some (zl (lN x)), none, some (zi (nI (j + 1)))] [] S Po := by
  intro d
  induction d with
  | zero =>
    intro j x hj hx
    obtain rfl : j = n - 1 := by omega
    have hx2 : x = foL T o n := by
      obtain ⟨m, rfl⟩ : ∃ m, o = m + 2 := ⟨o - 2, by omega⟩
      rw [hx, foL]; rfl
    subst hx2
    rw [show n - 1 + 1 = n by omega]
    refine r_iload (q := 22) dX9_countTrees_20 rfl rfl ?_
    refine r_iload_n (q := 23) dX9_countTrees_22 rfl rfl rfl ?_
    refine r_icmp_geN (q := 26) (t := 56) (by omega) (by omega) dX9_countTrees_23 (by decide) rfl (fun h23 => ?_) (fun h23 => absurd h23 (by omega))
    exact K
  | succ d ih =>
    intro j x hj hx
    have r1 := hT (j + 1) (by omega) (by omega)
    have r2 := hF (n - (j + 1)) (by omega) (by omega)
    refine r_iload (q := 22) dX9_countTrees_20 rfl rfl ?_
    refine r_iload_n (q := 23) dX9_countTrees_22 rfl rfl rfl ?_
    refine r_icmp_geN (q := 26) (t := 56) (by omega) (by omega) dX9_countTrees_23 (by decide) rfl (fun h23 => absurd h23 (by omega)) (fun h23 => ?_)
    refine r_lload_n (q := 27) dX9_countTrees_26 rfl rfl rfl ?_
    refine r_aload_n (q := 28) dX9_countTrees_27 rfl rfl rfl ?_
    refine r_getr (q := 31) (some (1009, s)) ck9 dX9_countTrees_28 rfl (k := 9) (by decide) wt338 rfl (hs.e (show s < 4 by omega)) (hs.r (show s < 4 by omega) (by decide)) ?_
    refine r_iload (q := 33) dX9_countTrees_31 rfl rfl ?_
    refine r_laldN (q := 34) 11 (by decide) rfl dX9_countTrees_33 rfl (hs.e (show s < 4 by omega)) (hs.n rfl (show s < 4 by omega)) (by omega) (by decide) ?_
    refine r_topl (y := lN (T (j + 1))) r1 ?_
    refine r_aload_n (q := 35) dX9_countTrees_34 rfl rfl rfl ?_
    refine r_getr (q := 38) (some (1010, s)) ck9 dX9_countTrees_35 rfl (k := 10) (by decide) wt341 rfl (hs.e (show s < 4 by omega)) (hs.r (show s < 4 by omega) (by decide)) ?_
    refine r_iload_n (q := 39) dX9_countTrees_38 rfl rfl rfl ?_
    refine r_iconst (q := 40) (nI 1) dX9_countTrees_39 rfl (by decide) ?_
    refine r_isubN (q := 41) (by omega) dX9_countTrees_40 rfl ?_
    refine r_aaldN (q := 42) (some (11010, 5 * s + (o - 1))) 5 (by decide) (by decide) (by decide) dX9_countTrees_41 rfl (hs.e (show s < 4 by omega)) (hs.n rfl (show s < 4 by omega)) (show o - 1 < 5 by omega) (by decide) ((hs.r (show s < 4 by omega) (show o - 1 < 5 by omega)).trans (if_pos (show o - 1 < 5 by omega))) ?_
    refine r_iload_n (q := 43) dX9_countTrees_42 rfl rfl rfl ?_
    refine r_iload (q := 45) dX9_countTrees_43 rfl rfl ?_
    refine r_isubN (q := 46) (by omega) dX9_countTrees_45 rfl ?_
    refine r_laldN (q := 47) 11 (by decide) rfl dX9_countTrees_46 rfl (hs.e (show 5 * s + (o - 1) < 20 by omega)) (hs.n rfl (show 5 * s + (o - 1) < 20 by omega)) (by omega) (by decide) ?_
    refine r_topl (y := lN (foL T (o - 1) (n - (j + 1)))) r2 ?_
    refine r_lmul (q := 48) dX9_countTrees_47 rfl ?_
    refine r_topl (y := lN ((T (j + 1)) * (foL T (o - 1) (n - (j + 1))))) (lN_mul _ _) ?_
    refine r_ladd (q := 49) dX9_countTrees_48 rfl ?_
    refine r_topl (y := lN (x + ((T (j + 1)) * (foL T (o - 1) (n - (j + 1)))))) (lN_add _ _) ?_
    refine r_lstore_n (q := 50) (L' := [some (zr 9 s), some (zi (nI n)), some (zi (nI o)), some (zl (lN (x + ((T (j + 1)) * (foL T (o - 1) (n - (j + 1))))))), none, some (zi (nI (j + 1)))]) dX9_countTrees_49 rfl rfl (by decide) rfl ?_
    refine r_iincN (q := 53) (L' := [some (zr 9 s), some (zi (nI n)), some (zi (nI o)), some (zl (lN (x + ((T (j + 1)) * (foL T (o - 1) (n - (j + 1))))))), none, some (zi (nI (j + 1 + 1)))]) 1 rfl dX9_countTrees_50 rfl rfl (by decide) rfl ?_
    refine r_goto (q := 20) dX9_countTrees_53 (by decide) ?_
    exact ih (j + 1) _ (by omega) (by rw [hx, sm])

set_option maxRecDepth 100000 in
theorem lp_c4 {Po : Option zV → zS → Prop} {T : Nat → Nat} {W : zWd} {s n x0 : Nat} (hs4 : s < 4) (hE : Eok (wA W) (we W)) (hn : 1 ≤ n) (hn10 : n ≤ 10) {S : zS} (hs : Sd S) (hA : gI S 9 s 1 = nI (wA W)) (he : ∀ a, a < wA W → gI S 1003 s a = nI (we W a)) (hF : ∀ o, 2 ≤ o → o ≤ 4 → gJ S 11010 (5 * s + o) n = lN (foL T o n)) (K : Ok mX9_countTrees 117 [some (zr 9 s), some (zi (nI n)), some (zl (lN (x0 + sm (fun a => foL T (we W a) n) (wA W)))), none, some (zi (nI (wA W))), none] [] S Po) : ∀ (d a x : Nat), a + d = wA W → x = x0 + sm (fun a => foL T (we W a) n) a → Ok mX9_countTrees 85 [some (zr 9 s), some (zi (nI n)), some (zl (lN x)), none, some (zi (nI a)), none] [] S Po := by
  intro d
  have hA3 := hE.1
  induction d with
  | zero =>
    intro a x hd hx
    obtain rfl : a = wA W := by omega
    subst hx
    refine r_iload (q := 87) dX9_countTrees_85 rfl rfl ?_
    refine r_aload_n (q := 88) dX9_countTrees_87 rfl rfl rfl ?_
    refine r_geti (q := 91) ck9 dX9_countTrees_88 rfl (k := 1) (by decide) wt296 (Or.inl rfl) (hs.e (show s < 4 by omega)) ?_
    refine r_topi (y := nI (wA W)) hA ?_
    refine r_icmp_geN (q := 94) (t := 117) (by omega) (by omega) dX9_countTrees_91 (by decide) rfl (fun h91 => ?_) (fun h91 => absurd h91 (by omega))
    exact K
  | succ d ih =>
    intro a x hd hx
    have ha : a < wA W := by omega
    have hea := hE.2 a ha
    have r1 := he a ha
    have r2 := hF (we W a) hea.1 hea.2
    refine r_iload (q := 87) dX9_countTrees_85 rfl rfl ?_
    refine r_aload_n (q := 88) dX9_countTrees_87 rfl rfl rfl ?_
    refine r_geti (q := 91) ck9 dX9_countTrees_88 rfl (k := 1) (by decide) wt296 (Or.inl rfl) (hs.e (show s < 4 by omega)) ?_
    refine r_topi (y := nI (wA W)) hA ?_
    refine r_icmp_geN (q := 94) (t := 117) (by omega) (by omega) dX9_countTrees_91 (by decide) rfl (fun h91 => absurd h91 (by omega)) (fun h91 => ?_)
    refine r_lload_n (q := 95) dX9_countTrees_94 rfl rfl rfl ?_
    refine r_aload_n (q := 96) dX9_countTrees_95 rfl rfl rfl ?_
    refine r_getr (q := 99) (some (1010, s)) ck9 dX9_countTrees_96 rfl (k := 10) (by decide) wt341 rfl (hs.e (show s < 4 by omega)) (hs.r (show s < 4 by omega) (by decide)) ?_
    refine r_aload_n (q := 100) dX9_countTrees_99 rfl rfl rfl ?_
    refine r_getr (q := 103) (some (1003, s)) ck9 dX9_countTrees_100 rfl (k := 3) (by decide) wt304 rfl (hs.e (show s < 4 by omega)) (hs.r (show s < 4 by omega) (by decide)) ?_
    refine r_iload (q := 105) dX9_countTrees_103 rfl rfl ?_
    refine r_ialdN (q := 106) 3 (by decide) rfl dX9_countTrees_105 rfl (hs.e (show s < 4 by omega)) (hs.n rfl (show s < 4 by omega)) (by omega) (by decide) ?_
    refine r_topi (y := nI (we W a)) r1 ?_
    refine r_aaldN (q := 107) (some (11010, 5 * s + (we W a))) 5 (by decide) (by decide) (by decide) dX9_countTrees_106 rfl (hs.e (show s < 4 by omega)) (hs.n rfl (show s < 4 by omega)) (show we W a < 5 by omega) (by decide) ((hs.r (show s < 4 by omega) (show we W a < 5 by omega)).trans (if_pos (show we W a < 5 by omega))) ?_
    refine r_iload_n (q := 108) dX9_countTrees_107 rfl rfl rfl ?_
    refine r_laldN (q := 109) 11 (by decide) rfl dX9_countTrees_108 rfl (hs.e (show 5 * s + (we W a) < 20 by omega)) (hs.n rfl (show 5 * s + (we W a) < 20 by omega)) (by omega) (by decide) ?_
    refine r_topl (y := lN (foL T (we W a) n)) r2 ?_
    refine r_ladd (q := 110) dX9_countTrees_109 rfl ?_
    refine r_topl (y := lN (x + (foL T (we W a) n))) (lN_add _ _) ?_
    refine r_lstore_n (q := 111) (L' := [some (zr 9 s), some (zi (nI n)), some (zl (lN (x + (foL T (we W a) n)))), none, some (zi (nI a)), none]) dX9_countTrees_110 rfl rfl (by decide) rfl ?_
    refine r_iincN (q := 114) (L' := [some (zr 9 s), some (zi (nI n)), some (zl (lN (x + (foL T (we W a) n)))), none, some (zi (nI (a + 1))), none]) 1 rfl dX9_countTrees_111 rfl rfl (by decide) rfl ?_
    refine r_goto (q := 85) dX9_countTrees_114 (by decide) ?_
    exact ih (a + 1) _ (by omega) (by rw [hx, sm]; omega)

set_option maxRecDepth 100000 in
theorem lp_c1 {W : zWd} {s : Nat} (hs4 : s < 4) (hE : Eok (wA W) (we W)) : ∀ (d n : Nat) (S : zS), n + d = 11 → 1 ≤ n → Sd S → gI S 9 s 1 = nI (wA W) → (∀ a, a < wA W → gI S 1003 s a = nI (we W a)) → Cf S (tc W) s n → Ok mX9_countTrees 2 [some (zr 9 s), some (zi (nI n)), none, none, none, none] [] S (fun r S1 => r = none ∧ Fr (tCt s) S S1 ∧ Cf S1 (tc W) s 11) := by
  intro d
  induction d with
  | zero =>
    intro n S hd h1 hs hA he ht
    obtain rfl : n = 11 := by omega
    refine r_iload_n (q := 3) dX9_countTrees_2 rfl rfl rfl ?_
    refine r_bipush (q := 5) (nI 10) dX9_countTrees_3 rfl (by decide) ?_
    refine r_icmp_gtN (q := 8) (t := 139) (by omega) (by omega) dX9_countTrees_5 (by decide) rfl (fun h5 => ?_) (fun h5 => absurd h5 (by omega))
    refine r_return dX9_countTrees_139 rfl ?_
    exact ⟨rfl, Fr.rf, ht⟩
  | succ d ih =>
    intro n S hd h1 hs hA he ht
    refine r_iload_n (q := 3) dX9_countTrees_2 rfl rfl rfl ?_
    refine r_bipush (q := 5) (nI 10) dX9_countTrees_3 rfl (by decide) ?_
    refine r_icmp_gtN (q := 8) (t := 139) (by omega) (by omega) dX9_countTrees_5 (by decide) rfl (fun h5 => absurd h5 (by omega)) (fun h5 => ?_)
    refine r_iconst (q := 9) (nI 2) dX9_countTrees_8 rfl (by decide) ?_
    refine r_istore_n (q := 10) (L' := [some (zr 9 s), some (zi (nI n)), some (zi (nI 2)), none, none, none]) dX9_countTrees_9 rfl rfl (by decide) rfl ?_
    refine r_iload_n (q := 11) dX9_countTrees_10 rfl rfl rfl ?_
    refine r_iconst (q := 12) (nI 4) dX9_countTrees_11 rfl (by decide) ?_
    refine r_icmp_gtN (q := 15) (t := 71) (by omega) (by omega) dX9_countTrees_12 (by decide) rfl (fun h12 => absurd h12 (by omega)) (fun h12 => ?_)
    refine r_lconst (q := 16) (0 : Int64) dX9_countTrees_15 rfl rfl ?_
    refine r_topl (y := lN 0) rfl ?_
    refine r_lstore_n (q := 17) (L' := [some (zr 9 s), some (zi (nI n)), some (zi (nI 2)), some (zl (lN 0)), none, none]) dX9_countTrees_16 rfl rfl (by decide) rfl ?_
    refine r_iconst (q := 18) (nI 1) dX9_countTrees_17 rfl (by decide) ?_
    refine r_istore (q := 20) (L' := [some (zr 9 s), some (zi (nI n)), some (zi (nI 2)), some (zl (lN 0)), none, some (zi (nI 1))]) dX9_countTrees_18 rfl (by decide) rfl ?_
    refine lp_c3 (T := tc W) (S := S) (o := 2) hs4 h1 (by omega) (by omega) (by omega) hs (fun i a b => by (repeat rw [gJ_sJ, if_neg (by omega)]); exact (ht i a b).1) (fun i a b => by (repeat rw [gJ_sJ, if_neg (by omega)]); exact (ht i a b).2 1 (by omega) (by omega)) ?_ (n - 1) 0 0 (by omega) rfl
    refine r_aload_n (q := 57) dX9_countTrees_56 rfl rfl rfl ?_
    refine r_getr (q := 60) (some (1010, s)) ck9 dX9_countTrees_57 rfl (k := 10) (by decide) wt341 rfl (hs.e (show s < 4 by omega)) (hs.r (show s < 4 by omega) (by decide)) ?_
    refine r_iload_n (q := 61) dX9_countTrees_60 rfl rfl rfl ?_
    refine r_aaldN (q := 62) (some (11010, 5 * s + 2)) 5 (by decide) (by decide) (by decide) dX9_countTrees_61 rfl (hs.e (show s < 4 by omega)) (hs.n rfl (show s < 4 by omega)) (show 2 < 5 by omega) (by decide) ((hs.r (show s < 4 by omega) (show 2 < 5 by omega)).trans rfl) ?_
    refine r_iload_n (q := 63) dX9_countTrees_62 rfl rfl rfl ?_
    refine r_lload_n (q := 64) dX9_countTrees_63 rfl rfl rfl ?_
    refine r_lastN (q := 65) 11 (by decide) rfl dX9_countTrees_64 rfl (hs.e (show 5 * s + 2 < 20 by omega)) (hs.n rfl (show 5 * s + 2 < 20 by omega)) (by omega) (by decide) ?_
    refine r_iincN (q := 68) (L' := [some (zr 9 s), some (zi (nI n)), some (zi (nI 3)), some (zl (lN (foL (tc W) 2 n))), none, some (zi (nI n))]) 1 rfl dX9_countTrees_65 rfl rfl (by decide) rfl ?_
    refine r_goto (q := 10) dX9_countTrees_68 (by decide) ?_
    refine r_iload_n (q := 11) dX9_countTrees_10 rfl rfl rfl ?_
    refine r_iconst (q := 12) (nI 4) dX9_countTrees_11 rfl (by decide) ?_
    refine r_icmp_gtN (q := 15) (t := 71) (by omega) (by omega) dX9_countTrees_12 (by decide) rfl (fun h12 => absurd h12 (by omega)) (fun h12 => ?_)
    refine r_lconst (q := 16) (0 : Int64) dX9_countTrees_15 rfl rfl ?_
    refine r_topl (y := lN 0) rfl ?_
    refine r_lstore_n (q := 17) (L' := [some (zr 9 s), some (zi (nI n)), some (zi (nI 3)), some (zl (lN 0)), none, some (zi (nI n))]) dX9_countTrees_16 rfl rfl (by decide) rfl ?_
    refine r_iconst (q := 18) (nI 1) dX9_countTrees_17 rfl (by decide) ?_
    refine r_istore (q := 20) (L' := [some (zr 9 s), some (zi (nI n)), some (zi (nI 3)), some (zl (lN 0)), none, some (zi (nI 1))]) dX9_countTrees_18 rfl (by decide) rfl ?_
    refine lp_c3 (T := tc W) (S := sJ S 11010 (5 * s + 2) n (lN (foL (tc W) 2 n))) (o := 3) hs4 h1 (by omega) (by omega) (by omega) hs (fun i a b => by (repeat rw [gJ_sJ, if_neg (by omega)]); exact (ht i a b).1) (fun i a b => by (repeat rw [gJ_sJ, if_neg (by omega)]); exact (ht i a b).2 2 (by omega) (by omega)) ?_ (n - 1) 0 0 (by omega) rfl
    refine r_aload_n (q := 57) dX9_countTrees_56 rfl rfl rfl ?_
    refine r_getr (q := 60) (some (1010, s)) ck9 dX9_countTrees_57 rfl (k := 10) (by decide) wt341 rfl (hs.e (show s < 4 by omega)) (hs.r (show s < 4 by omega) (by decide)) ?_
    refine r_iload_n (q := 61) dX9_countTrees_60 rfl rfl rfl ?_
    refine r_aaldN (q := 62) (some (11010, 5 * s + 3)) 5 (by decide) (by decide) (by decide) dX9_countTrees_61 rfl (hs.e (show s < 4 by omega)) (hs.n rfl (show s < 4 by omega)) (show 3 < 5 by omega) (by decide) ((hs.r (show s < 4 by omega) (show 3 < 5 by omega)).trans rfl) ?_
    refine r_iload_n (q := 63) dX9_countTrees_62 rfl rfl rfl ?_
    refine r_lload_n (q := 64) dX9_countTrees_63 rfl rfl rfl ?_
    refine r_lastN (q := 65) 11 (by decide) rfl dX9_countTrees_64 rfl (hs.e (show 5 * s + 3 < 20 by omega)) (hs.n rfl (show 5 * s + 3 < 20 by omega)) (by omega) (by decide) ?_
    refine r_iincN (q := 68) (L' := [some (zr 9 s), some (zi (nI n)), some (zi (nI 4)), some (zl (lN (foL (tc W) 3 n))), none, some (zi (nI n))]) 1 rfl dX9_countTrees_65 rfl rfl (by decide) rfl ?_
    refine r_goto (q := 10) dX9_countTrees_68 (by decide) ?_
    refine r_iload_n (q := 11) dX9_countTrees_10 rfl rfl rfl ?_
    refine r_iconst (q := 12) (nI 4) dX9_countTrees_11 rfl (by decide) ?_
    refine r_icmp_gtN (q := 15) (t := 71) (by omega) (by omega) dX9_countTrees_12 (by decide) rfl (fun h12 => absurd h12 (by omega)) (fun h12 => ?_)
    refine r_lconst (q := 16) (0 : Int64) dX9_countTrees_15 rfl rfl ?_
    refine r_topl (y := lN 0) rfl ?_
    refine r_lstore_n (q := 17) (L' := [some (zr 9 s), some (zi (nI n)), some (zi (nI 4)), some (zl (lN 0)), none, some (zi (nI n))]) dX9_countTrees_16 rfl rfl (by decide) rfl ?_
    refine r_iconst (q := 18) (nI 1) dX9_countTrees_17 rfl (by decide) ?_
    refine r_istore (q := 20) (L' := [some (zr 9 s), some (zi (nI n)), some (zi (nI 4)), some (zl (lN 0)), none, some (zi (nI 1))]) dX9_countTrees_18 rfl (by decide) rfl ?_
    refine lp_c3 (T := tc W) (S := sJ (sJ S 11010 (5 * s + 2) n (lN (foL (tc W) 2 n))) 11010 (5 * s + 3) n (lN (foL (tc W) 3 n))) (o := 4) hs4 h1 (by omega) (by omega) (by omega) hs (fun i a b => by (repeat rw [gJ_sJ, if_neg (by omega)]); exact (ht i a b).1) (fun i a b => by (repeat rw [gJ_sJ, if_neg (by omega)]); exact (ht i a b).2 3 (by omega) (by omega)) ?_ (n - 1) 0 0 (by omega) rfl
    refine r_aload_n (q := 57) dX9_countTrees_56 rfl rfl rfl ?_
    refine r_getr (q := 60) (some (1010, s)) ck9 dX9_countTrees_57 rfl (k := 10) (by decide) wt341 rfl (hs.e (show s < 4 by omega)) (hs.r (show s < 4 by omega) (by decide)) ?_
    refine r_iload_n (q := 61) dX9_countTrees_60 rfl rfl rfl ?_
    refine r_aaldN (q := 62) (some (11010, 5 * s + 4)) 5 (by decide) (by decide) (by decide) dX9_countTrees_61 rfl (hs.e (show s < 4 by omega)) (hs.n rfl (show s < 4 by omega)) (show 4 < 5 by omega) (by decide) ((hs.r (show s < 4 by omega) (show 4 < 5 by omega)).trans rfl) ?_
    refine r_iload_n (q := 63) dX9_countTrees_62 rfl rfl rfl ?_
    refine r_lload_n (q := 64) dX9_countTrees_63 rfl rfl rfl ?_
    refine r_lastN (q := 65) 11 (by decide) rfl dX9_countTrees_64 rfl (hs.e (show 5 * s + 4 < 20 by omega)) (hs.n rfl (show 5 * s + 4 < 20 by omega)) (by omega) (by decide) ?_
    refine r_iincN (q := 68) (L' := [some (zr 9 s), some (zi (nI n)), some (zi (nI 5)), some (zl (lN (foL (tc W) 4 n))), none, some (zi (nI n))]) 1 rfl dX9_countTrees_65 rfl rfl (by decide) rfl ?_
    refine r_goto (q := 10) dX9_countTrees_68 (by decide) ?_
    refine r_iload_n (q := 11) dX9_countTrees_10 rfl rfl rfl ?_
    refine r_iconst (q := 12) (nI 4) dX9_countTrees_11 rfl (by decide) ?_
    refine r_icmp_gtN (q := 15) (t := 71) (by omega) (by omega) dX9_countTrees_12 (by decide) rfl (fun h12 => ?_) (fun h12 => absurd h12 (by omega))
    refine r_iload_n (q := 72) dX9_countTrees_71 rfl rfl rfl ?_
    refine r_iconst (q := 73) (nI 1) dX9_countTrees_72 rfl (by decide) ?_
    refine r_icmp_neN (q := 76) (t := 80) (by omega) (by omega) dX9_countTrees_73 (by decide) rfl (fun h73 => ?_) (fun h73 => ?_)
    · skip
      refine r_lconst (q := 81) (0 : Int64) dX9_countTrees_80 rfl rfl ?_
      refine r_topl (y := lN 0) rfl ?_
      refine r_lstore_n (q := 82) (L' := [some (zr 9 s), some (zi (nI n)), some (zl (lN 0)), none, none, some (zi (nI n))]) dX9_countTrees_81 rfl rfl (by decide) rfl ?_
      refine r_mask [true, true, true, true, true, false] rfl ?_
      refine r_iconst (q := 83) (nI 0) dX9_countTrees_82 rfl (by decide) ?_
      refine r_istore (q := 85) (L' := [some (zr 9 s), some (zi (nI n)), some (zl (lN 0)), none, some (zi (nI 0)), none]) dX9_countTrees_83 rfl (by decide) rfl ?_
      refine lp_c4 (T := tc W) (W := W) (x0 := 0) (S := sJ (sJ (sJ S 11010 (5 * s + 2) n (lN (foL (tc W) 2 n))) 11010 (5 * s + 3) n (lN (foL (tc W) 3 n))) 11010 (5 * s + 4) n (lN (foL (tc W) 4 n))) hs4 hE h1 (by omega) hs hA he (fun o o1 o2 => ?_) ?_ (wA W) 0 0 (by omega) rfl
      · rcases (show o = 2 ∨ o = 3 ∨ o = 4 by omega) with rfl | rfl | rfl <;> repeat (first | rw [gJ_sJ, if_neg (by omega)] | rw [gJ_sJ, if_pos ⟨rfl, rfl, rfl⟩])
      refine r_aload_n (q := 118) dX9_countTrees_117 rfl rfl rfl ?_
      refine r_getr (q := 121) (some (1009, s)) ck9 dX9_countTrees_118 rfl (k := 9) (by decide) wt338 rfl (hs.e (show s < 4 by omega)) (hs.r (show s < 4 by omega) (by decide)) ?_
      refine r_iload_n (q := 122) dX9_countTrees_121 rfl rfl rfl ?_
      refine r_lload_n (q := 123) dX9_countTrees_122 rfl rfl rfl ?_
      refine r_lastN (q := 124) 11 (by decide) rfl dX9_countTrees_123 rfl (hs.e (show s < 4 by omega)) (hs.n rfl (show s < 4 by omega)) (by omega) (by decide) ?_
      refine r_aload_n (q := 125) dX9_countTrees_124 rfl rfl rfl ?_
      refine r_getr (q := 128) (some (1010, s)) ck9 dX9_countTrees_125 rfl (k := 10) (by decide) wt341 rfl (hs.e (show s < 4 by omega)) (hs.r (show s < 4 by omega) (by decide)) ?_
      refine r_iconst (q := 129) (nI 1) dX9_countTrees_128 rfl (by decide) ?_
      refine r_aaldN (q := 130) (some (11010, 5 * s + 1)) 5 (by decide) (by decide) (by decide) dX9_countTrees_129 rfl (hs.e (show s < 4 by omega)) (hs.n rfl (show s < 4 by omega)) (show 1 < 5 by omega) (by decide) ((hs.r (show s < 4 by omega) (show 1 < 5 by omega)).trans rfl) ?_
      refine r_iload_n (q := 131) dX9_countTrees_130 rfl rfl rfl ?_
      refine r_lload_n (q := 132) dX9_countTrees_131 rfl rfl rfl ?_
      refine r_lastN (q := 133) 11 (by decide) rfl dX9_countTrees_132 rfl (hs.e (show 5 * s + 1 < 20 by omega)) (hs.n rfl (show 5 * s + 1 < 20 by omega)) (by omega) (by decide) ?_
      refine r_iincN (q := 136) (L' := [some (zr 9 s), some (zi (nI (n + 1))), some (zl (lN (0 + sm (fun a => foL (tc W) (we W a) n) (wA W)))), none, some (zi (nI (wA W))), none]) 1 rfl dX9_countTrees_133 rfl rfl (by decide) rfl ?_
      refine r_goto (q := 2) dX9_countTrees_136 (by decide) ?_
      refine r_mask [true, true, false, false, false, false] rfl ?_
      have hf : Fr (tCt s) S (sJ (sJ (sJ (sJ (sJ S 11010 (5 * s + 2) n (lN (foL (tc W) 2 n))) 11010 (5 * s + 3) n (lN (foL (tc W) 3 n))) 11010 (5 * s + 4) n (lN (foL (tc W) 4 n))) 1009 s n (lN (0 + sm (fun a => foL (tc W) (we W a) n) (wA W)))) 11010 (5 * s + 1) n (lN (0 + sm (fun a => foL (tc W) (we W a) n) (wA W)))) := (((((Fr.rf.j (by simp [tCt])).j (by simp [tCt])).j (by simp [tCt])).j (by simp [tCt])).j (by simp [tCt]))
      refine Ok.mono (ih (n + 1) _ (by omega) (by omega) hs hA he (fun i a b => ?_)) (fun _ _ z => ⟨z.1, hf.tr z.2.1, z.2.2⟩)
      by_cases h : i = n
      · subst h
        have htc : tc W i = 0 + sm (fun a => foL (tc W) (we W a) i) (wA W) := by
          obtain ⟨m, rfl⟩ : ∃ m, i = m + 1 := ⟨i - 1, by omega⟩
          rw [tc_succ hE, if_neg (by omega)]
        refine ⟨by rw [gJ_sJ, if_neg (by omega), gJ_sJ, if_pos ⟨rfl, rfl, rfl⟩, htc], fun o o1 o2 => ?_⟩
        rcases (show o = 1 ∨ o = 2 ∨ o = 3 ∨ o = 4 by omega) with rfl | rfl | rfl | rfl
        · rw [gJ_sJ, if_pos ⟨rfl, rfl, rfl⟩, foL, htc]
        · repeat (first | rw [gJ_sJ, if_neg (by omega)] | rw [gJ_sJ, if_pos ⟨rfl, rfl, rfl⟩])
        · repeat (first | rw [gJ_sJ, if_neg (by omega)] | rw [gJ_sJ, if_pos ⟨rfl, rfl, rfl⟩])
        · repeat (first | rw [gJ_sJ, if_neg (by omega)] | rw [gJ_sJ, if_pos ⟨rfl, rfl, rfl⟩])
      · obtain ⟨q1, q2⟩ := ht i a (by omega)
        refine ⟨by (repeat rw [gJ_sJ, if_neg (by omega)]); exact q1, fun o o1 o2 => by (repeat rw [gJ_sJ, if_neg (by omega)]); exact q2 o o1 o2⟩
    · skip
      refine r_lconst (q := 77) (1 : Int64) dX9_countTrees_76 rfl rfl ?_
      refine r_topl (y := lN 1) rfl ?_
      refine r_goto (q := 81) dX9_countTrees_77 (by decide) ?_
      refine r_lstore_n (q := 82) (L' := [some (zr 9 s), some (zi (nI n)), some (zl (lN 1)), none, none, some (zi (nI n))]) dX9_countTrees_81 rfl rfl (by decide) rfl ?_
      refine r_mask [true, true, true, true, true, false] rfl ?_
      refine r_iconst (q := 83) (nI 0) dX9_countTrees_82 rfl (by decide) ?_
      refine r_istore (q := 85) (L' := [some (zr 9 s), some (zi (nI n)), some (zl (lN 1)), none, some (zi (nI 0)), none]) dX9_countTrees_83 rfl (by decide) rfl ?_
      refine lp_c4 (T := tc W) (W := W) (x0 := 1) (S := sJ (sJ (sJ S 11010 (5 * s + 2) n (lN (foL (tc W) 2 n))) 11010 (5 * s + 3) n (lN (foL (tc W) 3 n))) 11010 (5 * s + 4) n (lN (foL (tc W) 4 n))) hs4 hE h1 (by omega) hs hA he (fun o o1 o2 => ?_) ?_ (wA W) 0 1 (by omega) rfl
      · rcases (show o = 2 ∨ o = 3 ∨ o = 4 by omega) with rfl | rfl | rfl <;> repeat (first | rw [gJ_sJ, if_neg (by omega)] | rw [gJ_sJ, if_pos ⟨rfl, rfl, rfl⟩])
      refine r_aload_n (q := 118) dX9_countTrees_117 rfl rfl rfl ?_
      refine r_getr (q := 121) (some (1009, s)) ck9 dX9_countTrees_118 rfl (k := 9) (by decide) wt338 rfl (hs.e (show s < 4 by omega)) (hs.r (show s < 4 by omega) (by decide)) ?_
      refine r_iload_n (q := 122) dX9_countTrees_121 rfl rfl rfl ?_
      refine r_lload_n (q := 123) dX9_countTrees_122 rfl rfl rfl ?_
      refine r_lastN (q := 124) 11 (by decide) rfl dX9_countTrees_123 rfl (hs.e (show s < 4 by omega)) (hs.n rfl (show s < 4 by omega)) (by omega) (by decide) ?_
      refine r_aload_n (q := 125) dX9_countTrees_124 rfl rfl rfl ?_
      refine r_getr (q := 128) (some (1010, s)) ck9 dX9_countTrees_125 rfl (k := 10) (by decide) wt341 rfl (hs.e (show s < 4 by omega)) (hs.r (show s < 4 by omega) (by decide)) ?_
      refine r_iconst (q := 129) (nI 1) dX9_countTrees_128 rfl (by decide) ?_
      refine r_aaldN (q := 130) (some (11010, 5 * s + 1)) 5 (by decide) (by decide) (by decide) dX9_countTrees_129 rfl (hs.e (show s < 4 by omega)) (hs.n rfl (show s < 4 by omega)) (show 1 < 5 by omega) (by decide) ((hs.r (show s < 4 by omega) (show 1 < 5 by omega)).trans rfl) ?_
      refine r_iload_n (q := 131) dX9_countTrees_130 rfl rfl rfl ?_
      refine r_lload_n (q := 132) dX9_countTrees_131 rfl rfl rfl ?_
      refine r_lastN (q := 133) 11 (by decide) rfl dX9_countTrees_132 rfl (hs.e (show 5 * s + 1 < 20 by omega)) (hs.n rfl (show 5 * s + 1 < 20 by omega)) (by omega) (by decide) ?_
      refine r_iincN (q := 136) (L' := [some (zr 9 s), some (zi (nI (n + 1))), some (zl (lN (1 + sm (fun a => foL (tc W) (we W a) n) (wA W)))), none, some (zi (nI (wA W))), none]) 1 rfl dX9_countTrees_133 rfl rfl (by decide) rfl ?_
      refine r_goto (q := 2) dX9_countTrees_136 (by decide) ?_
      refine r_mask [true, true, false, false, false, false] rfl ?_
      have hf : Fr (tCt s) S (sJ (sJ (sJ (sJ (sJ S 11010 (5 * s + 2) n (lN (foL (tc W) 2 n))) 11010 (5 * s + 3) n (lN (foL (tc W) 3 n))) 11010 (5 * s + 4) n (lN (foL (tc W) 4 n))) 1009 s n (lN (1 + sm (fun a => foL (tc W) (we W a) n) (wA W)))) 11010 (5 * s + 1) n (lN (1 + sm (fun a => foL (tc W) (we W a) n) (wA W)))) := (((((Fr.rf.j (by simp [tCt])).j (by simp [tCt])).j (by simp [tCt])).j (by simp [tCt])).j (by simp [tCt]))
      refine Ok.mono (ih (n + 1) _ (by omega) (by omega) hs hA he (fun i a b => ?_)) (fun _ _ z => ⟨z.1, hf.tr z.2.1, z.2.2⟩)
      by_cases h : i = n
      · subst h
        have htc : tc W i = 1 + sm (fun a => foL (tc W) (we W a) i) (wA W) := by
          obtain ⟨m, rfl⟩ : ∃ m, i = m + 1 := ⟨i - 1, by omega⟩
          rw [tc_succ hE, if_pos (by omega)]
        refine ⟨by rw [gJ_sJ, if_neg (by omega), gJ_sJ, if_pos ⟨rfl, rfl, rfl⟩, htc], fun o o1 o2 => ?_⟩
        rcases (show o = 1 ∨ o = 2 ∨ o = 3 ∨ o = 4 by omega) with rfl | rfl | rfl | rfl
        · rw [gJ_sJ, if_pos ⟨rfl, rfl, rfl⟩, foL, htc]
        · repeat (first | rw [gJ_sJ, if_neg (by omega)] | rw [gJ_sJ, if_pos ⟨rfl, rfl, rfl⟩])
        · repeat (first | rw [gJ_sJ, if_neg (by omega)] | rw [gJ_sJ, if_pos ⟨rfl, rfl, rfl⟩])
        · repeat (first | rw [gJ_sJ, if_neg (by omega)] | rw [gJ_sJ, if_pos ⟨rfl, rfl, rfl⟩])
      · obtain ⟨q1, q2⟩ := ht i a (by omega)
        refine ⟨by (repeat rw [gJ_sJ, if_neg (by omega)]); exact q1, fun o o1 o2 => by (repeat rw [gJ_sJ, if_neg (by omega)]); exact q2 o o1 o2⟩

set_option maxRecDepth 100000 in
theorem ok_X9_countTrees {S : zS} (hs : Sd S) {W : zWd} {s : Nat} (hs4 : s < 4) (hE : Eok (wA W) (we W)) (hA : gI S 9 s 1 = nI (wA W)) (he : ∀ a, a < wA W → gI S 1003 s a = nI (we W a)) : Ok mX9_countTrees 0 (ent 6 [zr 9 s]) [] S (fun r S1 => r = none ∧ Fr (tCt s) S S1 ∧ Cf S1 (tc W) s 11) := by
  show Ok mX9_countTrees 0 [some (zr 9 s), none, none, none, none, none] [] S _
  refine r_iconst (q := 1) (nI 1) dX9_countTrees_0 rfl (by decide) ?_
  refine r_istore_n (q := 2) (L' := [some (zr 9 s), some (zi (nI 1)), none, none, none, none]) dX9_countTrees_1 rfl rfl (by decide) rfl ?_
  exact lp_c1 hs4 hE 10 1 S (by omega) (by omega) hs hA he (fun i a b => absurd a (by omega))

set_option maxRecDepth 100000 in
theorem ok_X11_trees_in {S : zS} (hs : Sd S) {W : zWd} {cc : Nat} (hcc : gI S 11 0 3 = nI cc) (hc4 : cc < 4) (hw : WR wq S W cc 1306 0 1308 0) {m : Nat} (h1 : 1 ≤ m) (h10 : m ≤ 10) : Ok mX11_trees 0 (ent 2 [zr 11 0, zi (nI m)]) [] S (fun r S1 => r = some (zl (lN (tc W m))) ∧ S1 = S) := by
  obtain ⟨hW, hC, hR⟩ := hw.c
  show Ok mX11_trees 0 [some (zr 11 0), some (zi (nI m))] [] S _
  refine r_iload_n (q := 1) dX11_trees_0 rfl rfl rfl ?_
  refine r_iconst (q := 2) (nI 1) dX11_trees_1 rfl (by decide) ?_
  refine r_icmp_ltN (q := 5) (t := 11) (by omega) (by omega) dX11_trees_2 (by decide) rfl (fun h2 => absurd h2 (by omega)) (fun h2 => ?_)
  refine r_iload_n (q := 6) dX11_trees_5 rfl rfl rfl ?_
  refine r_bipush (q := 8) (nI 10) dX11_trees_6 rfl (by decide) ?_
  refine r_icmp_leN (q := 11) (t := 17) (by omega) (by omega) dX11_trees_8 (by decide) rfl (fun h8 => ?_) (fun h8 => absurd h8 (by omega))
  refine r_aload_n (q := 18) dX11_trees_17 rfl rfl rfl ?_
  refine r_callV (Mc := mX11_worldHere) (q := 21) (As := []) (st := []) ck11 dX11_trees_18 rfl rfl mkX11_worldHere wt678 wt680 wp20 rfl (Nat.le_of_ble_eq_true rfl) (Nat.le_of_ble_eq_true rfl) (by decide) (by decide) (by decide) (Or.inl rfl) (hs.e (by decide)) (ok_X11_worldHere hs hcc hc4) (fun r18 S18 hp18 => ?_)
  obtain ⟨rfl, hq18⟩ := hp18
  rw [hq18]
  show Ok _ _ _ [zr 9 cc] _ _
  refine r_getr (q := 24) (some (1009, cc)) ck9 dX11_trees_21 rfl (k := 9) (by decide) wt340 rfl (hs.e (show cc < 4 by omega)) (hs.r (show cc < 4 by omega) (by decide)) ?_
  refine r_iload_n (q := 25) dX11_trees_24 rfl rfl rfl ?_
  refine r_laldN (q := 26) 11 (by decide) rfl dX11_trees_25 rfl (hs.e (show cc < 4 by omega)) (hs.n rfl (show cc < 4 by omega)) (by omega) (by decide) ?_
  refine r_topl (y := lN (tc W m)) (hC.2.2.2.2.2.2.2 m h1 h10) ?_
  refine r_lreturn dX11_trees_26 rfl ?_
  exact ⟨rfl, rfl⟩

set_option maxRecDepth 100000 in
theorem ok_X11_trees_out {S : zS} {a : Int32} (ha : ¬ (nI 1 ≤ a ∧ a ≤ nI 10)) : Ok mX11_trees 0 (ent 2 [zr 11 0, zi a]) [] S (fun r S1 => r = some (zl (-1)) ∧ S1 = S) := by
  show Ok mX11_trees 0 [some (zr 11 0), some (zi a)] [] S _
  refine r_iload_n (q := 1) dX11_trees_0 rfl rfl rfl ?_
  refine r_iconst (q := 2) (nI 1) dX11_trees_1 rfl (by decide) ?_
  refine r_icmp_lt (q := 5) (t := 11) dX11_trees_2 (by decide) rfl (fun h2 => ?_) (fun h2 => ?_)
  · skip
    refine r_ldc2 (q := 14) (-1 : Int64) dX11_trees_11 rfl wt716 ?_
    refine r_goto (q := 26) dX11_trees_14 (by decide) ?_
    refine r_lreturn dX11_trees_26 rfl ?_
    exact ⟨rfl, rfl⟩
  · skip
    refine r_iload_n (q := 6) dX11_trees_5 rfl rfl rfl ?_
    refine r_bipush (q := 8) (nI 10) dX11_trees_6 rfl (by decide) ?_
    refine r_icmp_le (q := 11) (t := 17) dX11_trees_8 (by decide) rfl (fun h8 => ?_) (fun h8 => ?_)
    · skip
      exact absurd ⟨Int32.not_lt.mp h2, h8⟩ ha
    · skip
      refine r_ldc2 (q := 14) (-1 : Int64) dX11_trees_11 rfl wt716 ?_
      refine r_goto (q := 26) dX11_trees_14 (by decide) ?_
      refine r_lreturn dX11_trees_26 rfl ?_
      exact ⟨rfl, rfl⟩

set_option maxRecDepth 100000 in
theorem ok_X12_trees_out {S : zS} (hs : Sd S) {a : Int32} (ha : ¬ (nI 1 ≤ a ∧ a ≤ nI 10)) : Ok mX12_trees 0 (ent 2 [zr 12 0, zi a]) [] S (fun r S1 => r = some (zl (-1)) ∧ S1 = sI S 12 0 0 (nI 0)) := by
  show Ok mX12_trees 0 [some (zr 12 0), some (zi a)] [] S _
  refine r_aload_n (q := 1) dX12_trees_0 rfl rfl rfl ?_
  refine r_iconst (q := 2) (nI 0) dX12_trees_1 rfl (by decide) ?_
  refine r_puti (q := 5) ck12 dX12_trees_2 rfl (k := 0) (by decide) wt1278 (Or.inl rfl) rfl (hs.e (by decide)) ?_
  refine r_iload_n (q := 6) dX12_trees_5 rfl rfl rfl ?_
  refine r_iconst (q := 7) (nI 1) dX12_trees_6 rfl (by decide) ?_
  refine r_bipush (q := 9) (nI 10) dX12_trees_7 rfl (by decide) ?_
  refine r_callS (Mc := mX12_isIn) (q := 12) (As := [zi a, zi (nI 1), zi (nI 10)]) (st := []) dX12_trees_9 rfl rfl mkX12_isIn wt1614 wt1615 rfl (Nat.le_of_ble_eq_true rfl) (Nat.le_of_ble_eq_true rfl) (by decide) (by decide) (by decide) (Or.inl rfl) hs.some (ok_X12_isIn_out (S := sI S 12 0 0 (nI 0)) ha) (fun r9 S9 hp9 => ?_)
  obtain ⟨rfl, hq9⟩ := hp9
  rw [hq9]
  show Ok _ _ _ [zi (nI 0)] _ _
  refine r_if_neN (q := 15) (t := 19) (by omega) dX12_trees_12 (by decide) rfl (fun h12 => absurd h12 (by omega)) (fun h12 => ?_)
  refine r_ldc2 (q := 18) (-1 : Int64) dX12_trees_15 rfl wt1685 ?_
  refine r_lreturn dX12_trees_18 rfl ?_
  exact ⟨rfl, rfl⟩

def tRt (a b k : Nat) : Prop := tRef a b k ∨ (a = 1334 ∨ a = 1335) ∧ b = 0
theorem OwS.to {S T T1 : zS} (h : OwS (sI S 12 0 0 (nI 0)) T) (f : Fr tTo T T1) : OwS S T1 := by
  have e1 : gI T1 12 0 33 = gI T 12 0 33 := f.1 _ _ _ rfl
  have e2 : ∀ k, gI T1 1322 0 k = gI T 1322 0 k := fun k => f.1 _ _ _ rfl
  have e3 : gI T1 1323 0 0 = gI T 1323 0 0 := f.1 _ _ _ rfl
  rcases h with ⟨h1, h2, h3, h4⟩ | ⟨h1, h2, h3, h4⟩
  · exact Or.inl ⟨h1, e1.trans h2, fun k hk => (e2 k).trans (h3 k hk), e3.trans h4⟩
  · exact Or.inr ⟨h1, e1.trans h2, e3.trans h3, fun k hk => (e2 k).trans (h4 k hk)⟩
def PgJ (M1 : mD) (n1 : Nat) (A1 : List zV) (M2 : mD) (n2 : Nat) (A2 : List zV) (S : zS) (Q : zS → Prop) : Prop := Ok M1 0 (ent n1 A1) [] S (fun r S1 => ∃ v : Int64, r = some (zl v) ∧ Sd S1 ∧ Ok M2 0 (ent n2 A2) [] S1 (fun r2 S2 => r2 = some (zl v) ∧ Q S2))

set_option maxRecDepth 100000 in
theorem ok_X12_trees_in {S : zS} (hs : Sd S) {W : zWd} (hW : Wok W) (hR : wqR W (fun k => gI S 1306 0 k) (fun i => gJ S 1308 0 i)) (hO : Cw S) {m : Nat} (h1 : 1 ≤ m) (h10 : m ≤ 10) : Ok mX12_trees 0 (ent 2 [zr 12 0, zi (nI m)]) [] S (fun r S1 => r = some (zl (lN (tc W m))) ∧ Fg tRt S S1 ∧ OwS S S1) := by
  show Ok mX12_trees 0 [some (zr 12 0), some (zi (nI m))] [] S _
  refine r_aload_n (q := 1) dX12_trees_0 rfl rfl rfl ?_
  refine r_iconst (q := 2) (nI 0) dX12_trees_1 rfl (by decide) ?_
  refine r_puti (q := 5) ck12 dX12_trees_2 rfl (k := 0) (by decide) wt1278 (Or.inl rfl) rfl (hs.e (by decide)) ?_
  refine r_iload_n (q := 6) dX12_trees_5 rfl rfl rfl ?_
  refine r_iconst (q := 7) (nI 1) dX12_trees_6 rfl (by decide) ?_
  refine r_bipush (q := 9) (nI 10) dX12_trees_7 rfl (by decide) ?_
  refine r_callS (Mc := mX12_isIn) (q := 12) (As := [zi (nI m), zi (nI 1), zi (nI 10)]) (st := []) dX12_trees_9 rfl rfl mkX12_isIn wt1614 wt1615 rfl (Nat.le_of_ble_eq_true rfl) (Nat.le_of_ble_eq_true rfl) (by decide) (by decide) (by decide) (Or.inl rfl) hs.some (ok_X12_isIn_in (S := sI S 12 0 0 (nI 0)) h1 h10 (by omega)) (fun r9 S9 hp9 => ?_)
  obtain ⟨rfl, hq9⟩ := hp9
  rw [hq9]
  show Ok _ _ _ [zi (nI 1)] _ _
  refine r_if_neN (q := 15) (t := 19) (by omega) dX12_trees_12 (by decide) rfl (fun h12 => ?_) (fun h12 => absurd h12 (by omega))
  refine r_aload_n (q := 20) dX12_trees_19 rfl rfl rfl ?_
  refine r_callV (Mc := mX12_ownWorld) (q := 23) (As := []) (st := []) ck12 dX12_trees_20 rfl rfl mkX12_ownWorld wt1686 wt1688 wp90 rfl (Nat.le_of_ble_eq_true rfl) (Nat.le_of_ble_eq_true rfl) (by decide) (by decide) (by decide) (Or.inl rfl) (hs.e (by decide)) (ok_X12_ownWorld (S := sI S 12 0 0 (nI 0)) hs (fun z k hk h3 => hO z k hk h3)) (fun r20 S20 hp20 => ?_)
  obtain ⟨rfl, o1, o2, o3⟩ := hp20
  have g0 : Fg tRt S S20 := (Fg.of22 (S1 := sI S 12 0 0 (nI 0)) hs rfl (fun a b k _ hz => by rw [gI_sI, if_neg (fun z => hz (Or.inl (by unfold tRef; omega)))]) (fun _ _ _ _ _ => rfl)).tr (o1.fg hs (fun a b k z => Or.inl (tOw_ref a b k z)))
  have g1 : ∀ k, gI S20 1306 0 k = gI S 1306 0 k := fun k => g0.I (by omega) (by unfold tRt tRef; omega)
  have gw : Tw S20 W 0 := ⟨by rw [o3 _ (by omega) (by omega), g1]; exact hR.2.1, fun a ha => by rw [o3 _ (by have := hW.2.1.1; omega) (by omega), g1]; have := (hR.2.2.2.1 a ha).1; simpa using this⟩
  show Ok _ _ _ [] _ _
  refine r_aload_n (q := 24) dX12_trees_23 rfl rfl rfl ?_
  refine r_iconst (q := 25) (nI 0) dX12_trees_24 rfl (by decide) ?_
  refine r_callV (Mc := mX12_totals) (q := 28) (As := [zi (nI 0)]) (st := []) ck12 dX12_trees_25 rfl rfl mkX12_totals wt1690 wt1692 wp91 rfl (Nat.le_of_ble_eq_true rfl) (Nat.le_of_ble_eq_true rfl) (by decide) (by decide) (by decide) (Or.inl rfl) (g0.sd.e (by decide)) (ok_X12_totals g0.sd (show 0 ≤ 1 by omega) hW.2.1 gw) (fun r25 S25 hp25 => ?_)
  obtain ⟨rfl, t1, t2⟩ := hp25
  have t3 : Fg tRt S S25 := g0.tr (t1.fg g0.sd (fun a b k z => Or.inr (by simp [tTo] at z; omega)))
  have t4 : gJ S25 1334 0 m = lN (tc W m) := by have := t2 m h1 (by omega); simpa using this
  have t5 : OwS S S25 := OwS.to o2 t1
  show Ok _ _ _ [] _ _
  refine r_aload_n (q := 29) dX12_trees_28 rfl rfl rfl ?_
  refine r_getr (q := 32) (some (1334, 0)) ck12 dX12_trees_29 rfl (k := 34) (by decide) wt1312 rfl (t3.sd.e (by decide)) (t3.sd.r (by decide) (by decide)) ?_
  refine r_iload_n (q := 33) dX12_trees_32 rfl rfl rfl ?_
  refine r_laldN (q := 34) 22 (by decide) rfl dX12_trees_33 rfl (t3.sd.e (by decide)) (t3.sd.n rfl (by decide)) (by omega) (by decide) ?_
  refine r_topl (y := lN (tc W m)) t4 ?_
  refine r_lreturn dX12_trees_34 rfl ?_
  exact ⟨rfl, t3, t5⟩

theorem zz_1 {a : Int32} {n : Nat} (h : nI 1 ≤ a ∧ a ≤ nI n) (hn : n < 2147483647) : ∃ m, 1 ≤ m ∧ m ≤ n ∧ a = nI m := by
  obtain ⟨m, h1, rfl⟩ := zz_le ⟨Int32.le_trans (by decide) h.1, h.2⟩ hn
  exact ⟨m, (nI_leI (by omega) (by omega)).mp h.1, h1, rfl⟩
theorem pg_trees {S : zS} (hs : Sd S) {W : zWd} {cc : Nat} (hcc : gI S 11 0 3 = nI cc) (hc4 : cc < 4) (hw : WR wq S W cc 1306 0 1308 0) (hO : Cw S) (a : Int32) : PgJ mX11_trees 2 [zr 11 0, zi a] mX12_trees 2 [zr 12 0, zi a] S (fun S2 => S2 = sI S 12 0 0 (nI 0) ∨ Fg tRt S S2 ∧ OwS S S2 ∧ Cw S2) := by
  obtain ⟨hW, hC, hR⟩ := hw.c
  by_cases ha : nI 1 ≤ a ∧ a ≤ nI 10
  · obtain ⟨m, h1, h10, rfl⟩ := zz_1 ha (by omega)
    refine Ok.mono (ok_X11_trees_in hs hcc hc4 hw h1 h10) fun r S1 z => ⟨_, z.1, by rw [z.2]; exact hs, ?_⟩
    rw [z.2]
    exact Ok.mono (ok_X12_trees_in hs hW hR hO h1 h10) fun r S2 y => ⟨y.1, Or.inr ⟨y.2.1, y.2.2, y.2.2.cw hO (fun k hk => y.2.1.I (by omega) (by unfold tRt tRef; omega))⟩⟩
  · refine Ok.mono (ok_X11_trees_out ha) fun r S1 z => ⟨_, z.1, by rw [z.2]; exact hs, ?_⟩
    rw [z.2]
    exact Ok.mono (ok_X12_trees_out hs ha) fun r S2 y => ⟨y.1, Or.inl y.2⟩

