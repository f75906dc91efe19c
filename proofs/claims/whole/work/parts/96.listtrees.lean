theorem Lx.fr2 {S S1 : zS} {b n f0 : Nat} {T : List (List Nat)} {U : Nat → Nat → Nat → Bool} (h : Lx S b n f0 T) (f : Fr U S S1) (t1 : U 103 b n = false) (t2 : U 103 b (n + 1) = false) (t3 : ∀ i, i < T.length → U 104 b (f0 + i) = false) : Lx S1 b n f0 T := ⟨(f.1 _ _ _ t1).trans h.1, (f.1 _ _ _ t2).trans h.2.1, h.2.2.1, h.2.2.2.1, fun i hi => (f.1 _ _ _ (t3 i hi)).trans (h.2.2.2.2 i hi)⟩
theorem tLs_sh {b n f0 : Nat} (x y k : Nat) (h : tSh b x y k = true) : tLs b n f0 x y k = true := by
  simp [tSh] at h
  simp [tLs]
  omega
theorem low_n : ∀ n, n < 8 → ∀ e, e < 5 → n < e → nI n - nI e + nI 1 < nI 1 := by decide
/-- acts of a world in the class -/
def Wa (S : zS) (b : Nat) (W : zWd) : Prop := gI S 9 b 1 = nI (wA W) ∧ ∀ a, a < wA W → gI S 1003 b a = nI (we W a)
theorem Wa.fr {S S1 : zS} {b : Nat} {W : zWd} {U : Nat → Nat → Nat → Bool} (h : Wa S b W) (f : Fr U S S1) (t : ∀ k, U 9 b k = false ∧ U 1003 b k = false) : Wa S1 b W := ⟨(f.1 _ _ _ (t _).1).trans h.1, fun a ha => (f.1 _ _ _ (t _).2).trans (h.2 a ha)⟩
/-- a list in the making -/
def Lm (S : zS) (W : zWd) (b n f0 : Nat) (T : List (List Nat)) : Prop := Sd S ∧ Lx S b n f0 T ∧ Srt T ∧ (∀ s, s ∈ T → Tr (wA W) (we W) n s) ∧ Wa S b W

theorem sm_le {f : Nat → Nat} : ∀ {m n : Nat}, m < n → sm f m + f m ≤ sm f n
  | m, 0, h => absurd h (by omega)
  | m, n + 1, h => by
    rw [sm]
    by_cases e : m = n
    · rw [e]; exact Nat.le_refl _
    · have := sm_le (f := f) (m := m) (n := n) (by omega); omega

set_option maxRecDepth 100000 in
theorem lp_lt3 {W : zWd} (hE : Eok (wA W) (we W)) {b n f0 : Nat} (hb4 : b < 4) (hn7 : n ≤ 7) (hc3 : tc W n ≤ 300) (hc4 : f0 + tc W n ≤ 400) {a m fm ti : Nat} (ha : a < wA W) (hm : m + we W a = n + 1) (hm1 : 1 ≤ m) (hfm : fm + tc W m ≤ f0) (hti : ti < (tl W m).length) {Po : Option zV → zS → Prop} : ∀ (d i : Nat) (S : zS) (T : List (List Nat)), i + d = m → Lm S W b n f0 T → Lx S b m fm (tl W m) → (∀ S1 T1, Fr (tLs b n f0) S S1 → Lm S1 W b n f0 T1 → (∀ s, s ∈ T → s ∈ T1) → (∀ j, i ≤ j → j < m → gr ((tl W m).getD ti []) j (acT a (we W a)) ∈ T1) → Ok mX0_listTrees 120 [some (zr 0 b), some (zi (nI n)), some (zi (nI a)), some (zi (nI m)), some (zi (nI ti)), some (zi (nI m))] [] S1 Po) → Ok mX0_listTrees 73 [some (zr 0 b), some (zi (nI n)), some (zi (nI a)), some (zi (nI m)), some (zi (nI ti)), some (zi (nI i))] [] S Po := by
  intro d
  induction d with
  | zero =>
    intro i S T hi hLm hl K
    obtain ⟨hs, hL, hT, hTr, hw⟩ := hLm
    obtain rfl : i = m := by omega
    refine r_iload (q := 75) dX0_listTrees_73 rfl rfl ?_
    refine r_iload_n (q := 76) dX0_listTrees_75 rfl rfl rfl ?_
    refine r_icmp_geN (q := 79) (t := 120) (by omega) (by omega) dX0_listTrees_76 (by decide) rfl (fun h76 => ?_) (fun h76 => absurd h76 (by omega))
    exact K S T Fr.rf ⟨hs, hL, hT, hTr, hw⟩ (fun s z => z) (fun j a b => absurd a (by omega))
  | succ d ih =>
    intro i S T hi hLm hl K
    obtain ⟨hs, hL, hT, hTr, hw⟩ := hLm
    obtain ⟨w1, w2⟩ := hw
    have he := hE.2 a ha
    have ha3 : a < 3 := Nat.lt_of_lt_of_le ha hE.1
    have htt := tl_tr hE hti
    have hlm : (tl W m).length = tc W m := tl_len hE
    have htg : Tr (wA W) (we W) n (gr ((tl W m).getD ti []) i (acT a (we W a))) := by have := htt.gr (tr_acT (e := we W) ha) (i := i) (by omega); rw [show m + we W a - 1 = n by omega] at this; exact this
    refine r_iload (q := 75) dX0_listTrees_73 rfl rfl ?_
    refine r_iload_n (q := 76) dX0_listTrees_75 rfl rfl rfl ?_
    refine r_icmp_geN (q := 79) (t := 120) (by omega) (by omega) dX0_listTrees_76 (by decide) rfl (fun h76 => absurd h76 (by omega)) (fun h76 => ?_)
    refine r_aload_n (q := 80) dX0_listTrees_79 rfl rfl rfl ?_
    refine r_iload_n (q := 81) dX0_listTrees_80 rfl rfl rfl ?_
    refine r_aload_n (q := 82) dX0_listTrees_81 rfl rfl rfl ?_
    refine r_getr (q := 85) (some (6, b)) ck0 dX0_listTrees_82 rfl (k := 1) (by decide) wt378 rfl (hs.e (show b < 4 by omega)) (hs.r (show b < 4 by omega) (by decide)) ?_
    refine r_aload_n (q := 86) dX0_listTrees_85 rfl rfl rfl ?_
    refine r_iload_n (q := 87) dX0_listTrees_86 rfl rfl rfl ?_
    refine r_iload (q := 89) dX0_listTrees_87 rfl rfl ?_
    refine r_callV (Mc := mX0_keyOf) (q := 92) (As := [zi (nI m), zi (nI ti)]) (st := [zr 6 b, zi (nI n), zr 0 b]) ck0 dX0_listTrees_89 rfl rfl mkX0_keyOf wt792 wt793 wt794 rfl (Nat.le_of_ble_eq_true rfl) (Nat.le_of_ble_eq_true rfl) (by decide) (by decide) (by decide) (Or.inl rfl) (hs.e (show b < 4 by omega)) (ok_keyOf hs hb4 (by omega) hl hti) (fun r89 S89 hp89 => ?_)
    obtain ⟨rfl, hq89⟩ := hp89
    rw [hq89]
    show Ok _ _ _ [zi (nI (ky ((tl W m).getD ti []))), zr 6 b, zi (nI n), zr 0 b] _ _
    refine r_iload_n (q := 93) dX0_listTrees_92 rfl rfl rfl ?_
    refine r_iload (q := 95) dX0_listTrees_93 rfl rfl ?_
    refine r_iload_n (q := 96) dX0_listTrees_95 rfl rfl rfl ?_
    refine r_callS (Mc := mX6_keyOfAct) (q := 99) (As := [zi (nI a)]) (st := [zi (nI i), zi (nI m), zi (nI (ky ((tl W m).getD ti []))), zr 6 b, zi (nI n), zr 0 b]) dX0_listTrees_96 rfl rfl mkX6_keyOfAct wt796 wt797 rfl (Nat.le_of_ble_eq_true rfl) (Nat.le_of_ble_eq_true rfl) (by decide) (by decide) (by decide) (Or.inl rfl) hs.some (ok_keyOfAct ha3) (fun r96 S96 hp96 => ?_)
    obtain ⟨rfl, hq96⟩ := hp96
    rw [hq96, ← ky_acT (n := we W a) (a := a) (by omega)]
    show Ok _ _ _ [zi (nI (ky (acT a (we W a)))), zi (nI i), zi (nI m), zi (nI (ky ((tl W m).getD ti []))), zr 6 b, zi (nI n), zr 0 b] _ _
    refine r_aload_n (q := 100) dX0_listTrees_99 rfl rfl rfl ?_
    refine r_getr (q := 103) (some (9, b)) ck0 dX0_listTrees_100 rfl (k := 0) (by decide) wt374 rfl (hs.e (show b < 4 by omega)) (hs.r (show b < 4 by omega) (by decide)) ?_
    refine r_getr (q := 106) (some (1003, b)) ck9 dX0_listTrees_103 rfl (k := 3) (by decide) wt308 rfl (hs.e (show b < 4 by omega)) (hs.r (show b < 4 by omega) (by decide)) ?_
    refine r_iload_n (q := 107) dX0_listTrees_106 rfl rfl rfl ?_
    refine r_ialdN (q := 108) 3 (by decide) rfl dX0_listTrees_107 rfl (hs.e (show b < 4 by omega)) (hs.n rfl (show b < 4 by omega)) (by omega) (by decide) ?_
    refine r_topi (y := nI (we W a)) (w2 a ha) ?_
    refine r_callV (Mc := mX6_grafted) (q := 111) (As := [zi (nI (ky ((tl W m).getD ti []))), zi (nI m), zi (nI i), zi (nI (ky (acT a (we W a)))), zi (nI (we W a))]) (st := [zi (nI n), zr 0 b]) ck6 dX0_listTrees_108 rfl rfl mkX6_grafted wt800 wt801 wt802 rfl (Nat.le_of_ble_eq_true rfl) (Nat.le_of_ble_eq_true rfl) (by decide) (by decide) (by decide) (Or.inl rfl) (hs.e (show b < 5 by omega)) (ok_grafted hs (by omega) hE htt (tr_acT ha) (by omega) (by omega)) (fun r108 S108 hp108 => ?_)
    obtain ⟨rfl, f1⟩ := hp108
    show Ok _ _ _ [zi (nI (ky (gr ((tl W m).getD ti []) i (acT a (we W a))))), zi (nI n), zr 0 b] _ _
    refine r_callV (Mc := mX0_insertKey) (q := 114) (As := [zi (nI n), zi (nI (ky (gr ((tl W m).getD ti []) i (acT a (we W a)))))]) (st := []) ck0 dX0_listTrees_111 rfl rfl mkX0_insertKey wt779 wt781 wp29 rfl (Nat.le_of_ble_eq_true rfl) (Nat.le_of_ble_eq_true rfl) (by decide) (by decide) (by decide) (Or.inl rfl) ((hs.fr f1).e (show b < 4 by omega)) (ok_insertKey (hs.fr f1) hb4 hn7 (hL.fr f1 (fun k => ⟨rfl, rfl⟩)) hT hE hTr htg (U := tl W n) (fun s z => (tl_mem hE).mpr z) (by rw [tl_len hE]; exact hc3) (by rw [tl_len hE]; exact hc4)) (fun r111 S111 hp111 => ?_)
    obtain ⟨rfl, f2, T1, l1, l2, l3⟩ := hp111
    show Ok _ _ _ [] _ _
    refine r_iincN (q := 117) (L' := [some (zr 0 b), some (zi (nI n)), some (zi (nI a)), some (zi (nI m)), some (zi (nI ti)), some (zi (nI (i + 1)))]) 1 rfl dX0_listTrees_114 rfl rfl (by decide) rfl ?_
    refine r_goto (q := 73) dX0_listTrees_117 (by decide) ?_
    have f3 : Fr (tLs b n f0) S S111 := (f1.mono tLs_sh).tr f2
    exact ih (i + 1) S111 T1 (by omega) ⟨hs.fr f3, l1, l2, fun s z => ((l3 s).mp z).elim (fun e => by rw [e]; exact htg) (fun e => hTr s e), Wa.fr ⟨w1, w2⟩ f3 (fun k => ⟨by simp [tLs], by simp [tLs]⟩)⟩ (hl.fr2 f3 (by simp [tLs]; omega) (by simp [tLs]; omega) (fun j hj => by rw [hlm] at hj; simp [tLs]; omega)) (fun S1 T2 g1 g2 g3 g4 => K S1 T2 (f3.tr g1) g2 (fun s z => g3 s ((l3 s).mpr (Or.inr z))) (fun j a b => if e : j = i then by rw [e]; exact g3 _ ((l3 _).mpr (Or.inl rfl)) else g4 j (by omega) b))

set_option maxRecDepth 100000 in
theorem lp_lt2 {W : zWd} (hE : Eok (wA W) (we W)) {b n f0 : Nat} (hb4 : b < 4) (hn7 : n ≤ 7) (hc3 : tc W n ≤ 300) (hc4 : f0 + tc W n ≤ 400) {a m fm : Nat} (ha : a < wA W) (hm : m + we W a = n + 1) (hm1 : 1 ≤ m) (hfm : fm + tc W m ≤ f0) {Po : Option zV → zS → Prop} : ∀ (d ti : Nat) (S : zS) (T : List (List Nat)) (w5 : Option zV), ti + d = (tl W m).length → Lm S W b n f0 T → Lx S b m fm (tl W m) → (∀ S1 T1 w4 w5, Fr (tLs b n f0) S S1 → Lm S1 W b n f0 T1 → (∀ s, s ∈ T → s ∈ T1) → (∀ t j, ti ≤ t → t < (tl W m).length → j < m → gr ((tl W m).getD t []) j (acT a (we W a)) ∈ T1) → Ok mX0_listTrees 126 [some (zr 0 b), some (zi (nI n)), some (zi (nI a)), some (zi (nI m)), w4, w5] [] S1 Po) → Ok mX0_listTrees 55 [some (zr 0 b), some (zi (nI n)), some (zi (nI a)), some (zi (nI m)), some (zi (nI ti)), w5] [] S Po := by
  have he := fun a ha => hE.2 a ha
  have hea := he a ha
  intro d
  induction d with
  | zero =>
    intro ti S T w5 hi hLm hl K
    obtain ⟨hs, hL, hT, hTr, hw⟩ := hLm
    have h300 := hl.2.2.2.1
    refine r_mask [true, true, true, true, true, false] rfl ?_
    refine r_iload_n (q := 56) dX0_listTrees_55 rfl rfl rfl ?_
    refine r_iconst (q := 57) (nI 1) dX0_listTrees_56 rfl (by decide) ?_
    refine r_icmp_ltN (q := 60) (t := 126) (by omega) (by omega) dX0_listTrees_57 (by decide) rfl (fun h57 => absurd h57 (by omega)) (fun h57 => ?_)
    refine r_iload (q := 62) dX0_listTrees_60 rfl rfl ?_
    refine r_aload_n (q := 63) dX0_listTrees_62 rfl rfl rfl ?_
    refine r_iload_n (q := 64) dX0_listTrees_63 rfl rfl rfl ?_
    refine r_callV (Mc := mX0_treesOf) (q := 67) (As := [zi (nI m)]) (st := [zi (nI ti)]) ck0 dX0_listTrees_64 rfl rfl mkX0_treesOf wt788 wt789 wt790 rfl (Nat.le_of_ble_eq_true rfl) (Nat.le_of_ble_eq_true rfl) (by decide) (by decide) (by decide) (Or.inl rfl) (hs.e (show b < 4 by omega)) (ok_treesOf hs hb4 (by omega) hl) (fun r64 S64 hp64 => ?_)
    obtain ⟨rfl, hq64⟩ := hp64
    rw [hq64]
    show Ok _ _ _ [zi (nI ((tl W m).length)), zi (nI ti)] _ _
    refine r_icmp_geN (q := 70) (t := 126) (by omega) (by omega) dX0_listTrees_67 (by decide) rfl (fun h67 => ?_) (fun h67 => absurd h67 (by omega))
    exact K S T _ _ Fr.rf ⟨hs, hL, hT, hTr, hw⟩ (fun s z => z) (fun t j a b => absurd a (by omega))
  | succ d ih =>
    intro ti S T w5 hi hLm hl K
    have hLm' := hLm
    obtain ⟨hs, hL, hT, hTr, hw⟩ := hLm
    have h300 := hl.2.2.2.1
    have hlm : (tl W m).length = tc W m := tl_len hE
    refine r_mask [true, true, true, true, true, false] rfl ?_
    refine r_iload_n (q := 56) dX0_listTrees_55 rfl rfl rfl ?_
    refine r_iconst (q := 57) (nI 1) dX0_listTrees_56 rfl (by decide) ?_
    refine r_icmp_ltN (q := 60) (t := 126) (by omega) (by omega) dX0_listTrees_57 (by decide) rfl (fun h57 => absurd h57 (by omega)) (fun h57 => ?_)
    refine r_iload (q := 62) dX0_listTrees_60 rfl rfl ?_
    refine r_aload_n (q := 63) dX0_listTrees_62 rfl rfl rfl ?_
    refine r_iload_n (q := 64) dX0_listTrees_63 rfl rfl rfl ?_
    refine r_callV (Mc := mX0_treesOf) (q := 67) (As := [zi (nI m)]) (st := [zi (nI ti)]) ck0 dX0_listTrees_64 rfl rfl mkX0_treesOf wt788 wt789 wt790 rfl (Nat.le_of_ble_eq_true rfl) (Nat.le_of_ble_eq_true rfl) (by decide) (by decide) (by decide) (Or.inl rfl) (hs.e (show b < 4 by omega)) (ok_treesOf hs hb4 (by omega) hl) (fun r64 S64 hp64 => ?_)
    obtain ⟨rfl, hq64⟩ := hp64
    rw [hq64]
    show Ok _ _ _ [zi (nI ((tl W m).length)), zi (nI ti)] _ _
    refine r_icmp_geN (q := 70) (t := 126) (by omega) (by omega) dX0_listTrees_67 (by decide) rfl (fun h67 => absurd h67 (by omega)) (fun h67 => ?_)
    refine r_iconst (q := 71) (nI 0) dX0_listTrees_70 rfl (by decide) ?_
    refine r_istore (q := 73) (L' := [some (zr 0 b), some (zi (nI n)), some (zi (nI a)), some (zi (nI m)), some (zi (nI ti)), some (zi (nI 0))]) dX0_listTrees_71 rfl (by decide) rfl ?_
    refine lp_lt3 hE hb4 hn7 hc3 hc4 ha hm hm1 hfm (show ti < _ by omega) m 0 S T (by omega) hLm' hl (fun S1 T1 f1 m1 m2 m3 => ?_)
    refine r_iincN (q := 123) (L' := [some (zr 0 b), some (zi (nI n)), some (zi (nI a)), some (zi (nI m)), some (zi (nI (ti + 1))), some (zi (nI m))]) 1 rfl dX0_listTrees_120 rfl rfl (by decide) rfl ?_
    refine r_goto (q := 55) dX0_listTrees_123 (by decide) ?_
    exact ih (ti + 1) S1 T1 _ (by omega) m1 (hl.fr2 f1 (by simp [tLs]; omega) (by simp [tLs]; omega) (fun j hj => by rw [hlm] at hj; simp [tLs]; omega)) (fun S2 T2 w4 w5 g1 g2 g3 g4 => K S2 T2 w4 w5 (f1.tr g1) g2 (fun s z => g3 s (m2 s z)) (fun t j a b c => if e : t = ti then by rw [e]; exact g3 _ (m3 j (by omega) c) else g4 t j (by omega) b c))

set_option maxRecDepth 100000 in
theorem lp_lt1 {W : zWd} (hE : Eok (wA W) (we W)) {b n f0 : Nat} (hb4 : b < 4) (hn7 : n ≤ 7) (hc3 : tc W n ≤ 300) (hc4 : f0 + tc W n ≤ 400) (hn1 : 1 ≤ n) (hf0 : f0 = sm (tc W) n) {Po : Option zV → zS → Prop} : ∀ (d a : Nat) (S : zS) (T : List (List Nat)) (w3 w4 w5 : Option zV), a + d = wA W → Lm S W b n f0 T → (∀ m, 1 ≤ m → m < n → Lx S b m (sm (tc W) m) (tl W m)) → (∀ S1 T1 w3 w4 w5, Fr (tLs b n f0) S S1 → Lm S1 W b n f0 T1 → (∀ s, s ∈ T → s ∈ T1) → (∀ a' m t j, a ≤ a' → a' < wA W → m + we W a' = n + 1 → t < (tl W m).length → j < m → gr ((tl W m).getD t []) j (acT a' (we W a')) ∈ T1) → Ok mX0_listTrees 132 [some (zr 0 b), some (zi (nI n)), some (zi (nI (wA W))), w3, w4, w5] [] S1 Po) → Ok mX0_listTrees 27 [some (zr 0 b), some (zi (nI n)), some (zi (nI a)), w3, w4, w5] [] S Po := by
  have hA3 := hE.1
  intro d
  induction d with
  | zero =>
    intro a S T w3 w4 w5 hi hLm hl K
    obtain ⟨hs, hL, hT, hTr, w1, w2⟩ := hLm
    obtain rfl : a = wA W := by omega
    refine r_mask [true, true, true, false, false, false] rfl ?_
    refine r_iload_n (q := 28) dX0_listTrees_27 rfl rfl rfl ?_
    refine r_aload_n (q := 29) dX0_listTrees_28 rfl rfl rfl ?_
    refine r_getr (q := 32) (some (9, b)) ck0 dX0_listTrees_29 rfl (k := 0) (by decide) wt374 rfl (hs.e (show b < 4 by omega)) (hs.r (show b < 4 by omega) (by decide)) ?_
    refine r_geti (q := 35) ck9 dX0_listTrees_32 rfl (k := 1) (by decide) wt298 (Or.inl rfl) (hs.e (show b < 4 by omega)) ?_
    refine r_topi (y := nI (wA W)) w1 ?_
    refine r_icmp_geN (q := 38) (t := 132) (by omega) (by omega) dX0_listTrees_35 (by decide) rfl (fun h35 => ?_) (fun h35 => absurd h35 (by omega))
    exact K S T _ _ _ Fr.rf ⟨hs, hL, hT, hTr, w1, w2⟩ (fun s z => z) (fun a' m t j a b => absurd a (by omega))
  | succ d ih =>
    intro a S T w3 w4 w5 hi hLm hl K
    have hLm' := hLm
    obtain ⟨hs, hL, hT, hTr, w1, w2⟩ := hLm
    have ha : a < wA W := by omega
    have hea := hE.2 a ha
    refine r_mask [true, true, true, false, false, false] rfl ?_
    by_cases hen : we W a ≤ n
    · skip
      refine r_iload_n (q := 28) dX0_listTrees_27 rfl rfl rfl ?_
      refine r_aload_n (q := 29) dX0_listTrees_28 rfl rfl rfl ?_
      refine r_getr (q := 32) (some (9, b)) ck0 dX0_listTrees_29 rfl (k := 0) (by decide) wt374 rfl (hs.e (show b < 4 by omega)) (hs.r (show b < 4 by omega) (by decide)) ?_
      refine r_geti (q := 35) ck9 dX0_listTrees_32 rfl (k := 1) (by decide) wt298 (Or.inl rfl) (hs.e (show b < 4 by omega)) ?_
      refine r_topi (y := nI (wA W)) w1 ?_
      refine r_icmp_geN (q := 38) (t := 132) (by omega) (by omega) dX0_listTrees_35 (by decide) rfl (fun h35 => absurd h35 (by omega)) (fun h35 => ?_)
      refine r_iload_n (q := 39) dX0_listTrees_38 rfl rfl rfl ?_
      refine r_aload_n (q := 40) dX0_listTrees_39 rfl rfl rfl ?_
      refine r_getr (q := 43) (some (9, b)) ck0 dX0_listTrees_40 rfl (k := 0) (by decide) wt374 rfl (hs.e (show b < 4 by omega)) (hs.r (show b < 4 by omega) (by decide)) ?_
      refine r_getr (q := 46) (some (1003, b)) ck9 dX0_listTrees_43 rfl (k := 3) (by decide) wt308 rfl (hs.e (show b < 4 by omega)) (hs.r (show b < 4 by omega) (by decide)) ?_
      refine r_iload_n (q := 47) dX0_listTrees_46 rfl rfl rfl ?_
      refine r_ialdN (q := 48) 3 (by decide) rfl dX0_listTrees_47 rfl (hs.e (show b < 4 by omega)) (hs.n rfl (show b < 4 by omega)) (by omega) (by decide) ?_
      refine r_topi (y := nI (we W a)) (w2 a ha) ?_
      refine r_isubN (q := 49) (by omega) dX0_listTrees_48 rfl ?_
      refine r_iconst (q := 50) (nI 1) dX0_listTrees_49 rfl (by decide) ?_
      refine r_iaddN (q := 51) dX0_listTrees_50 rfl ?_
      refine r_istore_n (q := 52) (L' := [some (zr 0 b), some (zi (nI n)), some (zi (nI a)), some (zi (nI ((n - (we W a)) + 1))), none, none]) dX0_listTrees_51 rfl rfl (by decide) rfl ?_
      refine r_iconst (q := 53) (nI 0) dX0_listTrees_52 rfl (by decide) ?_
      refine r_istore (q := 55) (L' := [some (zr 0 b), some (zi (nI n)), some (zi (nI a)), some (zi (nI ((n - (we W a)) + 1))), some (zi (nI 0)), none]) dX0_listTrees_53 rfl (by decide) rfl ?_
      obtain ⟨m, hm⟩ : ∃ m, m + we W a = n + 1 := ⟨n - we W a + 1, by omega⟩
      rw [show n - we W a + 1 = m by omega]
      have hsm : sm (tc W) m + tc W m ≤ f0 := by
        rw [hf0]
        exact sm_le (f := tc W) (show m < n by omega)
      refine lp_lt2 hE hb4 hn7 hc3 hc4 ha hm (by omega) hsm _ 0 S T _ (Nat.zero_add _) hLm' (hl m (by omega) (by omega)) (fun S1 T1 w4 w5 f1 m1 m2 m3 => ?_)
      refine r_mask [true, true, true, true, false, false] rfl ?_
      refine r_iincN (q := 129) (L' := [some (zr 0 b), some (zi (nI n)), some (zi (nI (a + 1))), some (zi (nI m)), none, none]) 1 rfl dX0_listTrees_126 rfl rfl (by decide) rfl ?_
      refine r_goto (q := 27) dX0_listTrees_129 (by decide) ?_
      exact ih (a + 1) S1 T1 _ _ _ (by omega) m1 (fun k k1 k2 => (hl k k1 k2).fr2 f1 (by simp [tLs]; omega) (by simp [tLs]; omega) (fun j hj => by have := sm_le (f := tc W) (show k < n by omega); rw [tl_len hE] at hj; simp [tLs]; omega)) (fun S2 T2 w3 w4 w5 g1 g2 g3 g4 => K S2 T2 w3 w4 w5 (f1.tr g1) g2 (fun s z => g3 s (m2 s z)) (fun a' m' t j a1 a2 a3 a4 a5 => if e : a' = a then by (subst e; obtain rfl : m' = m := by omega); exact g3 _ (m3 t j (by omega) a4 a5) else g4 a' m' t j (by omega) a2 a3 a4 a5))
    · skip
      refine r_iload_n (q := 28) dX0_listTrees_27 rfl rfl rfl ?_
      refine r_aload_n (q := 29) dX0_listTrees_28 rfl rfl rfl ?_
      refine r_getr (q := 32) (some (9, b)) ck0 dX0_listTrees_29 rfl (k := 0) (by decide) wt374 rfl (hs.e (show b < 4 by omega)) (hs.r (show b < 4 by omega) (by decide)) ?_
      refine r_geti (q := 35) ck9 dX0_listTrees_32 rfl (k := 1) (by decide) wt298 (Or.inl rfl) (hs.e (show b < 4 by omega)) ?_
      refine r_topi (y := nI (wA W)) w1 ?_
      refine r_icmp_geN (q := 38) (t := 132) (by omega) (by omega) dX0_listTrees_35 (by decide) rfl (fun h35 => absurd h35 (by omega)) (fun h35 => ?_)
      refine r_iload_n (q := 39) dX0_listTrees_38 rfl rfl rfl ?_
      refine r_aload_n (q := 40) dX0_listTrees_39 rfl rfl rfl ?_
      refine r_getr (q := 43) (some (9, b)) ck0 dX0_listTrees_40 rfl (k := 0) (by decide) wt374 rfl (hs.e (show b < 4 by omega)) (hs.r (show b < 4 by omega) (by decide)) ?_
      refine r_getr (q := 46) (some (1003, b)) ck9 dX0_listTrees_43 rfl (k := 3) (by decide) wt308 rfl (hs.e (show b < 4 by omega)) (hs.r (show b < 4 by omega) (by decide)) ?_
      refine r_iload_n (q := 47) dX0_listTrees_46 rfl rfl rfl ?_
      refine r_ialdN (q := 48) 3 (by decide) rfl dX0_listTrees_47 rfl (hs.e (show b < 4 by omega)) (hs.n rfl (show b < 4 by omega)) (by omega) (by decide) ?_
      refine r_topi (y := nI (we W a)) (w2 a ha) ?_
      refine r_isub (q := 49) dX0_listTrees_48 rfl ?_
      refine r_iconst (q := 50) (nI 1) dX0_listTrees_49 rfl (by decide) ?_
      refine r_iadd (q := 51) dX0_listTrees_50 rfl ?_
      refine r_istore_n (q := 52) (L' := [some (zr 0 b), some (zi (nI n)), some (zi (nI a)), some (zi (((nI n) - (nI (we W a))) + (nI 1))), none, none]) dX0_listTrees_51 rfl rfl (by decide) rfl ?_
      refine r_iconst (q := 53) (nI 0) dX0_listTrees_52 rfl (by decide) ?_
      refine r_istore (q := 55) (L' := [some (zr 0 b), some (zi (nI n)), some (zi (nI a)), some (zi (((nI n) - (nI (we W a))) + (nI 1))), some (zi (nI 0)), none]) dX0_listTrees_53 rfl (by decide) rfl ?_
      refine r_iload_n (q := 56) dX0_listTrees_55 rfl rfl rfl ?_
      refine r_iconst (q := 57) (nI 1) dX0_listTrees_56 rfl (by decide) ?_
      refine r_icmp_lt (q := 60) (t := 126) dX0_listTrees_57 (by decide) rfl (fun h57 => ?_) (fun h57 => absurd h57 (fun z => z (low_n n (by omega) (we W a) (by omega) (by omega))))
      refine r_iincN (q := 129) (L' := [some (zr 0 b), some (zi (nI n)), some (zi (nI (a + 1))), some (zi (((nI n) - (nI (we W a))) + (nI 1))), some (zi (nI 0)), none]) 1 rfl dX0_listTrees_126 rfl rfl (by decide) rfl ?_
      refine r_goto (q := 27) dX0_listTrees_129 (by decide) ?_
      exact ih (a + 1) S T _ _ _ (by omega) ⟨hs, hL, hT, hTr, w1, w2⟩ hl (fun S2 T2 w3 w4 w5 g1 g2 g3 g4 => K S2 T2 w3 w4 w5 g1 g2 g3 (fun a' m' t j a1 a2 a3 a4 a5 => if e : a' = a then by (subst e; exfalso; omega) else g4 a' m' t j (by omega) a2 a3 a4 a5))

