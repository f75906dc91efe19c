/-! acted -/
/-- the rows that were had are had still -/
def MoR (W : zWd) (n : Nat) (pv : Nat → Bool) (bs : Nat → Nat → Nat) (pv1 : Nat → Bool) (bs1 : Nat → Nat → Nat) : Prop := ∀ u, Rw (tl W n) pv (RR bs) u → Sp (wP W) (Rw (tl W n) pv1 (RR bs1)) u
theorem MoR.rf {W : zWd} {n : Nat} {pv : Nat → Bool} {bs : Nat → Nat → Nat} : MoR W n pv bs pv bs := fun _ h => Sp.gen h
theorem MoR.tr {W : zWd} {n : Nat} {pv pv1 pv2 : Nat → Bool} {bs bs1 bs2 : Nat → Nat → Nat} (h : MoR W n pv bs pv1 bs1) (g : MoR W n pv1 bs1 pv2 bs2) : MoR W n pv bs pv2 bs2 := fun u hu => (h u hu).le g
def HdA (W : zWd) (n : Nat) (pvs : Nat → Nat → Bool) (bss : Nat → Nat → Nat → Nat) (pv : Nat → Bool) (bs : Nat → Nat → Nat) (a j : Nat) (p : List Nat × List Nat) : Prop := pvs (p.1.getD j 0) (p.2.getD j 0) = true → Sp (wP W) (Rw (tl W n) pv (RR bs)) (rwA W bss a j p)
theorem HdA.mo {W : zWd} {n : Nat} {pvs : Nat → Nat → Bool} {bss : Nat → Nat → Nat → Nat} {pv pv1 : Nat → Bool} {bs bs1 : Nat → Nat → Nat} {a j : Nat} {p : List Nat × List Nat} (h : HdA W n pvs bss pv bs a j p) (g : MoR W n pv bs pv1 bs1) : HdA W n pvs bss pv1 bs1 a j p := fun z => (h z).le g

set_option maxRecDepth 100000 in
theorem lp_ac54 {W : zWd} (hW : Wok W) {q n a j : Nat} (hq : q ≤ 1) (hn7 : n ≤ 7) (ha : a < wA W) (hj : j < we W a) {pvs : Nat → Nat → Bool} {bss : Nat → Nat → Nat → Nat} (hbn300 : (tl W n).length ≤ 300) (hF4n : FqR q W n + (tl W n).length ≤ 4400) (hIl : ∀ s k, 1 ≤ s → s < n → k < (tl W s).length → pvs s k = true → Id W s (V (tl W s) (RR (bss s) k))) {Po : Option zV → zS → Prop} : ∀ (rem : List (List Nat × List Nat)) (S : zS) (pv : Nat → Bool) (bs : Nat → Nat → Nat) (v : Int32) (w7 w8 w9 w10 w11 : Option zV), EnvR S W q n pvs bss → AcS S W q n pv bs → (∀ p, p ∈ rem → p ∈ allF (bdW W) (cmp (we W a) n)) → (v = nI 0 ∧ rem = [] ∨ v = nI 1 ∧ ∃ i ks, PS S q (we W a) n (bdW W) i ks ∧ rem = ((cmp (we W a) n).getD i [], ks) :: RM (bdW W) (we W a) n i ks) → (∀ S1 pv1 bs1 w6 w7 w8 w9 w10 w11, Fr (tAl W q n) S S1 → EnvR S1 W q n pvs bss → AcS S1 W q n pv1 bs1 → MoR W n pv bs pv1 bs1 → (∀ p, p ∈ rem → HdA W n pvs bss pv1 bs1 a j p) → Ok mX12_acted 300 [some (zr 12 0), some (zi (nI q)), some (zi (nI n)), some (zi (nI a)), some (zi (nI (we W a))), some (zi (nI j)), w6, w7, w8, w9, w10, w11] [] S1 Po) → Ok mX12_acted 54 [some (zr 12 0), some (zi (nI q)), some (zi (nI n)), some (zi (nI a)), some (zi (nI (we W a))), some (zi (nI j)), some (zi v), w7, w8, w9, w10, w11] [] S Po := by
  have hE := hW.2.1
  have he := hE.2 a ha
  have ha3 : a < 3 := Nat.lt_of_lt_of_le ha hE.1
  intro rem
  induction rem with
  | nil =>
    intro S pv bs v w7 w8 w9 w10 w11 hI hA hal hv K
    obtain ⟨rfl, _⟩ : v = nI 0 ∧ True := by
      rcases hv with z | ⟨_, i, ks, _, z⟩
      · exact ⟨z.1, trivial⟩
      · cases z
    have hs := hI.1
    refine r_mask [true, true, true, true, true, true, true, false, false, false, false, false] rfl ?_
    refine r_iload (q := 56) dX12_acted_54 rfl rfl ?_
    refine r_if_eqN (q := 59) (t := 300) (by omega) dX12_acted_56 (by decide) rfl (fun h56 => ?_) (fun h56 => absurd h56 (by omega))
    exact K S pv bs _ _ _ _ _ _ Fr.rf hI hA MoR.rf (fun p hp => absurd hp List.not_mem_nil)
  | cons p rem ih =>
    intro S pv bs v w7 w8 w9 w10 w11 hI hA hal hv K
    obtain ⟨rfl, i, ks, hPS, hrem⟩ : v = nI 1 ∧ ∃ i ks, PS S q (we W a) n (bdW W) i ks ∧ p :: rem = ((cmp (we W a) n).getD i [], ks) :: RM (bdW W) (we W a) n i ks := by
      rcases hv with ⟨_, z⟩ | z
      · cases z
      · exact z
    obtain ⟨hp, hr⟩ := List.cons.inj hrem
    have hs := hI.1
    have hmem := hal p List.mem_cons_self
    have hal' : ∀ p, p ∈ rem → p ∈ allF (bdW W) (cmp (we W a) n) := fun r hr => hal r (List.mem_cons_of_mem _ hr)
    obtain ⟨hB, hok, hrk, hid⟩ := hA
    have hcl := cntp_le (pv := pv) (tl W n).length
    refine r_mask [true, true, true, true, true, true, true, false, false, false, false, false] rfl ?_
    by_cases hfull : cntp pv (tl W n).length = (tl W n).length
    · skip
      refine r_iload (q := 56) dX12_acted_54 rfl rfl ?_
      refine r_if_eqN (q := 59) (t := 300) (by omega) dX12_acted_56 (by decide) rfl (fun h56 => absurd h56 (by omega)) (fun h56 => ?_)
      refine r_aload_n (q := 60) dX12_acted_59 rfl rfl rfl ?_
      refine r_iload_n (q := 61) dX12_acted_60 rfl rfl rfl ?_
      refine r_iload_n (q := 62) dX12_acted_61 rfl rfl rfl ?_
      refine r_callV (Mc := mX12_isFull) (q := 65) (As := [zi (nI q), zi (nI n)]) (st := []) ck12 dX12_acted_62 rfl rfl mkX12_isFull wt1804 wt1806 wp111 rfl (Nat.le_of_ble_eq_true rfl) (Nat.le_of_ble_eq_true rfl) (by decide) (by decide) (by decide) (Or.inl rfl) (hs.e (by decide)) (ok_isFull_y hs hq hn7 hbn300 hcl hrk hB.2.1 hfull) (fun r62 S62 hp62 => ?_)
      obtain ⟨rfl, hq62⟩ := hp62
      rw [hq62]
      show Ok _ _ _ [zi (nI 1)] _ _
      refine r_if_neN (q := 68) (t := 300) (by omega) dX12_acted_65 (by decide) rfl (fun h65 => ?_) (fun h65 => absurd h65 (by omega))
      exact K S pv bs _ _ _ _ _ _ Fr.rf hI ⟨hB, hok, hrk, hid⟩ MoR.rf (fun r hr _ => full_sp tl_nodup hok hfull (rwA_in hE ha hj (hal r hr)))
    · obtain ⟨s, hsj⟩ : ∃ s, s = p.1.getD j 0 := ⟨_, rfl⟩
      obtain ⟨k0, hkj⟩ : ∃ k0, k0 = p.2.getD j 0 := ⟨_, rfl⟩
      have hg := cmp_get hPS.1 (show 2 ≤ we W a by omega)
      have hsn : s < n := by rw [hsj, hp]; exact (hg.2.2 j hj).2
      have hs1 : 1 ≤ s := by rw [hsj, hp]; exact (hg.2.2 j hj).1
      have hk0 : k0 < (tl W s).length := by rw [hkj, hsj, hp]; exact hPS.2.2.2.2.2 j hj
      have p1 : gI S 1336 0 j = nI s := by rw [hsj, hp]; exact hPS.2.2.1 j hj
      have p2 : gI S 1337 0 j = nI k0 := by rw [hkj, hp]; exact hPS.2.2.2.1 j hj
      obtain ⟨c1, c2, c3⟩ := hI.2.2.1 s hs1 hsn
      obtain ⟨b1, b2, b3, b4, b5, b6, b7, b8, b9⟩ := hI.2.2.2.2.2.2 s hs1 hsn
      have hpvk := b8 k0 hk0
      by_cases hpv : pvs s k0 = true
      · rw [hpv, show b01 true = 1 from rfl] at hpvk
        refine r_iload (q := 56) dX12_acted_54 rfl rfl ?_
        refine r_if_eqN (q := 59) (t := 300) (by omega) dX12_acted_56 (by decide) rfl (fun h56 => absurd h56 (by omega)) (fun h56 => ?_)
        refine r_aload_n (q := 60) dX12_acted_59 rfl rfl rfl ?_
        refine r_iload_n (q := 61) dX12_acted_60 rfl rfl rfl ?_
        refine r_iload_n (q := 62) dX12_acted_61 rfl rfl rfl ?_
        refine r_callV (Mc := mX12_isFull) (q := 65) (As := [zi (nI q), zi (nI n)]) (st := []) ck12 dX12_acted_62 rfl rfl mkX12_isFull wt1804 wt1806 wp111 rfl (Nat.le_of_ble_eq_true rfl) (Nat.le_of_ble_eq_true rfl) (by decide) (by decide) (by decide) (Or.inl rfl) (hs.e (by decide)) (ok_isFull_n hs hq hn7 hbn300 hcl hrk hB.2.1 hfull) (fun r62 S62 hp62 => ?_)
        obtain ⟨rfl, hq62⟩ := hp62
        rw [hq62]
        show Ok _ _ _ [zi (nI 0)] _ _
        refine r_if_neN (q := 68) (t := 300) (by omega) dX12_acted_65 (by decide) rfl (fun h65 => absurd h65 (by omega)) (fun h65 => ?_)
        refine r_aload_n (q := 69) dX12_acted_68 rfl rfl rfl ?_
        refine r_getr (q := 72) (some (1332, 0)) ck12 dX12_acted_69 rfl (k := 32) (by decide) wt1310 rfl (hs.e (by decide)) (hs.r (by decide) (by decide)) ?_
        refine r_aload_n (q := 73) dX12_acted_72 rfl rfl rfl ?_
        refine r_getr (q := 76) (some (1325, 0)) ck12 dX12_acted_73 rfl (k := 25) (by decide) wt1303 rfl (hs.e (by decide)) (hs.r (by decide) (by decide)) ?_
        refine r_bipush (q := 78) (nI 8) dX12_acted_76 rfl (by decide) ?_
        refine r_iload_n (q := 79) dX12_acted_78 rfl rfl rfl ?_
        refine r_imulN (q := 80) dX12_acted_79 rfl ?_
        refine r_aload_n (q := 81) dX12_acted_80 rfl rfl rfl ?_
        refine r_getr (q := 84) (some (1336, 0)) ck12 dX12_acted_81 rfl (k := 36) (by decide) wt1314 rfl (hs.e (by decide)) (hs.r (by decide) (by decide)) ?_
        refine r_iload (q := 86) dX12_acted_84 rfl rfl ?_
        refine r_ialdN (q := 87) 8 (by decide) rfl dX12_acted_86 rfl (hs.e (by decide)) (hs.n rfl (by decide)) (by omega) (by decide) ?_
        refine r_topi (y := nI s) p1 ?_
        refine r_iaddN (q := 88) dX12_acted_87 rfl ?_
        refine r_ialdN (q := 89) 16 (by decide) rfl dX12_acted_88 rfl (hs.e (by decide)) (hs.n rfl (by decide)) (by omega) (by decide) ?_
        refine r_topi (y := nI (FqR q W s)) c1 ?_
        refine r_aload_n (q := 90) dX12_acted_89 rfl rfl rfl ?_
        refine r_getr (q := 93) (some (1337, 0)) ck12 dX12_acted_90 rfl (k := 37) (by decide) wt1315 rfl (hs.e (by decide)) (hs.r (by decide) (by decide)) ?_
        refine r_iload (q := 95) dX12_acted_93 rfl rfl ?_
        refine r_ialdN (q := 96) 8 (by decide) rfl dX12_acted_95 rfl (hs.e (by decide)) (hs.n rfl (by decide)) (by omega) (by decide) ?_
        refine r_topi (y := nI k0) p2 ?_
        refine r_iaddN (q := 97) dX12_acted_96 rfl ?_
        refine r_zaldN (q := 98) 4400 (by decide) rfl dX12_acted_97 rfl (hs.e (by decide)) (hs.n rfl (by decide)) (by omega) (by decide) ?_
        refine r_topi (y := nI 1) hpvk ?_
        refine r_if_neN (q := 101) (t := 104) (by omega) dX12_acted_98 (by decide) rfl (fun h98 => ?_) (fun h98 => absurd h98 (by omega))
        refine r_aload_n (q := 105) dX12_acted_104 rfl rfl rfl ?_
        refine r_getr (q := 108) (some (1324, 0)) ck12 dX12_acted_105 rfl (k := 24) (by decide) wt1302 rfl (hs.e (by decide)) (hs.r (by decide) (by decide)) ?_
        refine r_bipush (q := 110) (nI 8) dX12_acted_108 rfl (by decide) ?_
        refine r_iload_n (q := 111) dX12_acted_110 rfl rfl rfl ?_
        refine r_imulN (q := 112) dX12_acted_111 rfl ?_
        refine r_aload_n (q := 113) dX12_acted_112 rfl rfl rfl ?_
        refine r_getr (q := 116) (some (1336, 0)) ck12 dX12_acted_113 rfl (k := 36) (by decide) wt1314 rfl (hs.e (by decide)) (hs.r (by decide) (by decide)) ?_
        refine r_iload (q := 118) dX12_acted_116 rfl rfl ?_
        refine r_ialdN (q := 119) 8 (by decide) rfl dX12_acted_118 rfl (hs.e (by decide)) (hs.n rfl (by decide)) (by omega) (by decide) ?_
        refine r_topi (y := nI s) p1 ?_
        refine r_iaddN (q := 120) dX12_acted_119 rfl ?_
        refine r_ialdN (q := 121) 16 (by decide) rfl dX12_acted_120 rfl (hs.e (by decide)) (hs.n rfl (by decide)) (by omega) (by decide) ?_
        refine r_topi (y := nI ((tl W s).length)) b2 ?_
        refine r_istore (q := 123) (L' := [some (zr 12 0), some (zi (nI q)), some (zi (nI n)), some (zi (nI a)), some (zi (nI (we W a))), some (zi (nI j)), some (zi (nI 1)), some (zi (nI ((tl W s).length))), none, none, none, none]) dX12_acted_121 rfl (by decide) rfl ?_
        refine r_aload_n (q := 124) dX12_acted_123 rfl rfl rfl ?_
        refine r_iload_n (q := 125) dX12_acted_124 rfl rfl rfl ?_
        refine r_aload_n (q := 126) dX12_acted_125 rfl rfl rfl ?_
        refine r_getr (q := 129) (some (1336, 0)) ck12 dX12_acted_126 rfl (k := 36) (by decide) wt1314 rfl (hs.e (by decide)) (hs.r (by decide) (by decide)) ?_
        refine r_iload (q := 131) dX12_acted_129 rfl rfl ?_
        refine r_ialdN (q := 132) 8 (by decide) rfl dX12_acted_131 rfl (hs.e (by decide)) (hs.n rfl (by decide)) (by omega) (by decide) ?_
        refine r_topi (y := nI s) p1 ?_
        refine r_aload_n (q := 133) dX12_acted_132 rfl rfl rfl ?_
        refine r_getr (q := 136) (some (1337, 0)) ck12 dX12_acted_133 rfl (k := 37) (by decide) wt1315 rfl (hs.e (by decide)) (hs.r (by decide) (by decide)) ?_
        refine r_iload (q := 138) dX12_acted_136 rfl rfl ?_
        refine r_ialdN (q := 139) 8 (by decide) rfl dX12_acted_138 rfl (hs.e (by decide)) (hs.n rfl (by decide)) (by omega) (by decide) ?_
        refine r_topi (y := nI k0) p2 ?_
        refine r_callV (Mc := mX12_rowAt) (q := 142) (As := [zi (nI q), zi (nI s), zi (nI k0)]) (st := []) ck12 dX12_acted_139 rfl rfl mkX12_rowAt wt1808 wt1810 wp112 rfl (Nat.le_of_ble_eq_true rfl) (Nat.le_of_ble_eq_true rfl) (by decide) (by decide) (by decide) (Or.inl rfl) (hs.e (by decide)) (ok_rowAt hs hq (show s ≤ 7 by omega) b2 b4) (fun r139 S139 hp139 => ?_)
        obtain ⟨rfl, hq139⟩ := hp139
        rw [hq139]
        show Ok _ _ _ [zi (nI (RFq q W s + k0 * (tl W s).length))] _ _
        refine r_istore (q := 144) (L' := [some (zr 12 0), some (zi (nI q)), some (zi (nI n)), some (zi (nI a)), some (zi (nI (we W a))), some (zi (nI j)), some (zi (nI 1)), some (zi (nI ((tl W s).length))), some (zi (nI (RFq q W s + k0 * (tl W s).length))), none, none, none]) dX12_acted_142 rfl (by decide) rfl ?_
        refine r_aload_n (q := 145) dX12_acted_144 rfl rfl rfl ?_
        refine r_aload_n (q := 146) dX12_acted_145 rfl rfl rfl ?_
        refine r_getr (q := 149) (some (1324, 0)) ck12 dX12_acted_146 rfl (k := 24) (by decide) wt1302 rfl (hs.e (by decide)) (hs.r (by decide) (by decide)) ?_
        refine r_bipush (q := 151) (nI 8) dX12_acted_149 rfl (by decide) ?_
        refine r_iload_n (q := 152) dX12_acted_151 rfl rfl rfl ?_
        refine r_imulN (q := 153) dX12_acted_152 rfl ?_
        refine r_iload_n (q := 154) dX12_acted_153 rfl rfl rfl ?_
        refine r_iaddN (q := 155) dX12_acted_154 rfl ?_
        refine r_ialdN (q := 156) 16 (by decide) rfl dX12_acted_155 rfl (hs.e (by decide)) (hs.n rfl (by decide)) (by omega) (by decide) ?_
        refine r_topi (y := nI ((tl W n).length)) hB.2.1 ?_
        refine r_callV (Mc := mX12_clearRow) (q := 159) (As := [zi (nI ((tl W n).length))]) (st := []) ck12 dX12_acted_156 rfl rfl mkX12_clearRow wt1812 wt1814 wp113 rfl (Nat.le_of_ble_eq_true rfl) (Nat.le_of_ble_eq_true rfl) (by decide) (by decide) (by decide) (Or.inl rfl) (hs.e (by decide)) (ok_clearRow hs (show 0 < wP W from Nat.lt_of_lt_of_le (by decide) hW.1.1) hbn300) (fun r156 S156 hp156 => ?_)
        obtain ⟨rfl, f1, hV1⟩ := hp156
        have g1 : Fr (tAl W q n) S S156 := f1.mono tAc_rv
        have hI1 : EnvR S156 W q n pvs bss := hI.fr hE g1
        show Ok _ _ _ [] _ _
        refine r_iconst (q := 160) (nI 0) dX12_acted_159 rfl (by decide) ?_
        refine r_istore (q := 162) (L' := [some (zr 12 0), some (zi (nI q)), some (zi (nI n)), some (zi (nI a)), some (zi (nI (we W a))), some (zi (nI j)), some (zi (nI 1)), some (zi (nI ((tl W s).length))), some (zi (nI (RFq q W s + k0 * (tl W s).length))), some (zi (nI 0)), none, none]) dX12_acted_160 rfl (by decide) rfl ?_
        have hPS1 := hPS.fr f1 ⟨rfl, rfl, fun _ => ⟨rfl, rfl⟩⟩
        refine lp_ac162 hW hq hn7 ha hj hp hsj hk0 hpv hbn300 hF4n (tl W s).length 0 S156 (fun _ => 0) none none (by omega) hI1 hPS1 hV1 acc_nil (fun z _ _ => rfl) (fun S2 v2' w9 w10 w11 y1 y2 y3 => ?_)
        have g2 : Fr (tAl W q n) S S2 := g1.tr (y1.mono tAc_rv)
        have hI2 : EnvR S2 W q n pvs bss := hI.fr hE g2
        have hs2 := hI2.1
        have f12 : Fr tRv S S2 := f1.tr y1
        have hB2 := hB.fr f12
        have hrk2 : gI S2 1326 0 (8 * q + n) = nI (cntp pv (tl W n).length) := (f12.1 _ _ _ rfl).trans hrk
        have hPS2 := hPS.fr f12 ⟨rfl, rfl, fun _ => ⟨rfl, rfl⟩⟩
        have hrwA : mp (cx a ((pt W p).take j) ((pt W p).drop (j + 1))) (V (tl W s) (RR (bss s) k0)) = rwA W bss a j p := by unfold rwA; rw [← hsj, ← hkj]
        rw [hrwA] at y3
        have hli := acc_li tl_nodup y3 (rwA_in hE ha hj hmem)
        refine r_mask [true, true, true, true, true, true, true, true, true, false, false, false] rfl ?_
        refine r_aload_n (q := 286) dX12_acted_285 rfl rfl rfl ?_
        refine r_iload_n (q := 287) dX12_acted_286 rfl rfl rfl ?_
        refine r_iload_n (q := 288) dX12_acted_287 rfl rfl rfl ?_
        refine r_callV (Mc := mX12_insert) (q := 291) (As := [zi (nI q), zi (nI n)]) (st := []) ck12 dX12_acted_288 rfl rfl mkX12_insert wt1820 wt1822 wp115 rfl (Nat.le_of_ble_eq_true rfl) (Nat.le_of_ble_eq_true rfl) (by decide) (by decide) (by decide) (Or.inl rfl) (hs2.e (by decide)) (ok_insert hs2 hq hn7 tl_nodup hW.1.1 hW.1.2.1 hok hB2 y2 hI2.2.2.2.2.2.1 hrk2) (fun r288 S288 hp288 => ?_)
        obtain ⟨rfl, f3, pv3, bs3, z1, z2, z3, z4, z5, z6⟩ := hp288
        have g3 : Fr (tAl W q n) S2 S288 := f3.mono tAc_in
        have hI3 : EnvR S288 W q n pvs bss := hI2.fr hE g3
        have hA3 : AcS S288 W q n pv3 bs3 := ⟨z1, z2, z6, z5 (Gn W n) ((rwA_id hE ha hj hmem (by rw [← hsj, ← hkj]; exact hIl s k0 hs1 hsn hk0 hpv)).li hli) hid⟩
        have hPS3 := hPS2.fr f3 ⟨rfl, rfl, fun _ => ⟨rfl, rfl⟩⟩
        show Ok _ _ _ [] _ _
        refine r_aload_n (q := 292) dX12_acted_291 rfl rfl rfl ?_
        refine r_callV (Mc := mX12_nextParts) (q := 295) (As := []) (st := []) ck12 dX12_acted_292 rfl rfl mkX12_nextParts wt1795 wt1797 wp109 rfl (Nat.le_of_ble_eq_true rfl) (Nat.le_of_ble_eq_true rfl) (by decide) (by decide) (by decide) (Or.inl rfl) (hI3.1.e (by decide)) (ok_nextParts hq (by omega) (by omega) hn7 hI3.1 hPS3 hI3.2.2.2.1) (fun r292 S292 hp292 => ?_)
        obtain ⟨f2, hz⟩ := hp292
        obtain ⟨v2, rfl, hv2⟩ : ∃ v2, r292 = some (zi v2) ∧ (v2 = nI 0 ∧ rem = [] ∨ v2 = nI 1 ∧ ∃ i ks, PS S292 q (we W a) n (bdW W) i ks ∧ rem = ((cmp (we W a) n).getD i [], ks) :: RM (bdW W) (we W a) n i ks) := by
          rcases hz with ⟨z1, z2⟩ | ⟨z1, i', ks', z2, z3⟩
          · exact ⟨_, z1, Or.inl ⟨rfl, hr.trans z2⟩⟩
          · exact ⟨_, z1, Or.inr ⟨rfl, i', ks', z2, hr.trans z3⟩⟩
        have g9 : Fr (tAl W q n) S288 S292 := f2.mono tAc_p2
        have hI9 : EnvR S292 W q n pvs bss := hI3.fr hE g9
        show Ok _ _ _ [zi v2] _ _
        refine r_istore (q := 297) (L' := [some (zr 12 0), some (zi (nI q)), some (zi (nI n)), some (zi (nI a)), some (zi (nI (we W a))), some (zi (nI j)), some (zi v2), some (zi (nI ((tl W s).length))), some (zi (nI (RFq q W s + k0 * (tl W s).length))), none, none, none]) dX12_acted_295 rfl (by decide) rfl ?_
        refine r_goto (q := 54) dX12_acted_297 (by decide) ?_
        exact ih S292 pv3 bs3 v2 _ _ _ _ _ hI9 (hA3.fr f2 (fun x k hx => by simp [tP2]; omega)) hal' hv2 (fun S4 pv4 bs4 w6 w7 w8 w9 w10 w11 u1 u2 u3 u4 u5 => K S4 pv4 bs4 w6 w7 w8 w9 w10 w11 (((g2.tr g3).tr g9).tr u1) u2 u3 (MoR.tr z4 u4) (fun r hr => by
          rcases List.mem_cons.mp hr with rfl | hr
          · exact fun _ => (z3.li hli.sy).le u4
          · exact u5 r hr))
      · have hpf : pvs s k0 = false := by cases h : pvs s k0 with | true => exact absurd h hpv | false => rfl
        rw [hpf, show b01 false = 0 from rfl] at hpvk
        refine r_iload (q := 56) dX12_acted_54 rfl rfl ?_
        refine r_if_eqN (q := 59) (t := 300) (by omega) dX12_acted_56 (by decide) rfl (fun h56 => absurd h56 (by omega)) (fun h56 => ?_)
        refine r_aload_n (q := 60) dX12_acted_59 rfl rfl rfl ?_
        refine r_iload_n (q := 61) dX12_acted_60 rfl rfl rfl ?_
        refine r_iload_n (q := 62) dX12_acted_61 rfl rfl rfl ?_
        refine r_callV (Mc := mX12_isFull) (q := 65) (As := [zi (nI q), zi (nI n)]) (st := []) ck12 dX12_acted_62 rfl rfl mkX12_isFull wt1804 wt1806 wp111 rfl (Nat.le_of_ble_eq_true rfl) (Nat.le_of_ble_eq_true rfl) (by decide) (by decide) (by decide) (Or.inl rfl) (hs.e (by decide)) (ok_isFull_n hs hq hn7 hbn300 hcl hrk hB.2.1 hfull) (fun r62 S62 hp62 => ?_)
        obtain ⟨rfl, hq62⟩ := hp62
        rw [hq62]
        show Ok _ _ _ [zi (nI 0)] _ _
        refine r_if_neN (q := 68) (t := 300) (by omega) dX12_acted_65 (by decide) rfl (fun h65 => absurd h65 (by omega)) (fun h65 => ?_)
        refine r_aload_n (q := 69) dX12_acted_68 rfl rfl rfl ?_
        refine r_getr (q := 72) (some (1332, 0)) ck12 dX12_acted_69 rfl (k := 32) (by decide) wt1310 rfl (hs.e (by decide)) (hs.r (by decide) (by decide)) ?_
        refine r_aload_n (q := 73) dX12_acted_72 rfl rfl rfl ?_
        refine r_getr (q := 76) (some (1325, 0)) ck12 dX12_acted_73 rfl (k := 25) (by decide) wt1303 rfl (hs.e (by decide)) (hs.r (by decide) (by decide)) ?_
        refine r_bipush (q := 78) (nI 8) dX12_acted_76 rfl (by decide) ?_
        refine r_iload_n (q := 79) dX12_acted_78 rfl rfl rfl ?_
        refine r_imulN (q := 80) dX12_acted_79 rfl ?_
        refine r_aload_n (q := 81) dX12_acted_80 rfl rfl rfl ?_
        refine r_getr (q := 84) (some (1336, 0)) ck12 dX12_acted_81 rfl (k := 36) (by decide) wt1314 rfl (hs.e (by decide)) (hs.r (by decide) (by decide)) ?_
        refine r_iload (q := 86) dX12_acted_84 rfl rfl ?_
        refine r_ialdN (q := 87) 8 (by decide) rfl dX12_acted_86 rfl (hs.e (by decide)) (hs.n rfl (by decide)) (by omega) (by decide) ?_
        refine r_topi (y := nI s) p1 ?_
        refine r_iaddN (q := 88) dX12_acted_87 rfl ?_
        refine r_ialdN (q := 89) 16 (by decide) rfl dX12_acted_88 rfl (hs.e (by decide)) (hs.n rfl (by decide)) (by omega) (by decide) ?_
        refine r_topi (y := nI (FqR q W s)) c1 ?_
        refine r_aload_n (q := 90) dX12_acted_89 rfl rfl rfl ?_
        refine r_getr (q := 93) (some (1337, 0)) ck12 dX12_acted_90 rfl (k := 37) (by decide) wt1315 rfl (hs.e (by decide)) (hs.r (by decide) (by decide)) ?_
        refine r_iload (q := 95) dX12_acted_93 rfl rfl ?_
        refine r_ialdN (q := 96) 8 (by decide) rfl dX12_acted_95 rfl (hs.e (by decide)) (hs.n rfl (by decide)) (by omega) (by decide) ?_
        refine r_topi (y := nI k0) p2 ?_
        refine r_iaddN (q := 97) dX12_acted_96 rfl ?_
        refine r_zaldN (q := 98) 4400 (by decide) rfl dX12_acted_97 rfl (hs.e (by decide)) (hs.n rfl (by decide)) (by omega) (by decide) ?_
        refine r_topi (y := nI 0) hpvk ?_
        refine r_if_neN (q := 101) (t := 104) (by omega) dX12_acted_98 (by decide) rfl (fun h98 => absurd h98 (by omega)) (fun h98 => ?_)
        refine r_goto (q := 291) dX12_acted_101 (by decide) ?_
        refine r_aload_n (q := 292) dX12_acted_291 rfl rfl rfl ?_
        refine r_callV (Mc := mX12_nextParts) (q := 295) (As := []) (st := []) ck12 dX12_acted_292 rfl rfl mkX12_nextParts wt1795 wt1797 wp109 rfl (Nat.le_of_ble_eq_true rfl) (Nat.le_of_ble_eq_true rfl) (by decide) (by decide) (by decide) (Or.inl rfl) (hs.e (by decide)) (ok_nextParts hq (by omega) (by omega) hn7 hI.1 hPS hI.2.2.2.1) (fun r292 S292 hp292 => ?_)
        obtain ⟨f2, hz⟩ := hp292
        obtain ⟨v2, rfl, hv2⟩ : ∃ v2, r292 = some (zi v2) ∧ (v2 = nI 0 ∧ rem = [] ∨ v2 = nI 1 ∧ ∃ i ks, PS S292 q (we W a) n (bdW W) i ks ∧ rem = ((cmp (we W a) n).getD i [], ks) :: RM (bdW W) (we W a) n i ks) := by
          rcases hz with ⟨z1, z2⟩ | ⟨z1, i', ks', z2, z3⟩
          · exact ⟨_, z1, Or.inl ⟨rfl, hr.trans z2⟩⟩
          · exact ⟨_, z1, Or.inr ⟨rfl, i', ks', z2, hr.trans z3⟩⟩
        have g9 : Fr (tAl W q n) S S292 := f2.mono tAc_p2
        have hI9 : EnvR S292 W q n pvs bss := hI.fr hE g9
        show Ok _ _ _ [zi v2] _ _
        refine r_istore (q := 297) (L' := [some (zr 12 0), some (zi (nI q)), some (zi (nI n)), some (zi (nI a)), some (zi (nI (we W a))), some (zi (nI j)), some (zi v2), none, none, none, none, none]) dX12_acted_295 rfl (by decide) rfl ?_
        refine r_goto (q := 54) dX12_acted_297 (by decide) ?_
        exact ih S292 pv bs v2 _ _ _ _ _ hI9 (AcS.fr ⟨hB, hok, hrk, hid⟩ f2 (fun x k hx => by simp [tP2]; omega)) hal' hv2 (fun S4 pv4 bs4 w6 w7 w8 w9 w10 w11 u1 u2 u3 u4 u5 => K S4 pv4 bs4 w6 w7 w8 w9 w10 w11 (g9.tr u1) u2 u3 u4 (fun r hr => by
          rcases List.mem_cons.mp hr with rfl | hr
          · exact fun z => absurd z (by rw [← hsj, ← hkj]; exact hpv)
          · exact u5 r hr))

set_option maxRecDepth 100000 in
theorem lp_ac37 {W : zWd} (hW : Wok W) {q n a : Nat} (hq : q ≤ 1) (hn7 : n ≤ 7) (ha : a < wA W) {pvs : Nat → Nat → Bool} {bss : Nat → Nat → Nat → Nat} (hbn300 : (tl W n).length ≤ 300) (hF4n : FqR q W n + (tl W n).length ≤ 4400) (hIl : ∀ s k, 1 ≤ s → s < n → k < (tl W s).length → pvs s k = true → Id W s (V (tl W s) (RR (bss s) k))) {Po : Option zV → zS → Prop} : ∀ (d j : Nat) (S : zS) (pv : Nat → Bool) (bs : Nat → Nat → Nat) (w6 w7 w8 w9 w10 w11 : Option zV), j + d = we W a → EnvR S W q n pvs bss → AcS S W q n pv bs → (∀ S1 pv1 bs1 w6 w7 w8 w9 w10 w11, Fr (tAl W q n) S S1 → EnvR S1 W q n pvs bss → AcS S1 W q n pv1 bs1 → MoR W n pv bs pv1 bs1 → (∀ j', j ≤ j' → j' < we W a → ∀ p, p ∈ allF (bdW W) (cmp (we W a) n) → HdA W n pvs bss pv1 bs1 a j' p) → Ok mX12_acted 306 [some (zr 12 0), some (zi (nI q)), some (zi (nI n)), some (zi (nI a)), some (zi (nI (we W a))), some (zi (nI (we W a))), w6, w7, w8, w9, w10, w11] [] S1 Po) → Ok mX12_acted 37 [some (zr 12 0), some (zi (nI q)), some (zi (nI n)), some (zi (nI a)), some (zi (nI (we W a))), some (zi (nI j)), w6, w7, w8, w9, w10, w11] [] S Po := by
  have hE := hW.2.1
  have he := hE.2 a ha
  intro d
  induction d with
  | zero =>
    intro j S pv bs w6 w7 w8 w9 w10 w11 hjd hI hA K
    obtain rfl : j = we W a := by omega
    have hs := hI.1
    refine r_mask [true, true, true, true, true, true, false, false, false, false, false, false] rfl ?_
    refine r_iload (q := 39) dX12_acted_37 rfl rfl ?_
    refine r_iload (q := 41) dX12_acted_39 rfl rfl ?_
    refine r_icmp_geN (q := 44) (t := 306) (by omega) (by omega) dX12_acted_41 (by decide) rfl (fun h41 => ?_) (fun h41 => absurd h41 (by omega))
    exact K S pv bs _ _ _ _ _ _ Fr.rf hI hA MoR.rf (fun j' a b => absurd a (by omega))
  | succ d ih =>
    intro j S pv bs w6 w7 w8 w9 w10 w11 hjd hI hA K
    have hj : j < we W a := by omega
    have hs := hI.1
    refine r_mask [true, true, true, true, true, true, false, false, false, false, false, false] rfl ?_
    refine r_iload (q := 39) dX12_acted_37 rfl rfl ?_
    refine r_iload (q := 41) dX12_acted_39 rfl rfl ?_
    refine r_icmp_geN (q := 44) (t := 306) (by omega) (by omega) dX12_acted_41 (by decide) rfl (fun h41 => absurd h41 (by omega)) (fun h41 => ?_)
    refine r_aload_n (q := 45) dX12_acted_44 rfl rfl rfl ?_
    refine r_iload_n (q := 46) dX12_acted_45 rfl rfl rfl ?_
    refine r_iload (q := 48) dX12_acted_46 rfl rfl ?_
    refine r_iload_n (q := 49) dX12_acted_48 rfl rfl rfl ?_
    refine r_callV (Mc := mX12_firstParts) (q := 52) (As := [zi (nI q), zi (nI (we W a)), zi (nI n)]) (st := []) ck12 dX12_acted_49 rfl rfl mkX12_firstParts wt1776 wt1778 wp105 rfl (Nat.le_of_ble_eq_true rfl) (Nat.le_of_ble_eq_true rfl) (by decide) (by decide) (by decide) (Or.inl rfl) (hs.e (by decide)) (ok_firstParts hq (by omega) (by omega) hn7 hs hI.2.2.2.1) (fun r49 S49 hp49 => ?_)
    obtain ⟨f1, hz⟩ := hp49
    obtain ⟨v2, rfl, hv2⟩ : ∃ v2, r49 = some (zi v2) ∧ (v2 = nI 0 ∧ allF (bdW W) (cmp (we W a) n) = [] ∨ v2 = nI 1 ∧ ∃ i ks, PS S49 q (we W a) n (bdW W) i ks ∧ allF (bdW W) (cmp (we W a) n) = ((cmp (we W a) n).getD i [], ks) :: RM (bdW W) (we W a) n i ks) := by
      rcases hz with ⟨z1, z2⟩ | ⟨z1, i', ks', z2, z3⟩
      · exact ⟨_, z1, Or.inl ⟨rfl, z2⟩⟩
      · exact ⟨_, z1, Or.inr ⟨rfl, i', ks', z2, z3⟩⟩
    have g1 : Fr (tAl W q n) S S49 := f1.mono tAc_pt
    have hI1 : EnvR S49 W q n pvs bss := hI.fr hE g1
    show Ok _ _ _ [zi v2] _ _
    refine r_istore (q := 54) (L' := [some (zr 12 0), some (zi (nI q)), some (zi (nI n)), some (zi (nI a)), some (zi (nI (we W a))), some (zi (nI j)), some (zi v2), none, none, none, none, none]) dX12_acted_52 rfl (by decide) rfl ?_
    refine lp_ac54 hW hq hn7 ha hj hbn300 hF4n hIl _ S49 pv bs v2 none none none none none hI1 (hA.fr f1 (fun x k hx => by simp [tPt]; omega)) (fun p hp => hp) hv2 (fun S2 pv2 bs2 w6 w7 w8 w9 w10 w11 y1 y2 y3 y4 y5 => ?_)
    have hs2 := y2.1
    refine r_mask [true, true, true, true, true, true, false, false, false, false, false, false] rfl ?_
    refine r_iincN (q := 303) (L' := [some (zr 12 0), some (zi (nI q)), some (zi (nI n)), some (zi (nI a)), some (zi (nI (we W a))), some (zi (nI (j + 1))), none, none, none, none, none, none]) 1 rfl dX12_acted_300 rfl rfl (by decide) rfl ?_
    refine r_goto (q := 37) dX12_acted_303 (by decide) ?_
    exact ih (j + 1) S2 pv2 bs2 _ _ _ _ _ _ (by omega) y2 y3 (fun S4 pv4 bs4 w6 w7 w8 w9 w10 w11 u1 u2 u3 u4 u5 => K S4 pv4 bs4 w6 w7 w8 w9 w10 w11 ((g1.tr y1).tr u1) u2 u3 (MoR.tr y4 u4) (fun j' a b p hp => if e : j' = j then by rw [e]; exact (y5 p hp).mo u4 else u5 j' (by omega) b p hp))

set_option maxRecDepth 100000 in
theorem lp_ac2 {W : zWd} (hW : Wok W) {q n : Nat} (hq : q ≤ 1) (hn7 : n ≤ 7) {pvs : Nat → Nat → Bool} {bss : Nat → Nat → Nat → Nat} (hbn300 : (tl W n).length ≤ 300) (hF4n : FqR q W n + (tl W n).length ≤ 4400) (hIl : ∀ s k, 1 ≤ s → s < n → k < (tl W s).length → pvs s k = true → Id W s (V (tl W s) (RR (bss s) k))) : ∀ (d a : Nat) (S : zS) (pv : Nat → Bool) (bs : Nat → Nat → Nat) (w4 w5 w6 w7 w8 w9 w10 w11 : Option zV), a + d = wA W → EnvR S W q n pvs bss → AcS S W q n pv bs → Ok mX12_acted 2 [some (zr 12 0), some (zi (nI q)), some (zi (nI n)), some (zi (nI a)), w4, w5, w6, w7, w8, w9, w10, w11] [] S (fun r S1 => r = none ∧ Fr (tAl W q n) S S1 ∧ EnvR S1 W q n pvs bss ∧ ∃ pv1 bs1, AcS S1 W q n pv1 bs1 ∧ MoR W n pv bs pv1 bs1 ∧ ∀ a' j p, a ≤ a' → a' < wA W → j < we W a' → p ∈ allF (bdW W) (cmp (we W a') n) → HdA W n pvs bss pv1 bs1 a' j p) := by
  have hE := hW.2.1
  have hA3 := hE.1
  intro d
  induction d with
  | zero =>
    intro a S pv bs w4 w5 w6 w7 w8 w9 w10 w11 had hI hA
    obtain rfl : a = wA W := by omega
    have hs := hI.1
    have hwA := hI.2.1.1
    refine r_mask [true, true, true, true, false, false, false, false, false, false, false, false] rfl ?_
    refine r_iload_n (q := 3) dX12_acted_2 rfl rfl rfl ?_
    refine r_aload_n (q := 4) dX12_acted_3 rfl rfl rfl ?_
    refine r_getr (q := 7) (some (1322, 0)) ck12 dX12_acted_4 rfl (k := 22) (by decide) wt1300 rfl (hs.e (by decide)) (hs.r (by decide) (by decide)) ?_
    refine r_sipush (q := 10) (nI 1173) dX12_acted_7 rfl (by decide) ?_
    refine r_iload_n (q := 11) dX12_acted_10 rfl rfl rfl ?_
    refine r_imulN (q := 12) dX12_acted_11 rfl ?_
    refine r_iconst (q := 13) (nI 1) dX12_acted_12 rfl (by decide) ?_
    refine r_iaddN (q := 14) dX12_acted_13 rfl ?_
    refine r_ialdN (q := 15) 2346 (by decide) rfl dX12_acted_14 rfl (hs.e (by decide)) (hs.n rfl (by decide)) (by omega) (by decide) ?_
    refine r_topi (y := nI (wA W)) hwA ?_
    refine r_icmp_geN (q := 18) (t := 312) (by omega) (by omega) dX12_acted_15 (by decide) rfl (fun h15 => ?_) (fun h15 => absurd h15 (by omega))
    refine r_return dX12_acted_312 rfl ?_
    exact ⟨rfl, Fr.rf, hI, pv, bs, hA, MoR.rf, fun a' j p h1 h2 => absurd h1 (by omega)⟩
  | succ d ih =>
    intro a S pv bs w4 w5 w6 w7 w8 w9 w10 w11 had hI hA
    have ha : a < wA W := by omega
    have he := hE.2 a ha
    have hs := hI.1
    have hwA := hI.2.1.1
    have hwa := hI.2.1.2 a ha
    refine r_mask [true, true, true, true, false, false, false, false, false, false, false, false] rfl ?_
    refine r_iload_n (q := 3) dX12_acted_2 rfl rfl rfl ?_
    refine r_aload_n (q := 4) dX12_acted_3 rfl rfl rfl ?_
    refine r_getr (q := 7) (some (1322, 0)) ck12 dX12_acted_4 rfl (k := 22) (by decide) wt1300 rfl (hs.e (by decide)) (hs.r (by decide) (by decide)) ?_
    refine r_sipush (q := 10) (nI 1173) dX12_acted_7 rfl (by decide) ?_
    refine r_iload_n (q := 11) dX12_acted_10 rfl rfl rfl ?_
    refine r_imulN (q := 12) dX12_acted_11 rfl ?_
    refine r_iconst (q := 13) (nI 1) dX12_acted_12 rfl (by decide) ?_
    refine r_iaddN (q := 14) dX12_acted_13 rfl ?_
    refine r_ialdN (q := 15) 2346 (by decide) rfl dX12_acted_14 rfl (hs.e (by decide)) (hs.n rfl (by decide)) (by omega) (by decide) ?_
    refine r_topi (y := nI (wA W)) hwA ?_
    refine r_icmp_geN (q := 18) (t := 312) (by omega) (by omega) dX12_acted_15 (by decide) rfl (fun h15 => absurd h15 (by omega)) (fun h15 => ?_)
    refine r_aload_n (q := 19) dX12_acted_18 rfl rfl rfl ?_
    refine r_getr (q := 22) (some (1322, 0)) ck12 dX12_acted_19 rfl (k := 22) (by decide) wt1300 rfl (hs.e (by decide)) (hs.r (by decide) (by decide)) ?_
    refine r_sipush (q := 25) (nI 1173) dX12_acted_22 rfl (by decide) ?_
    refine r_iload_n (q := 26) dX12_acted_25 rfl rfl rfl ?_
    refine r_imulN (q := 27) dX12_acted_26 rfl ?_
    refine r_iconst (q := 28) (nI 4) dX12_acted_27 rfl (by decide) ?_
    refine r_iaddN (q := 29) dX12_acted_28 rfl ?_
    refine r_iload_n (q := 30) dX12_acted_29 rfl rfl rfl ?_
    refine r_iaddN (q := 31) dX12_acted_30 rfl ?_
    refine r_ialdN (q := 32) 2346 (by decide) rfl dX12_acted_31 rfl (hs.e (by decide)) (hs.n rfl (by decide)) (by omega) (by decide) ?_
    refine r_topi (y := nI (we W a)) hwa ?_
    refine r_istore (q := 34) (L' := [some (zr 12 0), some (zi (nI q)), some (zi (nI n)), some (zi (nI a)), some (zi (nI (we W a))), none, none, none, none, none, none, none]) dX12_acted_32 rfl (by decide) rfl ?_
    refine r_iconst (q := 35) (nI 0) dX12_acted_34 rfl (by decide) ?_
    refine r_istore (q := 37) (L' := [some (zr 12 0), some (zi (nI q)), some (zi (nI n)), some (zi (nI a)), some (zi (nI (we W a))), some (zi (nI 0)), none, none, none, none, none, none]) dX12_acted_35 rfl (by decide) rfl ?_
    refine lp_ac37 hW hq hn7 ha hbn300 hF4n hIl (we W a) 0 S pv bs none none none none none none (by omega) hI hA (fun S2 pv2 bs2 w6 w7 w8 w9 w10 w11 y1 y2 y3 y4 y5 => ?_)
    have hs2 := y2.1
    refine r_mask [true, true, true, true, false, false, false, false, false, false, false, false] rfl ?_
    refine r_iincN (q := 309) (L' := [some (zr 12 0), some (zi (nI q)), some (zi (nI n)), some (zi (nI (a + 1))), none, none, none, none, none, none, none, none]) 1 rfl dX12_acted_306 rfl rfl (by decide) rfl ?_
    refine r_goto (q := 2) dX12_acted_309 (by decide) ?_
    refine Ok.mono (ih (a + 1) S2 pv2 bs2 _ _ _ _ _ _ _ _ (by omega) y2 y3) (fun r S4 z => ?_)
    obtain ⟨z1, z2, z3, pv4, bs4, z4, z5, z6⟩ := z
    exact ⟨z1, y1.tr z2, z3, pv4, bs4, z4, MoR.tr y4 z5, fun a' j p h1 h2 h3 h4 => if e : a' = a then by subst e; exact (y5 j (by omega) h3 p h4).mo z5 else z6 a' j p (by omega) h2 h3 h4⟩

set_option maxRecDepth 100000 in
theorem ok_acted {W : zWd} (hW : Wok W) {q n : Nat} (hq : q ≤ 1) (hn7 : n ≤ 7) {pvs : Nat → Nat → Bool} {bss : Nat → Nat → Nat → Nat} (hbn300 : (tl W n).length ≤ 300) (hF4n : FqR q W n + (tl W n).length ≤ 4400) (hIl : ∀ s k, 1 ≤ s → s < n → k < (tl W s).length → pvs s k = true → Id W s (V (tl W s) (RR (bss s) k))) {S : zS} {pv : Nat → Bool} {bs : Nat → Nat → Nat} (hI : EnvR S W q n pvs bss) (hA : AcS S W q n pv bs) : Ok mX12_acted 0 (ent 12 [zr 12 0, zi (nI q), zi (nI n)]) [] S (fun r S1 => r = none ∧ Fr (tAl W q n) S S1 ∧ EnvR S1 W q n pvs bss ∧ ∃ pv1 bs1, AcS S1 W q n pv1 bs1 ∧ MoR W n pv bs pv1 bs1 ∧ ∀ a' j p, a' < wA W → j < we W a' → p ∈ allF (bdW W) (cmp (we W a') n) → HdA W n pvs bss pv1 bs1 a' j p) := by
  have hs := hI.1
  show Ok mX12_acted 0 [some (zr 12 0), some (zi (nI q)), some (zi (nI n)), none, none, none, none, none, none, none, none, none] [] S _
  refine r_iconst (q := 1) (nI 0) dX12_acted_0 rfl (by decide) ?_
  refine r_istore_n (q := 2) (L' := [some (zr 12 0), some (zi (nI q)), some (zi (nI n)), some (zi (nI 0)), none, none, none, none, none, none, none, none]) dX12_acted_1 rfl rfl (by decide) rfl ?_
  refine Ok.mono (lp_ac2 hW hq hn7 hbn300 hF4n hIl (wA W) 0 S pv bs none none none none none none none none (by omega) hI hA) (fun r S4 z => ?_)
  obtain ⟨z1, z2, z3, pv4, bs4, z4, z5, z6⟩ := z
  exact ⟨z1, z2, z3, pv4, bs4, z4, z5, fun a' j p h2 h3 h4 => z6 a' j p (by omega) h2 h3 h4⟩

