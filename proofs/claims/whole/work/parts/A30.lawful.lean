/-! lawful -/
/-- the laws of a world in the reference -/
def WL (S : zS) (q : Nat) (W : zWd) : Prop := gI S 1322 0 (1173 * q + 2) = nI (wL W) ∧ (∀ L, L < wL W → gI S 1322 0 (1173 * q + 7 + L) = nI (lw W L).1) ∧ (∀ L, L ≤ wL W → gI S 1322 0 (1173 * q + 25 + L) = nI (lf W L)) ∧ ∀ L k, L < wL W → k < (lw W L).2.length → gI S 1322 0 (1173 * q + 44 + (lf W L + k)) = nI (cd ((lw W L).2.getD k zd).1) ∧ gI S 1322 0 (1173 * q + 244 + (lf W L + k)) = nI ((lw W L).2.getD k zd).2
theorem WL.fr {S S1 : zS} {q : Nat} {W : zWd} {U : Nat → Nat → Nat → Bool} (h : WL S q W) (f : Fr U S S1) (t : ∀ k, U 1322 0 k = false) : WL S1 q W := ⟨(f.1 _ _ _ (t _)).trans h.1, fun L hL => (f.1 _ _ _ (t _)).trans (h.2.1 L hL), fun L hL => (f.1 _ _ _ (t _)).trans (h.2.2.1 L hL), fun L k hL hk => ⟨(f.1 _ _ _ (t _)).trans (h.2.2.2 L k hL hk).1, (f.1 _ _ _ (t _)).trans (h.2.2.2 L k hL hk).2⟩⟩
theorem law_get {W : zWd} (hW : Wok W) {L k : Nat} (hL : L < wL W) (hk : k < (lw W L).2.length) : Tr (wA W) (we W) (lw W L).1 ((lw W L).2.getD k zd).1 ∧ ((lw W L).2.getD k zd).2 < wP W := (hW.2.2.2.2.2 L hL).2.2.1.2 _ (mem_getD hk)

set_option maxRecDepth 100000 in
theorem lp_lf91 {W : zWd} (hW : Wok W) {q n L : Nat} (hq : q ≤ 1) (hn7 : n ≤ 7) (hL : L < wL W) {pvs : Nat → Nat → Bool} {bss : Nat → Nat → Nat → Nat} (hbn300 : (tl W n).length ≤ 300) (hF4n : FqR q W n + (tl W n).length ≤ 4400) {i : Nat} {ks : List Nat} {p : List Nat × List Nat} (hp : p = (((cmp (lw W L).1 n).getD i []), ks)) {x5 : Int32} {Po : Option zV → zS → Prop} : ∀ (d k : Nat) (S : zS) (v : Nat → Nat) (w7 : Option zV), k + d = (lw W L).2.length → EnvR S W q n pvs bss → WL S q W → gI S 1322 0 (1173 * q) = nI (wP W) → PS S q (lw W L).1 n (bdW W) i ks → Vr S (tl W n).length (wP W) v → AccV (wP W) (tl W n) v (mp (fun t => fl t (pt W p)) (lz ((lw W L).2.take k))) → (∀ S1 v1 w7, Fr (tAl W q n) S S1 → Fr (fun x y k => tRv x y k || tPa x y k) S S1 → Vr S1 (tl W n).length (wP W) v1 → AccV (wP W) (tl W n) v1 (rwL W L p) → Ok mX12_lawful 192 [some (zr 12 0), some (zi (nI q)), some (zi (nI n)), some (zi (nI L)), some (zi (nI (lw W L).1)), some (zi x5), some (zi (nI (lf W L + (lw W L).2.length))), w7] [] S1 Po) → Ok mX12_lawful 91 [some (zr 12 0), some (zi (nI q)), some (zi (nI n)), some (zi (nI L)), some (zi (nI (lw W L).1)), some (zi x5), some (zi (nI (lf W L + k))), w7] [] S Po := by
  have hE := hW.2.1
  have hP2 := hW.1.1
  have hP97 := hW.1.2.1
  have hL18 := hW.2.2.2.1
  have hLw := hW.2.2.2.2.2 L hL
  have hlf2 := hW.lf2 hL
  intro d
  induction d with
  | zero =>
    intro k S v w7 hkd hI hwl hwP hPS hV hA K
    obtain rfl : k = (lw W L).2.length := by omega
    have hs := hI.1
    rw [List.take_length] at hA
    have hend : gI S 1322 0 (1173 * q + 25 + L + 1) = nI (lf W L + (lw W L).2.length) := by have := hwl.2.2.1 (L + 1) hL; rw [lf_succ hL] at this; exact this
    refine r_mask [true, true, true, true, true, true, true, false] rfl ?_
    refine r_iload (q := 93) dX12_lawful_91 rfl rfl ?_
    refine r_aload_n (q := 94) dX12_lawful_93 rfl rfl rfl ?_
    refine r_getr (q := 97) (some (1322, 0)) ck12 dX12_lawful_94 rfl (k := 22) (by decide) wt1300 rfl (hs.e (by decide)) (hs.r (by decide) (by decide)) ?_
    refine r_sipush (q := 100) (nI 1173) dX12_lawful_97 rfl (by decide) ?_
    refine r_iload_n (q := 101) dX12_lawful_100 rfl rfl rfl ?_
    refine r_imulN (q := 102) dX12_lawful_101 rfl ?_
    refine r_bipush (q := 104) (nI 25) dX12_lawful_102 rfl (by decide) ?_
    refine r_iaddN (q := 105) dX12_lawful_104 rfl ?_
    refine r_iload_n (q := 106) dX12_lawful_105 rfl rfl rfl ?_
    refine r_iaddN (q := 107) dX12_lawful_106 rfl ?_
    refine r_iconst (q := 108) (nI 1) dX12_lawful_107 rfl (by decide) ?_
    refine r_iaddN (q := 109) dX12_lawful_108 rfl ?_
    refine r_ialdN (q := 110) 2346 (by decide) rfl dX12_lawful_109 rfl (hs.e (by decide)) (hs.n rfl (by decide)) (by omega) (by decide) ?_
    refine r_topi (y := nI (lf W L + (lw W L).2.length)) hend ?_
    refine r_icmp_geN (q := 113) (t := 192) (by omega) (by omega) dX12_lawful_110 (by decide) rfl (fun h110 => ?_) (fun h110 => absurd h110 (by omega))
    exact K S v _ Fr.rf Fr.rf hV hA
  | succ d ih =>
    intro k S v w7 hkd hI hwl hwP hPS hV hA K
    have hs := hI.1
    have hk : k < (lw W L).2.length := by omega
    have hend : gI S 1322 0 (1173 * q + 25 + L + 1) = nI (lf W L + (lw W L).2.length) := by have := hwl.2.2.1 (L + 1) hL; rw [lf_succ hL] at this; exact this
    obtain ⟨d1, d2⟩ := hwl.2.2.2 L k hL hk
    obtain ⟨htr, hnum⟩ := law_get hW hL hk
    obtain ⟨l1, l2, l3, rr, l4, l5⟩ := hI.2.2.2.2.1
    have hmem : p ∈ allF (bdW W) (cmp (lw W L).1 n) := by rw [hp]; exact PS.mem (by omega) hPS
    have hall := allF_get hmem
    have hsp := pt_spec hE p.1 p.2 hall.2.1 hall.2.2.2.2
    obtain ⟨ix, hix, hixe⟩ := mem_idx ((tl_mem hE).mpr (fl_tr hsp.2.1 htr (hsp.1.trans hall.1) (hsp.2.2.1.trans hall.2.2.1)))
    have hixe' : fl ((lw W L).2.getD k zd).1 (pt W (((cmp (lw W L).1 n).getD i []), ks)) = (tl W n).getD ix [] := by rw [hixe, hp]
    have hbt : cd ((lw W L).2.getD k zd).1 < 2 ^ 29 := cd_le (htr.tok hE) (by have := (htr.len hE).1; omega)
    refine r_mask [true, true, true, true, true, true, true, false] rfl ?_
    refine r_iload (q := 93) dX12_lawful_91 rfl rfl ?_
    refine r_aload_n (q := 94) dX12_lawful_93 rfl rfl rfl ?_
    refine r_getr (q := 97) (some (1322, 0)) ck12 dX12_lawful_94 rfl (k := 22) (by decide) wt1300 rfl (hs.e (by decide)) (hs.r (by decide) (by decide)) ?_
    refine r_sipush (q := 100) (nI 1173) dX12_lawful_97 rfl (by decide) ?_
    refine r_iload_n (q := 101) dX12_lawful_100 rfl rfl rfl ?_
    refine r_imulN (q := 102) dX12_lawful_101 rfl ?_
    refine r_bipush (q := 104) (nI 25) dX12_lawful_102 rfl (by decide) ?_
    refine r_iaddN (q := 105) dX12_lawful_104 rfl ?_
    refine r_iload_n (q := 106) dX12_lawful_105 rfl rfl rfl ?_
    refine r_iaddN (q := 107) dX12_lawful_106 rfl ?_
    refine r_iconst (q := 108) (nI 1) dX12_lawful_107 rfl (by decide) ?_
    refine r_iaddN (q := 109) dX12_lawful_108 rfl ?_
    refine r_ialdN (q := 110) 2346 (by decide) rfl dX12_lawful_109 rfl (hs.e (by decide)) (hs.n rfl (by decide)) (by omega) (by decide) ?_
    refine r_topi (y := nI (lf W L + (lw W L).2.length)) hend ?_
    refine r_icmp_geN (q := 113) (t := 192) (by omega) (by omega) dX12_lawful_110 (by decide) rfl (fun h110 => absurd h110 (by omega)) (fun h110 => ?_)
    refine r_aload_n (q := 114) dX12_lawful_113 rfl rfl rfl ?_
    refine r_iload_n (q := 115) dX12_lawful_114 rfl rfl rfl ?_
    refine r_iload_n (q := 116) dX12_lawful_115 rfl rfl rfl ?_
    refine r_aload_n (q := 117) dX12_lawful_116 rfl rfl rfl ?_
    refine r_aload_n (q := 118) dX12_lawful_117 rfl rfl rfl ?_
    refine r_getr (q := 121) (some (1322, 0)) ck12 dX12_lawful_118 rfl (k := 22) (by decide) wt1300 rfl (hs.e (by decide)) (hs.r (by decide) (by decide)) ?_
    refine r_sipush (q := 124) (nI 1173) dX12_lawful_121 rfl (by decide) ?_
    refine r_iload_n (q := 125) dX12_lawful_124 rfl rfl rfl ?_
    refine r_imulN (q := 126) dX12_lawful_125 rfl ?_
    refine r_bipush (q := 128) (nI 44) dX12_lawful_126 rfl (by decide) ?_
    refine r_iaddN (q := 129) dX12_lawful_128 rfl ?_
    refine r_iload (q := 131) dX12_lawful_129 rfl rfl ?_
    refine r_iaddN (q := 132) dX12_lawful_131 rfl ?_
    refine r_ialdN (q := 133) 2346 (by decide) rfl dX12_lawful_132 rfl (hs.e (by decide)) (hs.n rfl (by decide)) (by omega) (by decide) ?_
    refine r_topi (y := nI (cd ((lw W L).2.getD k zd).1)) d1 ?_
    refine r_callV (Mc := mX12_filled) (q := 136) (As := [zi (nI (cd ((lw W L).2.getD k zd).1))]) (st := [zi (nI n), zi (nI q), zr 12 0]) ck12 dX12_lawful_133 rfl rfl mkX12_filled wt1832 wt1834 wp118 rfl (Nat.le_of_ble_eq_true rfl) (Nat.le_of_ble_eq_true rfl) (by decide) (by decide) (by decide) (Or.inl rfl) (hs.e (by decide)) (ok_filled hs hE hq (show (lw W L).1 ≤ 7 from hLw.2.1) hLw.1 hn7 hPS hI.2.2.1 htr) (fun r133 S133 hp133 => ?_)
    rw [hixe'] at hp133
    obtain ⟨rfl, f1⟩ := hp133
    have g1 : Fr (tAl W q n) S S133 := f1.mono tAc_pa
    have hI1 : EnvR S133 W q n pvs bss := hI.fr hE g1
    have hs1 := hI1.1
    have hV1 : Vr S133 (tl W n).length (wP W) v := fun z hz => ⟨(f1.1 _ _ _ rfl).trans (hV z hz).1, (hV z hz).2⟩
    have hvx := (hV ix hix).2
    show Ok _ _ _ [zi (nI (cd ((tl W n).getD ix []))), zi (nI n), zi (nI q), zr 12 0] _ _
    refine r_callV (Mc := mX12_place) (q := 139) (As := [zi (nI q), zi (nI n), zi (nI (cd ((tl W n).getD ix [])))]) (st := []) ck12 dX12_lawful_136 rfl rfl mkX12_place wt1816 wt1818 wp114 rfl (Nat.le_of_ble_eq_true rfl) (Nat.le_of_ble_eq_true rfl) (by decide) (by decide) (by decide) (Or.inl rfl) (hs1.e (by decide)) (ok_place hq hn7 hbn300 hF4n hs1 hI1.2.2.2.2.1.1 hI1.2.2.2.2.1.2.1 (l3.fr f1 (fun _ _ => rfl)) l4 ⟨fun z hz => (f1.1 _ _ _ rfl).trans (l5.1 z hz), l5.2⟩ hix) (fun r136 S136 hp136 => ?_)
    obtain ⟨rfl, hq136⟩ := hp136
    rw [hq136]
    show Ok _ _ _ [zi (nI ix)] _ _
    refine r_istore (q := 141) (L' := [some (zr 12 0), some (zi (nI q)), some (zi (nI n)), some (zi (nI L)), some (zi (nI ((lw W L).1))), some (zi x5), some (zi (nI (lf W L + k))), some (zi (nI ix))]) dX12_lawful_139 rfl (by decide) rfl ?_
    refine r_aload_n (q := 142) dX12_lawful_141 rfl rfl rfl ?_
    refine r_getr (q := 145) (some (1341, 0)) ck12 dX12_lawful_142 rfl (k := 41) (by decide) wt1319 rfl (hs1.e (by decide)) (hs1.r (by decide) (by decide)) ?_
    refine r_iload (q := 147) dX12_lawful_145 rfl rfl ?_
    refine r_aload_n (q := 148) dX12_lawful_147 rfl rfl rfl ?_
    refine r_getr (q := 151) (some (1341, 0)) ck12 dX12_lawful_148 rfl (k := 41) (by decide) wt1319 rfl (hs1.e (by decide)) (hs1.r (by decide) (by decide)) ?_
    refine r_iload (q := 153) dX12_lawful_151 rfl rfl ?_
    refine r_ialdN (q := 154) 300 (by decide) rfl dX12_lawful_153 rfl (hs1.e (by decide)) (hs1.n rfl (by decide)) (by omega) (by decide) ?_
    refine r_topi (y := nI (v ix)) (hV1 ix hix).1 ?_
    refine r_aload_n (q := 155) dX12_lawful_154 rfl rfl rfl ?_
    refine r_getr (q := 158) (some (1322, 0)) ck12 dX12_lawful_155 rfl (k := 22) (by decide) wt1300 rfl (hs1.e (by decide)) (hs1.r (by decide) (by decide)) ?_
    refine r_sipush (q := 161) (nI 1173) dX12_lawful_158 rfl (by decide) ?_
    refine r_iload_n (q := 162) dX12_lawful_161 rfl rfl rfl ?_
    refine r_imulN (q := 163) dX12_lawful_162 rfl ?_
    refine r_sipush (q := 166) (nI 244) dX12_lawful_163 rfl (by decide) ?_
    refine r_iaddN (q := 167) dX12_lawful_166 rfl ?_
    refine r_iload (q := 169) dX12_lawful_167 rfl rfl ?_
    refine r_iaddN (q := 170) dX12_lawful_169 rfl ?_
    refine r_ialdN (q := 171) 2346 (by decide) rfl dX12_lawful_170 rfl (hs1.e (by decide)) (hs1.n rfl (by decide)) (by omega) (by decide) ?_
    refine r_topi (y := nI (((lw W L).2.getD k zd).2)) ((f1.1 _ _ _ rfl).trans d2) ?_
    refine r_iaddN (q := 172) dX12_lawful_171 rfl ?_
    refine r_aload_n (q := 173) dX12_lawful_172 rfl rfl rfl ?_
    refine r_getr (q := 176) (some (1322, 0)) ck12 dX12_lawful_173 rfl (k := 22) (by decide) wt1300 rfl (hs1.e (by decide)) (hs1.r (by decide) (by decide)) ?_
    refine r_sipush (q := 179) (nI 1173) dX12_lawful_176 rfl (by decide) ?_
    refine r_iload_n (q := 180) dX12_lawful_179 rfl rfl rfl ?_
    refine r_imulN (q := 181) dX12_lawful_180 rfl ?_
    refine r_iconst (q := 182) (nI 0) dX12_lawful_181 rfl (by decide) ?_
    refine r_iaddN (q := 183) dX12_lawful_182 rfl ?_
    refine r_ialdN (q := 184) 2346 (by decide) rfl dX12_lawful_183 rfl (hs1.e (by decide)) (hs1.n rfl (by decide)) (by omega) (by decide) ?_
    refine r_topi (y := nI (wP W)) ((f1.1 _ _ _ rfl).trans hwP) ?_
    refine r_iremN (q := 185) (by omega) (by omega) (by omega) dX12_lawful_184 rfl ?_
    refine r_iastN (q := 186) 300 (by decide) rfl dX12_lawful_185 rfl (hs1.e (by decide)) (hs1.n rfl (by decide)) (by omega) (by decide) ?_
    refine r_iincN (q := 189) (L' := [some (zr 12 0), some (zi (nI q)), some (zi (nI n)), some (zi (nI L)), some (zi (nI ((lw W L).1))), some (zi x5), some (zi (nI (lf W L + k + 1))), some (zi (nI ix))]) 1 rfl dX12_lawful_186 rfl rfl (by decide) rfl ?_
    refine r_goto (q := 91) dX12_lawful_189 (by decide) ?_
    have hm : (v ix + ((lw W L).2.getD k zd).2) % wP W < wP W := Nat.mod_lt _ (by omega)
    have f2 : Fr tRv S133 (sI S133 1341 0 ix (nI ((v ix + ((lw W L).2.getD k zd).2) % wP W))) := (Fr.rf).i rfl
    have g2 : Fr (tAl W q n) S (sI S133 1341 0 ix (nI ((v ix + ((lw W L).2.getD k zd).2) % wP W))) := g1.tr (f2.mono tAc_rv)
    have g3 : Fr (fun x y k => tRv x y k || tPa x y k) S (sI S133 1341 0 ix (nI ((v ix + ((lw W L).2.getD k zd).2) % wP W))) := (f1.mono (fun x y k h => by simp [h])).tr (f2.mono (fun x y k h => by simp [h]))
    exact ih (k + 1) _ _ _ (by omega) (hI.fr hE g2) (hwl.fr g2 (fun _ => tAc_f (by omega))) ((g2.1 _ _ _ (tAc_f (by omega))).trans hwP) (hPS.fr g3 ⟨rfl, rfl, fun _ => ⟨rfl, rfl⟩⟩) (hV1.set hm) (by rw [lz_snoc hk, mp_app]; have := acc_addN tl_nodup hA hix (x := ((lw W L).2.getD k zd).2); rw [hixe] at this; exact this) (fun S1 v1 w7 y1 y2 y3 y4 => K S1 v1 w7 (g2.tr y1) (g3.tr y2) y3 y4)

set_option maxRecDepth 100000 in
theorem lp_lf45 {W : zWd} (hW : Wok W) {q n L : Nat} (hq : q ≤ 1) (hn7 : n ≤ 7) (hL : L < wL W) {pvs : Nat → Nat → Bool} {bss : Nat → Nat → Nat → Nat} (hbn300 : (tl W n).length ≤ 300) (hF4n : FqR q W n + (tl W n).length ≤ 4400) {Po : Option zV → zS → Prop} : ∀ (rem : List (List Nat × List Nat)) (S : zS) (pv : Nat → Bool) (bs : Nat → Nat → Nat) (v : Int32) (w6 w7 : Option zV), EnvR S W q n pvs bss → WL S q W → AcS S W q n pv bs → (∀ p, p ∈ rem → p ∈ allF (bdW W) (cmp (lw W L).1 n)) → (v = nI 0 ∧ rem = [] ∨ v = nI 1 ∧ ∃ i ks, PS S q (lw W L).1 n (bdW W) i ks ∧ rem = (((cmp (lw W L).1 n).getD i []), ks) :: RM (bdW W) (lw W L).1 n i ks) → (∀ S1 pv1 bs1 w5 w6 w7, Fr (tAl W q n) S S1 → EnvR S1 W q n pvs bss → AcS S1 W q n pv1 bs1 → MoR W n pv bs pv1 bs1 → (∀ p, p ∈ rem → Sp (wP W) (Rw (tl W n) pv1 (RR bs1)) (rwL W L p)) → Ok mX12_lawful 207 [some (zr 12 0), some (zi (nI q)), some (zi (nI n)), some (zi (nI L)), some (zi (nI (lw W L).1)), w5, w6, w7] [] S1 Po) → Ok mX12_lawful 45 [some (zr 12 0), some (zi (nI q)), some (zi (nI n)), some (zi (nI L)), some (zi (nI (lw W L).1)), some (zi v), w6, w7] [] S Po := by
  have hE := hW.2.1
  have hL18 := hW.2.2.2.1
  have hLw := hW.2.2.2.2.2 L hL
  have hlf2 := hW.lf2 hL
  intro rem
  induction rem with
  | nil =>
    intro S pv bs v w6 w7 hI hwl hA hal hv K
    obtain ⟨rfl, _⟩ : v = nI 0 ∧ True := by
      rcases hv with z | ⟨_, i, ks, _, z⟩
      · exact ⟨z.1, trivial⟩
      · cases z
    have hs := hI.1
    refine r_mask [true, true, true, true, true, true, false, false] rfl ?_
    refine r_iload (q := 47) dX12_lawful_45 rfl rfl ?_
    refine r_if_eqN (q := 50) (t := 207) (by omega) dX12_lawful_47 (by decide) rfl (fun h47 => ?_) (fun h47 => absurd h47 (by omega))
    exact K S pv bs _ _ _ Fr.rf hI hA MoR.rf (fun p hp => absurd hp List.not_mem_nil)
  | cons p rem ih =>
    intro S pv bs v w6 w7 hI hwl hA hal hv K
    obtain ⟨rfl, i, ks, hPS, hrem⟩ : v = nI 1 ∧ ∃ i ks, PS S q (lw W L).1 n (bdW W) i ks ∧ p :: rem = (((cmp (lw W L).1 n).getD i []), ks) :: RM (bdW W) (lw W L).1 n i ks := by
      rcases hv with ⟨_, z⟩ | z
      · cases z
      · exact z
    obtain ⟨hp, hr⟩ := List.cons.inj hrem
    have hs := hI.1
    have hmem := hal p List.mem_cons_self
    have hfi := rwL_fi hE hL hmem
    have hin : ∀ L p, L < wL W → p ∈ allF (bdW W) (cmp (lw W L).1 n) → ∀ z, z ∈ rwL W L p → z.1 ∈ tl W n := fun L p hL hp z hz => by
      obtain ⟨r, hr, e⟩ := mp_mem hz
      rw [e]
      have hall := allF_get hp
      have hsp := pt_spec hE p.1 p.2 hall.2.1 hall.2.2.2.2
      exact (tl_mem hE).mpr (fl_tr hsp.2.1 (lw_tr hW hL hr) (hsp.1.trans hall.1) (hsp.2.2.1.trans hall.2.2.1))
    have hal' : ∀ p, p ∈ rem → p ∈ allF (bdW W) (cmp (lw W L).1 n) := fun r hr => hal r (List.mem_cons_of_mem _ hr)
    obtain ⟨hB, hok, hrk, hid⟩ := hA
    have hcl := cntp_le (pv := pv) (tl W n).length
    have hst := hwl.2.2.1 L (by omega)
    refine r_mask [true, true, true, true, true, true, false, false] rfl ?_
    by_cases hfull : cntp pv (tl W n).length = (tl W n).length
    · skip
      refine r_iload (q := 47) dX12_lawful_45 rfl rfl ?_
      refine r_if_eqN (q := 50) (t := 207) (by omega) dX12_lawful_47 (by decide) rfl (fun h47 => absurd h47 (by omega)) (fun h47 => ?_)
      refine r_aload_n (q := 51) dX12_lawful_50 rfl rfl rfl ?_
      refine r_iload_n (q := 52) dX12_lawful_51 rfl rfl rfl ?_
      refine r_iload_n (q := 53) dX12_lawful_52 rfl rfl rfl ?_
      refine r_callV (Mc := mX12_isFull) (q := 56) (As := [zi (nI q), zi (nI n)]) (st := []) ck12 dX12_lawful_53 rfl rfl mkX12_isFull wt1804 wt1806 wp111 rfl (Nat.le_of_ble_eq_true rfl) (Nat.le_of_ble_eq_true rfl) (by decide) (by decide) (by decide) (Or.inl rfl) (hs.e (by decide)) (ok_isFull_y hs hq hn7 hbn300 hcl hrk hB.2.1 hfull) (fun r53 S53 hp53 => ?_)
      obtain ⟨rfl, hq53⟩ := hp53
      rw [hq53]
      show Ok _ _ _ [zi (nI 1)] _ _
      refine r_if_neN (q := 59) (t := 207) (by omega) dX12_lawful_56 (by decide) rfl (fun h56 => ?_) (fun h56 => absurd h56 (by omega))
      exact K S pv bs _ _ _ Fr.rf hI ⟨hB, hok, hrk, hid⟩ MoR.rf (fun r hr => full_sp tl_nodup hok hfull (hin L r hL (hal r hr)))
    · skip
      refine r_iload (q := 47) dX12_lawful_45 rfl rfl ?_
      refine r_if_eqN (q := 50) (t := 207) (by omega) dX12_lawful_47 (by decide) rfl (fun h47 => absurd h47 (by omega)) (fun h47 => ?_)
      refine r_aload_n (q := 51) dX12_lawful_50 rfl rfl rfl ?_
      refine r_iload_n (q := 52) dX12_lawful_51 rfl rfl rfl ?_
      refine r_iload_n (q := 53) dX12_lawful_52 rfl rfl rfl ?_
      refine r_callV (Mc := mX12_isFull) (q := 56) (As := [zi (nI q), zi (nI n)]) (st := []) ck12 dX12_lawful_53 rfl rfl mkX12_isFull wt1804 wt1806 wp111 rfl (Nat.le_of_ble_eq_true rfl) (Nat.le_of_ble_eq_true rfl) (by decide) (by decide) (by decide) (Or.inl rfl) (hs.e (by decide)) (ok_isFull_n hs hq hn7 hbn300 hcl hrk hB.2.1 hfull) (fun r53 S53 hp53 => ?_)
      obtain ⟨rfl, hq53⟩ := hp53
      rw [hq53]
      show Ok _ _ _ [zi (nI 0)] _ _
      refine r_if_neN (q := 59) (t := 207) (by omega) dX12_lawful_56 (by decide) rfl (fun h56 => absurd h56 (by omega)) (fun h56 => ?_)
      refine r_aload_n (q := 60) dX12_lawful_59 rfl rfl rfl ?_
      refine r_aload_n (q := 61) dX12_lawful_60 rfl rfl rfl ?_
      refine r_getr (q := 64) (some (1324, 0)) ck12 dX12_lawful_61 rfl (k := 24) (by decide) wt1302 rfl (hs.e (by decide)) (hs.r (by decide) (by decide)) ?_
      refine r_bipush (q := 66) (nI 8) dX12_lawful_64 rfl (by decide) ?_
      refine r_iload_n (q := 67) dX12_lawful_66 rfl rfl rfl ?_
      refine r_imulN (q := 68) dX12_lawful_67 rfl ?_
      refine r_iload_n (q := 69) dX12_lawful_68 rfl rfl rfl ?_
      refine r_iaddN (q := 70) dX12_lawful_69 rfl ?_
      refine r_ialdN (q := 71) 16 (by decide) rfl dX12_lawful_70 rfl (hs.e (by decide)) (hs.n rfl (by decide)) (by omega) (by decide) ?_
      refine r_topi (y := nI ((tl W n).length)) hB.2.1 ?_
      refine r_callV (Mc := mX12_clearRow) (q := 74) (As := [zi (nI ((tl W n).length))]) (st := []) ck12 dX12_lawful_71 rfl rfl mkX12_clearRow wt1812 wt1814 wp113 rfl (Nat.le_of_ble_eq_true rfl) (Nat.le_of_ble_eq_true rfl) (by decide) (by decide) (by decide) (Or.inl rfl) (hs.e (by decide)) (ok_clearRow hs (show 0 < wP W from Nat.lt_of_lt_of_le (by decide) hW.1.1) hbn300) (fun r71 S71 hp71 => ?_)
      obtain ⟨rfl, f1, hV1⟩ := hp71
      have g1 : Fr (tAl W q n) S S71 := f1.mono tAc_rv
      have hI1 : EnvR S71 W q n pvs bss := hI.fr hE g1
      have hst1 := (f1.1 1322 0 (1173 * q + 25 + L) rfl).trans hst
      show Ok _ _ _ [] _ _
      refine r_aload_n (q := 75) dX12_lawful_74 rfl rfl rfl ?_
      refine r_getr (q := 78) (some (1322, 0)) ck12 dX12_lawful_75 rfl (k := 22) (by decide) wt1300 rfl (hI1.1.e (by decide)) (hI1.1.r (by decide) (by decide)) ?_
      refine r_sipush (q := 81) (nI 1173) dX12_lawful_78 rfl (by decide) ?_
      refine r_iload_n (q := 82) dX12_lawful_81 rfl rfl rfl ?_
      refine r_imulN (q := 83) dX12_lawful_82 rfl ?_
      refine r_bipush (q := 85) (nI 25) dX12_lawful_83 rfl (by decide) ?_
      refine r_iaddN (q := 86) dX12_lawful_85 rfl ?_
      refine r_iload_n (q := 87) dX12_lawful_86 rfl rfl rfl ?_
      refine r_iaddN (q := 88) dX12_lawful_87 rfl ?_
      refine r_ialdN (q := 89) 2346 (by decide) rfl dX12_lawful_88 rfl (hI1.1.e (by decide)) (hI1.1.n rfl (by decide)) (by omega) (by decide) ?_
      refine r_topi (y := nI (lf W L + 0)) hst1 ?_
      refine r_istore (q := 91) (L' := [some (zr 12 0), some (zi (nI q)), some (zi (nI n)), some (zi (nI L)), some (zi (nI ((lw W L).1))), some (zi (nI 1)), some (zi (nI (lf W L + 0))), none]) dX12_lawful_89 rfl (by decide) rfl ?_
      have hPS1 := hPS.fr f1 ⟨rfl, rfl, fun _ => ⟨rfl, rfl⟩⟩
      refine lp_lf91 hW hq hn7 hL hbn300 hF4n hp (lw W L).2.length 0 S71 (fun _ => 0) none (by omega) hI1 (hwl.fr f1 (fun _ => rfl)) ((f1.1 _ _ _ rfl).trans hB.1) hPS1 hV1 acc_nil (fun S2 v2' w7 y0 y1 y2 y3 => ?_)
      have g2 : Fr (tAl W q n) S S2 := g1.tr y0
      have hI2 : EnvR S2 W q n pvs bss := hI.fr hE g2
      have hs2 := hI2.1
      have f12 : Fr (fun x y k => tRv x y k || tPa x y k) S S2 := (f1.mono (fun x y k h => by simp [h])).tr y1
      have hA2 : AcS S2 W q n pv bs := AcS.fr ⟨hB, hok, hrk, hid⟩ f12 (fun x k hx => by simp [tRv, tPa]; omega)
      have hPS2 := hPS.fr f12 ⟨rfl, rfl, fun _ => ⟨rfl, rfl⟩⟩
      have hli := acc_li tl_nodup y3 (hin L p hL hmem)
      refine r_mask [true, true, true, true, true, true, false, false] rfl ?_
      refine r_aload_n (q := 193) dX12_lawful_192 rfl rfl rfl ?_
      refine r_iload_n (q := 194) dX12_lawful_193 rfl rfl rfl ?_
      refine r_iload_n (q := 195) dX12_lawful_194 rfl rfl rfl ?_
      refine r_callV (Mc := mX12_insert) (q := 198) (As := [zi (nI q), zi (nI n)]) (st := []) ck12 dX12_lawful_195 rfl rfl mkX12_insert wt1820 wt1822 wp115 rfl (Nat.le_of_ble_eq_true rfl) (Nat.le_of_ble_eq_true rfl) (by decide) (by decide) (by decide) (Or.inl rfl) (hs2.e (by decide)) (ok_insert hs2 hq hn7 tl_nodup hW.1.1 hW.1.2.1 hok hA2.1 y2 hI2.2.2.2.2.2.1 hA2.2.2.1) (fun r195 S195 hp195 => ?_)
      obtain ⟨rfl, f3, pv3, bs3, z1, z2, z3, z4, z5, z6⟩ := hp195
      have g3 : Fr (tAl W q n) S2 S195 := f3.mono tAc_in
      have hI3 : EnvR S195 W q n pvs bss := hI2.fr hE g3
      have hA3 : AcS S195 W q n pv3 bs3 := ⟨z1, z2, z6, z5 (Gn W n) (hfi.id.li hli) hid⟩
      have hPS3 := hPS2.fr f3 ⟨rfl, rfl, fun _ => ⟨rfl, rfl⟩⟩
      show Ok _ _ _ [] _ _
      refine r_aload_n (q := 199) dX12_lawful_198 rfl rfl rfl ?_
      refine r_callV (Mc := mX12_nextParts) (q := 202) (As := []) (st := []) ck12 dX12_lawful_199 rfl rfl mkX12_nextParts wt1795 wt1797 wp109 rfl (Nat.le_of_ble_eq_true rfl) (Nat.le_of_ble_eq_true rfl) (by decide) (by decide) (by decide) (Or.inl rfl) (hI3.1.e (by decide)) (ok_nextParts hq hLw.2.1 hLw.1 hn7 hI3.1 hPS3 hI3.2.2.2.1) (fun r199 S199 hp199 => ?_)
      obtain ⟨f2, hz⟩ := hp199
      obtain ⟨v2, rfl, hv2⟩ : ∃ v2, r199 = some (zi v2) ∧ (v2 = nI 0 ∧ rem = [] ∨ v2 = nI 1 ∧ ∃ i ks, PS S199 q (lw W L).1 n (bdW W) i ks ∧ rem = (((cmp (lw W L).1 n).getD i []), ks) :: RM (bdW W) (lw W L).1 n i ks) := by
        rcases hz with ⟨z1, z2⟩ | ⟨z1, i', ks', z2, z3⟩
        · exact ⟨_, z1, Or.inl ⟨rfl, hr.trans z2⟩⟩
        · exact ⟨_, z1, Or.inr ⟨rfl, i', ks', z2, hr.trans z3⟩⟩
      have g9 : Fr (tAl W q n) S195 S199 := f2.mono tAc_p2
      have hI9 : EnvR S199 W q n pvs bss := hI3.fr hE g9
      show Ok _ _ _ [zi v2] _ _
      refine r_istore (q := 204) (L' := [some (zr 12 0), some (zi (nI q)), some (zi (nI n)), some (zi (nI L)), some (zi (nI ((lw W L).1))), some (zi v2), none, none]) dX12_lawful_202 rfl (by decide) rfl ?_
      refine r_goto (q := 45) dX12_lawful_204 (by decide) ?_
      exact ih S199 pv3 bs3 v2 _ _ hI9 (hwl.fr ((g2.tr g3).tr g9) (fun _ => tAc_f (by omega))) (hA3.fr f2 (fun x k hx => by simp [tP2]; omega)) hal' hv2 (fun S4 pv4 bs4 w5 w6 w7 u1 u2 u3 u4 u5 => K S4 pv4 bs4 w5 w6 w7 (((g2.tr g3).tr g9).tr u1) u2 u3 (MoR.tr z4 u4) (fun r hr => by
        rcases List.mem_cons.mp hr with rfl | hr
        · exact (z3.li hli.sy).le u4
        · exact u5 r hr))

set_option maxRecDepth 100000 in
theorem lp_lf2 {W : zWd} (hW : Wok W) {q n : Nat} (hq : q ≤ 1) (hn7 : n ≤ 7) {pvs : Nat → Nat → Bool} {bss : Nat → Nat → Nat → Nat} (hbn300 : (tl W n).length ≤ 300) (hF4n : FqR q W n + (tl W n).length ≤ 4400) : ∀ (d L : Nat) (S : zS) (pv : Nat → Bool) (bs : Nat → Nat → Nat) (w4 w5 w6 w7 : Option zV), L + d = wL W → EnvR S W q n pvs bss → WL S q W → AcS S W q n pv bs → Ok mX12_lawful 2 [some (zr 12 0), some (zi (nI q)), some (zi (nI n)), some (zi (nI L)), w4, w5, w6, w7] [] S (fun r S1 => r = none ∧ Fr (tAl W q n) S S1 ∧ EnvR S1 W q n pvs bss ∧ ∃ pv1 bs1, AcS S1 W q n pv1 bs1 ∧ MoR W n pv bs pv1 bs1 ∧ ∀ l p, L ≤ l → l < wL W → p ∈ allF (bdW W) (cmp (lw W l).1 n) → Sp (wP W) (Rw (tl W n) pv1 (RR bs1)) (rwL W l p)) := by
  have hE := hW.2.1
  have hL18 := hW.2.2.2.1
  intro d
  induction d with
  | zero =>
    intro L S pv bs w4 w5 w6 w7 had hI hwl hA
    obtain rfl : L = wL W := by omega
    have hs := hI.1
    have hwA := hwl.1
    refine r_mask [true, true, true, true, false, false, false, false] rfl ?_
    refine r_iload_n (q := 3) dX12_lawful_2 rfl rfl rfl ?_
    refine r_aload_n (q := 4) dX12_lawful_3 rfl rfl rfl ?_
    refine r_getr (q := 7) (some (1322, 0)) ck12 dX12_lawful_4 rfl (k := 22) (by decide) wt1300 rfl (hs.e (by decide)) (hs.r (by decide) (by decide)) ?_
    refine r_sipush (q := 10) (nI 1173) dX12_lawful_7 rfl (by decide) ?_
    refine r_iload_n (q := 11) dX12_lawful_10 rfl rfl rfl ?_
    refine r_imulN (q := 12) dX12_lawful_11 rfl ?_
    refine r_iconst (q := 13) (nI 2) dX12_lawful_12 rfl (by decide) ?_
    refine r_iaddN (q := 14) dX12_lawful_13 rfl ?_
    refine r_ialdN (q := 15) 2346 (by decide) rfl dX12_lawful_14 rfl (hs.e (by decide)) (hs.n rfl (by decide)) (by omega) (by decide) ?_
    refine r_topi (y := nI (wL W)) hwA ?_
    refine r_icmp_geN (q := 18) (t := 213) (by omega) (by omega) dX12_lawful_15 (by decide) rfl (fun h15 => ?_) (fun h15 => absurd h15 (by omega))
    refine r_return dX12_lawful_213 rfl ?_
    exact ⟨rfl, Fr.rf, hI, pv, bs, hA, MoR.rf, fun l p h1 h2 => absurd h1 (by omega)⟩
  | succ d ih =>
    intro L S pv bs w4 w5 w6 w7 had hI hwl hA
    have hL : L < wL W := by omega
    have hLw := hW.2.2.2.2.2 L hL
    have hs := hI.1
    have hwA := hwl.1
    have hwa := hwl.2.1 L hL
    refine r_mask [true, true, true, true, false, false, false, false] rfl ?_
    refine r_iload_n (q := 3) dX12_lawful_2 rfl rfl rfl ?_
    refine r_aload_n (q := 4) dX12_lawful_3 rfl rfl rfl ?_
    refine r_getr (q := 7) (some (1322, 0)) ck12 dX12_lawful_4 rfl (k := 22) (by decide) wt1300 rfl (hs.e (by decide)) (hs.r (by decide) (by decide)) ?_
    refine r_sipush (q := 10) (nI 1173) dX12_lawful_7 rfl (by decide) ?_
    refine r_iload_n (q := 11) dX12_lawful_10 rfl rfl rfl ?_
    refine r_imulN (q := 12) dX12_lawful_11 rfl ?_
    refine r_iconst (q := 13) (nI 2) dX12_lawful_12 rfl (by decide) ?_
    refine r_iaddN (q := 14) dX12_lawful_13 rfl ?_
    refine r_ialdN (q := 15) 2346 (by decide) rfl dX12_lawful_14 rfl (hs.e (by decide)) (hs.n rfl (by decide)) (by omega) (by decide) ?_
    refine r_topi (y := nI (wL W)) hwA ?_
    refine r_icmp_geN (q := 18) (t := 213) (by omega) (by omega) dX12_lawful_15 (by decide) rfl (fun h15 => absurd h15 (by omega)) (fun h15 => ?_)
    refine r_aload_n (q := 19) dX12_lawful_18 rfl rfl rfl ?_
    refine r_getr (q := 22) (some (1322, 0)) ck12 dX12_lawful_19 rfl (k := 22) (by decide) wt1300 rfl (hs.e (by decide)) (hs.r (by decide) (by decide)) ?_
    refine r_sipush (q := 25) (nI 1173) dX12_lawful_22 rfl (by decide) ?_
    refine r_iload_n (q := 26) dX12_lawful_25 rfl rfl rfl ?_
    refine r_imulN (q := 27) dX12_lawful_26 rfl ?_
    refine r_bipush (q := 29) (nI 7) dX12_lawful_27 rfl (by decide) ?_
    refine r_iaddN (q := 30) dX12_lawful_29 rfl ?_
    refine r_iload_n (q := 31) dX12_lawful_30 rfl rfl rfl ?_
    refine r_iaddN (q := 32) dX12_lawful_31 rfl ?_
    refine r_ialdN (q := 33) 2346 (by decide) rfl dX12_lawful_32 rfl (hs.e (by decide)) (hs.n rfl (by decide)) (by omega) (by decide) ?_
    refine r_topi (y := nI ((lw W L).1)) hwa ?_
    refine r_istore (q := 35) (L' := [some (zr 12 0), some (zi (nI q)), some (zi (nI n)), some (zi (nI L)), some (zi (nI ((lw W L).1))), none, none, none]) dX12_lawful_33 rfl (by decide) rfl ?_
    refine r_aload_n (q := 36) dX12_lawful_35 rfl rfl rfl ?_
    refine r_iload_n (q := 37) dX12_lawful_36 rfl rfl rfl ?_
    refine r_iload (q := 39) dX12_lawful_37 rfl rfl ?_
    refine r_iload_n (q := 40) dX12_lawful_39 rfl rfl rfl ?_
    refine r_callV (Mc := mX12_firstParts) (q := 43) (As := [zi (nI q), zi (nI ((lw W L).1)), zi (nI n)]) (st := []) ck12 dX12_lawful_40 rfl rfl mkX12_firstParts wt1776 wt1778 wp105 rfl (Nat.le_of_ble_eq_true rfl) (Nat.le_of_ble_eq_true rfl) (by decide) (by decide) (by decide) (Or.inl rfl) (hs.e (by decide)) (ok_firstParts hq hLw.2.1 hLw.1 hn7 hs hI.2.2.2.1) (fun r40 S40 hp40 => ?_)
    obtain ⟨f1, hz⟩ := hp40
    obtain ⟨v2, rfl, hv2⟩ : ∃ v2, r40 = some (zi v2) ∧ (v2 = nI 0 ∧ allF (bdW W) (cmp (lw W L).1 n) = [] ∨ v2 = nI 1 ∧ ∃ i ks, PS S40 q (lw W L).1 n (bdW W) i ks ∧ allF (bdW W) (cmp (lw W L).1 n) = (((cmp (lw W L).1 n).getD i []), ks) :: RM (bdW W) (lw W L).1 n i ks) := by
      rcases hz with ⟨z1, z2⟩ | ⟨z1, i', ks', z2, z3⟩
      · exact ⟨_, z1, Or.inl ⟨rfl, z2⟩⟩
      · exact ⟨_, z1, Or.inr ⟨rfl, i', ks', z2, z3⟩⟩
    have g1 : Fr (tAl W q n) S S40 := f1.mono tAc_pt
    have hI1 : EnvR S40 W q n pvs bss := hI.fr hE g1
    show Ok _ _ _ [zi v2] _ _
    refine r_istore (q := 45) (L' := [some (zr 12 0), some (zi (nI q)), some (zi (nI n)), some (zi (nI L)), some (zi (nI ((lw W L).1))), some (zi v2), none, none]) dX12_lawful_43 rfl (by decide) rfl ?_
    refine lp_lf45 hW hq hn7 hL hbn300 hF4n _ S40 pv bs v2 none none hI1 (hwl.fr f1 (fun _ => rfl)) (hA.fr f1 (fun x k hx => by simp [tPt]; omega)) (fun p hp => hp) hv2 (fun S2 pv2 bs2 w5 w6 w7 y1 y2 y3 y4 y5 => ?_)
    have hs2 := y2.1
    refine r_mask [true, true, true, true, false, false, false, false] rfl ?_
    refine r_iincN (q := 210) (L' := [some (zr 12 0), some (zi (nI q)), some (zi (nI n)), some (zi (nI (L + 1))), none, none, none, none]) 1 rfl dX12_lawful_207 rfl rfl (by decide) rfl ?_
    refine r_goto (q := 2) dX12_lawful_210 (by decide) ?_
    refine Ok.mono (ih (L + 1) S2 pv2 bs2 _ _ _ _ (by omega) y2 (hwl.fr (g1.tr y1) (fun _ => tAc_f (by omega))) y3) (fun r S4 z => ?_)
    obtain ⟨z1, z2, z3, pv4, bs4, z4, z5, z6⟩ := z
    exact ⟨z1, (g1.tr y1).tr z2, z3, pv4, bs4, z4, MoR.tr y4 z5, fun l p h1 h2 h4 => if e : l = L then by subst e; exact (y5 p h4).le z5 else z6 l p (by omega) h2 h4⟩

set_option maxRecDepth 100000 in
theorem ok_lawful {W : zWd} (hW : Wok W) {q n : Nat} (hq : q ≤ 1) (hn7 : n ≤ 7) {pvs : Nat → Nat → Bool} {bss : Nat → Nat → Nat → Nat} (hbn300 : (tl W n).length ≤ 300) (hF4n : FqR q W n + (tl W n).length ≤ 4400) {S : zS} {pv : Nat → Bool} {bs : Nat → Nat → Nat} (hI : EnvR S W q n pvs bss) (hwl : WL S q W) (hA : AcS S W q n pv bs) : Ok mX12_lawful 0 (ent 8 [zr 12 0, zi (nI q), zi (nI n)]) [] S (fun r S1 => r = none ∧ Fr (tAl W q n) S S1 ∧ EnvR S1 W q n pvs bss ∧ ∃ pv1 bs1, AcS S1 W q n pv1 bs1 ∧ MoR W n pv bs pv1 bs1 ∧ ∀ l p, l < wL W → p ∈ allF (bdW W) (cmp (lw W l).1 n) → Sp (wP W) (Rw (tl W n) pv1 (RR bs1)) (rwL W l p)) := by
  have hs := hI.1
  show Ok mX12_lawful 0 [some (zr 12 0), some (zi (nI q)), some (zi (nI n)), none, none, none, none, none] [] S _
  refine r_iconst (q := 1) (nI 0) dX12_lawful_0 rfl (by decide) ?_
  refine r_istore_n (q := 2) (L' := [some (zr 12 0), some (zi (nI q)), some (zi (nI n)), some (zi (nI 0)), none, none, none, none]) dX12_lawful_1 rfl rfl (by decide) rfl ?_
  refine Ok.mono (lp_lf2 hW hq hn7 hbn300 hF4n (wL W) 0 S pv bs none none none none (by omega) hI hwl hA) (fun r S4 z => ?_)
  obtain ⟨z1, z2, z3, pv4, bs4, z4, z5, z6⟩ := z
  exact ⟨z1, z2, z3, pv4, bs4, z4, z5, fun l p h2 h4 => z6 l p (by omega) h2 h4⟩

