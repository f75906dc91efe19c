/-! settle -/
theorem lt_parts {W : zWd} (hE : Eok (wA W) (we W)) {e n j : Nat} {p : List Nat × List Nat} (hp : p ∈ allF (bdW W) (cmp e n)) (hj : j < e) (he2 : 2 ≤ e) : p.1.getD j 0 < n := by
  obtain ⟨g1, g2, g3, g4, g5, g6, g7, g8⟩ := pt_parts hE hp hj
  have a1 := (lvs_flat_ge hE g2).1
  have a2 := (lvs_flat_ge hE g3).1
  omega
theorem gn_one {W : zWd} (hW : Wok W) {g : zL} (h : Gn W 1 g) : False := by
  obtain ⟨x, y, L, us, hL, h1, h2, h3, h4, _⟩ := h
  have := (lvs_flat_ge hW.2.1 h2).1
  have := (hW.2.2.2.2.2 L hL).1
  omega
theorem RwOk.row {W : zWd} {n : Nat} {pv : Nat → Bool} {bs : Nat → Nat → Nat} (h : RwOk (tl W n).length (wP W) pv bs) (hi : ∀ t, t < (tl W n).length → pv t = true → Id W n (V (tl W n) (RR bs t))) : RowR W n pv bs := fun t ht hp => by
  obtain ⟨a, b, c, d⟩ := h t ht hp
  exact ⟨a, b, c, d, hi t ht hp⟩

set_option maxRecDepth 100000 in
theorem lp_se161_1 {W : zWd} (hW : Wok W) {q N : Nat} (hq : q ≤ 1) (hN7 : N ≤ 7) {pvs : Nat → Nat → Bool} {bss : Nat → Nat → Nat → Nat} {S0 S : zS} (f0 : Fr (tLz (FqR q W 1) (RFq q W 1) (tl W 1).length q 1) S0 S) (hs : Sd S) (hlow : LowR S W q 1 pvs bss) (hlr : LrR S W q 1 (FqR q W 1)) (hac : AcS S W q 1 (fun _ => false) (fun _ _ => 0)) {Po : Option zV → zS → Prop} (K : ∀ S1 pv bs w4, Fr (tLz (FqR q W 1) (RFq q W 1) (tl W 1).length q 1) S0 S1 → LowR S1 W q (1 + 1) (upP pvs 1 pv) (upP bss 1 bs) → gI S1 1323 0 q = nI 1 → Ok mX12_settle 28 [some (zr 12 0), some (zi (nI q)), some (zi (nI N)), some (zi (nI (1 + 1))), w4] [] S1 Po) {w4 : Option zV} : Ok mX12_settle 161 [some (zr 12 0), some (zi (nI q)), some (zi (nI N)), some (zi (nI 1)), w4] [] S Po := by
  have hlv : LvR W (upP pvs 1 (fun _ => false)) (upP bss 1 (fun _ _ => 0)) 1 := by
    refine ⟨?_, fun g hg => (gn_one hW hg).elim⟩
    rw [upP_n]
    exact fun t _ h => (by cases h)
  refine r_mask [true, true, true, true, false] rfl ?_
  refine r_iload_n (q := 162) dX12_settle_161 rfl rfl rfl ?_
  refine r_iconst (q := 163) (nI 1) dX12_settle_162 rfl (by decide) ?_
  refine r_icmp_leN (q := 166) (t := 172) (by omega) (by omega) dX12_settle_163 (by decide) rfl (fun h163 => ?_) (fun h163 => absurd h163 (by omega))
  refine r_iload_n (q := 173) dX12_settle_172 rfl rfl rfl ?_
  refine r_iconst (q := 174) (nI 1) dX12_settle_173 rfl (by decide) ?_
  refine r_icmp_leN (q := 177) (t := 183) (by omega) (by omega) dX12_settle_174 (by decide) rfl (fun h174 => ?_) (fun h174 => absurd h174 (by omega))
  refine r_aload_n (q := 184) dX12_settle_183 rfl rfl rfl ?_
  refine r_getr (q := 187) (some (1323, 0)) ck12 dX12_settle_184 rfl (k := 23) (by decide) wt1301 rfl (hs.e (by decide)) (hs.r (by decide) (by decide)) ?_
  refine r_iload_n (q := 188) dX12_settle_187 rfl rfl rfl ?_
  refine r_iload_n (q := 189) dX12_settle_188 rfl rfl rfl ?_
  refine r_iastN (q := 190) 2 (by decide) rfl dX12_settle_189 rfl (hs.e (by decide)) (hs.n rfl (by decide)) (by omega) (by decide) ?_
  refine r_iincN (q := 193) (L' := [some (zr 12 0), some (zi (nI q)), some (zi (nI N)), some (zi (nI 2)), none]) 1 rfl dX12_settle_190 rfl rfl (by decide) rfl ?_
  refine r_goto (q := 28) dX12_settle_193 (by decide) ?_
  have f1 : Fr (tLz (FqR q W 1) (RFq q W 1) (tl W 1).length q 1) S (sI S 1323 0 q (nI 1)) := (Fr.rf).i (by simp [tLz])
  have f2 : Fr (fun x y k => x == 1323) S (sI S 1323 0 q (nI 1)) := (Fr.rf).i (by simp)
  exact K _ (fun _ => false) (fun _ _ => 0) _ (f0.tr f1) (LowR.up (hlow.lw hW.2.1 f1) (hlr.fr f2 ⟨rfl, rfl, fun _ _ => ⟨rfl, rfl⟩⟩) (hac.fr f2 (fun x k hx => by simp; omega)) hlv) (by rw [gI_sI, if_pos ⟨rfl, rfl, rfl⟩])

set_option maxRecDepth 100000 in
theorem lp_se161 {W : zWd} (hW : Wok W) {q n N : Nat} (hq : q ≤ 1) (hn7 : n ≤ 7) (hn2 : 2 ≤ n) (hN7 : N ≤ 7) {pvs : Nat → Nat → Bool} {bss : Nat → Nat → Nat → Nat} {S0 S : zS} (f0 : Fr (tLz (FqR q W n) (RFq q W n) (tl W n).length q n) S0 S) (hs : Sd S) (hlow : LowR S W q n pvs bss) (hlr : LrR S W q n (FqR q W n)) (hac : AcS S W q n (fun _ => false) (fun _ _ => 0)) {Po : Option zV → zS → Prop} (K : ∀ S1 pv bs w4, Fr (tLz (FqR q W n) (RFq q W n) (tl W n).length q n) S0 S1 → LowR S1 W q (n + 1) (upP pvs n pv) (upP bss n bs) → gI S1 1323 0 q = nI n → Ok mX12_settle 28 [some (zr 12 0), some (zi (nI q)), some (zi (nI N)), some (zi (nI (n + 1))), w4] [] S1 Po) {w4 : Option zV} (hws : WS S W q) (hiv : Iv S (wP W)) : Ok mX12_settle 161 [some (zr 12 0), some (zi (nI q)), some (zi (nI N)), some (zi (nI n)), w4] [] S Po := by
  have hE := hW.2.1
  have hbn300 : (tl W n).length ≤ 300 := hac.1.2.2.2.2.1
  have hF4n : FqR q W n + (tl W n).length ≤ 4400 := hac.1.2.2.2.2.2.1
  have hI : EnvR S W q n pvs bss := ⟨hs, hws.1, hlow.cd, hlow.mn, hlr, hiv, hlow.bx⟩
  have hIl : ∀ s k, 1 ≤ s → s < n → k < (tl W s).length → pvs s k = true → Id W s (V (tl W s) (RR (bss s) k)) := fun s k a b hk hp => (hlow s a b).2.1.2.2.2 k hk hp
  refine r_mask [true, true, true, true, false] rfl ?_
  refine r_iload_n (q := 162) dX12_settle_161 rfl rfl rfl ?_
  refine r_iconst (q := 163) (nI 1) dX12_settle_162 rfl (by decide) ?_
  refine r_icmp_leN (q := 166) (t := 172) (by omega) (by omega) dX12_settle_163 (by decide) rfl (fun h163 => absurd h163 (by omega)) (fun h163 => ?_)
  refine r_aload_n (q := 167) dX12_settle_166 rfl rfl rfl ?_
  refine r_iload_n (q := 168) dX12_settle_167 rfl rfl rfl ?_
  refine r_iload_n (q := 169) dX12_settle_168 rfl rfl rfl ?_
  refine r_callV (Mc := mX12_acted) (q := 172) (As := [zi (nI q), zi (nI n)]) (st := []) ck12 dX12_settle_169 rfl rfl mkX12_acted wt1800 wt1802 wp110 rfl (Nat.le_of_ble_eq_true rfl) (Nat.le_of_ble_eq_true rfl) (by decide) (by decide) (by decide) (Or.inl rfl) (hs.e (by decide)) (ok_acted hW hq hn7 hbn300 hF4n hIl hI hac) (fun r169 S169 hp169 => ?_)
  obtain ⟨rfl, f1, hI1, pv1, bs1, hA1, hm1, hd1⟩ := hp169
  show Ok _ _ _ [] _ _
  refine r_iload_n (q := 173) dX12_settle_172 rfl rfl rfl ?_
  refine r_iconst (q := 174) (nI 1) dX12_settle_173 rfl (by decide) ?_
  refine r_icmp_leN (q := 177) (t := 183) (by omega) (by omega) dX12_settle_174 (by decide) rfl (fun h174 => absurd h174 (by omega)) (fun h174 => ?_)
  refine r_aload_n (q := 178) dX12_settle_177 rfl rfl rfl ?_
  refine r_iload_n (q := 179) dX12_settle_178 rfl rfl rfl ?_
  refine r_iload_n (q := 180) dX12_settle_179 rfl rfl rfl ?_
  refine r_callV (Mc := mX12_lawful) (q := 183) (As := [zi (nI q), zi (nI n)]) (st := []) ck12 dX12_settle_180 rfl rfl mkX12_lawful wt1828 wt1830 wp117 rfl (Nat.le_of_ble_eq_true rfl) (Nat.le_of_ble_eq_true rfl) (by decide) (by decide) (by decide) (Or.inl rfl) (hI1.1.e (by decide)) (ok_lawful hW hq hn7 hbn300 hF4n hI1 (hws.2.1.fr f1 (fun _ => tAc_f (by omega))) hA1) (fun r180 S180 hp180 => ?_)
  obtain ⟨rfl, f2, hI2, pv2, bs2, hA2, hm2, hd2⟩ := hp180
  show Ok _ _ _ [] _ _
  refine r_aload_n (q := 184) dX12_settle_183 rfl rfl rfl ?_
  refine r_getr (q := 187) (some (1323, 0)) ck12 dX12_settle_184 rfl (k := 23) (by decide) wt1301 rfl (hI2.1.e (by decide)) (hI2.1.r (by decide) (by decide)) ?_
  refine r_iload_n (q := 188) dX12_settle_187 rfl rfl rfl ?_
  refine r_iload_n (q := 189) dX12_settle_188 rfl rfl rfl ?_
  refine r_iastN (q := 190) 2 (by decide) rfl dX12_settle_189 rfl (hI2.1.e (by decide)) (hI2.1.n rfl (by decide)) (by omega) (by decide) ?_
  refine r_iincN (q := 193) (L' := [some (zr 12 0), some (zi (nI q)), some (zi (nI N)), some (zi (nI (n + 1))), none]) 1 rfl dX12_settle_190 rfl rfl (by decide) rfl ?_
  refine r_goto (q := 28) dX12_settle_193 (by decide) ?_
  have f3 : Fr (tLz (FqR q W n) (RFq q W n) (tl W n).length q n) S180 (sI S180 1323 0 q (nI n)) := (Fr.rf).i (by simp [tLz])
  have f4 : Fr (fun x y k => x == 1323) S180 (sI S180 1323 0 q (nI n)) := (Fr.rf).i (by simp)
  have g1 : Fr (tLz (FqR q W n) (RFq q W n) (tl W n).length q n) S (sI S180 1323 0 q (nI n)) := ((f1.tr f2).mono tLz_ac).tr f3
  have hlv : LvR W (upP pvs n pv2) (upP bss n bs2) n := by
    refine LvR.of hW (fun m a b => (hlow m a b).2.2.cong (upP_x (by omega)) (upP_x (by omega))) (by rw [upP_n, upP_n]; exact hA2.2.1.row hA2.2.2.2) ?_ ?_
    · refine hact_of hE (fun a j p ha hj hp hpv => ?_)
      have hlt := lt_parts hE hp hj (hE.2 a ha).1
      rw [upP_x (by omega)] at hpv
      rw [upP_n, upP_n, show rwA W (upP bss n bs2) a j p = rwA W bss a j p from by unfold rwA; rw [upP_x (by omega)]]
      exact (hd1 a j p ha hj hp hpv).le hm2
    · refine hlaw_of hE (fun L p hL hp => ?_)
      rw [upP_n, upP_n]
      exact hd2 L p hL hp
  exact K _ pv2 bs2 _ (f0.tr g1) (LowR.up (hlow.lw hE g1) (hI2.2.2.2.2.1.fr f4 ⟨rfl, rfl, fun _ _ => ⟨rfl, rfl⟩⟩) (hA2.fr f4 (fun x k hx => by simp; omega)) hlv) (by rw [gI_sI, if_pos ⟨rfl, rfl, rfl⟩])

set_option maxRecDepth 100000 in
theorem lp_se119 {Po : Option zV → zS → Prop} {q n m F : Nat} {N : Int32} (hq : q ≤ 1) (hn7 : n ≤ 7) (hm3 : m ≤ 300) (hF : F + m ≤ 4400) : ∀ (d i : Nat) (S : zS), i + d = m → Sd S → gI S 1324 0 (8 * q + n) = nI m → gI S 1325 0 (8 * q + n) = nI F → (∀ S2, S2 = fm S 1332 0 F i m (fun _ => nI 0) → Ok mX12_settle 161 [some (zr 12 0), some (zi (nI q)), some (zi N), some (zi (nI n)), some (zi (nI m))] [] S2 Po) → Ok mX12_settle 119 [some (zr 12 0), some (zi (nI q)), some (zi N), some (zi (nI n)), some (zi (nI i))] [] S Po := by
  intro d
  induction d with
  | zero =>
    intro i S hi hs h4 h5 K
    obtain rfl : m = i := by omega
    refine r_iload (q := 121) dX12_settle_119 rfl rfl ?_
    refine r_aload_n (q := 122) dX12_settle_121 rfl rfl rfl ?_
    refine r_getr (q := 125) (some (1324, 0)) ck12 dX12_settle_122 rfl (k := 24) (by decide) wt1302 rfl (hs.e (by decide)) (hs.r (by decide) (by decide)) ?_
    refine r_bipush (q := 127) (nI 8) dX12_settle_125 rfl (by decide) ?_
    refine r_iload_n (q := 128) dX12_settle_127 rfl rfl rfl ?_
    refine r_imulN (q := 129) dX12_settle_128 rfl ?_
    refine r_iload_n (q := 130) dX12_settle_129 rfl rfl rfl ?_
    refine r_iaddN (q := 131) dX12_settle_130 rfl ?_
    refine r_ialdN (q := 132) 16 (by decide) rfl dX12_settle_131 rfl (hs.e (by decide)) (hs.n rfl (by decide)) (by omega) (by decide) ?_
    refine r_topi (y := nI m) h4 ?_
    refine r_icmp_geN (q := 135) (t := 161) (by omega) (by omega) dX12_settle_132 (by decide) rfl (fun h132 => ?_) (fun h132 => absurd h132 (by omega))
    exact K _ (fm_all.symm)
  | succ d ih =>
    intro i S hi hs h4 h5 K
    refine r_iload (q := 121) dX12_settle_119 rfl rfl ?_
    refine r_aload_n (q := 122) dX12_settle_121 rfl rfl rfl ?_
    refine r_getr (q := 125) (some (1324, 0)) ck12 dX12_settle_122 rfl (k := 24) (by decide) wt1302 rfl (hs.e (by decide)) (hs.r (by decide) (by decide)) ?_
    refine r_bipush (q := 127) (nI 8) dX12_settle_125 rfl (by decide) ?_
    refine r_iload_n (q := 128) dX12_settle_127 rfl rfl rfl ?_
    refine r_imulN (q := 129) dX12_settle_128 rfl ?_
    refine r_iload_n (q := 130) dX12_settle_129 rfl rfl rfl ?_
    refine r_iaddN (q := 131) dX12_settle_130 rfl ?_
    refine r_ialdN (q := 132) 16 (by decide) rfl dX12_settle_131 rfl (hs.e (by decide)) (hs.n rfl (by decide)) (by omega) (by decide) ?_
    refine r_topi (y := nI m) h4 ?_
    refine r_icmp_geN (q := 135) (t := 161) (by omega) (by omega) dX12_settle_132 (by decide) rfl (fun h132 => absurd h132 (by omega)) (fun h132 => ?_)
    refine r_aload_n (q := 136) dX12_settle_135 rfl rfl rfl ?_
    refine r_getr (q := 139) (some (1332, 0)) ck12 dX12_settle_136 rfl (k := 32) (by decide) wt1310 rfl (hs.e (by decide)) (hs.r (by decide) (by decide)) ?_
    refine r_aload_n (q := 140) dX12_settle_139 rfl rfl rfl ?_
    refine r_getr (q := 143) (some (1325, 0)) ck12 dX12_settle_140 rfl (k := 25) (by decide) wt1303 rfl (hs.e (by decide)) (hs.r (by decide) (by decide)) ?_
    refine r_bipush (q := 145) (nI 8) dX12_settle_143 rfl (by decide) ?_
    refine r_iload_n (q := 146) dX12_settle_145 rfl rfl rfl ?_
    refine r_imulN (q := 147) dX12_settle_146 rfl ?_
    refine r_iload_n (q := 148) dX12_settle_147 rfl rfl rfl ?_
    refine r_iaddN (q := 149) dX12_settle_148 rfl ?_
    refine r_ialdN (q := 150) 16 (by decide) rfl dX12_settle_149 rfl (hs.e (by decide)) (hs.n rfl (by decide)) (by omega) (by decide) ?_
    refine r_topi (y := nI F) h5 ?_
    refine r_iload (q := 152) dX12_settle_150 rfl rfl ?_
    refine r_iaddN (q := 153) dX12_settle_152 rfl ?_
    refine r_iconst (q := 154) (nI 0) dX12_settle_153 rfl (by decide) ?_
    refine r_zastN (q := 155) (by decide) 4400 (by decide) rfl dX12_settle_154 rfl (hs.e (by decide)) (hs.n rfl (by decide)) (by omega) (by decide) ?_
    refine r_iincN (q := 158) (L' := [some (zr 12 0), some (zi (nI q)), some (zi N), some (zi (nI n)), some (zi (nI (i + 1)))]) 1 rfl dX12_settle_155 rfl rfl (by decide) rfl ?_
    refine r_goto (q := 119) dX12_settle_158 (by decide) ?_
    exact ih (i + 1) _ (by omega) hs (by rw [gI_sI, if_neg (by omega)]; exact h4) (by rw [gI_sI, if_neg (by omega)]; exact h5) (fun S2 h => K S2 (h.trans (fm_step (g := fun _ => nI 0) (show i < m by omega))))

set_option maxRecDepth 100000 in
theorem lp_se33_1 {W : zWd} (hW : Wok W) {q n N : Nat} (hq : q ≤ 1) (hn7 : n ≤ 7) (hN7 : N ≤ 7) {pvs : Nat → Nat → Bool} {bss : Nat → Nat → Nat → Nat} (hn1 : 1 ≤ n) (h3 : ∀ k, k ≤ n → tc W k ≤ 300) {S : zS} (hs : Sd S) (hlow : LowR S W q n pvs bss) (hws : WS S W q) (hiv : Iv S (wP W)) (htt : Tt S (tc W) q 11) {Po : Option zV → zS → Prop} (K : ∀ S1 pv bs w4, Fr (tLz (FqR q W n) (RFq q W n) (tl W n).length q n) S S1 → LowR S1 W q (n + 1) (upP pvs n pv) (upP bss n bs) → gI S1 1323 0 q = nI n → Ok mX12_settle 28 [some (zr 12 0), some (zi (nI q)), some (zi (nI N)), some (zi (nI (n + 1))), w4] [] S1 Po) {w4 : Option zV} (hnn : n = 1) : Ok mX12_settle 33 [some (zr 12 0), some (zi (nI q)), some (zi (nI N)), some (zi (nI n)), w4] [] S Po := by
  have hE := hW.2.1
  have hl : (tl W n).length = tc W n := tl_len hE
  have hts := tc_sums hE hn7 h3
  have hs1' : sm (tc W) (n + 1) = sm (tc W) n + tc W n := rfl
  have hs2' : sm (fun k => tc W k * tc W k) (n + 1) = sm (fun k => tc W k * tc W k) n + tc W n * tc W n := rfl
  have hF4 : FqR q W n + tc W n ≤ 4400 := by show 2200 * q + sm (tc W) n + tc W n ≤ 4400; omega
  have hR4 : RFq q W n + tc W n * tc W n ≤ 400000 := by show 200000 * q + sm (fun k => tc W k * tc W k) n + tc W n * tc W n ≤ 400000; omega
  have hn300 := h3 n (Nat.le_refl _)
  have eFn : FqR q W n = 2200 * q + sm (tc W) n := rfl
  have eRn : RFq q W n = 200000 * q + sm (fun k => tc W k * tc W k) n := rfl
  refine r_mask [true, true, true, true, false] rfl ?_
  refine r_aload_n (q := 34) dX12_settle_33 rfl rfl rfl ?_
  refine r_iload_n (q := 35) dX12_settle_34 rfl rfl rfl ?_
  refine r_iload_n (q := 36) dX12_settle_35 rfl rfl rfl ?_
  refine r_callV (Mc := mX12_list) (q := 39) (As := [zi (nI q), zi (nI n)]) (st := []) ck12 dX12_settle_36 rfl rfl mkX12_list wt1764 wt1766 wp102 rfl (Nat.le_of_ble_eq_true rfl) (Nat.le_of_ble_eq_true rfl) (by decide) (by decide) (by decide) (Or.inl rfl) (hs.e (by decide)) (ok_list hE hq hn7 rfl (h3 n (Nat.le_refl _)) hF4 hs hws.1 hlow.cd hlow.mn (htt n hn1 (by omega)) hn1) (fun r36 S36 hp36 => ?_)
  obtain ⟨rfl, f1, hlr⟩ := hp36
  have g1 : Fr (tLz (FqR q W n) (RFq q W n) (tl W n).length q n) S S36 := f1.mono tLz_lf
  have hs1 : Sd S36 := hs.fr g1
  have hlow1 := hlow.lw hE g1
  have hws1 : WS S36 W q := hws.fr g1 (fun _ => tLz_f (by omega))
  have hiv1 : Iv S36 (wP W) := hiv.fr g1 (fun _ => tLz_f (by omega))
  have l4 := hlr.2.1
  have l5 := hlr.1
  have hRR : 200000 * q = RFq q W n := by rw [hnn]; simp [RFq, sm, tc, tcT]
  show Ok _ _ _ [] _ _
  refine r_aload_n (q := 40) dX12_settle_39 rfl rfl rfl ?_
  refine r_getr (q := 43) (some (1327, 0)) ck12 dX12_settle_40 rfl (k := 27) (by decide) wt1305 rfl (hs1.e (by decide)) (hs1.r (by decide) (by decide)) ?_
  refine r_bipush (q := 45) (nI 8) dX12_settle_43 rfl (by decide) ?_
  refine r_iload_n (q := 46) dX12_settle_45 rfl rfl rfl ?_
  refine r_imulN (q := 47) dX12_settle_46 rfl ?_
  refine r_iload_n (q := 48) dX12_settle_47 rfl rfl rfl ?_
  refine r_iaddN (q := 49) dX12_settle_48 rfl ?_
  refine r_iload_n (q := 50) dX12_settle_49 rfl rfl rfl ?_
  refine r_iconst (q := 51) (nI 1) dX12_settle_50 rfl (by decide) ?_
  refine r_icmp_neN (q := 54) (t := 62) (by omega) (by omega) dX12_settle_51 (by decide) rfl (fun h51 => absurd h51 (by omega)) (fun h51 => ?_)
  refine r_ldcw (q := 57) (nI 200000) dX12_settle_54 rfl wt1799 ?_
  refine r_iload_n (q := 58) dX12_settle_57 rfl rfl rfl ?_
  refine r_imulN (q := 59) dX12_settle_58 rfl ?_
  refine r_topi (y := nI (RFq q W n)) (congrArg nI hRR) ?_
  refine r_goto (q := 103) dX12_settle_59 (by decide) ?_
  refine r_iastN (q := 104) 16 (by decide) rfl dX12_settle_103 rfl (hs1.e (by decide)) (hs1.n rfl (by decide)) (by omega) (by decide) ?_
  refine r_aload_n (q := 105) dX12_settle_104 rfl rfl rfl ?_
  refine r_getr (q := 108) (some (1326, 0)) ck12 dX12_settle_105 rfl (k := 26) (by decide) wt1304 rfl (hs1.e (by decide)) (hs1.r (by decide) (by decide)) ?_
  refine r_bipush (q := 110) (nI 8) dX12_settle_108 rfl (by decide) ?_
  refine r_iload_n (q := 111) dX12_settle_110 rfl rfl rfl ?_
  refine r_imulN (q := 112) dX12_settle_111 rfl ?_
  refine r_iload_n (q := 113) dX12_settle_112 rfl rfl rfl ?_
  refine r_iaddN (q := 114) dX12_settle_113 rfl ?_
  refine r_iconst (q := 115) (nI 0) dX12_settle_114 rfl (by decide) ?_
  refine r_iastN (q := 116) 16 (by decide) rfl dX12_settle_115 rfl (hs1.e (by decide)) (hs1.n rfl (by decide)) (by omega) (by decide) ?_
  refine r_iconst (q := 117) (nI 0) dX12_settle_116 rfl (by decide) ?_
  refine r_istore (q := 119) (L' := [some (zr 12 0), some (zi (nI q)), some (zi (nI N)), some (zi (nI n)), some (zi (nI 0))]) dX12_settle_117 rfl (by decide) rfl ?_
  have e9 : ∀ x y k, ¬ ((x = 1327 ∨ x = 1326) ∧ y = 0 ∧ k = 8 * q + n) → gI (sI (sI S36 1327 0 (8 * q + n) (nI (RFq q W n))) 1326 0 (8 * q + n) (nI 0)) x y k = gI S36 x y k := fun x y k z => by rw [gI_sI, if_neg (by omega), gI_sI, if_neg (by omega)]
  refine lp_se119 hq hn7 (by omega) (by omega) (tl W n).length 0 (sI (sI S36 1327 0 (8 * q + n) (nI (RFq q W n))) 1326 0 (8 * q + n) (nI 0)) (by omega) hs1 ((e9 _ _ _ (by omega)).trans l4) ((e9 _ _ _ (by omega)).trans l5) (fun S3 h => ?_)
  have hs3 : Sd S3 := by rw [h]; exact hs1
  have e3 : ∀ x y k, ¬ ((x = 1327 ∨ x = 1326) ∧ y = 0 ∧ k = 8 * q + n) → ¬ (x = 1332 ∧ y = 0 ∧ FqR q W n ≤ k ∧ k < FqR q W n + (tl W n).length) → gI S3 x y k = gI S36 x y k := fun x y k z1 z2 => by rw [h, gI_fm, if_neg (by omega)]; exact e9 x y k z1
  have g3 : Fr (tLz (FqR q W n) (RFq q W n) (tl W n).length q n) S S3 := by
    refine g1.tr ⟨fun x y k hz => e3 x y k (fun z => ?_) (fun z => ?_), fun x y k _ => by rw [h]; rfl, by rw [h]; rfl⟩
    · rcases z.1 with e | e <;> (simp [tLz, tAcR, tIn, e, z.2.1, z.2.2] at hz)
    · simp [tLz, tAcR, tIn, z.1, z.2.1, z.2.2.1, z.2.2.2] at hz
  have hlr3 : LrR S3 W q n (FqR q W n) := by
    obtain ⟨a1, a2, a3, rr, a4, a5, a6⟩ := hlr
    exact ⟨(e3 _ _ _ (by omega) (by omega)).trans a1, (e3 _ _ _ (by omega) (by omega)).trans a2, fun j hj => ⟨(e3 _ _ _ (by omega) (by omega)).trans (a3 j hj).1, (a3 j hj).2⟩, rr, a4, fun i hi => (e3 _ _ _ (by omega) (by omega)).trans (a5 i hi), a6⟩
  have hac3 : AcS S3 W q n (fun _ => false) (fun _ _ => 0) := by
    refine ⟨⟨(e3 _ _ _ (by omega) (by omega)).trans hws1.2.2, hlr3.2.1, hlr3.1, ?_, by omega, by omega, by rw [hl]; omega, fun t ht => ?_, fun t _ h => (by cases h)⟩, fun t _ h => (by cases h), ?_, fun t _ h => (by cases h)⟩
    · rw [h, gI_fm, if_neg (by omega), gI_sI, if_neg (by omega), gI_sI, if_pos ⟨rfl, rfl, rfl⟩]
    · rw [h, gI_fm, if_pos ⟨rfl, rfl, by omega, by omega⟩]; rfl
    · rw [h, gI_fm, if_neg (by omega), gI_sI, if_pos ⟨rfl, rfl, rfl⟩]
      congr 1
      exact (sm_0 (fun i _ => rfl)).symm
  subst hnn
  exact lp_se161_1 hW hq hN7 g3 hs3 (hlow.lw hE g3) hlr3 hac3 K

set_option maxRecDepth 100000 in
theorem lp_se33_n {W : zWd} (hW : Wok W) {q n N : Nat} (hq : q ≤ 1) (hn7 : n ≤ 7) (hN7 : N ≤ 7) {pvs : Nat → Nat → Bool} {bss : Nat → Nat → Nat → Nat} (hn1 : 1 ≤ n) (h3 : ∀ k, k ≤ n → tc W k ≤ 300) {S : zS} (hs : Sd S) (hlow : LowR S W q n pvs bss) (hws : WS S W q) (hiv : Iv S (wP W)) (htt : Tt S (tc W) q 11) {Po : Option zV → zS → Prop} (K : ∀ S1 pv bs w4, Fr (tLz (FqR q W n) (RFq q W n) (tl W n).length q n) S S1 → LowR S1 W q (n + 1) (upP pvs n pv) (upP bss n bs) → gI S1 1323 0 q = nI n → Ok mX12_settle 28 [some (zr 12 0), some (zi (nI q)), some (zi (nI N)), some (zi (nI (n + 1))), w4] [] S1 Po) {w4 : Option zV} (hn2 : 2 ≤ n) : Ok mX12_settle 33 [some (zr 12 0), some (zi (nI q)), some (zi (nI N)), some (zi (nI n)), w4] [] S Po := by
  have hE := hW.2.1
  have hl : (tl W n).length = tc W n := tl_len hE
  have hts := tc_sums hE hn7 h3
  have hs1' : sm (tc W) (n + 1) = sm (tc W) n + tc W n := rfl
  have hs2' : sm (fun k => tc W k * tc W k) (n + 1) = sm (fun k => tc W k * tc W k) n + tc W n * tc W n := rfl
  have hF4 : FqR q W n + tc W n ≤ 4400 := by show 2200 * q + sm (tc W) n + tc W n ≤ 4400; omega
  have hR4 : RFq q W n + tc W n * tc W n ≤ 400000 := by show 200000 * q + sm (fun k => tc W k * tc W k) n + tc W n * tc W n ≤ 400000; omega
  have hn300 := h3 n (Nat.le_refl _)
  have eFn : FqR q W n = 2200 * q + sm (tc W) n := rfl
  have eRn : RFq q W n = 200000 * q + sm (fun k => tc W k * tc W k) n := rfl
  refine r_mask [true, true, true, true, false] rfl ?_
  refine r_aload_n (q := 34) dX12_settle_33 rfl rfl rfl ?_
  refine r_iload_n (q := 35) dX12_settle_34 rfl rfl rfl ?_
  refine r_iload_n (q := 36) dX12_settle_35 rfl rfl rfl ?_
  refine r_callV (Mc := mX12_list) (q := 39) (As := [zi (nI q), zi (nI n)]) (st := []) ck12 dX12_settle_36 rfl rfl mkX12_list wt1764 wt1766 wp102 rfl (Nat.le_of_ble_eq_true rfl) (Nat.le_of_ble_eq_true rfl) (by decide) (by decide) (by decide) (Or.inl rfl) (hs.e (by decide)) (ok_list hE hq hn7 rfl (h3 n (Nat.le_refl _)) hF4 hs hws.1 hlow.cd hlow.mn (htt n hn1 (by omega)) hn1) (fun r36 S36 hp36 => ?_)
  obtain ⟨rfl, f1, hlr⟩ := hp36
  have g1 : Fr (tLz (FqR q W n) (RFq q W n) (tl W n).length q n) S S36 := f1.mono tLz_lf
  have hs1 : Sd S36 := hs.fr g1
  have hlow1 := hlow.lw hE g1
  have hws1 : WS S36 W q := hws.fr g1 (fun _ => tLz_f (by omega))
  have hiv1 : Iv S36 (wP W) := hiv.fr g1 (fun _ => tLz_f (by omega))
  have l4 := hlr.2.1
  have l5 := hlr.1
  obtain ⟨R1, hR1⟩ : ∃ x, x = RFq q W (n - 1) := ⟨_, rfl⟩
  obtain ⟨m1, hm1⟩ : ∃ x, x = (tl W (n - 1)).length := ⟨_, rfl⟩
  have c1 : gI S36 1327 0 (8 * q + n - 1) = nI R1 := by rw [hR1, show 8 * q + n - 1 = 8 * q + (n - 1) by omega]; exact (hlow1 (n - 1) (by omega) (by omega)).2.1.1.2.2.2.1
  have c2 : gI S36 1324 0 (8 * q + n - 1) = nI m1 := by rw [hm1, show 8 * q + n - 1 = 8 * q + (n - 1) by omega]; exact (hlow1 (n - 1) (by omega) (by omega)).1.2.1
  have hRR : R1 + m1 * m1 = RFq q W n := by
    rw [hR1, hm1, tl_len hE]
    unfold RFq
    rw [show sm (fun k => tc W k * tc W k) n = sm (fun k => tc W k * tc W k) (n - 1) + tc W (n - 1) * tc W (n - 1) from by
      conv => lhs; rw [show n = n - 1 + 1 by omega]
      rfl]
    omega
  show Ok _ _ _ [] _ _
  refine r_aload_n (q := 40) dX12_settle_39 rfl rfl rfl ?_
  refine r_getr (q := 43) (some (1327, 0)) ck12 dX12_settle_40 rfl (k := 27) (by decide) wt1305 rfl (hs1.e (by decide)) (hs1.r (by decide) (by decide)) ?_
  refine r_bipush (q := 45) (nI 8) dX12_settle_43 rfl (by decide) ?_
  refine r_iload_n (q := 46) dX12_settle_45 rfl rfl rfl ?_
  refine r_imulN (q := 47) dX12_settle_46 rfl ?_
  refine r_iload_n (q := 48) dX12_settle_47 rfl rfl rfl ?_
  refine r_iaddN (q := 49) dX12_settle_48 rfl ?_
  refine r_iload_n (q := 50) dX12_settle_49 rfl rfl rfl ?_
  refine r_iconst (q := 51) (nI 1) dX12_settle_50 rfl (by decide) ?_
  refine r_icmp_neN (q := 54) (t := 62) (by omega) (by omega) dX12_settle_51 (by decide) rfl (fun h51 => ?_) (fun h51 => absurd h51 (by omega))
  refine r_aload_n (q := 63) dX12_settle_62 rfl rfl rfl ?_
  refine r_getr (q := 66) (some (1327, 0)) ck12 dX12_settle_63 rfl (k := 27) (by decide) wt1305 rfl (hs1.e (by decide)) (hs1.r (by decide) (by decide)) ?_
  refine r_bipush (q := 68) (nI 8) dX12_settle_66 rfl (by decide) ?_
  refine r_iload_n (q := 69) dX12_settle_68 rfl rfl rfl ?_
  refine r_imulN (q := 70) dX12_settle_69 rfl ?_
  refine r_iload_n (q := 71) dX12_settle_70 rfl rfl rfl ?_
  refine r_iaddN (q := 72) dX12_settle_71 rfl ?_
  refine r_iconst (q := 73) (nI 1) dX12_settle_72 rfl (by decide) ?_
  refine r_isubN (q := 74) (by omega) dX12_settle_73 rfl ?_
  refine r_ialdN (q := 75) 16 (by decide) rfl dX12_settle_74 rfl (hs1.e (by decide)) (hs1.n rfl (by decide)) (by omega) (by decide) ?_
  refine r_topi (y := nI R1) c1 ?_
  refine r_aload_n (q := 76) dX12_settle_75 rfl rfl rfl ?_
  refine r_getr (q := 79) (some (1324, 0)) ck12 dX12_settle_76 rfl (k := 24) (by decide) wt1302 rfl (hs1.e (by decide)) (hs1.r (by decide) (by decide)) ?_
  refine r_bipush (q := 81) (nI 8) dX12_settle_79 rfl (by decide) ?_
  refine r_iload_n (q := 82) dX12_settle_81 rfl rfl rfl ?_
  refine r_imulN (q := 83) dX12_settle_82 rfl ?_
  refine r_iload_n (q := 84) dX12_settle_83 rfl rfl rfl ?_
  refine r_iaddN (q := 85) dX12_settle_84 rfl ?_
  refine r_iconst (q := 86) (nI 1) dX12_settle_85 rfl (by decide) ?_
  refine r_isubN (q := 87) (by omega) dX12_settle_86 rfl ?_
  refine r_ialdN (q := 88) 16 (by decide) rfl dX12_settle_87 rfl (hs1.e (by decide)) (hs1.n rfl (by decide)) (by omega) (by decide) ?_
  refine r_topi (y := nI m1) c2 ?_
  refine r_aload_n (q := 89) dX12_settle_88 rfl rfl rfl ?_
  refine r_getr (q := 92) (some (1324, 0)) ck12 dX12_settle_89 rfl (k := 24) (by decide) wt1302 rfl (hs1.e (by decide)) (hs1.r (by decide) (by decide)) ?_
  refine r_bipush (q := 94) (nI 8) dX12_settle_92 rfl (by decide) ?_
  refine r_iload_n (q := 95) dX12_settle_94 rfl rfl rfl ?_
  refine r_imulN (q := 96) dX12_settle_95 rfl ?_
  refine r_iload_n (q := 97) dX12_settle_96 rfl rfl rfl ?_
  refine r_iaddN (q := 98) dX12_settle_97 rfl ?_
  refine r_iconst (q := 99) (nI 1) dX12_settle_98 rfl (by decide) ?_
  refine r_isubN (q := 100) (by omega) dX12_settle_99 rfl ?_
  refine r_ialdN (q := 101) 16 (by decide) rfl dX12_settle_100 rfl (hs1.e (by decide)) (hs1.n rfl (by decide)) (by omega) (by decide) ?_
  refine r_topi (y := nI m1) c2 ?_
  refine r_imulN (q := 102) dX12_settle_101 rfl ?_
  refine r_iaddN (q := 103) dX12_settle_102 rfl ?_
  refine r_topi (y := nI (RFq q W n)) (congrArg nI hRR) ?_
  refine r_iastN (q := 104) 16 (by decide) rfl dX12_settle_103 rfl (hs1.e (by decide)) (hs1.n rfl (by decide)) (by omega) (by decide) ?_
  refine r_aload_n (q := 105) dX12_settle_104 rfl rfl rfl ?_
  refine r_getr (q := 108) (some (1326, 0)) ck12 dX12_settle_105 rfl (k := 26) (by decide) wt1304 rfl (hs1.e (by decide)) (hs1.r (by decide) (by decide)) ?_
  refine r_bipush (q := 110) (nI 8) dX12_settle_108 rfl (by decide) ?_
  refine r_iload_n (q := 111) dX12_settle_110 rfl rfl rfl ?_
  refine r_imulN (q := 112) dX12_settle_111 rfl ?_
  refine r_iload_n (q := 113) dX12_settle_112 rfl rfl rfl ?_
  refine r_iaddN (q := 114) dX12_settle_113 rfl ?_
  refine r_iconst (q := 115) (nI 0) dX12_settle_114 rfl (by decide) ?_
  refine r_iastN (q := 116) 16 (by decide) rfl dX12_settle_115 rfl (hs1.e (by decide)) (hs1.n rfl (by decide)) (by omega) (by decide) ?_
  refine r_iconst (q := 117) (nI 0) dX12_settle_116 rfl (by decide) ?_
  refine r_istore (q := 119) (L' := [some (zr 12 0), some (zi (nI q)), some (zi (nI N)), some (zi (nI n)), some (zi (nI 0))]) dX12_settle_117 rfl (by decide) rfl ?_
  have e9 : ∀ x y k, ¬ ((x = 1327 ∨ x = 1326) ∧ y = 0 ∧ k = 8 * q + n) → gI (sI (sI S36 1327 0 (8 * q + n) (nI (RFq q W n))) 1326 0 (8 * q + n) (nI 0)) x y k = gI S36 x y k := fun x y k z => by rw [gI_sI, if_neg (by omega), gI_sI, if_neg (by omega)]
  refine lp_se119 hq hn7 (by omega) (by omega) (tl W n).length 0 (sI (sI S36 1327 0 (8 * q + n) (nI (RFq q W n))) 1326 0 (8 * q + n) (nI 0)) (by omega) hs1 ((e9 _ _ _ (by omega)).trans l4) ((e9 _ _ _ (by omega)).trans l5) (fun S3 h => ?_)
  have hs3 : Sd S3 := by rw [h]; exact hs1
  have e3 : ∀ x y k, ¬ ((x = 1327 ∨ x = 1326) ∧ y = 0 ∧ k = 8 * q + n) → ¬ (x = 1332 ∧ y = 0 ∧ FqR q W n ≤ k ∧ k < FqR q W n + (tl W n).length) → gI S3 x y k = gI S36 x y k := fun x y k z1 z2 => by rw [h, gI_fm, if_neg (by omega)]; exact e9 x y k z1
  have g3 : Fr (tLz (FqR q W n) (RFq q W n) (tl W n).length q n) S S3 := by
    refine g1.tr ⟨fun x y k hz => e3 x y k (fun z => ?_) (fun z => ?_), fun x y k _ => by rw [h]; rfl, by rw [h]; rfl⟩
    · rcases z.1 with e | e <;> (simp [tLz, tAcR, tIn, e, z.2.1, z.2.2] at hz)
    · simp [tLz, tAcR, tIn, z.1, z.2.1, z.2.2.1, z.2.2.2] at hz
  have hlr3 : LrR S3 W q n (FqR q W n) := by
    obtain ⟨a1, a2, a3, rr, a4, a5, a6⟩ := hlr
    exact ⟨(e3 _ _ _ (by omega) (by omega)).trans a1, (e3 _ _ _ (by omega) (by omega)).trans a2, fun j hj => ⟨(e3 _ _ _ (by omega) (by omega)).trans (a3 j hj).1, (a3 j hj).2⟩, rr, a4, fun i hi => (e3 _ _ _ (by omega) (by omega)).trans (a5 i hi), a6⟩
  have hac3 : AcS S3 W q n (fun _ => false) (fun _ _ => 0) := by
    refine ⟨⟨(e3 _ _ _ (by omega) (by omega)).trans hws1.2.2, hlr3.2.1, hlr3.1, ?_, by omega, by omega, by rw [hl]; omega, fun t ht => ?_, fun t _ h => (by cases h)⟩, fun t _ h => (by cases h), ?_, fun t _ h => (by cases h)⟩
    · rw [h, gI_fm, if_neg (by omega), gI_sI, if_neg (by omega), gI_sI, if_pos ⟨rfl, rfl, rfl⟩]
    · rw [h, gI_fm, if_pos ⟨rfl, rfl, by omega, by omega⟩]; rfl
    · rw [h, gI_fm, if_neg (by omega), gI_sI, if_pos ⟨rfl, rfl, rfl⟩]
      congr 1
      exact (sm_0 (fun i _ => rfl)).symm
  exact lp_se161 hW hq hn7 hn2 hN7 g3 hs3 (hlow.lw hE g3) hlr3 hac3 K (hws.fr g3 (fun _ => tLz_f (by omega))) (hiv.fr g3 (fun _ => tLz_f (by omega)))

set_option maxRecDepth 100000 in
theorem lp_se28 {W : zWd} (hW : Wok W) {q N : Nat} (hq : q ≤ 1) (hN7 : N ≤ 7) (h3 : ∀ k, k ≤ N → tc W k ≤ 300) : ∀ (d L : Nat) (S : zS) (pvs : Nat → Nat → Bool) (bss : Nat → Nat → Nat → Nat) (w4 : Option zV), N ≤ L + d → Sd S → WS S W q → Iv S (wP W) → RB S W q L pvs bss → Tt S (tc W) q 11 → Ok mX12_settle 28 [some (zr 12 0), some (zi (nI q)), some (zi (nI N)), some (zi (nI (L + 1))), w4] [] S (fun r S1 => r = none ∧ Fr (tSe q) S S1 ∧ (gI S1 12 0 43 = gI S 12 0 43 ∧ Iv S1 (wP W)) ∧ ∃ L' pvs' bss', RB S1 W q L' pvs' bss' ∧ N ≤ L' ∧ L ≤ L') := by
  have hE := hW.2.1
  intro d
  induction d with
  | zero =>
    intro L S pvs bss w4 hd hs hws hiv hR htt
    have hL7 := hR.2.1
    refine r_mask [true, true, true, true, false] rfl ?_
    refine r_iload_n (q := 29) dX12_settle_28 rfl rfl rfl ?_
    refine r_iload_n (q := 30) dX12_settle_29 rfl rfl rfl ?_
    refine r_icmp_gtN (q := 33) (t := 196) (by omega) (by omega) dX12_settle_30 (by decide) rfl (fun h30 => ?_) (fun h30 => absurd h30 (by omega))
    refine r_return dX12_settle_196 rfl ?_
    exact ⟨rfl, Fr.rf, ⟨rfl, hiv⟩, L, pvs, bss, hR, hd, Nat.le_refl _⟩
  | succ d ih =>
    intro L S pvs bss w4 hd hs hws hiv hR htt
    have hL7 := hR.2.1
    by_cases hNL : N ≤ L
    · refine r_mask [true, true, true, true, false] rfl ?_
      refine r_iload_n (q := 29) dX12_settle_28 rfl rfl rfl ?_
      refine r_iload_n (q := 30) dX12_settle_29 rfl rfl rfl ?_
      refine r_icmp_gtN (q := 33) (t := 196) (by omega) (by omega) dX12_settle_30 (by decide) rfl (fun h30 => ?_) (fun h30 => absurd h30 (by omega))
      refine r_return dX12_settle_196 rfl ?_
      exact ⟨rfl, Fr.rf, ⟨rfl, hiv⟩, L, pvs, bss, hR, hNL, Nat.le_refl _⟩
    · refine r_mask [true, true, true, true, false] rfl ?_
      refine r_iload_n (q := 29) dX12_settle_28 rfl rfl rfl ?_
      refine r_iload_n (q := 30) dX12_settle_29 rfl rfl rfl ?_
      refine r_icmp_gtN (q := 33) (t := 196) (by omega) (by omega) dX12_settle_30 (by decide) rfl (fun h30 => absurd h30 (by omega)) (fun h30 => ?_)
      have h3' : ∀ k, k ≤ L + 1 → tc W k ≤ 300 := fun k hk => h3 k (by omega)
      have hts := tc_sums hE (show L + 1 ≤ 7 by omega) h3'
      have hs1' : sm (tc W) (L + 1 + 1) = sm (tc W) (L + 1) + tc W (L + 1) := rfl
      have hs2' : sm (fun k => tc W k * tc W k) (L + 1 + 1) = sm (fun k => tc W k * tc W k) (L + 1) + tc W (L + 1) * tc W (L + 1) := rfl
      have hl : (tl W (L + 1)).length = tc W (L + 1) := tl_len hE
      have eFn : FqR q W (L + 1) = 2200 * q + sm (tc W) (L + 1) := rfl
      have eRn : RFq q W (L + 1) = 200000 * q + sm (fun k => tc W k * tc W k) (L + 1) := rfl
      have hse := tSe_lw (F := FqR q W (L + 1)) (RF := RFq q W (L + 1)) (M := (tl W (L + 1)).length) (q := q) (n := L + 1) (by omega) (by rw [hl]; show 2200 * q + sm (tc W) (L + 1) + tc W (L + 1) ≤ _; omega) (by omega) (by rw [hl]; show 200000 * q + sm (fun k => tc W k * tc W k) (L + 1) + tc W (L + 1) * tc W (L + 1) ≤ _; omega) (by omega) (by omega)
      have key : ∀ S1 pv bs w4, Fr (tLz (FqR q W (L + 1)) (RFq q W (L + 1)) (tl W (L + 1)).length q (L + 1)) S S1 → LowR S1 W q (L + 1 + 1) (upP pvs (L + 1) pv) (upP bss (L + 1) bs) → gI S1 1323 0 q = nI (L + 1) → Ok mX12_settle 28 [some (zr 12 0), some (zi (nI q)), some (zi (nI N)), some (zi (nI (L + 1 + 1))), w4] [] S1 (fun r S9 => r = none ∧ Fr (tSe q) S S9 ∧ (gI S9 12 0 43 = gI S 12 0 43 ∧ Iv S9 (wP W)) ∧ ∃ L' pvs' bss', RB S9 W q L' pvs' bss' ∧ N ≤ L' ∧ L ≤ L') := fun S1 pv bs w4 y1 y2 y3 => by
        refine Ok.mono (ih (L + 1) S1 (upP pvs (L + 1) pv) (upP bss (L + 1) bs) w4 (by omega) (hs.fr y1) (hws.fr y1 (fun _ => tLz_f (by omega))) (hiv.fr y1 (fun _ => tLz_f (by omega))) ⟨y3, by omega, h3', fun _ i a b => (y1.2.1 _ _ _ (tLz_f (by omega))).trans (htt i a b), y2⟩ (fun i a b => (y1.2.1 _ _ _ (tLz_f (by omega))).trans (htt i a b))) (fun r S2 z => ?_)
        obtain ⟨z1, z2, z3, L', pvs', bss', z4, z5, z6⟩ := z
        exact ⟨z1, (y1.mono hse).tr z2, ⟨z3.1.trans (y1.1 _ _ _ (bfalse fun z => by simp [tLz, tLf, tLiR, tPu, tPa, tPt, tSo, tAcR, tIn] at z)), z3.2⟩, L', pvs', bss', z4, z5, by omega⟩
      by_cases hn2 : L + 1 = 1
      · exact lp_se33_1 hW hq (show L + 1 ≤ 7 by omega) hN7 (by omega) h3' hs hR.2.2.2.2 hws hiv htt key hn2
      · exact lp_se33_n hW hq (show L + 1 ≤ 7 by omega) hN7 (by omega) h3' hs hR.2.2.2.2 hws hiv htt key (by omega)

set_option maxRecDepth 100000 in
theorem ok_settle_y {W : zWd} (hW : Wok W) {q N L : Nat} (hq : q ≤ 1) (hN7 : N ≤ 7) (h3 : ∀ k, k ≤ N → tc W k ≤ 300) {pvs : Nat → Nat → Bool} {bss : Nat → Nat → Nat → Nat} {S : zS} (hs : Sd S) (hws : WS S W q) (hI : gI S 12 0 43 = nI (wP W) → Iv S (wP W)) (hR : RB S W q L pvs bss) (hLz : L ≠ 0) : Ok mX12_settle 0 (ent 5 [zr 12 0, zi (nI q), zi (nI N)]) [] S (fun r S1 => r = none ∧ Fr (tSe q) S S1 ∧ (gI S1 12 0 43 = nI (wP W) ∧ Iv S1 (wP W)) ∧ ∃ L' pvs' bss', RB S1 W q L' pvs' bss' ∧ N ≤ L' ∧ L ≤ L') := by
  have hL7 := hR.2.1
  show Ok mX12_settle 0 [some (zr 12 0), some (zi (nI q)), some (zi (nI N)), none, none] [] S _
  refine r_aload_n (q := 1) dX12_settle_0 rfl rfl rfl ?_
  refine r_getr (q := 4) (some (1323, 0)) ck12 dX12_settle_1 rfl (k := 23) (by decide) wt1301 rfl (hs.e (by decide)) (hs.r (by decide) (by decide)) ?_
  refine r_iload_n (q := 5) dX12_settle_4 rfl rfl rfl ?_
  refine r_ialdN (q := 6) 2 (by decide) rfl dX12_settle_5 rfl (hs.e (by decide)) (hs.n rfl (by decide)) (by omega) (by decide) ?_
  refine r_topi (y := nI L) hR.1 ?_
  refine r_if_neN (q := 9) (t := 14) (by omega) dX12_settle_6 (by decide) rfl (fun h6 => ?_) (fun h6 => absurd h6 (by omega))
  refine r_aload_n (q := 15) dX12_settle_14 rfl rfl rfl ?_
  refine r_iload_n (q := 16) dX12_settle_15 rfl rfl rfl ?_
  refine r_callV (Mc := mX12_settleInverses) (q := 19) (As := [zi (nI q)]) (st := []) ck12 dX12_settle_16 rfl rfl mkX12_settleInverses wt1760 wt1762 wp101 rfl (Nat.le_of_ble_eq_true rfl) (Nat.le_of_ble_eq_true rfl) (by decide) (by decide) (by decide) (Or.inl rfl) (hs.e (by decide)) (ok_settleInverses hs hq hW.1.1 hW.1.2.1 hW.1.2.2 hws.2.2 hI) (fun r16 S16 hp16 => ?_)
  obtain ⟨rfl, f2, hiv2, h432⟩ := hp16
  have g2 : Fr (tSe q) S S16 := (f2.mono (fun x y k h => by simp [tSe, h]))
  have hs2 : Sd S16 := hs.fr g2
  have hlv2 : gI S16 1323 0 q = nI L := (f2.1 _ _ _ rfl).trans hR.1
  have htt2 : Tt S16 (tc W) q 11 := fun i a b => (f2.2.1 _ _ _ rfl).trans ((hR.2.2.2.1 (by omega)) i a b)
  have hlow2 : LowR S16 W q (L + 1) pvs bss := hR.2.2.2.2.fr hW.2.1 f2 rfl (fun _ _ _ => ⟨rfl, rfl, rfl, rfl⟩) (fun _ _ _ => ⟨rfl, rfl, rfl⟩) (fun _ _ _ => rfl)
  show Ok _ _ _ [] _ _
  refine r_aload_n (q := 20) dX12_settle_19 rfl rfl rfl ?_
  refine r_getr (q := 23) (some (1323, 0)) ck12 dX12_settle_20 rfl (k := 23) (by decide) wt1301 rfl (hs2.e (by decide)) (hs2.r (by decide) (by decide)) ?_
  refine r_iload_n (q := 24) dX12_settle_23 rfl rfl rfl ?_
  refine r_ialdN (q := 25) 2 (by decide) rfl dX12_settle_24 rfl (hs2.e (by decide)) (hs2.n rfl (by decide)) (by omega) (by decide) ?_
  refine r_topi (y := nI L) hlv2 ?_
  refine r_iconst (q := 26) (nI 1) dX12_settle_25 rfl (by decide) ?_
  refine r_iaddN (q := 27) dX12_settle_26 rfl ?_
  refine r_istore_n (q := 28) (L' := [some (zr 12 0), some (zi (nI q)), some (zi (nI N)), some (zi (nI (L + 1))), none]) dX12_settle_27 rfl rfl (by decide) rfl ?_
  refine Ok.mono (lp_se28 hW hq hN7 h3 N L S16 pvs bss none (by omega) hs2 (hws.fr f2 (fun _ => rfl)) hiv2 ⟨hlv2, hL7, hR.2.2.1, fun _ => htt2, hlow2⟩ htt2) (fun r S2 z => ?_)
  obtain ⟨z1, z2, z3, z4⟩ := z
  exact ⟨z1, g2.tr z2, ⟨z3.1.trans h432, z3.2⟩, z4⟩

set_option maxRecDepth 100000 in
theorem ok_settle_n {W : zWd} (hW : Wok W) {q N L : Nat} (hq : q ≤ 1) (hN7 : N ≤ 7) (h3 : ∀ k, k ≤ N → tc W k ≤ 300) {pvs : Nat → Nat → Bool} {bss : Nat → Nat → Nat → Nat} {S : zS} (hs : Sd S) (hws : WS S W q) (hI : gI S 12 0 43 = nI (wP W) → Iv S (wP W)) (hR : RB S W q L pvs bss) (hLz : L = 0) : Ok mX12_settle 0 (ent 5 [zr 12 0, zi (nI q), zi (nI N)]) [] S (fun r S1 => r = none ∧ Fr (tSe q) S S1 ∧ (gI S1 12 0 43 = nI (wP W) ∧ Iv S1 (wP W)) ∧ ∃ L' pvs' bss', RB S1 W q L' pvs' bss' ∧ N ≤ L' ∧ L ≤ L') := by
  have hL7 := hR.2.1
  have hL0 : gI S 1323 0 q = nI 0 := by have z := hR.1; rw [hLz] at z; exact z
  show Ok mX12_settle 0 [some (zr 12 0), some (zi (nI q)), some (zi (nI N)), none, none] [] S _
  refine r_aload_n (q := 1) dX12_settle_0 rfl rfl rfl ?_
  refine r_getr (q := 4) (some (1323, 0)) ck12 dX12_settle_1 rfl (k := 23) (by decide) wt1301 rfl (hs.e (by decide)) (hs.r (by decide) (by decide)) ?_
  refine r_iload_n (q := 5) dX12_settle_4 rfl rfl rfl ?_
  refine r_ialdN (q := 6) 2 (by decide) rfl dX12_settle_5 rfl (hs.e (by decide)) (hs.n rfl (by decide)) (by omega) (by decide) ?_
  refine r_topi (y := nI 0) hL0 ?_
  refine r_if_neN (q := 9) (t := 14) (by omega) dX12_settle_6 (by decide) rfl (fun h6 => absurd h6 (by omega)) (fun h6 => ?_)
  refine r_aload_n (q := 10) dX12_settle_9 rfl rfl rfl ?_
  refine r_iload_n (q := 11) dX12_settle_10 rfl rfl rfl ?_
  refine r_callV (Mc := mX12_totals) (q := 14) (As := [zi (nI q)]) (st := []) ck12 dX12_settle_11 rfl rfl mkX12_totals wt1690 wt1692 wp91 rfl (Nat.le_of_ble_eq_true rfl) (Nat.le_of_ble_eq_true rfl) (by decide) (by decide) (by decide) (Or.inl rfl) (hs.e (by decide)) (ok_totals_q hs hq hW.2.1 ⟨hws.1.1, hws.1.2⟩) (fun r11 S11 hp11 => ?_)
  obtain ⟨rfl, f1, htt1⟩ := hp11
  have g1 : Fr (tSe q) S S11 := f1.mono (fun x y k h => by simp [tSe, h])
  have hs1 : Sd S11 := hs.fr g1
  have hws1 : WS S11 W q := hws.fr f1 (fun _ => rfl)
  have hI1 : gI S11 12 0 43 = nI (wP W) → Iv S11 (wP W) := fun z => (hI ((f1.1 _ _ _ rfl).symm.trans z)).fr f1 (fun _ => rfl)
  have hlow1 : LowR S11 W q (L + 1) pvs bss := hR.2.2.2.2.fr hW.2.1 f1 rfl (fun _ _ _ => ⟨rfl, rfl, rfl, rfl⟩) (fun _ _ _ => ⟨rfl, rfl, rfl⟩) (fun _ _ _ => rfl)
  show Ok _ _ _ [] _ _
  refine r_aload_n (q := 15) dX12_settle_14 rfl rfl rfl ?_
  refine r_iload_n (q := 16) dX12_settle_15 rfl rfl rfl ?_
  refine r_callV (Mc := mX12_settleInverses) (q := 19) (As := [zi (nI q)]) (st := []) ck12 dX12_settle_16 rfl rfl mkX12_settleInverses wt1760 wt1762 wp101 rfl (Nat.le_of_ble_eq_true rfl) (Nat.le_of_ble_eq_true rfl) (by decide) (by decide) (by decide) (Or.inl rfl) (hs1.e (by decide)) (ok_settleInverses hs1 hq hW.1.1 hW.1.2.1 hW.1.2.2 hws1.2.2 hI1) (fun r16 S16 hp16 => ?_)
  obtain ⟨rfl, f2, hiv2, h432⟩ := hp16
  have g2 : Fr (tSe q) S S16 := g1.tr (f2.mono (fun x y k h => by simp [tSe, h]))
  have hs2 : Sd S16 := hs.fr g2
  have hlv2 : gI S16 1323 0 q = nI L := (f2.1 _ _ _ rfl).trans ((f1.1 _ _ _ rfl).trans hR.1)
  have htt2 : Tt S16 (tc W) q 11 := fun i a b => (f2.2.1 _ _ _ rfl).trans (htt1 i a b)
  have hlow2 : LowR S16 W q (L + 1) pvs bss := hlow1.fr hW.2.1 f2 rfl (fun _ _ _ => ⟨rfl, rfl, rfl, rfl⟩) (fun _ _ _ => ⟨rfl, rfl, rfl⟩) (fun _ _ _ => rfl)
  show Ok _ _ _ [] _ _
  refine r_aload_n (q := 20) dX12_settle_19 rfl rfl rfl ?_
  refine r_getr (q := 23) (some (1323, 0)) ck12 dX12_settle_20 rfl (k := 23) (by decide) wt1301 rfl (hs2.e (by decide)) (hs2.r (by decide) (by decide)) ?_
  refine r_iload_n (q := 24) dX12_settle_23 rfl rfl rfl ?_
  refine r_ialdN (q := 25) 2 (by decide) rfl dX12_settle_24 rfl (hs2.e (by decide)) (hs2.n rfl (by decide)) (by omega) (by decide) ?_
  refine r_topi (y := nI L) hlv2 ?_
  refine r_iconst (q := 26) (nI 1) dX12_settle_25 rfl (by decide) ?_
  refine r_iaddN (q := 27) dX12_settle_26 rfl ?_
  refine r_istore_n (q := 28) (L' := [some (zr 12 0), some (zi (nI q)), some (zi (nI N)), some (zi (nI (L + 1))), none]) dX12_settle_27 rfl rfl (by decide) rfl ?_
  refine Ok.mono (lp_se28 hW hq hN7 h3 N L S16 pvs bss none (by omega) hs2 (hws1.fr f2 (fun _ => rfl)) hiv2 ⟨hlv2, hL7, hR.2.2.1, fun _ => htt2, hlow2⟩ htt2) (fun r S2 z => ?_)
  obtain ⟨z1, z2, z3, z4⟩ := z
  exact ⟨z1, g2.tr z2, ⟨z3.1.trans h432, z3.2⟩, z4⟩

theorem ok_settle {W : zWd} (hW : Wok W) {q N L : Nat} (hq : q ≤ 1) (hN7 : N ≤ 7) (h3 : ∀ k, k ≤ N → tc W k ≤ 300) {pvs : Nat → Nat → Bool} {bss : Nat → Nat → Nat → Nat} {S : zS} (hs : Sd S) (hws : WS S W q) (hI : gI S 12 0 43 = nI (wP W) → Iv S (wP W)) (hR : RB S W q L pvs bss) : Ok mX12_settle 0 (ent 5 [zr 12 0, zi (nI q), zi (nI N)]) [] S (fun r S1 => r = none ∧ Fr (tSe q) S S1 ∧ (gI S1 12 0 43 = nI (wP W) ∧ Iv S1 (wP W)) ∧ ∃ L' pvs' bss', RB S1 W q L' pvs' bss' ∧ N ≤ L' ∧ L ≤ L') := by
  by_cases h : L = 0
  · exact ok_settle_n hW hq hN7 h3 hs hws hI hR h
  · exact ok_settle_y hW hq hN7 h3 hs hws hI hR h

