/-- what listTrees of level n touches -/
def tLt (b n f0 x y k : Nat) : Prop := y = b ∧ (x = 104 ∧ f0 ≤ k ∨ x = 103 ∧ k = n + 1 ∨ x = 700 ∨ x = 701 ∨ x = 702 ∨ x = 105 ∧ f0 ≤ k ∨ x = 106 ∧ k = n + 1 ∨ x = 107)
/-- a level listed, without marks -/
def Lst (S S1 : zS) (W : zWd) (b n f0 rf : Nat) : Prop := Fg (tLt b n f0) S S1 ∧ Lx S1 b n f0 (tl W n) ∧ Mx S1 b f0 (tl W n).length (fun _ => 0) ∧ gI S1 106 b n = nI rf ∧ gI S1 106 b (n + 1) = nI (rf + tri (tl W n).length) ∧ rf + tri (tl W n).length ≤ gN S1 107 b ∧ 512 ≤ gN S1 107 b ∧ gN S1 107 b ≤ 160000 ∧ (∀ k, k < rf → gI S1 107 b k = gI S 107 b k)
theorem tLs_lt {b n f0 : Nat} (x y k : Nat) (h : tLs b n f0 x y k = true) : tLt b n f0 x y k := by
  simp [tLs] at h
  unfold tLt
  omega
theorem ky_0 : ky [0] = 0 := by decide
theorem srt_nil : Srt [] := List.Pairwise.nil

set_option maxRecDepth 100000 in
theorem lp_lt160 {W : zWd} (hE : Eok (wA W) (we W)) {b n f0 rf : Nat} (hb4 : b < 4) (hn7 : n ≤ 7) (hn1 : 1 ≤ n) (hc3 : tc W n ≤ 300) (hc4 : f0 + tc W n ≤ 400) (hrf : rf + tri (tc W n) ≤ 35261) {S S0 : zS} (hs : Sd S) (g0 : Fg (tLt b n f0) S0 S) (hL : Lx S b n f0 (tl W n)) (h6 : gI S 106 b n = nI rf) (h61 : gI S 106 b (n + 1) = nI (rf + tri (tl W n).length)) (h7 : 512 ≤ gN S 107 b) (h79 : gN S 107 b ≤ 160000) (h70 : rf ≤ gN S 107 b) (h7k : ∀ k, k < rf → gI S 107 b k = gI S0 107 b k) {al : Nat} : Ok mX0_listTrees 160 [some (zr 0 b), some (zi (nI n)), some (zi (nI al)), none, none, none] [] S (fun r S2 => r = none ∧ Lst S0 S2 W b n f0 rf) := by
  have hlen : (tl W n).length = tc W n := tl_len hE
  refine r_aload_n (q := 161) dX0_listTrees_160 rfl rfl rfl ?_
  refine r_aload_n (q := 162) dX0_listTrees_161 rfl rfl rfl ?_
  refine r_getr (q := 165) (some (106, b)) ck0 dX0_listTrees_162 rfl (k := 6) (by decide) wt383 rfl (hs.e (show b < 4 by omega)) (hs.r (show b < 4 by omega) (by decide)) ?_
  refine r_iload_n (q := 166) dX0_listTrees_165 rfl rfl rfl ?_
  refine r_iconst (q := 167) (nI 1) dX0_listTrees_166 rfl (by decide) ?_
  refine r_iaddN (q := 168) dX0_listTrees_167 rfl ?_
  refine r_ialdN (q := 169) 9 (by decide) rfl dX0_listTrees_168 rfl (hs.e (show b < 4 by omega)) (hs.n rfl (show b < 4 by omega)) (by omega) (by decide) ?_
  refine r_topi (y := nI (rf + tri (tl W n).length)) h61 ?_
  refine r_callV (Mc := mX0_makeRoom) (q := 172) (As := [zi (nI (rf + tri (tl W n).length))]) (st := []) ck0 dX0_listTrees_169 rfl rfl mkX0_makeRoom wt814 wt816 wp33 rfl (Nat.le_of_ble_eq_true rfl) (Nat.le_of_ble_eq_true rfl) (by decide) (by decide) (by decide) (Or.inr ⟨Nat.le_of_ble_eq_true rfl, rfl, rfl⟩) (hs.e (show b < 4 by omega)) (ok_X0_makeRoom hs hb4 rfl h7 h79 (by rw [hlen]; exact hrf)) (fun r169 S169 hp169 => ?_)
  obtain ⟨rfl, hq169⟩ := hp169
  have F := fg_room0 hs hb4 rfl h7 h79 (e := rf + tri (tl W n).length) (by rw [hlen]; exact hrf)
  rw [← hq169] at F
  obtain ⟨F1, F2, F3, F4, F5, F6⟩ := F
  have k1 : gI S169 103 b n = nI f0 := (F1.I (by omega) (by omega)).trans hL.1
  have k2 : gI S169 103 b (n + 1) = nI (f0 + (tl W n).length) := (F1.I (by omega) (by omega)).trans hL.2.1
  have k3 := hL.2.2.1
  show Ok _ _ _ [] _ _
  refine r_aload_n (q := 173) dX0_listTrees_172 rfl rfl rfl ?_
  refine r_getr (q := 176) (some (105, b)) ck0 dX0_listTrees_173 rfl (k := 5) (by decide) wt382 rfl (F1.sd.e (show b < 4 by omega)) (F1.sd.r (show b < 4 by omega) (by decide)) ?_
  refine r_aload_n (q := 177) dX0_listTrees_176 rfl rfl rfl ?_
  refine r_getr (q := 180) (some (103, b)) ck0 dX0_listTrees_177 rfl (k := 3) (by decide) wt380 rfl (F1.sd.e (show b < 4 by omega)) (F1.sd.r (show b < 4 by omega) (by decide)) ?_
  refine r_iload_n (q := 181) dX0_listTrees_180 rfl rfl rfl ?_
  refine r_ialdN (q := 182) 9 (by decide) rfl dX0_listTrees_181 rfl (F1.sd.e (show b < 4 by omega)) (F1.sd.n rfl (show b < 4 by omega)) (by omega) (by decide) ?_
  refine r_topi (y := nI f0) k1 ?_
  refine r_aload_n (q := 183) dX0_listTrees_182 rfl rfl rfl ?_
  refine r_getr (q := 186) (some (103, b)) ck0 dX0_listTrees_183 rfl (k := 3) (by decide) wt380 rfl (F1.sd.e (show b < 4 by omega)) (F1.sd.r (show b < 4 by omega) (by decide)) ?_
  refine r_iload_n (q := 187) dX0_listTrees_186 rfl rfl rfl ?_
  refine r_iconst (q := 188) (nI 1) dX0_listTrees_187 rfl (by decide) ?_
  refine r_iaddN (q := 189) dX0_listTrees_188 rfl ?_
  refine r_ialdN (q := 190) 9 (by decide) rfl dX0_listTrees_189 rfl (F1.sd.e (show b < 4 by omega)) (F1.sd.n rfl (show b < 4 by omega)) (by omega) (by decide) ?_
  refine r_topi (y := nI (f0 + (tl W n).length)) k2 ?_
  refine r_iconst (q := 191) (nI 0) dX0_listTrees_190 rfl (by decide) ?_
  refine r_callS (Mc := mJ7_fill_fda19) (q := 194) (As := [zr 105 b, zi (nI f0), zi (nI (f0 + (tl W n).length)), zi (nI 0)]) (st := []) dX0_listTrees_191 rfl rfl mkJ7_fill_fda19 wt822 wt823 rfl (Nat.le_of_ble_eq_true rfl) (Nat.le_of_ble_eq_true rfl) (by decide) (by decide) (by decide) (Or.inl rfl) F1.sd.some (ok_fill4 (n := 400) (by decide) rfl (F1.sd.e (show b < 4 by omega)) (F1.sd.n rfl (show b < 4 by omega)) (by omega) (by omega) (by decide)) (fun r191 S191 hp191 => ?_)
  obtain ⟨rfl, hq191⟩ := hp191
  rw [hq191]
  show Ok _ _ _ [] _ _
  refine r_return dX0_listTrees_194 rfl ?_
  have G : ∀ x y k, x ≠ 105 → gI (flS S169 105 b f0 (f0 + (tl W n).length) (nI 0)) x y k = gI S169 x y k := fun x y k hx => by rw [gI_fl, if_neg (fun z => hx z.1)]
  have G2 : Fg (tLt b n f0) S169 (flS S169 105 b f0 (f0 + (tl W n).length) (nI 0)) := Fg.of22 F1.sd rfl (fun x y k _ hz => by rw [gI_fl, if_neg (fun z => hz (by unfold tLt; omega))]) (fun _ _ _ _ _ => rfl)
  refine ⟨rfl, (g0.tr (F1.mono (fun x y k z => by unfold tLt; omega))).tr G2, ⟨(G _ _ _ (by omega)).trans k1, (G _ _ _ (by omega)).trans k2, k3, hL.2.2.2.1, fun i hi => (G _ _ _ (by omega)).trans ((F1.I (by omega) (by omega)).trans (hL.2.2.2.2 i hi))⟩, fun i hi => ⟨by rw [gI_fl, if_pos ⟨rfl, rfl, by omega, by omega⟩], Nat.zero_le _⟩, (G _ _ _ (by omega)).trans ((F1.I (by omega) (by omega)).trans h6), (G _ _ _ (by omega)).trans ((F1.I (by omega) (by omega)).trans h61), F3, F4, F5, fun k hk => (G _ _ _ (by omega)).trans ((F2 k (by omega)).trans (h7k k hk))⟩

set_option maxRecDepth 100000 in
theorem lp_lt138_0 {S : zS} (hs : Sd S) {b n rf al : Nat} (hb4 : b < 4) (hn7 : n ≤ 7) (h6 : gI S 106 b n = nI rf) (hal : 1 ≤ al) (hal3 : al ≤ 300) {Po : Option zV → zS → Prop} (K : Ok mX0_listTrees 160 [some (zr 0 b), some (zi (nI n)), some (zi (nI 0)), none, none, none] [] (sI S 106 b (n + 1) (nI (rf + tri 0))) Po) : Ok mX0_listTrees 138 [some (zr 0 b), some (zi (nI n)), some (zi (nI 0)), none, none, none] [] S Po := by
  have hq := mul_300 hal3
  refine r_aload_n (q := 139) dX0_listTrees_138 rfl rfl rfl ?_
  refine r_getr (q := 142) (some (106, b)) ck0 dX0_listTrees_139 rfl (k := 6) (by decide) wt383 rfl (hs.e (show b < 4 by omega)) (hs.r (show b < 4 by omega) (by decide)) ?_
  refine r_iload_n (q := 143) dX0_listTrees_142 rfl rfl rfl ?_
  refine r_iconst (q := 144) (nI 1) dX0_listTrees_143 rfl (by decide) ?_
  refine r_iaddN (q := 145) dX0_listTrees_144 rfl ?_
  refine r_aload_n (q := 146) dX0_listTrees_145 rfl rfl rfl ?_
  refine r_getr (q := 149) (some (106, b)) ck0 dX0_listTrees_146 rfl (k := 6) (by decide) wt383 rfl (hs.e (show b < 4 by omega)) (hs.r (show b < 4 by omega) (by decide)) ?_
  refine r_iload_n (q := 150) dX0_listTrees_149 rfl rfl rfl ?_
  refine r_ialdN (q := 151) 9 (by decide) rfl dX0_listTrees_150 rfl (hs.e (show b < 4 by omega)) (hs.n rfl (show b < 4 by omega)) (by omega) (by decide) ?_
  refine r_topi (y := nI rf) h6 ?_
  refine r_iload_n (q := 152) dX0_listTrees_151 rfl rfl rfl ?_
  refine r_iload_n (q := 153) dX0_listTrees_152 rfl rfl rfl ?_
  refine r_iconst (q := 154) (nI 1) dX0_listTrees_153 rfl (by decide) ?_
  refine r_isub (q := 155) dX0_listTrees_154 rfl ?_
  refine r_imul (q := 156) dX0_listTrees_155 rfl ?_
  refine r_iconst (q := 157) (nI 2) dX0_listTrees_156 rfl (by decide) ?_
  refine r_idiv (q := 158) dX0_listTrees_157 rfl (by decide) ?_
  refine r_iadd (q := 159) dX0_listTrees_158 rfl ?_
  refine r_iastN (q := 160) 9 (by decide) rfl dX0_listTrees_159 rfl (hs.e (show b < 4 by omega)) (hs.n rfl (show b < 4 by omega)) (by omega) (by decide) ?_
  show Ok _ _ _ _ (sI S 106 b (n + 1) (nI rf + nI 0 * (nI 0 - nI 1) / nI 2)) _
  rw [show nI 0 * (nI 0 - nI 1) / nI 2 = nI 0 by decide, nI_add]; exact K

set_option maxRecDepth 100000 in
theorem lp_lt138_s {S : zS} (hs : Sd S) {b n rf al : Nat} (hb4 : b < 4) (hn7 : n ≤ 7) (h6 : gI S 106 b n = nI rf) (hal : 1 ≤ al) (hal3 : al ≤ 300) {Po : Option zV → zS → Prop} (K : Ok mX0_listTrees 160 [some (zr 0 b), some (zi (nI n)), some (zi (nI al)), none, none, none] [] (sI S 106 b (n + 1) (nI (rf + tri al))) Po) : Ok mX0_listTrees 138 [some (zr 0 b), some (zi (nI n)), some (zi (nI al)), none, none, none] [] S Po := by
  have hq := mul_300 hal3
  refine r_aload_n (q := 139) dX0_listTrees_138 rfl rfl rfl ?_
  refine r_getr (q := 142) (some (106, b)) ck0 dX0_listTrees_139 rfl (k := 6) (by decide) wt383 rfl (hs.e (show b < 4 by omega)) (hs.r (show b < 4 by omega) (by decide)) ?_
  refine r_iload_n (q := 143) dX0_listTrees_142 rfl rfl rfl ?_
  refine r_iconst (q := 144) (nI 1) dX0_listTrees_143 rfl (by decide) ?_
  refine r_iaddN (q := 145) dX0_listTrees_144 rfl ?_
  refine r_aload_n (q := 146) dX0_listTrees_145 rfl rfl rfl ?_
  refine r_getr (q := 149) (some (106, b)) ck0 dX0_listTrees_146 rfl (k := 6) (by decide) wt383 rfl (hs.e (show b < 4 by omega)) (hs.r (show b < 4 by omega) (by decide)) ?_
  refine r_iload_n (q := 150) dX0_listTrees_149 rfl rfl rfl ?_
  refine r_ialdN (q := 151) 9 (by decide) rfl dX0_listTrees_150 rfl (hs.e (show b < 4 by omega)) (hs.n rfl (show b < 4 by omega)) (by omega) (by decide) ?_
  refine r_topi (y := nI rf) h6 ?_
  refine r_iload_n (q := 152) dX0_listTrees_151 rfl rfl rfl ?_
  refine r_iload_n (q := 153) dX0_listTrees_152 rfl rfl rfl ?_
  refine r_iconst (q := 154) (nI 1) dX0_listTrees_153 rfl (by decide) ?_
  refine r_isubN (q := 155) (by omega) dX0_listTrees_154 rfl ?_
  refine r_imulN (q := 156) dX0_listTrees_155 rfl ?_
  refine r_iconst (q := 157) (nI 2) dX0_listTrees_156 rfl (by decide) ?_
  refine r_idivN (q := 158) (by omega) (by omega) (by omega) dX0_listTrees_157 rfl ?_
  refine r_iaddN (q := 159) dX0_listTrees_158 rfl ?_
  refine r_iastN (q := 160) 9 (by decide) rfl dX0_listTrees_159 rfl (hs.e (show b < 4 by omega)) (hs.n rfl (show b < 4 by omega)) (by omega) (by decide) ?_
  exact K

set_option maxRecDepth 100000 in
theorem lp_lt132 {W : zWd} (hE : Eok (wA W) (we W)) {b n f0 rf : Nat} (hb4 : b < 4) (hn7 : n ≤ 7) (hn1 : 1 ≤ n) (hc3 : tc W n ≤ 300) (hc4 : f0 + tc W n ≤ 400) (hrf : rf + tri (tc W n) ≤ 35261) {S S0 : zS} (hs : Sd S) (g0 : Fg (tLt b n f0) S0 S) (hL : Lx S b n f0 (tl W n)) (h6 : gI S 106 b n = nI rf) (h7 : 512 ≤ gN S 107 b) (h79 : gN S 107 b ≤ 160000) (h70 : rf ≤ gN S 107 b) (h7k : ∀ k, k < rf → gI S 107 b k = gI S0 107 b k) {w2 w3 w4 w5 : Option zV} : Ok mX0_listTrees 132 [some (zr 0 b), some (zi (nI n)), w2, w3, w4, w5] [] S (fun r S2 => r = none ∧ Lst S0 S2 W b n f0 rf) := by
  have h300 := hL.2.2.2.1
  have hlen : (tl W n).length = tc W n := tl_len hE
  refine r_mask [true, true, false, false, false, false] rfl ?_
  refine r_aload_n (q := 133) dX0_listTrees_132 rfl rfl rfl ?_
  refine r_iload_n (q := 134) dX0_listTrees_133 rfl rfl rfl ?_
  refine r_callV (Mc := mX0_treesOf) (q := 137) (As := [zi (nI n)]) (st := []) ck0 dX0_listTrees_134 rfl rfl mkX0_treesOf wt788 wt789 wt790 rfl (Nat.le_of_ble_eq_true rfl) (Nat.le_of_ble_eq_true rfl) (by decide) (by decide) (by decide) (Or.inl rfl) (hs.e (show b < 4 by omega)) (ok_treesOf hs hb4 hn7 hL) (fun r134 S134 hp134 => ?_)
  obtain ⟨rfl, hq134⟩ := hp134
  rw [hq134]
  show Ok _ _ _ [zi (nI ((tl W n).length))] _ _
  refine r_istore_n (q := 138) (L' := [some (zr 0 b), some (zi (nI n)), some (zi (nI ((tl W n).length))), none, none, none]) dX0_listTrees_137 rfl rfl (by decide) rfl ?_
  have hfin := lp_lt160 hE hb4 hn7 hn1 hc3 hc4 hrf (S := sI S 106 b (n + 1) (nI (rf + tri (tl W n).length))) (S0 := S0) (al := (tl W n).length) hs (g0.tr (Fg.of22 hs rfl (fun x y k _ hz => by rw [gI_sI, if_neg (fun z => hz (by unfold tLt; omega))]) (fun _ _ _ _ _ => rfl))) ⟨by rw [gI_sI, if_neg (by omega)]; exact hL.1, by rw [gI_sI, if_neg (by omega)]; exact hL.2.1, hL.2.2.1, hL.2.2.2.1, fun i hi => by rw [gI_sI, if_neg (by omega)]; exact hL.2.2.2.2 i hi⟩ (by rw [gI_sI, if_neg (by omega)]; exact h6) (by rw [gI_sI, if_pos ⟨rfl, rfl, rfl⟩]) h7 h79 h70 (fun k hk => by rw [gI_sI, if_neg (by omega)]; exact h7k k hk)
  by_cases hz : (tl W n).length = 0
  · rw [hz] at hfin ⊢; exact lp_lt138_0 (al := 1) hs hb4 hn7 h6 (by omega) (by omega) hfin
  · exact lp_lt138_s hs hb4 hn7 h6 (by omega) h300 hfin

theorem lp_lt25 {W : zWd} (hE : Eok (wA W) (we W)) {b n f0 rf : Nat} (hb4 : b < 4) (hn7 : n ≤ 7) (hn1 : 1 ≤ n) (hc3 : tc W n ≤ 300) (hc4 : f0 + tc W n ≤ 400) (hrf : rf + tri (tc W n) ≤ 35261) (hf0 : f0 = sm (tc W) n) {S S0 : zS} (g0 : Fr (tLs b n f0) S0 S) (hs0 : Sd S0) {T : List (List Nat)} (hm : Lm S W b n f0 T) (h1 : n = 1 → [0] ∈ T) (hl : ∀ m, 1 ≤ m → m < n → Lx S b m (sm (tc W) m) (tl W m)) (h6 : gI S 106 b n = nI rf) (h7 : 512 ≤ gN S 107 b) (h79 : gN S 107 b ≤ 160000) (h70 : rf ≤ gN S 107 b) {w3 w4 w5 : Option zV} : Ok mX0_listTrees 27 [some (zr 0 b), some (zi (nI n)), some (zi (nI 0)), w3, w4, w5] [] S (fun r S2 => r = none ∧ Lst S0 S2 W b n f0 rf) := by
  refine lp_lt1 hE hb4 hn7 hc3 hc4 hn1 hf0 (wA W) 0 S T w3 w4 w5 (Nat.zero_add _) hm hl (fun S1 T1 w3 w4 w5 f1 m1 m2 m3 => ?_)
  have eT : T1 = tl W n := by
    refine sorted_uniq m1.2.2.1 (tl_sorted hE hn7) fun s => ⟨fun z => (tl_mem hE).mpr (m1.2.2.2.1 s z), fun z => ?_⟩
    have hz := (tl_mem hE).mp z
    by_cases e : n = 1
    · subst e
      have l := hz.len hE
      have c := len_la s
      have c2 := hz.2
      match s, hz, l, c, c2 with
      | [], hz, _, _, _ => exact absurd hz.1 (by simp [Fs])
      | [k], hz, _, _, c2 =>
        by_cases h0 : k = 0
        · rw [h0]; exact m2 _ (h1 rfl)
        · simp [lvs, h0] at c2
      | k :: q :: r, _, l, _, _ => rw [List.length_cons, List.length_cons] at l; omega
    · obtain ⟨a, m, i, t', ha, hme, ht', hi, rfl⟩ := tr_last hE hz (by omega)
      obtain ⟨j, hj, rfl⟩ := mem_idx ((tl_mem hE).mpr ht')
      exact m3 a m j i (by omega) ha hme hj hi
  have f2 := g0.tr f1
  have hL := m1.2.1
  rw [eT] at hL
  refine lp_lt132 hE hb4 hn7 hn1 hc3 hc4 hrf (S0 := S0) m1.1 (f2.fg hs0 tLs_lt) hL ((f1.1 _ _ _ (by simp [tLs])).trans h6) (by rw [gN_22 f1.2.2]; exact h7) (by rw [gN_22 f1.2.2]; exact h79) (by rw [gN_22 f1.2.2]; exact h70) (fun k _ => f2.1 _ _ _ (by simp [tLs]))

set_option maxRecDepth 100000 in
theorem ok_listTrees_n {S : zS} {W : zWd} (hE : Eok (wA W) (we W)) {b n f0 rf : Nat} (hb4 : b < 4) (hn7 : n ≤ 7) (hn1 : 1 ≤ n) (hc3 : tc W n ≤ 300) (hc4 : f0 + tc W n ≤ 400) (hrf : rf + tri (tc W n) ≤ 35261) (hf0 : f0 = sm (tc W) n) (hn2 : 2 ≤ n) (hs : Sd S) (hw : Wa S b W) (h3 : gI S 103 b n = nI f0) (hl : ∀ m, 1 ≤ m → m < n → Lx S b m (sm (tc W) m) (tl W m)) (h6 : gI S 106 b n = nI rf) (h7 : 512 ≤ gN S 107 b) (h79 : gN S 107 b ≤ 160000) (h70 : rf ≤ gN S 107 b) : Ok mX0_listTrees 0 (ent 6 [zr 0 b, zi (nI n)]) [] S (fun r S2 => r = none ∧ Lst S S2 W b n f0 rf) := by
  have hf : Fr (tLs b n f0) S (sI S 103 b (n + 1) (nI f0)) := (Fr.rf).i (by simp [tLs])
  have hLm : Lm (sI S 103 b (n + 1) (nI f0)) W b n f0 [] := ⟨hs, ⟨by rw [gI_sI, if_neg (by omega)]; exact h3, by rw [gI_sI, if_pos ⟨rfl, rfl, rfl⟩]; rfl, by show f0 + 0 ≤ 400; omega, by show 0 ≤ 300; omega, fun i hi => absurd hi (by show ¬ i < 0; omega)⟩, srt_nil, fun s z => absurd z List.not_mem_nil, hw.fr hf (fun k => ⟨by simp [tLs], by simp [tLs]⟩)⟩
  have hl' : ∀ m, 1 ≤ m → m < n → Lx (sI S 103 b (n + 1) (nI f0)) b m (sm (tc W) m) (tl W m) := fun m m1 m2 => (hl m m1 m2).fr2 hf (by simp [tLs]; omega) (by simp [tLs]; omega) (fun i hi => by have := sm_le (f := tc W) m2; rw [tl_len hE] at hi; simp [tLs]; omega)
  show Ok mX0_listTrees 0 [some (zr 0 b), some (zi (nI n)), none, none, none, none] [] S _
  refine r_aload_n (q := 1) dX0_listTrees_0 rfl rfl rfl ?_
  refine r_getr (q := 4) (some (103, b)) ck0 dX0_listTrees_1 rfl (k := 3) (by decide) wt380 rfl (hs.e (show b < 4 by omega)) (hs.r (show b < 4 by omega) (by decide)) ?_
  refine r_iload_n (q := 5) dX0_listTrees_4 rfl rfl rfl ?_
  refine r_iconst (q := 6) (nI 1) dX0_listTrees_5 rfl (by decide) ?_
  refine r_iaddN (q := 7) dX0_listTrees_6 rfl ?_
  refine r_aload_n (q := 8) dX0_listTrees_7 rfl rfl rfl ?_
  refine r_getr (q := 11) (some (103, b)) ck0 dX0_listTrees_8 rfl (k := 3) (by decide) wt380 rfl (hs.e (show b < 4 by omega)) (hs.r (show b < 4 by omega) (by decide)) ?_
  refine r_iload_n (q := 12) dX0_listTrees_11 rfl rfl rfl ?_
  refine r_ialdN (q := 13) 9 (by decide) rfl dX0_listTrees_12 rfl (hs.e (show b < 4 by omega)) (hs.n rfl (show b < 4 by omega)) (by omega) (by decide) ?_
  refine r_topi (y := nI f0) h3 ?_
  refine r_iastN (q := 14) 9 (by decide) rfl dX0_listTrees_13 rfl (hs.e (show b < 4 by omega)) (hs.n rfl (show b < 4 by omega)) (by omega) (by decide) ?_
  refine r_iload_n (q := 15) dX0_listTrees_14 rfl rfl rfl ?_
  refine r_iconst (q := 16) (nI 1) dX0_listTrees_15 rfl (by decide) ?_
  refine r_icmp_neN (q := 19) (t := 25) (by omega) (by omega) dX0_listTrees_16 (by decide) rfl (fun h16 => ?_) (fun h16 => absurd h16 (by omega))
  refine r_iconst (q := 26) (nI 0) dX0_listTrees_25 rfl (by decide) ?_
  refine r_istore_n (q := 27) (L' := [some (zr 0 b), some (zi (nI n)), some (zi (nI 0)), none, none, none]) dX0_listTrees_26 rfl rfl (by decide) rfl ?_
  exact lp_lt25 hE hb4 hn7 hn1 hc3 hc4 hrf hf0 hf hs hLm (fun z => absurd z (by omega)) hl' (by rw [gI_sI, if_neg (by omega)]; exact h6) h7 h79 h70

set_option maxRecDepth 100000 in
theorem ok_listTrees_1 {S : zS} {W : zWd} (hE : Eok (wA W) (we W)) {b f0 rf : Nat} (hb4 : b < 4)  (hc3 : tc W 1 ≤ 300) (hc4 : f0 + tc W 1 ≤ 400) (hrf : rf + tri (tc W 1) ≤ 35261) (hf0 : f0 = sm (tc W) 1) (hs : Sd S) (hw : Wa S b W) (h3 : gI S 103 b 1 = nI f0) (h6 : gI S 106 b 1 = nI rf) (h7 : 512 ≤ gN S 107 b) (h79 : gN S 107 b ≤ 160000) (h70 : rf ≤ gN S 107 b) : Ok mX0_listTrees 0 (ent 6 [zr 0 b, zi (nI 1)]) [] S (fun r S2 => r = none ∧ Lst S S2 W b 1 f0 rf) := by
  have hn7 : 1 ≤ 7 := by omega
  have hn1 : 1 ≤ 1 := by omega
  have hf : Fr (tLs b 1 f0) S (sI S 103 b (1 + 1) (nI f0)) := (Fr.rf).i (by simp [tLs])
  have h0 : Tr (wA W) (we W) 1 [0] := ⟨⟨by omega, by rw [if_pos rfl]; rfl⟩, rfl⟩
  have hLm : Lm (sI S 103 b (1 + 1) (nI f0)) W b 1 f0 [] := ⟨hs, ⟨by rw [gI_sI, if_neg (by omega)]; exact h3, by rw [gI_sI, if_pos ⟨rfl, rfl, rfl⟩]; rfl, by show f0 + 0 ≤ 400; omega, by show 0 ≤ 300; omega, fun i hi => absurd hi (by show ¬ i < 0; omega)⟩, srt_nil, fun s z => absurd z List.not_mem_nil, hw.fr hf (fun k => ⟨by simp [tLs], by simp [tLs]⟩)⟩
  show Ok mX0_listTrees 0 [some (zr 0 b), some (zi (nI 1)), none, none, none, none] [] S _
  refine r_aload_n (q := 1) dX0_listTrees_0 rfl rfl rfl ?_
  refine r_getr (q := 4) (some (103, b)) ck0 dX0_listTrees_1 rfl (k := 3) (by decide) wt380 rfl (hs.e (show b < 4 by omega)) (hs.r (show b < 4 by omega) (by decide)) ?_
  refine r_iload_n (q := 5) dX0_listTrees_4 rfl rfl rfl ?_
  refine r_iconst (q := 6) (nI 1) dX0_listTrees_5 rfl (by decide) ?_
  refine r_iaddN (q := 7) dX0_listTrees_6 rfl ?_
  refine r_aload_n (q := 8) dX0_listTrees_7 rfl rfl rfl ?_
  refine r_getr (q := 11) (some (103, b)) ck0 dX0_listTrees_8 rfl (k := 3) (by decide) wt380 rfl (hs.e (show b < 4 by omega)) (hs.r (show b < 4 by omega) (by decide)) ?_
  refine r_iload_n (q := 12) dX0_listTrees_11 rfl rfl rfl ?_
  refine r_ialdN (q := 13) 9 (by decide) rfl dX0_listTrees_12 rfl (hs.e (show b < 4 by omega)) (hs.n rfl (show b < 4 by omega)) (by omega) (by decide) ?_
  refine r_topi (y := nI f0) h3 ?_
  refine r_iastN (q := 14) 9 (by decide) rfl dX0_listTrees_13 rfl (hs.e (show b < 4 by omega)) (hs.n rfl (show b < 4 by omega)) (by omega) (by decide) ?_
  refine r_iload_n (q := 15) dX0_listTrees_14 rfl rfl rfl ?_
  refine r_iconst (q := 16) (nI 1) dX0_listTrees_15 rfl (by decide) ?_
  refine r_icmp_neN (q := 19) (t := 25) (by omega) (by omega) dX0_listTrees_16 (by decide) rfl (fun h16 => absurd h16 (fun z => z rfl)) (fun h16 => ?_)
  refine r_aload_n (q := 20) dX0_listTrees_19 rfl rfl rfl ?_
  refine r_iconst (q := 21) (nI 1) dX0_listTrees_20 rfl (by decide) ?_
  refine r_iconst (q := 22) (nI 0) dX0_listTrees_21 rfl (by decide) ?_
  refine r_callV (Mc := mX0_insertKey) (q := 25) (As := [zi (nI 1), zi (nI 0)]) (st := []) ck0 dX0_listTrees_22 rfl rfl mkX0_insertKey wt779 wt781 wp29 rfl (Nat.le_of_ble_eq_true rfl) (Nat.le_of_ble_eq_true rfl) (by decide) (by decide) (by decide) (Or.inl rfl) (hs.e (show b < 4 by omega)) (ok_insertKey hLm.1 hb4 hn7 hLm.2.1 srt_nil hE (fun s z => absurd z List.not_mem_nil) h0 (U := tl W 1) (fun s z => (tl_mem hE).mpr z) (by rw [tl_len hE]; exact hc3) (by rw [tl_len hE]; exact hc4)) (fun r22 S22 hp22 => ?_)
  obtain ⟨rfl, f2, T1, l1, l2, l3⟩ := hp22
  show Ok _ _ _ [] _ _
  refine r_iconst (q := 26) (nI 0) dX0_listTrees_25 rfl (by decide) ?_
  refine r_istore_n (q := 27) (L' := [some (zr 0 b), some (zi (nI 1)), some (zi (nI 0)), none, none, none]) dX0_listTrees_26 rfl rfl (by decide) rfl ?_
  refine lp_lt25 hE hb4 hn7 hn1 hc3 hc4 hrf hf0 (hf.tr f2) hs ⟨hLm.1.fr f2, l1, l2, fun s z => ((l3 s).mp z).elim (fun e => by rw [e]; exact h0) (fun e => absurd e List.not_mem_nil), hLm.2.2.2.2.fr f2 (fun k => ⟨by simp [tLs], by simp [tLs]⟩)⟩ (fun _ => (l3 _).mpr (Or.inl rfl)) (fun m a b => absurd a (by omega)) ((f2.1 _ _ _ (by simp [tLs])).trans (by rw [gI_sI, if_neg (by omega)]; exact h6)) (by rw [gN_22 f2.2.2]; exact h7) (by rw [gN_22 f2.2.2]; exact h79) (by rw [gN_22 f2.2.2]; exact h70)

theorem ok_listTrees {S : zS} {W : zWd} (hE : Eok (wA W) (we W)) {b n f0 rf : Nat} (hb4 : b < 4) (hn7 : n ≤ 7) (hn1 : 1 ≤ n) (hc3 : tc W n ≤ 300) (hc4 : f0 + tc W n ≤ 400) (hrf : rf + tri (tc W n) ≤ 35261) (hf0 : f0 = sm (tc W) n) (hs : Sd S) (hw : Wa S b W) (h3 : gI S 103 b n = nI f0) (hl : ∀ m, 1 ≤ m → m < n → Lx S b m (sm (tc W) m) (tl W m)) (h6 : gI S 106 b n = nI rf) (h7 : 512 ≤ gN S 107 b) (h79 : gN S 107 b ≤ 160000) (h70 : rf ≤ gN S 107 b) : Ok mX0_listTrees 0 (ent 6 [zr 0 b, zi (nI n)]) [] S (fun r S2 => r = none ∧ Lst S S2 W b n f0 rf) := by
  by_cases e : n = 1
  · subst e
    exact ok_listTrees_1 hE hb4 hc3 hc4 hrf hf0 hs hw h3 h6 h7 h79 h70
  · exact ok_listTrees_n hE hb4 hn7 hn1 hc3 hc4 hrf hf0 (by omega) hs hw h3 hl h6 h7 h79 h70

