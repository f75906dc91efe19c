/-! the reference lists the trees of so many leaves -/
def WrR (S : zS) (q : Nat) (W : zWd) : Prop := gI S 1322 0 (1173 * q + 1) = nI (wA W) ∧ ∀ a, a < wA W → gI S 1322 0 (1173 * q + 4 + a) = nI (we W a)
def tLiR (F M to x y k : Nat) : Bool := tPu F M to x y k || tPt x y k
def LsI (S : zS) (W : zWd) (q n F : Nat) (T : List (List Nat)) : Prop := Sd S ∧ gI S 1325 0 (8 * q + n) = nI F ∧ gI S 1324 0 (8 * q + n) = nI T.length ∧ (∀ i, i < T.length → Rr1 (we W) S (F + i) (T.getD i [])) ∧ WrR S q W ∧ Cd S q n W (fun s => 2200 * q + sm (tc W) s) ∧ Mn S q n (bdW W) ∧ gJ S 1334 0 (11 * q + n) = lN (tc W n)
theorem tLi_pu {F M to : Nat} (x y k : Nat) (h : tPu F M to x y k = true) : tLiR F M to x y k = true := by simp [tLiR, h]
theorem tLi_pt {F M to : Nat} (x y k : Nat) (h : tPt x y k = true) : tLiR F M to x y k = true := by simp [tLiR, h]
theorem tLi_p2 {F M to : Nat} (x y k : Nat) (h : tP2 x y k = true) : tLiR F M to x y k = true := tLi_pt x y k (tPt_2 x y k h)
theorem or4 {a : Nat} (h : a < 3) : nI 4 ||| nI (a + 1) = nI (cd [a + 1]) := by
  match a, h with
  | 0, _ => decide
  | 1, _ => decide
  | 2, _ => decide
theorem tLi_f {F M to x y k : Nat} (h1 : x = 1325 ∨ x = 1322 ∨ x = 1334 ∨ x = 1324 ∧ k ≠ to ∨ x = 1328 ∧ k < F) : tLiR F M to x y k = false := by
  have : tLiR F M to x y k = true → False := fun z => by
    simp [tLiR, tPu, tPa, tPt] at z
    omega
  cases q : tLiR F M to x y k with
  | false => rfl
  | true => exact absurd q this
theorem WrR.fr {S S1 : zS} {q : Nat} {W : zWd} {U : Nat → Nat → Nat → Bool} (h : WrR S q W) (f : Fr U S S1) (t : ∀ k, U 1322 0 k = false) : WrR S1 q W := ⟨(f.1 _ _ _ (t _)).trans h.1, fun a ha => (f.1 _ _ _ (t _)).trans (h.2 a ha)⟩
theorem Cd.li {S S1 : zS} {W : zWd} (hE : Eok (wA W) (we W)) {q n F M : Nat} (hF : F = 2200 * q + sm (tc W) n) (h : Cd S q n W (fun s => 2200 * q + sm (tc W) s)) (f : Fr (tLiR F M (8 * q + n)) S S1) : Cd S1 q n W (fun s => 2200 * q + sm (tc W) s) := fun s a b => by
  obtain ⟨h1, h2, h3⟩ := h s a b
  have hl := sm_le (f := tc W) b
  refine ⟨(f.1 _ _ _ (tLi_f (Or.inl rfl))).trans h1, h2, fun j hj => (f.1 _ _ _ (tLi_f (by rw [tl_len hE] at hj; show _ ∨ _ ∨ _ ∨ _ ∨ 1328 = 1328 ∧ 2200 * q + sm (tc W) s + j < F; omega))).trans (h3 j hj)⟩
theorem Mn.li {S S1 : zS} {W : zWd} {q n F M : Nat} (h : Mn S q n (bdW W)) (f : Fr (tLiR F M (8 * q + n)) S S1) : Mn S1 q n (bdW W) := fun s a b => ⟨(f.1 _ _ _ (tLi_f (by omega))).trans (h s a b).1, (h s a b).2⟩

set_option maxRecDepth 100000 in
theorem lp_ls148 {W : zWd} (hE : Eok (wA W) (we W)) {q n F M a : Nat} (hq : q ≤ 1) (hn7 : n ≤ 7) (hn2 : 2 ≤ n) (hF : F = 2200 * q + sm (tc W) n) (hM : M = (tl W n).length) (hFM : F + M ≤ 4400) (ha : a < wA W) {i : Nat} {ks : List Nat} {p : List Nat × List Nat} (hp : p = ((cmp (we W a) n).getD i [], ks)) {S : zS} (hs : Sd S) (hPS : PS S q (we W a) n (bdW W) i ks) (hC : Cd S q n W (fun s => 2200 * q + sm (tc W) s)) {v : Int32} {Po : Option zV → zS → Prop} (K : Ok mX12_list 174 [some (zr 12 0), some (zi (nI q)), some (zi (nI n)), some (zi (nI (8 * q + n))), some (zi (nI a)), some (zi (nI (we W a))), some (zi v), some (zi (nI (cd (tro W a p)))), some (zi (nI (we W a)))] [] S Po) : ∀ (d k : Nat), k + d = we W a → Ok mX12_list 148 [some (zr 12 0), some (zi (nI q)), some (zi (nI n)), some (zi (nI (8 * q + n))), some (zi (nI a)), some (zi (nI (we W a))), some (zi v), some (zi (nI (cd ((a + 1) :: ((pt W p).take k).flatten)))), some (zi (nI k))] [] S Po := by
  have he := hE.2 a ha
  have ha3 : a < 3 := Nat.lt_of_lt_of_le ha hE.1
  have hg := cmp_get hPS.1 (show 2 ≤ we W a by omega)
  have hmem : p ∈ allF (bdW W) (cmp (we W a) n) := by
    rw [hp]
    refine mem_allF.mpr ⟨mem_gd hPS.1, mem_odo.mpr ⟨by rw [List.length_map, hg.1]; exact hPS.2.2.2.2.1, fun z hz => ?_⟩⟩
    rw [List.length_map, hg.1] at hz
    rw [getD_mapB (by rw [hg.1]; exact hz)]
    exact hPS.2.2.2.2.2 z hz
  have hall := allF_get hmem
  have hps := pt_spec hE p.1 p.2 hall.2.1 hall.2.2.2.2
  have htr := tro_tr hE ha hmem
  have hlen := (htr.len hE).1
  have htok := htr.tok hE
  have hpl : (pt W p).length = we W a := hps.1.trans hall.1
  intro d
  induction d with
  | zero =>
    intro k hk
    obtain rfl : k = we W a := by omega
    rw [show ((a + 1) :: ((pt W p).take (we W a)).flatten) = tro W a p from by rw [List.take_of_length_le (by omega)]; rfl]
    refine r_iload (q := 150) dX12_list_148 rfl rfl ?_
    refine r_iload (q := 152) dX12_list_150 rfl rfl ?_
    refine r_icmp_geN (q := 155) (t := 174) (by omega) (by omega) dX12_list_152 (by decide) rfl (fun h152 => ?_) (fun h152 => absurd h152 (by omega))
    exact K
  | succ d ih =>
    intro k hk
    have hkp : k < (pt W p).length := by omega
    have hsplit : tro W a p = (((a + 1) :: ((pt W p).take k).flatten) ++ (pt W p).getD k []) ++ ((pt W p).drop (k + 1)).flatten := by
      unfold tro
      have : pt W p = (pt W p).take k ++ (pt W p).getD k [] :: (pt W p).drop (k + 1) := by rw [← drop_cons hkp, List.take_append_drop]
      rw [List.cons_append, List.cons_append]
      refine congrArg ((a + 1) :: ·) ?_
      rw [this, List.flatten_append, List.flatten_cons, ← this, List.append_assoc]
    have hnext : ((a + 1) :: ((pt W p).take k).flatten) ++ (pt W p).getD k [] = (a + 1) :: ((pt W p).take (k + 1)).flatten := by
      rw [List.take_succ_eq_append_getElem hkp, List.flatten_append, List.getD_eq_getElem?_getD, List.getElem?_eq_getElem hkp]
      simp
    have hget : (pt W p).getD k [] = (tl W (((cmp (we W a) n).getD i []).getD k 0)).getD (ks.getD k 0) [] := by
      rw [hp]; exact pt_get _ _ k (by rw [hg.1]; exact hPS.2.2.2.2.1) (by rw [hg.1]; omega)
    have t1 : ∀ z, z ∈ ((a + 1) :: ((pt W p).take k).flatten) → z ≤ 3 := fun z hz => htok z (by rw [hsplit]; exact List.mem_append_left _ (List.mem_append_left _ hz))
    have t2 : ∀ z, z ∈ (pt W p).getD k [] → z ≤ 3 := fun z hz => htok z (by rw [hsplit]; exact List.mem_append_left _ (List.mem_append_right _ hz))
    have t3 : ((a + 1) :: ((pt W p).take k).flatten).length + ((pt W p).getD k []).length ≤ 14 := by
      have := congrArg List.length hsplit
      rw [List.length_append, List.length_append] at this
      omega
    refine r_iload (q := 150) dX12_list_148 rfl rfl ?_
    refine r_iload (q := 152) dX12_list_150 rfl rfl ?_
    refine r_icmp_geN (q := 155) (t := 174) (by omega) (by omega) dX12_list_152 (by decide) rfl (fun h152 => absurd h152 (by omega)) (fun h152 => ?_)
    refine r_iload (q := 157) dX12_list_155 rfl rfl ?_
    refine r_aload_n (q := 158) dX12_list_157 rfl rfl rfl ?_
    refine r_iload (q := 160) dX12_list_158 rfl rfl ?_
    refine r_callV (Mc := mX12_partCode) (q := 163) (As := [zi (nI k)]) (st := [zi (nI (cd ((a + 1) :: ((pt W p).take k).flatten)))]) ck12 dX12_list_160 rfl rfl mkX12_partCode wt1788 wt1790 wp108 rfl (Nat.le_of_ble_eq_true rfl) (Nat.le_of_ble_eq_true rfl) (by decide) (by decide) (by decide) (Or.inl rfl) (hs.e (by decide)) (ok_partCode hs hq (by omega) (by omega) hn7 hPS hC (show k < we W a by omega)) (fun r160 S160 hp160 => ?_)
    rw [← hget] at hp160
    obtain ⟨rfl, hq160⟩ := hp160
    rw [hq160]
    show Ok _ _ _ [zi (nI (cd ((pt W p).getD k []))), zi (nI (cd ((a + 1) :: ((pt W p).take k).flatten)))] _ _
    refine r_callS (Mc := mX12_join) (q := 166) (As := [zi (nI (cd ((a + 1) :: ((pt W p).take k).flatten))), zi (nI (cd ((pt W p).getD k [])))]) (st := []) dX12_list_163 rfl rfl mkX12_join wt1792 wt1793 rfl (Nat.le_of_ble_eq_true rfl) (Nat.le_of_ble_eq_true rfl) (by decide) (by decide) (by decide) (Or.inl rfl) hs.some (ok_X12_join t1 t2 t3) (fun r163 S163 hp163 => ?_)
    rw [hnext] at hp163
    obtain ⟨rfl, hq163⟩ := hp163
    rw [hq163]
    show Ok _ _ _ [zi (nI (cd ((a + 1) :: ((pt W p).take (k + 1)).flatten)))] _ _
    refine r_istore (q := 168) (L' := [some (zr 12 0), some (zi (nI q)), some (zi (nI n)), some (zi (nI (8 * q + n))), some (zi (nI a)), some (zi (nI (we W a))), some (zi v), some (zi (nI (cd ((a + 1) :: ((pt W p).take (k + 1)).flatten)))), some (zi (nI k))]) dX12_list_166 rfl (by decide) rfl ?_
    refine r_iincN (q := 171) (L' := [some (zr 12 0), some (zi (nI q)), some (zi (nI n)), some (zi (nI (8 * q + n))), some (zi (nI a)), some (zi (nI (we W a))), some (zi v), some (zi (nI (cd ((a + 1) :: ((pt W p).take (k + 1)).flatten)))), some (zi (nI (k + 1)))]) 1 rfl dX12_list_168 rfl rfl (by decide) rfl ?_
    refine r_goto (q := 148) dX12_list_171 (by decide) ?_
    exact ih (k + 1) (by omega)

set_option maxRecDepth 100000 in
theorem lp_ls132 {W : zWd} (hE : Eok (wA W) (we W)) {q n F M a : Nat} (hq : q ≤ 1) (hn7 : n ≤ 7) (hn2 : 2 ≤ n) (hF : F = 2200 * q + sm (tc W) n) (hM : M = (tl W n).length) (hFM : F + M ≤ 4400) (ha : a < wA W) {Po : Option zV → zS → Prop} : ∀ (rem : List (List Nat × List Nat)) (S : zS) (T : List (List Nat)) (v : Int32) (w7 w8 : Option zV), LsI S W q n F T → LkR W n a rem T → (v = nI 0 ∧ rem = [] ∨ v = nI 1 ∧ ∃ i ks, PS S q (we W a) n (bdW W) i ks ∧ rem = ((cmp (we W a) n).getD i [], ks) :: RM (bdW W) (we W a) n i ks) → (∀ S1 T1 w6 w7 w8, Fr (tLiR F M (8 * q + n)) S S1 → LsI S1 W q n F T1 → LkR W n a [] T1 → Ok mX12_list 191 [some (zr 12 0), some (zi (nI q)), some (zi (nI n)), some (zi (nI (8 * q + n))), some (zi (nI a)), some (zi (nI (we W a))), w6, w7, w8] [] S1 Po) → Ok mX12_list 132 [some (zr 12 0), some (zi (nI q)), some (zi (nI n)), some (zi (nI (8 * q + n))), some (zi (nI a)), some (zi (nI (we W a))), some (zi v), w7, w8] [] S Po := by
  have he := hE.2 a ha
  have ha3 : a < 3 := Nat.lt_of_lt_of_le ha hE.1
  intro rem
  induction rem with
  | nil =>
    intro S T v w7 w8 hI hL hv K
    obtain ⟨rfl, _⟩ : v = nI 0 ∧ True := by
      rcases hv with z | ⟨_, i, ks, _, z⟩
      · exact ⟨z.1, trivial⟩
      · cases z
    have hs := hI.1
    refine r_mask [true, true, true, true, true, true, true, false, false] rfl ?_
    refine r_iload (q := 134) dX12_list_132 rfl rfl ?_
    refine r_if_eqN (q := 137) (t := 191) (by omega) dX12_list_134 (by decide) rfl (fun h134 => ?_) (fun h134 => absurd h134 (by omega))
    exact K S T _ _ _ Fr.rf hI hL
  | cons p rem ih =>
    intro S T v w7 w8 hI hL hv K
    obtain ⟨rfl, i, ks, hPS, hrem⟩ : v = nI 1 ∧ ∃ i ks, PS S q (we W a) n (bdW W) i ks ∧ p :: rem = ((cmp (we W a) n).getD i [], ks) :: RM (bdW W) (we W a) n i ks := by
      rcases hv with ⟨_, z⟩ | z
      · cases z
      · exact z
    obtain ⟨hp, hr⟩ := List.cons.inj hrem
    obtain ⟨hs, h5, h4, hR, hw, hC, hMn, htt⟩ := hI
    have hmem := (hL.2.2.2.1 p List.mem_cons_self)
    have htr := tro_tr hE ha hmem.2
    refine r_mask [true, true, true, true, true, true, true, false, false] rfl ?_
    refine r_iload (q := 134) dX12_list_132 rfl rfl ?_
    refine r_if_eqN (q := 137) (t := 191) (by omega) dX12_list_134 (by decide) rfl (fun h134 => absurd h134 (by omega)) (fun h134 => ?_)
    refine r_iconst (q := 138) (nI 4) dX12_list_137 rfl (by decide) ?_
    refine r_iload (q := 140) dX12_list_138 rfl rfl ?_
    refine r_iconst (q := 141) (nI 1) dX12_list_140 rfl (by decide) ?_
    refine r_iaddN (q := 142) dX12_list_141 rfl ?_
    refine r_ior (q := 143) dX12_list_142 rfl ?_
    refine r_topi (y := nI (cd ((a + 1) :: ((pt W p).take 0).flatten))) (or4 ha3) ?_
    refine r_istore (q := 145) (L' := [some (zr 12 0), some (zi (nI q)), some (zi (nI n)), some (zi (nI (8 * q + n))), some (zi (nI a)), some (zi (nI (we W a))), some (zi (nI 1)), some (zi (nI (cd ((a + 1) :: ((pt W p).take 0).flatten)))), none]) dX12_list_143 rfl (by decide) rfl ?_
    refine r_iconst (q := 146) (nI 0) dX12_list_145 rfl (by decide) ?_
    refine r_istore (q := 148) (L' := [some (zr 12 0), some (zi (nI q)), some (zi (nI n)), some (zi (nI (8 * q + n))), some (zi (nI a)), some (zi (nI (we W a))), some (zi (nI 1)), some (zi (nI (cd ((a + 1) :: ((pt W p).take 0).flatten)))), some (zi (nI 0))]) dX12_list_146 rfl (by decide) rfl ?_
    refine lp_ls148 hE hq hn7 hn2 hF hM hFM ha hp hs hPS hC ?_ (we W a) 0 (by omega)
    refine r_aload_n (q := 175) dX12_list_174 rfl rfl rfl ?_
    refine r_iload_n (q := 176) dX12_list_175 rfl rfl rfl ?_
    refine r_iload_n (q := 177) dX12_list_176 rfl rfl rfl ?_
    refine r_iload (q := 179) dX12_list_177 rfl rfl ?_
    refine r_callV (Mc := mX12_putTree) (q := 182) (As := [zi (nI q), zi (nI n), zi (nI (cd (tro W a p)))]) (st := []) ck12 dX12_list_179 rfl rfl mkX12_putTree wt1768 wt1770 wp103 rfl (Nat.le_of_ble_eq_true rfl) (Nat.le_of_ble_eq_true rfl) (by decide) (by decide) (by decide) (Or.inl rfl) (hs.e (by decide)) (ok_putTree hq hn7 hE htr hL.2.1 hL.1 hmem.1 (show T.length < M by rw [hM]; exact hL.len hE ha List.mem_cons_self) hFM hs hw.2 h5 h4 hR) (fun r179 S179 hp179 => ?_)
    obtain ⟨rfl, f1, T1, t1, t2, t3, t4, t5⟩ := hp179
    have g1 : Fr (tLiR F M (8 * q + n)) S S179 := f1.mono tLi_pu
    have hs1 : Sd S179 := hs.fr f1
    have hM1 : Mn S179 q n (bdW W) := hMn.li g1
    have hPS1 : PS S179 q (we W a) n (bdW W) i ks := ⟨hPS.1, ⟨(f1.1 _ _ _ rfl).trans hPS.2.1.1, (f1.1 _ _ _ rfl).trans hPS.2.1.2⟩, fun z hz => (f1.1 _ _ _ rfl).trans (hPS.2.2.1 z hz), fun z hz => (f1.1 _ _ _ rfl).trans (hPS.2.2.2.1 z hz), hPS.2.2.2.2⟩
    show Ok _ _ _ [] _ _
    refine r_aload_n (q := 183) dX12_list_182 rfl rfl rfl ?_
    refine r_callV (Mc := mX12_nextParts) (q := 186) (As := []) (st := []) ck12 dX12_list_183 rfl rfl mkX12_nextParts wt1795 wt1797 wp109 rfl (Nat.le_of_ble_eq_true rfl) (Nat.le_of_ble_eq_true rfl) (by decide) (by decide) (by decide) (Or.inl rfl) (hs1.e (by decide)) (ok_nextParts hq (by omega) (by omega) hn7 hs1 hPS1 hM1) (fun r183 S183 hp183 => ?_)
    obtain ⟨f2, hz⟩ := hp183
    obtain ⟨v2, rfl, hv2⟩ : ∃ v2, r183 = some (zi v2) ∧ (v2 = nI 0 ∧ rem = [] ∨ v2 = nI 1 ∧ ∃ i ks, PS S183 q (we W a) n (bdW W) i ks ∧ rem = ((cmp (we W a) n).getD i [], ks) :: RM (bdW W) (we W a) n i ks) := by
      rcases hz with ⟨z1, z2⟩ | ⟨z1, i', ks', z2, z3⟩
      · exact ⟨_, z1, Or.inl ⟨rfl, hr.trans z2⟩⟩
      · exact ⟨_, z1, Or.inr ⟨rfl, i', ks', z2, hr.trans z3⟩⟩
    have g2 : Fr (tLiR F M (8 * q + n)) S S183 := g1.tr (f2.mono tLi_p2)
    show Ok _ _ _ [zi v2] _ _
    refine r_istore (q := 188) (L' := [some (zr 12 0), some (zi (nI q)), some (zi (nI n)), some (zi (nI (8 * q + n))), some (zi (nI a)), some (zi (nI (we W a))), some (zi v2), some (zi (nI (cd (tro W a p)))), some (zi (nI (we W a)))]) dX12_list_186 rfl (by decide) rfl ?_
    refine r_goto (q := 132) dX12_list_188 (by decide) ?_
    exact ih S183 T1 v2 _ _ ⟨hs1.fr f2, (g2.1 _ _ _ (tLi_f (Or.inl rfl))).trans h5, (f2.1 _ _ _ rfl).trans t2, fun j hj => ⟨(f2.1 _ _ _ rfl).trans (t3 j hj).1, fun z hz => (f2.1 _ _ _ rfl).trans ((t3 j hj).2 z hz)⟩, hw.fr g2 (fun _ => tLi_f (Or.inr (Or.inl rfl))), hC.li hE hF g2, hMn.li g2, (g2.2.1 _ _ _ (tLi_f (Or.inr (Or.inr (Or.inl rfl))))).trans htt⟩ (hL.one hE ha t4 t5) hv2 (fun S1 T1 w6 w7 w8 y1 y2 y3 => K S1 T1 w6 w7 w8 (g2.tr y1) y2 y3)

set_option maxRecDepth 100000 in
theorem lp_ls65 {W : zWd} (hE : Eok (wA W) (we W)) {q n F M : Nat} (hq : q ≤ 1) (hn7 : n ≤ 7) (hn2 : 2 ≤ n) (hF : F = 2200 * q + sm (tc W) n) (hM : M = (tl W n).length) (hFM : F + M ≤ 4400) (hc3 : tc W n ≤ 300) {Po : Option zV → zS → Prop} : ∀ (d a : Nat) (S : zS) (T : List (List Nat)) (w5 w6 w7 w8 : Option zV), a + d = wA W → LsI S W q n F T → (d = 0 → T = tl W n) → (0 < d → LkR W n a (allF (bdW W) (cmp (we W a) n)) T) → (∀ S1 w5 w6 w7 w8, Fr (tLiR F M (8 * q + n)) S S1 → LsI S1 W q n F (tl W n) → Ok mX12_list 197 [some (zr 12 0), some (zi (nI q)), some (zi (nI n)), some (zi (nI (8 * q + n))), some (zi (nI (wA W))), w5, w6, w7, w8] [] S1 Po) → Ok mX12_list 65 [some (zr 12 0), some (zi (nI q)), some (zi (nI n)), some (zi (nI (8 * q + n))), some (zi (nI a)), w5, w6, w7, w8] [] S Po := by
  have hA3 := hE.1
  intro d
  induction d with
  | zero =>
    intro a S T w5 w6 w7 w8 had hI h0 hL K
    obtain rfl : a = wA W := by omega
    rw [h0 rfl] at hI
    have hs := hI.1
    have hwA := hI.2.2.2.2.1.1
    refine r_mask [true, true, true, true, true, false, false, false, false] rfl ?_
    refine r_iload (q := 67) dX12_list_65 rfl rfl ?_
    refine r_aload_n (q := 68) dX12_list_67 rfl rfl rfl ?_
    refine r_getr (q := 71) (some (1322, 0)) ck12 dX12_list_68 rfl (k := 22) (by decide) wt1300 rfl (hs.e (by decide)) (hs.r (by decide) (by decide)) ?_
    refine r_sipush (q := 74) (nI 1173) dX12_list_71 rfl (by decide) ?_
    refine r_iload_n (q := 75) dX12_list_74 rfl rfl rfl ?_
    refine r_imulN (q := 76) dX12_list_75 rfl ?_
    refine r_iconst (q := 77) (nI 1) dX12_list_76 rfl (by decide) ?_
    refine r_iaddN (q := 78) dX12_list_77 rfl ?_
    refine r_ialdN (q := 79) 2346 (by decide) rfl dX12_list_78 rfl (hs.e (by decide)) (hs.n rfl (by decide)) (by omega) (by decide) ?_
    refine r_topi (y := nI (wA W)) hwA ?_
    refine r_icmp_geN (q := 82) (t := 197) (by omega) (by omega) dX12_list_79 (by decide) rfl (fun h79 => ?_) (fun h79 => absurd h79 (by omega))
    exact K S _ _ _ _ Fr.rf hI
  | succ d ih =>
    intro a S T w5 w6 w7 w8 had hI h0 hL K
    have ha : a < wA W := by omega
    have he := hE.2 a ha
    obtain ⟨hs, h5, h4, hR, hw, hC, hMn, htt⟩ := hI
    have hwA := hw.1
    have hwa := hw.2 a ha
    have hLa := hL (by omega)
    refine r_mask [true, true, true, true, true, false, false, false, false] rfl ?_
    refine r_iload (q := 67) dX12_list_65 rfl rfl ?_
    refine r_aload_n (q := 68) dX12_list_67 rfl rfl rfl ?_
    refine r_getr (q := 71) (some (1322, 0)) ck12 dX12_list_68 rfl (k := 22) (by decide) wt1300 rfl (hs.e (by decide)) (hs.r (by decide) (by decide)) ?_
    refine r_sipush (q := 74) (nI 1173) dX12_list_71 rfl (by decide) ?_
    refine r_iload_n (q := 75) dX12_list_74 rfl rfl rfl ?_
    refine r_imulN (q := 76) dX12_list_75 rfl ?_
    refine r_iconst (q := 77) (nI 1) dX12_list_76 rfl (by decide) ?_
    refine r_iaddN (q := 78) dX12_list_77 rfl ?_
    refine r_ialdN (q := 79) 2346 (by decide) rfl dX12_list_78 rfl (hs.e (by decide)) (hs.n rfl (by decide)) (by omega) (by decide) ?_
    refine r_topi (y := nI (wA W)) hwA ?_
    refine r_icmp_geN (q := 82) (t := 197) (by omega) (by omega) dX12_list_79 (by decide) rfl (fun h79 => absurd h79 (by omega)) (fun h79 => ?_)
    refine r_aload_n (q := 83) dX12_list_82 rfl rfl rfl ?_
    refine r_getr (q := 86) (some (1334, 0)) ck12 dX12_list_83 rfl (k := 34) (by decide) wt1312 rfl (hs.e (by decide)) (hs.r (by decide) (by decide)) ?_
    refine r_bipush (q := 88) (nI 11) dX12_list_86 rfl (by decide) ?_
    refine r_iload_n (q := 89) dX12_list_88 rfl rfl rfl ?_
    refine r_imulN (q := 90) dX12_list_89 rfl ?_
    refine r_iload_n (q := 91) dX12_list_90 rfl rfl rfl ?_
    refine r_iaddN (q := 92) dX12_list_91 rfl ?_
    refine r_laldN (q := 93) 22 (by decide) rfl dX12_list_92 rfl (hs.e (by decide)) (hs.n rfl (by decide)) (by omega) (by decide) ?_
    refine r_topl (y := lN (tc W n)) htt ?_
    refine r_ldc2 (q := 96) (300 : Int64) dX12_list_93 rfl wt1755 ?_
    refine r_topl (y := lN 300) rfl ?_
    refine r_lcmp (q := 97) dX12_list_96 rfl ?_
    refine r_if_gt (q := 100) (t := 197) dX12_list_97 (by decide) rfl (fun h97 => absurd h97 (Int32.not_lt.mpr ((lcmp_le (by omega) (by omega)).mpr hc3))) (fun h97 => ?_)
    refine r_iload_n (q := 101) dX12_list_100 rfl rfl rfl ?_
    refine r_iconst (q := 102) (nI 1) dX12_list_101 rfl (by decide) ?_
    refine r_icmp_leN (q := 105) (t := 197) (by omega) (by omega) dX12_list_102 (by decide) rfl (fun h102 => absurd h102 (by omega)) (fun h102 => ?_)
    refine r_aload_n (q := 106) dX12_list_105 rfl rfl rfl ?_
    refine r_getr (q := 109) (some (1322, 0)) ck12 dX12_list_106 rfl (k := 22) (by decide) wt1300 rfl (hs.e (by decide)) (hs.r (by decide) (by decide)) ?_
    refine r_sipush (q := 112) (nI 1173) dX12_list_109 rfl (by decide) ?_
    refine r_iload_n (q := 113) dX12_list_112 rfl rfl rfl ?_
    refine r_imulN (q := 114) dX12_list_113 rfl ?_
    refine r_iconst (q := 115) (nI 4) dX12_list_114 rfl (by decide) ?_
    refine r_iaddN (q := 116) dX12_list_115 rfl ?_
    refine r_iload (q := 118) dX12_list_116 rfl rfl ?_
    refine r_iaddN (q := 119) dX12_list_118 rfl ?_
    refine r_ialdN (q := 120) 2346 (by decide) rfl dX12_list_119 rfl (hs.e (by decide)) (hs.n rfl (by decide)) (by omega) (by decide) ?_
    refine r_topi (y := nI (we W a)) hwa ?_
    refine r_istore (q := 122) (L' := [some (zr 12 0), some (zi (nI q)), some (zi (nI n)), some (zi (nI (8 * q + n))), some (zi (nI a)), some (zi (nI (we W a))), none, none, none]) dX12_list_120 rfl (by decide) rfl ?_
    refine r_aload_n (q := 123) dX12_list_122 rfl rfl rfl ?_
    refine r_iload_n (q := 124) dX12_list_123 rfl rfl rfl ?_
    refine r_iload (q := 126) dX12_list_124 rfl rfl ?_
    refine r_iload_n (q := 127) dX12_list_126 rfl rfl rfl ?_
    refine r_callV (Mc := mX12_firstParts) (q := 130) (As := [zi (nI q), zi (nI (we W a)), zi (nI n)]) (st := []) ck12 dX12_list_127 rfl rfl mkX12_firstParts wt1776 wt1778 wp105 rfl (Nat.le_of_ble_eq_true rfl) (Nat.le_of_ble_eq_true rfl) (by decide) (by decide) (by decide) (Or.inl rfl) (hs.e (by decide)) (ok_firstParts hq (by omega) (by omega) hn7 hs hMn) (fun r127 S127 hp127 => ?_)
    obtain ⟨f1, hz⟩ := hp127
    obtain ⟨v2, rfl, hv2⟩ : ∃ v2, r127 = some (zi v2) ∧ (v2 = nI 0 ∧ allF (bdW W) (cmp (we W a) n) = [] ∨ v2 = nI 1 ∧ ∃ i ks, PS S127 q (we W a) n (bdW W) i ks ∧ allF (bdW W) (cmp (we W a) n) = ((cmp (we W a) n).getD i [], ks) :: RM (bdW W) (we W a) n i ks) := by
      rcases hz with ⟨z1, z2⟩ | ⟨z1, i', ks', z2, z3⟩
      · exact ⟨_, z1, Or.inl ⟨rfl, z2⟩⟩
      · exact ⟨_, z1, Or.inr ⟨rfl, i', ks', z2, z3⟩⟩
    have g1 : Fr (tLiR F M (8 * q + n)) S S127 := f1.mono tLi_pt
    show Ok _ _ _ [zi v2] _ _
    refine r_istore (q := 132) (L' := [some (zr 12 0), some (zi (nI q)), some (zi (nI n)), some (zi (nI (8 * q + n))), some (zi (nI a)), some (zi (nI (we W a))), some (zi v2), none, none]) dX12_list_130 rfl (by decide) rfl ?_
    refine lp_ls132 hE hq hn7 hn2 hF hM hFM ha _ S127 T v2 none none ⟨hs.fr f1, (f1.1 _ _ _ rfl).trans h5, (f1.1 _ _ _ rfl).trans h4, fun j hj => ⟨(f1.1 _ _ _ rfl).trans (hR j hj).1, fun z hz => (f1.1 _ _ _ rfl).trans ((hR j hj).2 z hz)⟩, hw.fr f1 (fun _ => rfl), hC.li hE hF g1, hMn.li g1, (f1.2.1 _ _ _ rfl).trans htt⟩ hLa hv2 (fun S1 T1 w6 w7 w8 y1 y2 y3 => ?_)
    have hs1 := y2.1
    refine r_mask [true, true, true, true, true, true, false, false, false] rfl ?_
    refine r_iincN (q := 194) (L' := [some (zr 12 0), some (zi (nI q)), some (zi (nI n)), some (zi (nI (8 * q + n))), some (zi (nI (a + 1))), some (zi (nI (we W a))), none, none, none]) 1 rfl dX12_list_191 rfl rfl (by decide) rfl ?_
    refine r_goto (q := 65) dX12_list_194 (by decide) ?_
    refine ih (a + 1) S1 T1 _ _ _ _ (by omega) y2 (fun z => y3.end hE hn7 hn2 (by omega)) (fun z => y3.next hE hn7 hn2 (by omega)) (fun S2 w5 w6 w7 w8 z1 z2 => K S2 w5 w6 w7 w8 ((g1.tr y1).tr z1) z2)

