/-! readMap: the reference -/
def mkB (g : Nat → Bool) : Nat := (if g 0 then 1 else 0) + (if g 1 then 2 else 0) + (if g 2 then 4 else 0)
theorem mkB_lt {g : Nat → Bool} : mkB g < 8 := by unfold mkB; split <;> split <;> split <;> decide
theorem mkB_bit {g : Nat → Bool} {a : Nat} (ha : a < 3) : (nI (mkB g) >>> (nI a &&& 31)) &&& nI 1 = nI (if g a = true then 1 else 0) := by
  unfold mkB
  obtain rfl | rfl | rfl : a = 0 ∨ a = 1 ∨ a = 2 := by omega
  all_goals
    generalize g 0 = x0
    generalize g 1 = x1
    generalize g 2 = x2
    revert x0 x1 x2
    decide
theorem mkB_up {g : Nat → Bool} {a : Nat} (ha : a < 3) : nI (mkB g) ||| (nI 1 <<< (nI a &&& 31)) = nI (mkB (fun b => b == a || g b)) := by
  unfold mkB
  obtain rfl | rfl | rfl : a = 0 ∨ a = 1 ∨ a = 2 := by omega
  · have z : ∀ x0 x1 x2 : Bool, nI ((if x0 = true then 1 else 0) + (if x1 = true then 2 else 0) + (if x2 = true then 4 else 0)) ||| (nI 1 <<< (nI 0 &&& 31)) = nI ((if (0 == 0 || x0) = true then 1 else 0) + (if (1 == 0 || x1) = true then 2 else 0) + (if (2 == 0 || x2) = true then 4 else 0)) := by decide
    exact z (g 0) (g 1) (g 2)
  · have z : ∀ x0 x1 x2 : Bool, nI ((if x0 = true then 1 else 0) + (if x1 = true then 2 else 0) + (if x2 = true then 4 else 0)) ||| (nI 1 <<< (nI 1 &&& 31)) = nI ((if (0 == 1 || x0) = true then 1 else 0) + (if (1 == 1 || x1) = true then 2 else 0) + (if (2 == 1 || x2) = true then 4 else 0)) := by decide
    exact z (g 0) (g 1) (g 2)
  · have z : ∀ x0 x1 x2 : Bool, nI ((if x0 = true then 1 else 0) + (if x1 = true then 2 else 0) + (if x2 = true then 4 else 0)) ||| (nI 1 <<< (nI 2 &&& 31)) = nI ((if (0 == 2 || x0) = true then 1 else 0) + (if (1 == 2 || x1) = true then 2 else 0) + (if (2 == 2 || x2) = true then 4 else 0)) := by decide
    exact z (g 0) (g 1) (g 2)
theorem mkB_top {A : Nat} (hA : A ≤ 3) : (nI 1 <<< (nI A &&& 31)) - nI 1 = nI (2 ^ A - 1) := by
  obtain rfl | rfl | rfl | rfl : A = 0 ∨ A = 1 ∨ A = 2 ∨ A = 3 := by omega
  all_goals decide
theorem mkB_all {g : Nat → Bool} {A : Nat} (hA : A ≤ 3) (hg : ∀ a, a < 3 → g a = true → a < A) : mkB g = 2 ^ A - 1 ↔ ∀ a, a < A → g a = true := by
  have h0 := hg 0 (by omega)
  have h1 := hg 1 (by omega)
  have h2 := hg 2 (by omega)
  have e : (∀ a, a < A → g a = true) ↔ (0 < A → g 0 = true) ∧ (1 < A → g 1 = true) ∧ (2 < A → g 2 = true) := ⟨fun h => ⟨h 0, h 1, h 2⟩, fun h a ha => by
    obtain rfl | rfl | rfl : a = 0 ∨ a = 1 ∨ a = 2 := by omega
    · exact h.1 ha
    · exact h.2.1 ha
    · exact h.2.2 ha⟩
  rw [e]
  unfold mkB
  revert h0 h1 h2
  generalize g 0 = x0
  generalize g 1 = x1
  generalize g 2 = x2
  obtain rfl | rfl | rfl | rfl : A = 0 ∨ A = 1 ∨ A = 2 ∨ A = 3 := by omega
  all_goals
    revert x0 x1 x2
    decide
def tB (im : zIm) : Nat → Bool := fun a => (im a).isSome
theorem tB_up {im : zIm} {a : Nat} {c : List zT} : tB (upI im a c) = fun b => b == a || tB im b := funext fun b => by
  unfold tB upI
  by_cases e : b = a
  · rw [if_pos e, e]; simp
  · rw [if_neg e]; simp [e]
/-- the own world's acts -/
def Wow (S : zS) (A : Nat) (nm e : Nat → Nat) : Prop := gI S 1306 0 1 = nI A ∧ ∀ a, a < A → gI S 1306 0 (4 + a) = nI (e a) ∧ gJ S 1308 0 a = lN (nm a)
theorem Wow.fr {S S1 : zS} {A : Nat} {nm e : Nat → Nat} {T : Nat → Nat → Nat → Bool} (h : Wow S A nm e) (f : Fr T S S1) (t : ∀ k, T 1306 0 k = false ∧ T 1308 0 k = false) : Wow S1 A nm e := ⟨(f.1 _ _ _ (t _).1).trans h.1, fun a ha => ⟨(f.1 _ _ _ (t _).1).trans (h.2 a ha).1, (f.2.1 _ _ _ (t _).2).trans (h.2 a ha).2⟩⟩
def IMR (S : zS) (im : zIm) : Prop := ∀ a c, a < 3 → im a = some c → gI S 1372 0 a = nI c.length ∧ ∀ k, k < c.length → gI S 1370 0 (64 * a + k) = nI (cd (c.getD k zd).1) ∧ gI S 1371 0 (64 * a + k) = nI (c.getD k zd).2
def tMr (a b k : Nat) : Bool := tRs a b k || (a == 1370 || a == 1371 || a == 1372) && b == 0
theorem tMr_s (a b k : Nat) (h : tRs a b k = true) : tMr a b k = true := by simp [tMr, h]
theorem tMr_x (a b k : Nat) (h : tNx a b k = true) : tMr a b k = true := tMr_s a b k (tRs_b a b k h)
theorem tMr_d (a b k : Nat) (h : tBd a b k = true) : tMr a b k = true := by
  simp [tBd] at h
  simp [tMr, tRs, tRq, tNb, h.1.1, h.1.2]
  omega
theorem IMR.fr {S S1 : zS} {im : zIm} (h : IMR S im) {T : Nat → Nat → Nat → Bool} (f : Fr T S S1) (t : ∀ k, T 1370 0 k = false ∧ T 1371 0 k = false ∧ T 1372 0 k = false) : IMR S1 im := fun a c ha hc => ⟨(f.1 _ _ _ (t _).2.2).trans (h a c ha hc).1, fun k hk => ⟨(f.1 _ _ _ (t _).1).trans ((h a c ha hc).2 k hk).1, (f.1 _ _ _ (t _).2.1).trans ((h a c ha hc).2 k hk).2⟩⟩
def RmQ (S S1 : zS) (r : Option zV) : zEr ⊕ zIm → Prop
  | Sum.inl x => r = some (zi (nI 0)) ∧ Fr tMr S S1 ∧ Fq S1 x
  | Sum.inr im => r = some (zi (nI 1)) ∧ Fr tMr S S1 ∧ gI S1 12 0 13 = gI S 12 0 13 ∧ IMR S1 im
theorem RmQ.pre {S S0 S1 : zS} {r : Option zV} (f : Fr tMr S S0) (e : gI S0 12 0 13 = gI S 12 0 13) : ∀ {x : zEr ⊕ zIm}, RmQ S0 S1 r x → RmQ S S1 r x
  | Sum.inl x, h => ⟨h.1, f.tr h.2.1, h.2.2⟩
  | Sum.inr im, h => ⟨h.1, f.tr h.2.1, h.2.2.1.trans e, h.2.2.2⟩

set_option maxRecDepth 100000 in
theorem lp_mfind {Po : Option zV → zS → Prop} {nm e : Nat → Nat} {A tg : Nat} (hA3 : A ≤ 3) (hnb : ∀ a, a < A → nm a < 2 ^ 48) {S : zS} (hs : Sd S) (hw : Wow S A nm e) {v : Nat} (hv : v < 2 ^ 48) (hword : gJ S 12 0 15 = lN v) (K : Ok mX12_readMap 58 [some (zr 12 0), some (zi (nI tg)), some (zi (fa nm v A)), some (zi (nI A))] [] S Po) : ∀ (d k : Nat), k + d = A → Ok mX12_readMap 26 [some (zr 12 0), some (zi (nI tg)), some (zi (fa nm v k)), some (zi (nI k))] [] S Po := by
  intro d
  induction d with
  | zero =>
    intro k hk
    obtain rfl : A = k := by omega
    refine r_iload_n (q := 27) dX12_readMap_26 rfl rfl rfl ?_
    refine r_aload_n (q := 28) dX12_readMap_27 rfl rfl rfl ?_
    refine r_getr (q := 31) (some (1306, 0)) ck12 dX12_readMap_28 rfl (k := 6) (by decide) wt1284 rfl (hs.e (by decide)) (hs.r (by decide) (by decide)) ?_
    refine r_iconst (q := 32) (nI 1) dX12_readMap_31 rfl (by decide) ?_
    refine r_ialdN (q := 33) 3775 (by decide) rfl dX12_readMap_32 rfl (hs.e (by decide)) (hs.n rfl (by decide)) (by omega) (by decide) ?_
    refine r_topi (y := nI A) hw.1 ?_
    refine r_icmp_geN (q := 36) (t := 58) (by omega) (by omega) dX12_readMap_33 (by decide) rfl (fun h33 => ?_) (fun h33 => absurd h33 (by omega))
    exact K
  | succ d ih =>
    intro k hk
    have r1 := (hw.2 k (by omega)).2
    have r2 := hnb k (by omega)
    refine r_iload_n (q := 27) dX12_readMap_26 rfl rfl rfl ?_
    refine r_aload_n (q := 28) dX12_readMap_27 rfl rfl rfl ?_
    refine r_getr (q := 31) (some (1306, 0)) ck12 dX12_readMap_28 rfl (k := 6) (by decide) wt1284 rfl (hs.e (by decide)) (hs.r (by decide) (by decide)) ?_
    refine r_iconst (q := 32) (nI 1) dX12_readMap_31 rfl (by decide) ?_
    refine r_ialdN (q := 33) 3775 (by decide) rfl dX12_readMap_32 rfl (hs.e (by decide)) (hs.n rfl (by decide)) (by omega) (by decide) ?_
    refine r_topi (y := nI A) hw.1 ?_
    refine r_icmp_geN (q := 36) (t := 58) (by omega) (by omega) dX12_readMap_33 (by decide) rfl (fun h33 => absurd h33 (by omega)) (fun h33 => ?_)
    refine r_aload_n (q := 37) dX12_readMap_36 rfl rfl rfl ?_
    refine r_getr (q := 40) (some (1308, 0)) ck12 dX12_readMap_37 rfl (k := 8) (by decide) wt1286 rfl (hs.e (by decide)) (hs.r (by decide) (by decide)) ?_
    refine r_iload_n (q := 41) dX12_readMap_40 rfl rfl rfl ?_
    refine r_laldN (q := 42) 6 (by decide) rfl dX12_readMap_41 rfl (hs.e (by decide)) (hs.n rfl (by decide)) (by omega) (by decide) ?_
    refine r_topl (y := lN (nm k)) r1 ?_
    refine r_aload_n (q := 43) dX12_readMap_42 rfl rfl rfl ?_
    refine r_getl (q := 46) ck12 dX12_readMap_43 rfl (k := 15) (by decide) wt1293 rfl (hs.e (by decide)) ?_
    refine r_topl (y := lN v) hword ?_
    refine r_lcmp (q := 47) dX12_readMap_46 rfl ?_
    refine r_if_ne (q := 50) (t := 52) dX12_readMap_47 (by decide) rfl (fun h47 => ?_) (fun h47 => ?_)
    · skip
      refine r_iincN (q := 55) (L' := [some (zr 12 0), some (zi (nI tg)), some (zi (fa nm v k)), some (zi (nI (k + 1)))]) 1 rfl dX12_readMap_52 rfl rfl (by decide) rfl ?_
      refine r_goto (q := 26) dX12_readMap_55 (by decide) ?_
      have e1 := (lcmp_ne (show nm k < 2 ^ 63 by omega) (show v < 2 ^ 63 by omega)).mp h47
      have e2 : fa nm v (k + 1) = fa nm v k := by unfold fa; rw [fAct, if_neg e1]
      rw [← e2]
      exact ih (k + 1) (by omega)
    · skip
      refine r_iload_n (q := 51) dX12_readMap_50 rfl rfl rfl ?_
      refine r_istore_n (q := 52) (L' := [some (zr 12 0), some (zi (nI tg)), some (zi (nI k)), some (zi (nI k))]) dX12_readMap_51 rfl rfl (by decide) rfl ?_
      refine r_iincN (q := 55) (L' := [some (zr 12 0), some (zi (nI tg)), some (zi (nI k)), some (zi (nI (k + 1)))]) 1 rfl dX12_readMap_52 rfl rfl (by decide) rfl ?_
      refine r_goto (q := 26) dX12_readMap_55 (by decide) ?_
      have e1 : nm k = v := Decidable.byContradiction fun z => h47 ((lcmp_ne (by omega) (by omega)).mpr z)
      have e2 : fa nm v (k + 1) = nI k := by unfold fa; rw [fAct, if_pos e1]
      rw [← e2]
      exact ih (k + 1) (by omega)

set_option maxRecDepth 100000 in
theorem lp_mr137 {Po : Option zV → zS → Prop} {tg a n : Nat} (ha : a < 3) (hn : n ≤ 64) : ∀ (d k : Nat) (S : zS), k + d = n → Sd S → gI S 12 0 47 = nI n → (∀ S2, Fr (fun a b k => (a == 1370 || a == 1371) && b == 0) S S2 → (∀ i, k ≤ i → i < n → gI S2 1370 0 (64 * a + i) = gI S 1344 0 i ∧ gI S2 1371 0 (64 * a + i) = gI S 1345 0 i) → (∀ j, (j < 64 * a + k ∨ 64 * a + n ≤ j) → gI S2 1370 0 j = gI S 1370 0 j ∧ gI S2 1371 0 j = gI S 1371 0 j) → Ok mX12_readMap 185 [some (zr 12 0), some (zi (nI tg)), some (zi (nI a)), some (zi (nI n))] [] S2 Po) → Ok mX12_readMap 137 [some (zr 12 0), some (zi (nI tg)), some (zi (nI a)), some (zi (nI k))] [] S Po := by
  intro d
  induction d with
  | zero =>
    intro k S hk hs h47 K
    obtain rfl : k = n := by omega
    refine r_iload_n (q := 138) dX12_readMap_137 rfl rfl rfl ?_
    refine r_aload_n (q := 139) dX12_readMap_138 rfl rfl rfl ?_
    refine r_geti (q := 142) ck12 dX12_readMap_139 rfl (k := 47) (by decide) wt1325 (Or.inl rfl) (hs.e (by decide)) ?_
    refine r_topi (y := nI k) h47 ?_
    refine r_icmp_geN (q := 145) (t := 185) (by omega) (by omega) dX12_readMap_142 (by decide) rfl (fun h142 => ?_) (fun h142 => absurd h142 (by omega))
    exact K S Fr.rf (fun i a b => absurd a (by omega)) (fun j _ => ⟨rfl, rfl⟩)
  | succ d ih =>
    intro k S hk hs h47 K
    refine r_iload_n (q := 138) dX12_readMap_137 rfl rfl rfl ?_
    refine r_aload_n (q := 139) dX12_readMap_138 rfl rfl rfl ?_
    refine r_geti (q := 142) ck12 dX12_readMap_139 rfl (k := 47) (by decide) wt1325 (Or.inl rfl) (hs.e (by decide)) ?_
    refine r_topi (y := nI n) h47 ?_
    refine r_icmp_geN (q := 145) (t := 185) (by omega) (by omega) dX12_readMap_142 (by decide) rfl (fun h142 => absurd h142 (by omega)) (fun h142 => ?_)
    refine r_aload_n (q := 146) dX12_readMap_145 rfl rfl rfl ?_
    refine r_getr (q := 149) (some (1370, 0)) ck12 dX12_readMap_146 rfl (k := 70) (by decide) wt1348 rfl (hs.e (by decide)) (hs.r (by decide) (by decide)) ?_
    refine r_bipush (q := 151) (nI 64) dX12_readMap_149 rfl (by decide) ?_
    refine r_iload_n (q := 152) dX12_readMap_151 rfl rfl rfl ?_
    refine r_imulN (q := 153) dX12_readMap_152 rfl ?_
    refine r_iload_n (q := 154) dX12_readMap_153 rfl rfl rfl ?_
    refine r_iaddN (q := 155) dX12_readMap_154 rfl ?_
    refine r_aload_n (q := 156) dX12_readMap_155 rfl rfl rfl ?_
    refine r_getr (q := 159) (some (1344, 0)) ck12 dX12_readMap_156 rfl (k := 44) (by decide) wt1322 rfl (hs.e (by decide)) (hs.r (by decide) (by decide)) ?_
    refine r_iload_n (q := 160) dX12_readMap_159 rfl rfl rfl ?_
    refine r_ialdN (q := 161) 1400 (by decide) rfl dX12_readMap_160 rfl (hs.e (by decide)) (hs.n rfl (by decide)) (by omega) (by decide) ?_
    refine r_iastN (q := 162) 192 (by decide) rfl dX12_readMap_161 rfl (hs.e (by decide)) (hs.n rfl (by decide)) (by omega) (by decide) ?_
    refine r_aload_n (q := 163) dX12_readMap_162 rfl rfl rfl ?_
    refine r_getr (q := 166) (some (1371, 0)) ck12 dX12_readMap_163 rfl (k := 71) (by decide) wt1349 rfl (hs.e (by decide)) (hs.r (by decide) (by decide)) ?_
    refine r_bipush (q := 168) (nI 64) dX12_readMap_166 rfl (by decide) ?_
    refine r_iload_n (q := 169) dX12_readMap_168 rfl rfl rfl ?_
    refine r_imulN (q := 170) dX12_readMap_169 rfl ?_
    refine r_iload_n (q := 171) dX12_readMap_170 rfl rfl rfl ?_
    refine r_iaddN (q := 172) dX12_readMap_171 rfl ?_
    refine r_aload_n (q := 173) dX12_readMap_172 rfl rfl rfl ?_
    refine r_getr (q := 176) (some (1345, 0)) ck12 dX12_readMap_173 rfl (k := 45) (by decide) wt1323 rfl (hs.e (by decide)) (hs.r (by decide) (by decide)) ?_
    refine r_iload_n (q := 177) dX12_readMap_176 rfl rfl rfl ?_
    refine r_ialdN (q := 178) 1400 (by decide) rfl dX12_readMap_177 rfl (hs.e (by decide)) (hs.n rfl (by decide)) (by omega) (by decide) ?_
    refine r_topi (y := gI S 1345 0 k) (by repeat (first | rw [gI_sI, if_neg (by omega)] | rw [gI_sI, if_pos ⟨rfl, rfl, rfl⟩] | rw [gJ_sJ, if_neg (by omega)] | rw [gJ_sJ, if_pos ⟨rfl, rfl, rfl⟩] | rw [gI_sJ] | rw [gJ_sI])) ?_
    refine r_iastN (q := 179) 192 (by decide) rfl dX12_readMap_178 rfl (hs.e (by decide)) (hs.n rfl (by decide)) (by omega) (by decide) ?_
    refine r_iincN (q := 182) (L' := [some (zr 12 0), some (zi (nI tg)), some (zi (nI a)), some (zi (nI (k + 1)))]) 1 rfl dX12_readMap_179 rfl rfl (by decide) rfl ?_
    refine r_goto (q := 137) dX12_readMap_182 (by decide) ?_
    refine ih (k + 1) (sI (sI S 1370 0 ((64 * a) + k) (gI S 1344 0 k)) 1371 0 ((64 * a) + k) (gI S 1345 0 k)) (by omega) hs (by rw [gI_sI, if_neg (by omega), gI_sI, if_neg (by omega)]; exact h47) (fun S2 f e1 e2 => K S2 ((((Fr.rf.i rfl).i rfl) : Fr (fun a b k => (a == 1370 || a == 1371) && b == 0) S (sI (sI S 1370 0 ((64 * a) + k) (gI S 1344 0 k)) 1371 0 ((64 * a) + k) (gI S 1345 0 k))).tr f) (fun i i1 b => ?_) (fun j i1 => ?_))
    · by_cases e : i = k
      · subst e
        have := e2 (64 * a + i) (by omega)
        exact ⟨by rw [this.1, gI_sI, if_neg (by omega), gI_sI, if_pos ⟨rfl, rfl, rfl⟩], by rw [this.2, gI_sI, if_pos ⟨rfl, rfl, rfl⟩]⟩
      · have := e1 i (by omega) b
        exact ⟨by rw [this.1, gI_sI, if_neg (by omega), gI_sI, if_neg (by omega)], by rw [this.2, gI_sI, if_neg (by omega), gI_sI, if_neg (by omega)]⟩
    · have := e2 j (by omega)
      exact ⟨by rw [this.1, gI_sI, if_neg (by omega), gI_sI, if_neg (by omega)], by rw [this.2, gI_sI, if_neg (by omega), gI_sI, if_neg (by omega)]⟩

set_option maxRecDepth 100000 in
theorem lp_mr_1 {S : zS} (hs : Sd S) {bs : List Nat} {lim : Nat} (hbl : bs.length ≤ 940) (hlim : lim ≤ 940) {ts : List zTk} (hr : Rr S bs lim ts) (hk : Tks ts) (hlk : Lk ts) (h4 : ts.length ≤ 401) {AW AK P : Nat} {nmW eW nmK eK : Nat → Nat} (hEW : Eok AW eW) (hEK : Eok AK eK) (hbW : ∀ a, a < AW → nmW a < 2 ^ 48) (hbK : ∀ a, a < AK → nmK a < 2 ^ 48) (hwW : Wow S AW nmW eW) (hwK : Wm S 1 3 AK nmK eK) (hP2 : 2 ≤ P) (hP : P ≤ 97) (hp0 : gI S 1322 0 1173 = nI P) {im : zIm} (hI : IMR S im) (hm : ImS AW eW AK eK P im) (hnm : ¬ isNmb ts = true) : Ok mX12_readMap 9 [some (zr 12 0), some (zi (nI (mkB (tB im)))), none, none] [] S (fun r S1 => RmQ S S1 r (Sum.inl (1, (hdT ts).2.1))) := by
  obtain ⟨t1, t2, t3, t4⟩ := hk.hd
  have hA3 := hEW.1
  have htg := mkB_lt (g := tB im)
  refine r_aload_n (q := 10) dX12_readMap_9 rfl rfl rfl ?_
  refine r_callV (Mc := mX12_isName) (q := 13) (As := []) (st := []) ck12 dX12_readMap_10 rfl rfl mkX12_isName wt1608 wt1610 wp76 rfl (Nat.le_of_ble_eq_true rfl) (Nat.le_of_ble_eq_true rfl) (by decide) (by decide) (by decide) (Or.inl rfl) (hs.e (by decide)) (ok_isNameR hs hbl hlim hr hk) (fun r10 S10 hp10 => ?_)
  obtain ⟨rfl, hq10⟩ := hp10
  rw [hq10]
  rw [if_neg hnm]
  show Ok _ _ _ [zi (nI 0)] _ _
  refine r_if_neN (q := 16) (t := 22) (by omega) dX12_readMap_13 (by decide) rfl (fun h13 => absurd h13 (by omega)) (fun h13 => ?_)
  refine r_aload_n (q := 17) dX12_readMap_16 rfl rfl rfl ?_
  refine r_iconst (q := 18) (nI 1) dX12_readMap_17 rfl (by decide) ?_
  refine r_callV (Mc := mX12_bad) (q := 21) (As := [zi (nI 1)]) (st := []) ck12 dX12_readMap_18 rfl rfl mkX12_bad wt1596 wt1598 wp74 rfl (Nat.le_of_ble_eq_true rfl) (Nat.le_of_ble_eq_true rfl) (by decide) (by decide) (by decide) (Or.inl rfl) (hs.e (by decide)) (ok_bad hs hbl hlim hr hk 1) (fun r18 S18 hp18 => ?_)
  obtain ⟨rfl, w18, x18⟩ := hp18
  show Ok _ _ _ [zi (nI 0)] _ _
  refine r_zreturn (by decide) dX12_readMap_21 rfl ?_
  exact ⟨rfl, w18.mono tMr_d, x18⟩

set_option maxRecDepth 100000 in
theorem lp_mr_2 {S : zS} (hs : Sd S) {bs : List Nat} {lim : Nat} (hbl : bs.length ≤ 940) (hlim : lim ≤ 940) {ts : List zTk} (hr : Rr S bs lim ts) (hk : Tks ts) (hlk : Lk ts) (h4 : ts.length ≤ 401) {AW AK P : Nat} {nmW eW nmK eK : Nat → Nat} (hEW : Eok AW eW) (hEK : Eok AK eK) (hbW : ∀ a, a < AW → nmW a < 2 ^ 48) (hbK : ∀ a, a < AK → nmK a < 2 ^ 48) (hwW : Wow S AW nmW eW) (hwK : Wm S 1 3 AK nmK eK) (hP2 : 2 ≤ P) (hP : P ≤ 97) (hp0 : gI S 1322 0 1173 = nI P) {im : zIm} (hI : IMR S im) (hm : ImS AW eW AK eK P im) (hnm : isNmb ts = true) (hfa : fAct nmW (hdT ts).2.2 AW = none) : Ok mX12_readMap 9 [some (zr 12 0), some (zi (nI (mkB (tB im)))), none, none] [] S (fun r S1 => RmQ S S1 r (Sum.inl (3, (hdT ts).2.1))) := by
  obtain ⟨t1, t2, t3, t4⟩ := hk.hd
  have hA3 := hEW.1
  have htg := mkB_lt (g := tB im)
  refine r_aload_n (q := 10) dX12_readMap_9 rfl rfl rfl ?_
  refine r_callV (Mc := mX12_isName) (q := 13) (As := []) (st := []) ck12 dX12_readMap_10 rfl rfl mkX12_isName wt1608 wt1610 wp76 rfl (Nat.le_of_ble_eq_true rfl) (Nat.le_of_ble_eq_true rfl) (by decide) (by decide) (by decide) (Or.inl rfl) (hs.e (by decide)) (ok_isNameR hs hbl hlim hr hk) (fun r10 S10 hp10 => ?_)
  obtain ⟨rfl, hq10⟩ := hp10
  rw [hq10]
  rw [if_pos hnm]
  show Ok _ _ _ [zi (nI 1)] _ _
  refine r_if_neN (q := 16) (t := 22) (by omega) dX12_readMap_13 (by decide) rfl (fun h13 => ?_) (fun h13 => absurd h13 (by omega))
  refine r_iconst (q := 23) ((-1 : Int32)) dX12_readMap_22 rfl (by decide) ?_
  refine r_istore_n (q := 24) (L' := [some (zr 12 0), some (zi (nI (mkB (tB im)))), some (zi (-1 : Int32)), none]) dX12_readMap_23 rfl rfl (by decide) rfl ?_
  refine r_iconst (q := 25) (nI 0) dX12_readMap_24 rfl (by decide) ?_
  refine r_istore_n (q := 26) (L' := [some (zr 12 0), some (zi (nI (mkB (tB im)))), some (zi (-1 : Int32)), some (zi (nI 0))]) dX12_readMap_25 rfl rfl (by decide) rfl ?_
  have hkd := (isNmb_t.mp hnm).1
  have hwv := hr.1.2.2.1 (by omega)
  have hv48 := (t3 hkd).1
  refine lp_mfind (tg := mkB (tB im)) hA3 hbW hs hwW hv48 hwv ?_ AW 0 (by omega)
  have efa : fa nmW (hdT ts).2.2 AW = -1 := by unfold fa; rw [hfa]
  rw [efa]
  refine r_iload_n (q := 59) dX12_readMap_58 rfl rfl rfl ?_
  refine r_if_lt (q := 62) (t := 71) dX12_readMap_59 (by decide) rfl (fun h59 => ?_) (fun h59 => absurd h59 (by decide))
  refine r_aload_n (q := 72) dX12_readMap_71 rfl rfl rfl ?_
  refine r_iconst (q := 73) (nI 3) dX12_readMap_72 rfl (by decide) ?_
  refine r_callV (Mc := mX12_bad) (q := 76) (As := [zi (nI 3)]) (st := []) ck12 dX12_readMap_73 rfl rfl mkX12_bad wt1596 wt1598 wp74 rfl (Nat.le_of_ble_eq_true rfl) (Nat.le_of_ble_eq_true rfl) (by decide) (by decide) (by decide) (Or.inl rfl) (hs.e (by decide)) (ok_bad hs hbl hlim hr hk 3) (fun r73 S73 hp73 => ?_)
  obtain ⟨rfl, w73, x73⟩ := hp73
  show Ok _ _ _ [zi (nI 0)] _ _
  refine r_zreturn (by decide) dX12_readMap_76 rfl ?_
  exact ⟨rfl, w73.mono tMr_d, x73⟩

set_option maxRecDepth 100000 in
theorem lp_mr_3 {S : zS} (hs : Sd S) {bs : List Nat} {lim : Nat} (hbl : bs.length ≤ 940) (hlim : lim ≤ 940) {ts : List zTk} (hr : Rr S bs lim ts) (hk : Tks ts) (hlk : Lk ts) (h4 : ts.length ≤ 401) {AW AK P : Nat} {nmW eW nmK eK : Nat → Nat} (hEW : Eok AW eW) (hEK : Eok AK eK) (hbW : ∀ a, a < AW → nmW a < 2 ^ 48) (hbK : ∀ a, a < AK → nmK a < 2 ^ 48) (hwW : Wow S AW nmW eW) (hwK : Wm S 1 3 AK nmK eK) (hP2 : 2 ≤ P) (hP : P ≤ 97) (hp0 : gI S 1322 0 1173 = nI P) {im : zIm} (hI : IMR S im) (hm : ImS AW eW AK eK P im) (hnm : isNmb ts = true) {a : Nat} (hfa : fAct nmW (hdT ts).2.2 AW = some a) {c : List zT} (hia : im a = some c) : Ok mX12_readMap 9 [some (zr 12 0), some (zi (nI (mkB (tB im)))), none, none] [] S (fun r S1 => RmQ S S1 r (Sum.inl (3, (hdT ts).2.1))) := by
  obtain ⟨t1, t2, t3, t4⟩ := hk.hd
  have hA3 := hEW.1
  have htg := mkB_lt (g := tB im)
  have haA := (fAct_some hfa).1
  have hae := hEW.2 a haA
  refine r_aload_n (q := 10) dX12_readMap_9 rfl rfl rfl ?_
  refine r_callV (Mc := mX12_isName) (q := 13) (As := []) (st := []) ck12 dX12_readMap_10 rfl rfl mkX12_isName wt1608 wt1610 wp76 rfl (Nat.le_of_ble_eq_true rfl) (Nat.le_of_ble_eq_true rfl) (by decide) (by decide) (by decide) (Or.inl rfl) (hs.e (by decide)) (ok_isNameR hs hbl hlim hr hk) (fun r10 S10 hp10 => ?_)
  obtain ⟨rfl, hq10⟩ := hp10
  rw [hq10]
  rw [if_pos hnm]
  show Ok _ _ _ [zi (nI 1)] _ _
  refine r_if_neN (q := 16) (t := 22) (by omega) dX12_readMap_13 (by decide) rfl (fun h13 => ?_) (fun h13 => absurd h13 (by omega))
  refine r_iconst (q := 23) ((-1 : Int32)) dX12_readMap_22 rfl (by decide) ?_
  refine r_istore_n (q := 24) (L' := [some (zr 12 0), some (zi (nI (mkB (tB im)))), some (zi (-1 : Int32)), none]) dX12_readMap_23 rfl rfl (by decide) rfl ?_
  refine r_iconst (q := 25) (nI 0) dX12_readMap_24 rfl (by decide) ?_
  refine r_istore_n (q := 26) (L' := [some (zr 12 0), some (zi (nI (mkB (tB im)))), some (zi (-1 : Int32)), some (zi (nI 0))]) dX12_readMap_25 rfl rfl (by decide) rfl ?_
  have hkd := (isNmb_t.mp hnm).1
  have hwv := hr.1.2.2.1 (by omega)
  have hv48 := (t3 hkd).1
  refine lp_mfind (tg := mkB (tB im)) hA3 hbW hs hwW hv48 hwv ?_ AW 0 (by omega)
  have efa : fa nmW (hdT ts).2.2 AW = nI a := by unfold fa; rw [hfa]
  rw [efa]
  refine r_iload_n (q := 59) dX12_readMap_58 rfl rfl rfl ?_
  refine r_if_ltN (q := 62) (t := 71) (by omega) dX12_readMap_59 (by decide) rfl ?_
  refine r_iload_n (q := 63) dX12_readMap_62 rfl rfl rfl ?_
  refine r_iload_n (q := 64) dX12_readMap_63 rfl rfl rfl ?_
  refine r_ishr (q := 65) dX12_readMap_64 rfl ?_
  refine r_iconst (q := 66) (nI 1) dX12_readMap_65 rfl (by decide) ?_
  refine r_iand (q := 67) dX12_readMap_66 rfl ?_
  refine r_topi (y := nI 1) ((mkB_bit (by omega)).trans (by unfold tB; rw [hia]; rfl)) ?_
  refine r_iconst (q := 68) (nI 1) dX12_readMap_67 rfl (by decide) ?_
  refine r_icmp_neN (q := 71) (t := 77) (by omega) (by omega) dX12_readMap_68 (by decide) rfl (fun h68 => absurd h68 (by omega)) (fun h68 => ?_)
  refine r_aload_n (q := 72) dX12_readMap_71 rfl rfl rfl ?_
  refine r_iconst (q := 73) (nI 3) dX12_readMap_72 rfl (by decide) ?_
  refine r_callV (Mc := mX12_bad) (q := 76) (As := [zi (nI 3)]) (st := []) ck12 dX12_readMap_73 rfl rfl mkX12_bad wt1596 wt1598 wp74 rfl (Nat.le_of_ble_eq_true rfl) (Nat.le_of_ble_eq_true rfl) (by decide) (by decide) (by decide) (Or.inl rfl) (hs.e (by decide)) (ok_bad hs hbl hlim hr hk 3) (fun r73 S73 hp73 => ?_)
  obtain ⟨rfl, w73, x73⟩ := hp73
  show Ok _ _ _ [zi (nI 0)] _ _
  refine r_zreturn (by decide) dX12_readMap_76 rfl ?_
  exact ⟨rfl, w73.mono tMr_d, x73⟩

set_option maxRecDepth 100000 in
theorem lp_mr_4 {S : zS} (hs : Sd S) {bs : List Nat} {lim : Nat} (hbl : bs.length ≤ 940) (hlim : lim ≤ 940) {ts : List zTk} (hr : Rr S bs lim ts) (hk : Tks ts) (hlk : Lk ts) (h4 : ts.length ≤ 401) {AW AK P : Nat} {nmW eW nmK eK : Nat → Nat} (hEW : Eok AW eW) (hEK : Eok AK eK) (hbW : ∀ a, a < AW → nmW a < 2 ^ 48) (hbK : ∀ a, a < AK → nmK a < 2 ^ 48) (hwW : Wow S AW nmW eW) (hwK : Wm S 1 3 AK nmK eK) (hP2 : 2 ≤ P) (hP : P ≤ 97) (hp0 : gI S 1322 0 1173 = nI P) {im : zIm} (hI : IMR S im) (hm : ImS AW eW AK eK P im) (hnm : isNmb ts = true) {a : Nat} (hfa : fAct nmW (hdT ts).2.2 AW = some a) (hia : im a = none) (h61 : ¬ (hdT (adv ts)).1 = 61) : Ok mX12_readMap 9 [some (zr 12 0), some (zi (nI (mkB (tB im)))), none, none] [] S (fun r S1 => RmQ S S1 r (Sum.inl (1, (hdT (adv ts)).2.1))) := by
  obtain ⟨t1, t2, t3, t4⟩ := hk.hd
  have hA3 := hEW.1
  have htg := mkB_lt (g := tB im)
  have haA := (fAct_some hfa).1
  have hae := hEW.2 a haA
  refine r_aload_n (q := 10) dX12_readMap_9 rfl rfl rfl ?_
  refine r_callV (Mc := mX12_isName) (q := 13) (As := []) (st := []) ck12 dX12_readMap_10 rfl rfl mkX12_isName wt1608 wt1610 wp76 rfl (Nat.le_of_ble_eq_true rfl) (Nat.le_of_ble_eq_true rfl) (by decide) (by decide) (by decide) (Or.inl rfl) (hs.e (by decide)) (ok_isNameR hs hbl hlim hr hk) (fun r10 S10 hp10 => ?_)
  obtain ⟨rfl, hq10⟩ := hp10
  rw [hq10]
  rw [if_pos hnm]
  show Ok _ _ _ [zi (nI 1)] _ _
  refine r_if_neN (q := 16) (t := 22) (by omega) dX12_readMap_13 (by decide) rfl (fun h13 => ?_) (fun h13 => absurd h13 (by omega))
  refine r_iconst (q := 23) ((-1 : Int32)) dX12_readMap_22 rfl (by decide) ?_
  refine r_istore_n (q := 24) (L' := [some (zr 12 0), some (zi (nI (mkB (tB im)))), some (zi (-1 : Int32)), none]) dX12_readMap_23 rfl rfl (by decide) rfl ?_
  refine r_iconst (q := 25) (nI 0) dX12_readMap_24 rfl (by decide) ?_
  refine r_istore_n (q := 26) (L' := [some (zr 12 0), some (zi (nI (mkB (tB im)))), some (zi (-1 : Int32)), some (zi (nI 0))]) dX12_readMap_25 rfl rfl (by decide) rfl ?_
  have hkd := (isNmb_t.mp hnm).1
  have hwv := hr.1.2.2.1 (by omega)
  have hv48 := (t3 hkd).1
  refine lp_mfind (tg := mkB (tB im)) hA3 hbW hs hwW hv48 hwv ?_ AW 0 (by omega)
  have efa : fa nmW (hdT ts).2.2 AW = nI a := by unfold fa; rw [hfa]
  rw [efa]
  refine r_iload_n (q := 59) dX12_readMap_58 rfl rfl rfl ?_
  refine r_if_ltN (q := 62) (t := 71) (by omega) dX12_readMap_59 (by decide) rfl ?_
  refine r_iload_n (q := 63) dX12_readMap_62 rfl rfl rfl ?_
  refine r_iload_n (q := 64) dX12_readMap_63 rfl rfl rfl ?_
  refine r_ishr (q := 65) dX12_readMap_64 rfl ?_
  refine r_iconst (q := 66) (nI 1) dX12_readMap_65 rfl (by decide) ?_
  refine r_iand (q := 67) dX12_readMap_66 rfl ?_
  refine r_topi (y := nI 0) ((mkB_bit (by omega)).trans (by unfold tB; rw [hia]; rfl)) ?_
  refine r_iconst (q := 68) (nI 1) dX12_readMap_67 rfl (by decide) ?_
  refine r_icmp_neN (q := 71) (t := 77) (by omega) (by omega) dX12_readMap_68 (by decide) rfl (fun h68 => ?_) (fun h68 => absurd h68 (by omega))
  refine r_iload_n (q := 78) dX12_readMap_77 rfl rfl rfl ?_
  refine r_iconst (q := 79) (nI 1) dX12_readMap_78 rfl (by decide) ?_
  refine r_iload_n (q := 80) dX12_readMap_79 rfl rfl rfl ?_
  refine r_ishl (q := 81) dX12_readMap_80 rfl ?_
  refine r_ior (q := 82) dX12_readMap_81 rfl ?_
  refine r_topi (y := nI (mkB (fun b => b == a || tB im b))) (mkB_up (by omega)) ?_
  refine r_istore_n (q := 83) (L' := [some (zr 12 0), some (zi (nI (mkB (fun b => b == a || tB im b)))), some (zi (nI a)), some (zi (nI AW))]) dX12_readMap_82 rfl rfl (by decide) rfl ?_
  refine r_aload_n (q := 84) dX12_readMap_83 rfl rfl rfl ?_
  refine r_callV (Mc := mX12_next) (q := 87) (As := []) (st := []) ck12 dX12_readMap_84 rfl rfl mkX12_next wt1573 wt1575 wp70 rfl (Nat.le_of_ble_eq_true rfl) (Nat.le_of_ble_eq_true rfl) (by decide) (by decide) (by decide) (Or.inl rfl) (hs.e (by decide)) (ok_nextR hs hbl hlim hr) (fun r84 S84 hp84 => ?_)
  obtain ⟨rfl, w84, x84⟩ := hp84
  have hs1 := hs.fr w84
  show Ok _ _ _ [] _ _
  refine r_aload_n (q := 88) dX12_readMap_87 rfl rfl rfl ?_
  refine r_bipush (q := 90) (nI 61) dX12_readMap_88 rfl (by decide) ?_
  refine r_callV (Mc := mX12_sign) (q := 93) (As := [zi (nI 61)]) (st := []) ck12 dX12_readMap_90 rfl rfl mkX12_sign wt1633 wt1635 wp81 rfl (Nat.le_of_ble_eq_true rfl) (Nat.le_of_ble_eq_true rfl) (by decide) (by decide) (by decide) (Or.inl rfl) (hs1.e (by decide)) (ok_sign_n hs1 hbl hlim x84 hk.adv (by omega) (by omega) h61) (fun r90 S90 hp90 => ?_)
  obtain ⟨rfl, w90, x90⟩ := hp90
  show Ok _ _ _ [zi (nI 0)] _ _
  refine r_if_neN (q := 96) (t := 98) (by omega) dX12_readMap_93 (by decide) rfl (fun h93 => absurd h93 (by omega)) (fun h93 => ?_)
  refine r_iconst (q := 97) (nI 0) dX12_readMap_96 rfl (by decide) ?_
  refine r_zreturn (by decide) dX12_readMap_97 rfl ?_
  exact ⟨rfl, (w84.mono tMr_x).tr (w90.mono tMr_d), x90⟩

set_option maxRecDepth 100000 in
theorem lp_mr_5 {S : zS} (hs : Sd S) {bs : List Nat} {lim : Nat} (hbl : bs.length ≤ 940) (hlim : lim ≤ 940) {ts : List zTk} (hr : Rr S bs lim ts) (hk : Tks ts) (hlk : Lk ts) (h4 : ts.length ≤ 401) {AW AK P : Nat} {nmW eW nmK eK : Nat → Nat} (hEW : Eok AW eW) (hEK : Eok AK eK) (hbW : ∀ a, a < AW → nmW a < 2 ^ 48) (hbK : ∀ a, a < AK → nmK a < 2 ^ 48) (hwW : Wow S AW nmW eW) (hwK : Wm S 1 3 AK nmK eK) (hP2 : 2 ≤ P) (hP : P ≤ 97) (hp0 : gI S 1322 0 1173 = nI P) {im : zIm} (hI : IMR S im) (hm : ImS AW eW AK eK P im) (hnm : isNmb ts = true) {a : Nat} (hfa : fAct nmW (hdT ts).2.2 AW = some a) (hia : im a = none) (h61 : (hdT (adv ts)).1 = 61) {x : zEr} (q2 : sumQ nmK eK AK P (eW a) 1 (adv (adv ts)) = Sum.inl x) : Ok mX12_readMap 9 [some (zr 12 0), some (zi (nI (mkB (tB im)))), none, none] [] S (fun r S1 => RmQ S S1 r (Sum.inl x)) := by
  obtain ⟨t1, t2, t3, t4⟩ := hk.hd
  have hA3 := hEW.1
  have htg := mkB_lt (g := tB im)
  have haA := (fAct_some hfa).1
  have hae := hEW.2 a haA
  refine r_aload_n (q := 10) dX12_readMap_9 rfl rfl rfl ?_
  refine r_callV (Mc := mX12_isName) (q := 13) (As := []) (st := []) ck12 dX12_readMap_10 rfl rfl mkX12_isName wt1608 wt1610 wp76 rfl (Nat.le_of_ble_eq_true rfl) (Nat.le_of_ble_eq_true rfl) (by decide) (by decide) (by decide) (Or.inl rfl) (hs.e (by decide)) (ok_isNameR hs hbl hlim hr hk) (fun r10 S10 hp10 => ?_)
  obtain ⟨rfl, hq10⟩ := hp10
  rw [hq10]
  rw [if_pos hnm]
  show Ok _ _ _ [zi (nI 1)] _ _
  refine r_if_neN (q := 16) (t := 22) (by omega) dX12_readMap_13 (by decide) rfl (fun h13 => ?_) (fun h13 => absurd h13 (by omega))
  refine r_iconst (q := 23) ((-1 : Int32)) dX12_readMap_22 rfl (by decide) ?_
  refine r_istore_n (q := 24) (L' := [some (zr 12 0), some (zi (nI (mkB (tB im)))), some (zi (-1 : Int32)), none]) dX12_readMap_23 rfl rfl (by decide) rfl ?_
  refine r_iconst (q := 25) (nI 0) dX12_readMap_24 rfl (by decide) ?_
  refine r_istore_n (q := 26) (L' := [some (zr 12 0), some (zi (nI (mkB (tB im)))), some (zi (-1 : Int32)), some (zi (nI 0))]) dX12_readMap_25 rfl rfl (by decide) rfl ?_
  have hkd := (isNmb_t.mp hnm).1
  have hwv := hr.1.2.2.1 (by omega)
  have hv48 := (t3 hkd).1
  refine lp_mfind (tg := mkB (tB im)) hA3 hbW hs hwW hv48 hwv ?_ AW 0 (by omega)
  have efa : fa nmW (hdT ts).2.2 AW = nI a := by unfold fa; rw [hfa]
  rw [efa]
  refine r_iload_n (q := 59) dX12_readMap_58 rfl rfl rfl ?_
  refine r_if_ltN (q := 62) (t := 71) (by omega) dX12_readMap_59 (by decide) rfl ?_
  refine r_iload_n (q := 63) dX12_readMap_62 rfl rfl rfl ?_
  refine r_iload_n (q := 64) dX12_readMap_63 rfl rfl rfl ?_
  refine r_ishr (q := 65) dX12_readMap_64 rfl ?_
  refine r_iconst (q := 66) (nI 1) dX12_readMap_65 rfl (by decide) ?_
  refine r_iand (q := 67) dX12_readMap_66 rfl ?_
  refine r_topi (y := nI 0) ((mkB_bit (by omega)).trans (by unfold tB; rw [hia]; rfl)) ?_
  refine r_iconst (q := 68) (nI 1) dX12_readMap_67 rfl (by decide) ?_
  refine r_icmp_neN (q := 71) (t := 77) (by omega) (by omega) dX12_readMap_68 (by decide) rfl (fun h68 => ?_) (fun h68 => absurd h68 (by omega))
  refine r_iload_n (q := 78) dX12_readMap_77 rfl rfl rfl ?_
  refine r_iconst (q := 79) (nI 1) dX12_readMap_78 rfl (by decide) ?_
  refine r_iload_n (q := 80) dX12_readMap_79 rfl rfl rfl ?_
  refine r_ishl (q := 81) dX12_readMap_80 rfl ?_
  refine r_ior (q := 82) dX12_readMap_81 rfl ?_
  refine r_topi (y := nI (mkB (fun b => b == a || tB im b))) (mkB_up (by omega)) ?_
  refine r_istore_n (q := 83) (L' := [some (zr 12 0), some (zi (nI (mkB (fun b => b == a || tB im b)))), some (zi (nI a)), some (zi (nI AW))]) dX12_readMap_82 rfl rfl (by decide) rfl ?_
  refine r_aload_n (q := 84) dX12_readMap_83 rfl rfl rfl ?_
  refine r_callV (Mc := mX12_next) (q := 87) (As := []) (st := []) ck12 dX12_readMap_84 rfl rfl mkX12_next wt1573 wt1575 wp70 rfl (Nat.le_of_ble_eq_true rfl) (Nat.le_of_ble_eq_true rfl) (by decide) (by decide) (by decide) (Or.inl rfl) (hs.e (by decide)) (ok_nextR hs hbl hlim hr) (fun r84 S84 hp84 => ?_)
  obtain ⟨rfl, w84, x84⟩ := hp84
  have hs1 := hs.fr w84
  show Ok _ _ _ [] _ _
  refine r_aload_n (q := 88) dX12_readMap_87 rfl rfl rfl ?_
  refine r_bipush (q := 90) (nI 61) dX12_readMap_88 rfl (by decide) ?_
  refine r_callV (Mc := mX12_sign) (q := 93) (As := [zi (nI 61)]) (st := []) ck12 dX12_readMap_90 rfl rfl mkX12_sign wt1633 wt1635 wp81 rfl (Nat.le_of_ble_eq_true rfl) (Nat.le_of_ble_eq_true rfl) (by decide) (by decide) (by decide) (Or.inl rfl) (hs1.e (by decide)) (ok_sign_y hs1 hbl hlim x84 hk.adv (by omega) (by omega) h61) (fun r90 S90 hp90 => ?_)
  obtain ⟨rfl, w90, x90⟩ := hp90
  have hs2 := hs1.fr w90
  have hK2 := (hwK.fr w84 (fun _ => ⟨rfl, rfl, rfl, rfl⟩)).fr w90 (fun _ => ⟨rfl, rfl, rfl, rfl⟩)
  have he2 : gI S90 1306 0 (4 + a) = nI (eW a) := ((w90.1 _ _ _ rfl).trans (w84.1 _ _ _ rfl)).trans (hwW.2 a haA).1
  have hp2 : gI S90 1322 0 (1173 * 1) = nI P := ((w90.1 _ _ _ rfl).trans (w84.1 _ _ _ rfl)).trans hp0
  have l1 := adv_len ts
  have l2 := adv_len (adv ts)
  show Ok _ _ _ [zi (nI 1)] _ _
  refine r_if_neN (q := 96) (t := 98) (by omega) dX12_readMap_93 (by decide) rfl (fun h93 => ?_) (fun h93 => absurd h93 (by omega))
  refine r_aload_n (q := 99) dX12_readMap_98 rfl rfl rfl ?_
  refine r_iconst (q := 100) (nI 0) dX12_readMap_99 rfl (by decide) ?_
  refine r_aload_n (q := 101) dX12_readMap_100 rfl rfl rfl ?_
  refine r_getr (q := 104) (some (1306, 0)) ck12 dX12_readMap_101 rfl (k := 6) (by decide) wt1284 rfl (hs2.e (by decide)) (hs2.r (by decide) (by decide)) ?_
  refine r_iconst (q := 105) (nI 4) dX12_readMap_104 rfl (by decide) ?_
  refine r_iload_n (q := 106) dX12_readMap_105 rfl rfl rfl ?_
  refine r_iaddN (q := 107) dX12_readMap_106 rfl ?_
  refine r_ialdN (q := 108) 3775 (by decide) rfl dX12_readMap_107 rfl (hs2.e (by decide)) (hs2.n rfl (by decide)) (by omega) (by decide) ?_
  refine r_topi (y := nI (eW a)) he2 ?_
  refine r_callV (Mc := mX12_readSum) (q := 111) (As := [zi (nI 0), zi (nI (eW a))]) (st := []) ck12 dX12_readMap_108 rfl rfl mkX12_readSum wt1617 wt1619 wp77 rfl (Nat.le_of_ble_eq_true rfl) (Nat.le_of_ble_eq_true rfl) (by decide) (by decide) (by decide) (Or.inl rfl) (hs2.e (by decide)) (ok_X12_readSum (q := 1) (nf := 3) (by omega) (by omega) hEK hbK hbl hlim hP2 hP hs2 hK2 hp2 x90 hk.adv.adv hlk.ad.ad (by omega) (wn0 := eW a) (ls := 1) (il := 0) (by omega) (Or.inr ⟨rfl, rfl⟩)) (fun r108 S108 hp108 => ?_)
  rw [q2] at hp108
  obtain ⟨rfl, f108, x108⟩ := hp108
  have hs3 := hs2.fr f108
  show Ok _ _ _ [zi (nI 0)] _ _
  refine r_if_eqN (q := 114) (t := 123) (by omega) dX12_readMap_111 (by decide) rfl (fun h111 => ?_) (fun h111 => absurd h111 (by omega))
  refine r_iconst (q := 124) (nI 0) dX12_readMap_123 rfl (by decide) ?_
  refine r_zreturn (by decide) dX12_readMap_124 rfl ?_
  exact ⟨rfl, ((w84.mono tMr_x).tr (w90.mono tMr_x)).tr (f108.mono tMr_s), x108⟩

set_option maxRecDepth 100000 in
theorem lp_mr_6 {S : zS} (hs : Sd S) {bs : List Nat} {lim : Nat} (hbl : bs.length ≤ 940) (hlim : lim ≤ 940) {ts : List zTk} (hr : Rr S bs lim ts) (hk : Tks ts) (hlk : Lk ts) (h4 : ts.length ≤ 401) {AW AK P : Nat} {nmW eW nmK eK : Nat → Nat} (hEW : Eok AW eW) (hEK : Eok AK eK) (hbW : ∀ a, a < AW → nmW a < 2 ^ 48) (hbK : ∀ a, a < AK → nmK a < 2 ^ 48) (hwW : Wow S AW nmW eW) (hwK : Wm S 1 3 AK nmK eK) (hP2 : 2 ≤ P) (hP : P ≤ 97) (hp0 : gI S 1322 0 1173 = nI P) {im : zIm} (hI : IMR S im) (hm : ImS AW eW AK eK P im) (hnm : isNmb ts = true) {a : Nat} (hfa : fAct nmW (hdT ts).2.2 AW = some a) (hia : im a = none) (h61 : (hdT (adv ts)).1 = 61) {n : Nat} {acc : List zT} {ts' : List zTk} (q2 : sumQ nmK eK AK P (eW a) 1 (adv (adv ts)) = Sum.inr ((n, acc), ts')) (h59 : ¬ (hdT ts').1 = 59) : Ok mX12_readMap 9 [some (zr 12 0), some (zi (nI (mkB (tB im)))), none, none] [] S (fun r S1 => RmQ S S1 r (Sum.inl (1, (hdT ts').2.1))) := by
  obtain ⟨t1, t2, t3, t4⟩ := hk.hd
  have hA3 := hEW.1
  have htg := mkB_lt (g := tB im)
  have haA := (fAct_some hfa).1
  have hae := hEW.2 a haA
  refine r_aload_n (q := 10) dX12_readMap_9 rfl rfl rfl ?_
  refine r_callV (Mc := mX12_isName) (q := 13) (As := []) (st := []) ck12 dX12_readMap_10 rfl rfl mkX12_isName wt1608 wt1610 wp76 rfl (Nat.le_of_ble_eq_true rfl) (Nat.le_of_ble_eq_true rfl) (by decide) (by decide) (by decide) (Or.inl rfl) (hs.e (by decide)) (ok_isNameR hs hbl hlim hr hk) (fun r10 S10 hp10 => ?_)
  obtain ⟨rfl, hq10⟩ := hp10
  rw [hq10]
  rw [if_pos hnm]
  show Ok _ _ _ [zi (nI 1)] _ _
  refine r_if_neN (q := 16) (t := 22) (by omega) dX12_readMap_13 (by decide) rfl (fun h13 => ?_) (fun h13 => absurd h13 (by omega))
  refine r_iconst (q := 23) ((-1 : Int32)) dX12_readMap_22 rfl (by decide) ?_
  refine r_istore_n (q := 24) (L' := [some (zr 12 0), some (zi (nI (mkB (tB im)))), some (zi (-1 : Int32)), none]) dX12_readMap_23 rfl rfl (by decide) rfl ?_
  refine r_iconst (q := 25) (nI 0) dX12_readMap_24 rfl (by decide) ?_
  refine r_istore_n (q := 26) (L' := [some (zr 12 0), some (zi (nI (mkB (tB im)))), some (zi (-1 : Int32)), some (zi (nI 0))]) dX12_readMap_25 rfl rfl (by decide) rfl ?_
  have hkd := (isNmb_t.mp hnm).1
  have hwv := hr.1.2.2.1 (by omega)
  have hv48 := (t3 hkd).1
  refine lp_mfind (tg := mkB (tB im)) hA3 hbW hs hwW hv48 hwv ?_ AW 0 (by omega)
  have efa : fa nmW (hdT ts).2.2 AW = nI a := by unfold fa; rw [hfa]
  rw [efa]
  refine r_iload_n (q := 59) dX12_readMap_58 rfl rfl rfl ?_
  refine r_if_ltN (q := 62) (t := 71) (by omega) dX12_readMap_59 (by decide) rfl ?_
  refine r_iload_n (q := 63) dX12_readMap_62 rfl rfl rfl ?_
  refine r_iload_n (q := 64) dX12_readMap_63 rfl rfl rfl ?_
  refine r_ishr (q := 65) dX12_readMap_64 rfl ?_
  refine r_iconst (q := 66) (nI 1) dX12_readMap_65 rfl (by decide) ?_
  refine r_iand (q := 67) dX12_readMap_66 rfl ?_
  refine r_topi (y := nI 0) ((mkB_bit (by omega)).trans (by unfold tB; rw [hia]; rfl)) ?_
  refine r_iconst (q := 68) (nI 1) dX12_readMap_67 rfl (by decide) ?_
  refine r_icmp_neN (q := 71) (t := 77) (by omega) (by omega) dX12_readMap_68 (by decide) rfl (fun h68 => ?_) (fun h68 => absurd h68 (by omega))
  refine r_iload_n (q := 78) dX12_readMap_77 rfl rfl rfl ?_
  refine r_iconst (q := 79) (nI 1) dX12_readMap_78 rfl (by decide) ?_
  refine r_iload_n (q := 80) dX12_readMap_79 rfl rfl rfl ?_
  refine r_ishl (q := 81) dX12_readMap_80 rfl ?_
  refine r_ior (q := 82) dX12_readMap_81 rfl ?_
  refine r_topi (y := nI (mkB (fun b => b == a || tB im b))) (mkB_up (by omega)) ?_
  refine r_istore_n (q := 83) (L' := [some (zr 12 0), some (zi (nI (mkB (fun b => b == a || tB im b)))), some (zi (nI a)), some (zi (nI AW))]) dX12_readMap_82 rfl rfl (by decide) rfl ?_
  refine r_aload_n (q := 84) dX12_readMap_83 rfl rfl rfl ?_
  refine r_callV (Mc := mX12_next) (q := 87) (As := []) (st := []) ck12 dX12_readMap_84 rfl rfl mkX12_next wt1573 wt1575 wp70 rfl (Nat.le_of_ble_eq_true rfl) (Nat.le_of_ble_eq_true rfl) (by decide) (by decide) (by decide) (Or.inl rfl) (hs.e (by decide)) (ok_nextR hs hbl hlim hr) (fun r84 S84 hp84 => ?_)
  obtain ⟨rfl, w84, x84⟩ := hp84
  have hs1 := hs.fr w84
  show Ok _ _ _ [] _ _
  refine r_aload_n (q := 88) dX12_readMap_87 rfl rfl rfl ?_
  refine r_bipush (q := 90) (nI 61) dX12_readMap_88 rfl (by decide) ?_
  refine r_callV (Mc := mX12_sign) (q := 93) (As := [zi (nI 61)]) (st := []) ck12 dX12_readMap_90 rfl rfl mkX12_sign wt1633 wt1635 wp81 rfl (Nat.le_of_ble_eq_true rfl) (Nat.le_of_ble_eq_true rfl) (by decide) (by decide) (by decide) (Or.inl rfl) (hs1.e (by decide)) (ok_sign_y hs1 hbl hlim x84 hk.adv (by omega) (by omega) h61) (fun r90 S90 hp90 => ?_)
  obtain ⟨rfl, w90, x90⟩ := hp90
  have hs2 := hs1.fr w90
  have hK2 := (hwK.fr w84 (fun _ => ⟨rfl, rfl, rfl, rfl⟩)).fr w90 (fun _ => ⟨rfl, rfl, rfl, rfl⟩)
  have he2 : gI S90 1306 0 (4 + a) = nI (eW a) := ((w90.1 _ _ _ rfl).trans (w84.1 _ _ _ rfl)).trans (hwW.2 a haA).1
  have hp2 : gI S90 1322 0 (1173 * 1) = nI P := ((w90.1 _ _ _ rfl).trans (w84.1 _ _ _ rfl)).trans hp0
  have l1 := adv_len ts
  have l2 := adv_len (adv ts)
  show Ok _ _ _ [zi (nI 1)] _ _
  refine r_if_neN (q := 96) (t := 98) (by omega) dX12_readMap_93 (by decide) rfl (fun h93 => ?_) (fun h93 => absurd h93 (by omega))
  refine r_aload_n (q := 99) dX12_readMap_98 rfl rfl rfl ?_
  refine r_iconst (q := 100) (nI 0) dX12_readMap_99 rfl (by decide) ?_
  refine r_aload_n (q := 101) dX12_readMap_100 rfl rfl rfl ?_
  refine r_getr (q := 104) (some (1306, 0)) ck12 dX12_readMap_101 rfl (k := 6) (by decide) wt1284 rfl (hs2.e (by decide)) (hs2.r (by decide) (by decide)) ?_
  refine r_iconst (q := 105) (nI 4) dX12_readMap_104 rfl (by decide) ?_
  refine r_iload_n (q := 106) dX12_readMap_105 rfl rfl rfl ?_
  refine r_iaddN (q := 107) dX12_readMap_106 rfl ?_
  refine r_ialdN (q := 108) 3775 (by decide) rfl dX12_readMap_107 rfl (hs2.e (by decide)) (hs2.n rfl (by decide)) (by omega) (by decide) ?_
  refine r_topi (y := nI (eW a)) he2 ?_
  refine r_callV (Mc := mX12_readSum) (q := 111) (As := [zi (nI 0), zi (nI (eW a))]) (st := []) ck12 dX12_readMap_108 rfl rfl mkX12_readSum wt1617 wt1619 wp77 rfl (Nat.le_of_ble_eq_true rfl) (Nat.le_of_ble_eq_true rfl) (by decide) (by decide) (by decide) (Or.inl rfl) (hs2.e (by decide)) (ok_X12_readSum (q := 1) (nf := 3) (by omega) (by omega) hEK hbK hbl hlim hP2 hP hs2 hK2 hp2 x90 hk.adv.adv hlk.ad.ad (by omega) (wn0 := eW a) (ls := 1) (il := 0) (by omega) (Or.inr ⟨rfl, rfl⟩)) (fun r108 S108 hp108 => ?_)
  rw [q2] at hp108
  obtain ⟨rfl, f108, g13, x108, s1, s2⟩ := hp108
  have hs3 := hs2.fr f108
  obtain ⟨k1, k2, k3, k4, k5, k6⟩ := sumQ_use7 hEK (show 0 < P by omega) (show 2 ≤ eW a by omega) hk.adv.adv hlk.ad.ad q2
  show Ok _ _ _ [zi (nI 1)] _ _
  refine r_if_eqN (q := 114) (t := 123) (by omega) dX12_readMap_111 (by decide) rfl (fun h111 => absurd h111 (by omega)) (fun h111 => ?_)
  refine r_aload_n (q := 115) dX12_readMap_114 rfl rfl rfl ?_
  refine r_bipush (q := 117) (nI 59) dX12_readMap_115 rfl (by decide) ?_
  refine r_callV (Mc := mX12_sign) (q := 120) (As := [zi (nI 59)]) (st := []) ck12 dX12_readMap_117 rfl rfl mkX12_sign wt1633 wt1635 wp81 rfl (Nat.le_of_ble_eq_true rfl) (Nat.le_of_ble_eq_true rfl) (by decide) (by decide) (by decide) (Or.inl rfl) (hs3.e (by decide)) (ok_sign_n hs3 hbl hlim x108 k1 (by omega) (by omega) h59) (fun r117 S117 hp117 => ?_)
  obtain ⟨rfl, w117, x117⟩ := hp117
  show Ok _ _ _ [zi (nI 0)] _ _
  refine r_if_neN (q := 123) (t := 125) (by omega) dX12_readMap_120 (by decide) rfl (fun h120 => absurd h120 (by omega)) (fun h120 => ?_)
  refine r_iconst (q := 124) (nI 0) dX12_readMap_123 rfl (by decide) ?_
  refine r_zreturn (by decide) dX12_readMap_124 rfl ?_
  exact ⟨rfl, (((w84.mono tMr_x).tr (w90.mono tMr_x)).tr (f108.mono tMr_s)).tr (w117.mono tMr_d), x117⟩

set_option maxRecDepth 100000 in
theorem lp_mr_7 {S : zS} (hs : Sd S) {bs : List Nat} {lim : Nat} (hbl : bs.length ≤ 940) (hlim : lim ≤ 940) {ts : List zTk} (hr : Rr S bs lim ts) (hk : Tks ts) (hlk : Lk ts) (h4 : ts.length ≤ 401) {AW AK P : Nat} {nmW eW nmK eK : Nat → Nat} (hEW : Eok AW eW) (hEK : Eok AK eK) (hbW : ∀ a, a < AW → nmW a < 2 ^ 48) (hbK : ∀ a, a < AK → nmK a < 2 ^ 48) (hwW : Wow S AW nmW eW) (hwK : Wm S 1 3 AK nmK eK) (hP2 : 2 ≤ P) (hP : P ≤ 97) (hp0 : gI S 1322 0 1173 = nI P) {im : zIm} (hI : IMR S im) (hm : ImS AW eW AK eK P im) (hnm : isNmb ts = true) {a : Nat} (hfa : fAct nmW (hdT ts).2.2 AW = some a) (hia : im a = none) (h61 : (hdT (adv ts)).1 = 61) {n : Nat} {acc : List zT} {ts' : List zTk} (q2 : sumQ nmK eK AK P (eW a) 1 (adv (adv ts)) = Sum.inr ((n, acc), ts')) (h59 : (hdT ts').1 = 59) {Po : Option zV → zS → Prop} (K : ∀ S1, Fr tMr S S1 → gI S1 12 0 13 = gI S 12 0 13 → Rr S1 bs lim (adv ts') → IMR S1 (upI im a (cl (adds P 1 [] acc))) → Ok mX12_readMap 2 [some (zr 12 0), some (zi (nI (mkB (tB (upI im a (cl (adds P 1 [] acc))))))), none, none] [] S1 Po) : Ok mX12_readMap 9 [some (zr 12 0), some (zi (nI (mkB (tB im)))), none, none] [] S Po := by
  obtain ⟨t1, t2, t3, t4⟩ := hk.hd
  have hA3 := hEW.1
  have htg := mkB_lt (g := tB im)
  have haA := (fAct_some hfa).1
  have hae := hEW.2 a haA
  refine r_aload_n (q := 10) dX12_readMap_9 rfl rfl rfl ?_
  refine r_callV (Mc := mX12_isName) (q := 13) (As := []) (st := []) ck12 dX12_readMap_10 rfl rfl mkX12_isName wt1608 wt1610 wp76 rfl (Nat.le_of_ble_eq_true rfl) (Nat.le_of_ble_eq_true rfl) (by decide) (by decide) (by decide) (Or.inl rfl) (hs.e (by decide)) (ok_isNameR hs hbl hlim hr hk) (fun r10 S10 hp10 => ?_)
  obtain ⟨rfl, hq10⟩ := hp10
  rw [hq10]
  rw [if_pos hnm]
  show Ok _ _ _ [zi (nI 1)] _ _
  refine r_if_neN (q := 16) (t := 22) (by omega) dX12_readMap_13 (by decide) rfl (fun h13 => ?_) (fun h13 => absurd h13 (by omega))
  refine r_iconst (q := 23) ((-1 : Int32)) dX12_readMap_22 rfl (by decide) ?_
  refine r_istore_n (q := 24) (L' := [some (zr 12 0), some (zi (nI (mkB (tB im)))), some (zi (-1 : Int32)), none]) dX12_readMap_23 rfl rfl (by decide) rfl ?_
  refine r_iconst (q := 25) (nI 0) dX12_readMap_24 rfl (by decide) ?_
  refine r_istore_n (q := 26) (L' := [some (zr 12 0), some (zi (nI (mkB (tB im)))), some (zi (-1 : Int32)), some (zi (nI 0))]) dX12_readMap_25 rfl rfl (by decide) rfl ?_
  have hkd := (isNmb_t.mp hnm).1
  have hwv := hr.1.2.2.1 (by omega)
  have hv48 := (t3 hkd).1
  refine lp_mfind (tg := mkB (tB im)) hA3 hbW hs hwW hv48 hwv ?_ AW 0 (by omega)
  have efa : fa nmW (hdT ts).2.2 AW = nI a := by unfold fa; rw [hfa]
  rw [efa]
  refine r_iload_n (q := 59) dX12_readMap_58 rfl rfl rfl ?_
  refine r_if_ltN (q := 62) (t := 71) (by omega) dX12_readMap_59 (by decide) rfl ?_
  refine r_iload_n (q := 63) dX12_readMap_62 rfl rfl rfl ?_
  refine r_iload_n (q := 64) dX12_readMap_63 rfl rfl rfl ?_
  refine r_ishr (q := 65) dX12_readMap_64 rfl ?_
  refine r_iconst (q := 66) (nI 1) dX12_readMap_65 rfl (by decide) ?_
  refine r_iand (q := 67) dX12_readMap_66 rfl ?_
  refine r_topi (y := nI 0) ((mkB_bit (by omega)).trans (by unfold tB; rw [hia]; rfl)) ?_
  refine r_iconst (q := 68) (nI 1) dX12_readMap_67 rfl (by decide) ?_
  refine r_icmp_neN (q := 71) (t := 77) (by omega) (by omega) dX12_readMap_68 (by decide) rfl (fun h68 => ?_) (fun h68 => absurd h68 (by omega))
  refine r_iload_n (q := 78) dX12_readMap_77 rfl rfl rfl ?_
  refine r_iconst (q := 79) (nI 1) dX12_readMap_78 rfl (by decide) ?_
  refine r_iload_n (q := 80) dX12_readMap_79 rfl rfl rfl ?_
  refine r_ishl (q := 81) dX12_readMap_80 rfl ?_
  refine r_ior (q := 82) dX12_readMap_81 rfl ?_
  refine r_topi (y := nI (mkB (fun b => b == a || tB im b))) (mkB_up (by omega)) ?_
  refine r_istore_n (q := 83) (L' := [some (zr 12 0), some (zi (nI (mkB (fun b => b == a || tB im b)))), some (zi (nI a)), some (zi (nI AW))]) dX12_readMap_82 rfl rfl (by decide) rfl ?_
  refine r_aload_n (q := 84) dX12_readMap_83 rfl rfl rfl ?_
  refine r_callV (Mc := mX12_next) (q := 87) (As := []) (st := []) ck12 dX12_readMap_84 rfl rfl mkX12_next wt1573 wt1575 wp70 rfl (Nat.le_of_ble_eq_true rfl) (Nat.le_of_ble_eq_true rfl) (by decide) (by decide) (by decide) (Or.inl rfl) (hs.e (by decide)) (ok_nextR hs hbl hlim hr) (fun r84 S84 hp84 => ?_)
  obtain ⟨rfl, w84, x84⟩ := hp84
  have hs1 := hs.fr w84
  show Ok _ _ _ [] _ _
  refine r_aload_n (q := 88) dX12_readMap_87 rfl rfl rfl ?_
  refine r_bipush (q := 90) (nI 61) dX12_readMap_88 rfl (by decide) ?_
  refine r_callV (Mc := mX12_sign) (q := 93) (As := [zi (nI 61)]) (st := []) ck12 dX12_readMap_90 rfl rfl mkX12_sign wt1633 wt1635 wp81 rfl (Nat.le_of_ble_eq_true rfl) (Nat.le_of_ble_eq_true rfl) (by decide) (by decide) (by decide) (Or.inl rfl) (hs1.e (by decide)) (ok_sign_y hs1 hbl hlim x84 hk.adv (by omega) (by omega) h61) (fun r90 S90 hp90 => ?_)
  obtain ⟨rfl, w90, x90⟩ := hp90
  have hs2 := hs1.fr w90
  have hK2 := (hwK.fr w84 (fun _ => ⟨rfl, rfl, rfl, rfl⟩)).fr w90 (fun _ => ⟨rfl, rfl, rfl, rfl⟩)
  have he2 : gI S90 1306 0 (4 + a) = nI (eW a) := ((w90.1 _ _ _ rfl).trans (w84.1 _ _ _ rfl)).trans (hwW.2 a haA).1
  have hp2 : gI S90 1322 0 (1173 * 1) = nI P := ((w90.1 _ _ _ rfl).trans (w84.1 _ _ _ rfl)).trans hp0
  have l1 := adv_len ts
  have l2 := adv_len (adv ts)
  show Ok _ _ _ [zi (nI 1)] _ _
  refine r_if_neN (q := 96) (t := 98) (by omega) dX12_readMap_93 (by decide) rfl (fun h93 => ?_) (fun h93 => absurd h93 (by omega))
  refine r_aload_n (q := 99) dX12_readMap_98 rfl rfl rfl ?_
  refine r_iconst (q := 100) (nI 0) dX12_readMap_99 rfl (by decide) ?_
  refine r_aload_n (q := 101) dX12_readMap_100 rfl rfl rfl ?_
  refine r_getr (q := 104) (some (1306, 0)) ck12 dX12_readMap_101 rfl (k := 6) (by decide) wt1284 rfl (hs2.e (by decide)) (hs2.r (by decide) (by decide)) ?_
  refine r_iconst (q := 105) (nI 4) dX12_readMap_104 rfl (by decide) ?_
  refine r_iload_n (q := 106) dX12_readMap_105 rfl rfl rfl ?_
  refine r_iaddN (q := 107) dX12_readMap_106 rfl ?_
  refine r_ialdN (q := 108) 3775 (by decide) rfl dX12_readMap_107 rfl (hs2.e (by decide)) (hs2.n rfl (by decide)) (by omega) (by decide) ?_
  refine r_topi (y := nI (eW a)) he2 ?_
  refine r_callV (Mc := mX12_readSum) (q := 111) (As := [zi (nI 0), zi (nI (eW a))]) (st := []) ck12 dX12_readMap_108 rfl rfl mkX12_readSum wt1617 wt1619 wp77 rfl (Nat.le_of_ble_eq_true rfl) (Nat.le_of_ble_eq_true rfl) (by decide) (by decide) (by decide) (Or.inl rfl) (hs2.e (by decide)) (ok_X12_readSum (q := 1) (nf := 3) (by omega) (by omega) hEK hbK hbl hlim hP2 hP hs2 hK2 hp2 x90 hk.adv.adv hlk.ad.ad (by omega) (wn0 := eW a) (ls := 1) (il := 0) (by omega) (Or.inr ⟨rfl, rfl⟩)) (fun r108 S108 hp108 => ?_)
  rw [q2] at hp108
  obtain ⟨rfl, f108, g13, x108, s1, s2⟩ := hp108
  have hs3 := hs2.fr f108
  obtain ⟨k1, k2, k3, k4, k5, k6⟩ := sumQ_use7 hEK (show 0 < P by omega) (show 2 ≤ eW a by omega) hk.adv.adv hlk.ad.ad q2
  show Ok _ _ _ [zi (nI 1)] _ _
  refine r_if_eqN (q := 114) (t := 123) (by omega) dX12_readMap_111 (by decide) rfl (fun h111 => absurd h111 (by omega)) (fun h111 => ?_)
  refine r_aload_n (q := 115) dX12_readMap_114 rfl rfl rfl ?_
  refine r_bipush (q := 117) (nI 59) dX12_readMap_115 rfl (by decide) ?_
  refine r_callV (Mc := mX12_sign) (q := 120) (As := [zi (nI 59)]) (st := []) ck12 dX12_readMap_117 rfl rfl mkX12_sign wt1633 wt1635 wp81 rfl (Nat.le_of_ble_eq_true rfl) (Nat.le_of_ble_eq_true rfl) (by decide) (by decide) (by decide) (Or.inl rfl) (hs3.e (by decide)) (ok_sign_y hs3 hbl hlim x108 k1 (by omega) (by omega) h59) (fun r117 S117 hp117 => ?_)
  obtain ⟨rfl, w117, x117⟩ := hp117
  have hs4 := hs3.fr w117
  have h47 : gI S117 12 0 47 = nI (cl (adds P 1 [] acc)).length := (w117.1 _ _ _ rfl).trans s2.1
  have hcl : (cl (adds P 1 [] acc)).length ≤ 64 := by
      have w1 : (cl (adds P 1 [] acc)).length ≤ (adds P 1 [] acc).length := List.length_filter_le _ _
      have w2 := len_addsL (P := P) (b := 1) acc []
      rw [List.length_nil] at w2
      omega
  show Ok _ _ _ [zi (nI 1)] _ _
  refine r_if_neN (q := 123) (t := 125) (by omega) dX12_readMap_120 (by decide) rfl (fun h120 => ?_) (fun h120 => absurd h120 (by omega))
  refine r_aload_n (q := 126) dX12_readMap_125 rfl rfl rfl ?_
  refine r_getr (q := 129) (some (1372, 0)) ck12 dX12_readMap_126 rfl (k := 72) (by decide) wt1350 rfl (hs4.e (by decide)) (hs4.r (by decide) (by decide)) ?_
  refine r_iload_n (q := 130) dX12_readMap_129 rfl rfl rfl ?_
  refine r_aload_n (q := 131) dX12_readMap_130 rfl rfl rfl ?_
  refine r_geti (q := 134) ck12 dX12_readMap_131 rfl (k := 47) (by decide) wt1325 (Or.inl rfl) (hs4.e (by decide)) ?_
  refine r_topi (y := nI ((cl (adds P 1 [] acc)).length)) h47 ?_
  refine r_iastN (q := 135) 3 (by decide) rfl dX12_readMap_134 rfl (hs4.e (by decide)) (hs4.n rfl (by decide)) (by omega) (by decide) ?_
  refine r_iconst (q := 136) (nI 0) dX12_readMap_135 rfl (by decide) ?_
  refine r_istore_n (q := 137) (L' := [some (zr 12 0), some (zi (nI (mkB (fun b => b == a || tB im b)))), some (zi (nI a)), some (zi (nI 0))]) dX12_readMap_136 rfl rfl (by decide) rfl ?_
  have hsz : Sd (sI S117 1372 0 a (nI ((cl (adds P 1 [] acc)).length))) := hs4
  refine lp_mr137 (tg := mkB (fun b => b == a || tB im b)) (a := a) (n := (cl (adds P 1 [] acc)).length) (by omega) hcl (cl (adds P 1 [] acc)).length 0 (sI S117 1372 0 a (nI ((cl (adds P 1 [] acc)).length))) (by omega) hsz (by rw [gI_sI, if_neg (by omega)]; exact h47) (fun S2 f e1 e2 => ?_)
  have g0 : Fr tMr S117 (sI S117 1372 0 a (nI ((cl (adds P 1 [] acc)).length))) := Fr.rf.i rfl
  have g1 : Fr tMr S117 S2 := g0.tr (f.mono (fun a b k z => by simp at z; simp [tMr, z]))
  refine r_goto (q := 2) dX12_readMap_185 (by decide) ?_
  have gA : Fr tMr S S2 := (((w84.mono tMr_x).tr (w90.mono tMr_x)).tr (f108.mono tMr_s)).tr ((w117.mono tMr_x).tr g1)
  have hX : IMR S2 (upI im a (cl (adds P 1 [] acc))) := fun b c hb hc => by
    have hx : ∀ j, gI S2 1372 0 j = if j = a then nI (cl (adds P 1 [] acc)).length else gI S 1372 0 j := fun j => by
      rw [f.1 1372 0 j rfl, gI_sI]
      by_cases e : j = a
      · rw [if_pos ⟨rfl, rfl, e⟩, if_pos e]
      · rw [if_neg (fun z => e z.2.2), if_neg e, w117.1 _ _ _ rfl, f108.1 _ _ _ rfl, w90.1 _ _ _ rfl, w84.1 _ _ _ rfl]
    unfold upI at hc
    by_cases e : b = a
    · rw [if_pos e] at hc
      cases hc
      subst e
      refine ⟨(hx _).trans (if_pos rfl), fun k hk => ?_⟩
      have y := e1 k (by omega) hk
      have z := s2.2 k hk
      exact ⟨by rw [y.1, gI_sI, if_neg (by omega), w117.1 _ _ _ rfl]; exact z.1, by rw [y.2, gI_sI, if_neg (by omega), w117.1 _ _ _ rfl]; exact z.2⟩
    · rw [if_neg e] at hc
      have h := hI b c hb hc
      have h57 := (hm b c hc).2.2
      refine ⟨((hx _).trans (if_neg e)).trans h.1, fun k hk => ?_⟩
      have y := e2 (64 * b + k) (by omega)
      exact ⟨by rw [y.1, gI_sI, if_neg (by omega), w117.1 _ _ _ rfl, f108.1 _ _ _ rfl, w90.1 _ _ _ rfl, w84.1 _ _ _ rfl]; exact (h.2 k hk).1, by rw [y.2, gI_sI, if_neg (by omega), w117.1 _ _ _ rfl, f108.1 _ _ _ rfl, w90.1 _ _ _ rfl, w84.1 _ _ _ rfl]; exact (h.2 k hk).2⟩
  have e13 : gI S2 12 0 13 = gI S 12 0 13 := by rw [f.1 12 0 13 rfl, gI_sI, if_neg (by omega), w117.1 _ _ _ rfl, g13, w90.1 _ _ _ rfl, w84.1 _ _ _ rfl]
  have hR2 : Rr S2 bs lim (adv ts') := x117.cong (fun k => by rw [f.1 1301 0 k rfl, gI_sI, if_neg (by omega)]) (fun k _ => by rw [f.1 12 0 k rfl, gI_sI, if_neg (by omega)]) (by rw [f.2.1 12 0 15 rfl]; rfl)
  rw [show (mkB (fun b => b == a || tB im b)) = mkB (tB (upI im a (cl (adds P 1 [] acc)))) by rw [tB_up]]
  refine r_mask [true, true, false, false] rfl ?_
  exact K S2 gA e13 hR2 hX

set_option maxRecDepth 100000 in
theorem lp_mr2 {bs : List Nat} {lim : Nat} (hbl : bs.length ≤ 940) (hlim : lim ≤ 940) {AW AK P : Nat} {nmW eW nmK eK : Nat → Nat} (hEW : Eok AW eW) (hEK : Eok AK eK) (hbW : ∀ a, a < AW → nmW a < 2 ^ 48) (hbK : ∀ a, a < AK → nmK a < 2 ^ 48) (hP2 : 2 ≤ P) (hP : P ≤ 97) : ∀ (f : Nat) (S : zS) (im : zIm) (ts : List zTk), ts.length ≤ f → ts.length ≤ 401 → Sd S → Rr S bs lim ts → Tks ts → Lk ts → Wow S AW nmW eW → Wm S 1 3 AK nmK eK → gI S 1322 0 1173 = nI P → IMR S im → ImS AW eW AK eK P im → Ok mX12_readMap 2 [some (zr 12 0), some (zi (nI (mkB (tB im)))), none, none] [] S (fun r S1 => RmQ S S1 r (mapP nmW eW AW nmK eK AK P f im ts)) := by
  intro f
  induction f with
  | zero =>
    intro S im ts hf h4 hs hr hkt
    exact absurd (List.length_eq_zero_iff.mp (by omega)) hkt.1
  | succ f ih =>
    intro S im ts hf h4 hs hr hkt hlk hwW hwK hp0 hI hm
    have hrk := rkt_le (k := (hdT ts).1)
    have hA3 := hEW.1
    have htg := mkB_lt (g := tB im)
    have hpw : 2 ^ AW - 1 < 8 := by
      have : 2 ^ AW ≤ 2 ^ 3 := Nat.pow_le_pow_right (by omega) hA3
      omega
    have hall := mkB_all (g := tB im) hA3 (fun a _ h => by
      unfold tB at h
      cases q : im a with
      | none => rw [q] at h; cases h
      | some c => exact (hm a c q).1)
    rw [mapP]
    by_cases h0 : (hdT ts).1 = 0
    · rw [if_pos h0]
      have h00 := rkt_0.mpr h0
      by_cases ha : allI AW im = true
      · rw [if_pos ha]
        have e1 := hall.mpr (allI_t.mp ha)
        refine r_aload_n (q := 3) dX12_readMap_2 rfl rfl rfl ?_
        refine r_geti (q := 6) ck12 dX12_readMap_3 rfl (k := 9) (by decide) wt1287 (Or.inl rfl) (hs.e (by decide)) ?_
        refine r_topi (y := nI (rkt (hdT ts).1)) hr.1.1 ?_
        refine r_if_eqN (q := 9) (t := 188) (by omega) dX12_readMap_6 (by decide) rfl (fun h6 => ?_) (fun h6 => absurd h6 (by omega))
        refine r_iload_n (q := 189) dX12_readMap_188 rfl rfl rfl ?_
        refine r_iconst (q := 190) (nI 1) dX12_readMap_189 rfl (by decide) ?_
        refine r_aload_n (q := 191) dX12_readMap_190 rfl rfl rfl ?_
        refine r_getr (q := 194) (some (1306, 0)) ck12 dX12_readMap_191 rfl (k := 6) (by decide) wt1284 rfl (hs.e (by decide)) (hs.r (by decide) (by decide)) ?_
        refine r_iconst (q := 195) (nI 1) dX12_readMap_194 rfl (by decide) ?_
        refine r_ialdN (q := 196) 3775 (by decide) rfl dX12_readMap_195 rfl (hs.e (by decide)) (hs.n rfl (by decide)) (by omega) (by decide) ?_
        refine r_topi (y := nI AW) hwW.1 ?_
        refine r_ishl (q := 197) dX12_readMap_196 rfl ?_
        refine r_iconst (q := 198) (nI 1) dX12_readMap_197 rfl (by decide) ?_
        refine r_isub (q := 199) dX12_readMap_198 rfl ?_
        refine r_topi (y := nI (2 ^ AW - 1)) (mkB_top hA3) ?_
        refine r_icmp_eqN (q := 202) (t := 210) (by omega) (by omega) dX12_readMap_199 (by decide) rfl (fun h199 => ?_) (fun h199 => absurd h199 (by omega))
        refine r_iconst (q := 211) (nI 1) dX12_readMap_210 rfl (by decide) ?_
        refine r_goto (q := 215) dX12_readMap_211 (by decide) ?_
        refine r_zreturn (by decide) dX12_readMap_215 rfl ?_
        exact ⟨rfl, Fr.rf, rfl, hI⟩
      · rw [if_neg ha]
        have e1 : ¬ mkB (tB im) = 2 ^ AW - 1 := fun z => ha (allI_t.mpr (hall.mp z))
        refine r_aload_n (q := 3) dX12_readMap_2 rfl rfl rfl ?_
        refine r_geti (q := 6) ck12 dX12_readMap_3 rfl (k := 9) (by decide) wt1287 (Or.inl rfl) (hs.e (by decide)) ?_
        refine r_topi (y := nI (rkt (hdT ts).1)) hr.1.1 ?_
        refine r_if_eqN (q := 9) (t := 188) (by omega) dX12_readMap_6 (by decide) rfl (fun h6 => ?_) (fun h6 => absurd h6 (by omega))
        refine r_iload_n (q := 189) dX12_readMap_188 rfl rfl rfl ?_
        refine r_iconst (q := 190) (nI 1) dX12_readMap_189 rfl (by decide) ?_
        refine r_aload_n (q := 191) dX12_readMap_190 rfl rfl rfl ?_
        refine r_getr (q := 194) (some (1306, 0)) ck12 dX12_readMap_191 rfl (k := 6) (by decide) wt1284 rfl (hs.e (by decide)) (hs.r (by decide) (by decide)) ?_
        refine r_iconst (q := 195) (nI 1) dX12_readMap_194 rfl (by decide) ?_
        refine r_ialdN (q := 196) 3775 (by decide) rfl dX12_readMap_195 rfl (hs.e (by decide)) (hs.n rfl (by decide)) (by omega) (by decide) ?_
        refine r_topi (y := nI AW) hwW.1 ?_
        refine r_ishl (q := 197) dX12_readMap_196 rfl ?_
        refine r_iconst (q := 198) (nI 1) dX12_readMap_197 rfl (by decide) ?_
        refine r_isub (q := 199) dX12_readMap_198 rfl ?_
        refine r_topi (y := nI (2 ^ AW - 1)) (mkB_top hA3) ?_
        refine r_icmp_eqN (q := 202) (t := 210) (by omega) (by omega) dX12_readMap_199 (by decide) rfl (fun h199 => absurd h199 (by omega)) (fun h199 => ?_)
        refine r_aload_n (q := 203) dX12_readMap_202 rfl rfl rfl ?_
        refine r_iconst (q := 204) (nI 3) dX12_readMap_203 rfl (by decide) ?_
        refine r_callV (Mc := mX12_bad) (q := 207) (As := [zi (nI 3)]) (st := []) ck12 dX12_readMap_204 rfl rfl mkX12_bad wt1596 wt1598 wp74 rfl (Nat.le_of_ble_eq_true rfl) (Nat.le_of_ble_eq_true rfl) (by decide) (by decide) (by decide) (Or.inl rfl) (hs.e (by decide)) (ok_bad hs hbl hlim hr hkt 3) (fun r204 S204 hp204 => ?_)
        obtain ⟨rfl, w204, x204⟩ := hp204
        show Ok _ _ _ [zi (nI 0)] _ _
        refine r_if_eqN (q := 210) (t := 214) (by omega) dX12_readMap_207 (by decide) rfl (fun h207 => ?_) (fun h207 => absurd h207 (by omega))
        refine r_iconst (q := 215) (nI 0) dX12_readMap_214 rfl (by decide) ?_
        refine r_zreturn (by decide) dX12_readMap_215 rfl ?_
        exact ⟨rfl, w204.mono tMr_d, x204⟩
    · rw [if_neg h0]
      have h00 : ¬ rkt (hdT ts).1 = 0 := fun z => h0 (rkt_0.mp z)
      refine r_aload_n (q := 3) dX12_readMap_2 rfl rfl rfl ?_
      refine r_geti (q := 6) ck12 dX12_readMap_3 rfl (k := 9) (by decide) wt1287 (Or.inl rfl) (hs.e (by decide)) ?_
      refine r_topi (y := nI (rkt (hdT ts).1)) hr.1.1 ?_
      refine r_if_eqN (q := 9) (t := 188) (by omega) dX12_readMap_6 (by decide) rfl (fun h6 => absurd h6 (by omega)) (fun h6 => ?_)
      unfold lineM
      by_cases hnm : isNmb ts = true
      · rw [if_neg (by rw [hnm]; simp)]
        cases hfa : fAct nmW (hdT ts).2.2 AW with
        | none => exact lp_mr_2 hs hbl hlim hr hkt hlk h4 hEW hEK hbW hbK hwW hwK hP2 hP hp0 hI hm hnm hfa
        | some a =>
          show Ok _ _ _ _ _ (fun r S1 => RmQ S S1 r (match (if (im a).isSome = true then Sum.inl (3, (hdT ts).2.1) else if (hdT (adv ts)).1 ≠ 61 then Sum.inl (1, (hdT (adv ts)).2.1) else match sumQ nmK eK AK P (eW a) 1 (adv (adv ts)) with | Sum.inl x => Sum.inl x | Sum.inr ((_, acc), ts') => if (hdT ts').1 ≠ 59 then Sum.inl (1, (hdT ts').2.1) else Sum.inr (upI im a (cl (adds P 1 [] acc)), adv ts') : zEr ⊕ (zIm × List zTk)) with | Sum.inl x => Sum.inl x | Sum.inr (im', ts') => mapP nmW eW AW nmK eK AK P f im' ts'))
          cases hia : im a with
          | some c => exact lp_mr_3 hs hbl hlim hr hkt hlk h4 hEW hEK hbW hbK hwW hwK hP2 hP hp0 hI hm hnm hfa hia
          | none =>
            rw [if_neg (by simp)]
            by_cases h61 : (hdT (adv ts)).1 = 61
            · rw [if_neg (fun z => z h61)]
              cases q2 : sumQ nmK eK AK P (eW a) 1 (adv (adv ts)) with
              | inl x => exact lp_mr_5 hs hbl hlim hr hkt hlk h4 hEW hEK hbW hbK hwW hwK hP2 hP hp0 hI hm hnm hfa hia h61 q2
              | inr x =>
                obtain ⟨⟨n, acc⟩, ts'⟩ := x
                by_cases h59 : (hdT ts').1 = 59
                · have hq : lineM nmW eW AW nmK eK AK P im ts = Sum.inr (upI im a (cl (adds P 1 [] acc)), adv ts') := by
                    unfold lineM
                    rw [if_neg (by rw [hnm]; simp), hfa]
                    show (if (im a).isSome = true then _ else _) = _
                    rw [hia, if_neg (by simp), if_neg (fun z => z h61), q2]
                    show (if (hdT ts').1 ≠ 59 then _ else _) = _
                    rw [if_neg (fun z => z h59)]
                  obtain ⟨m1, m2, m3, m4⟩ := lineM_ok hEW hEK (show 0 < P by omega) hkt hlk h4 hm hq
                  show Ok _ _ _ _ _ (fun r S1 => RmQ S S1 r (match (if (hdT ts').1 ≠ 59 then Sum.inl (1, (hdT ts').2.1) else Sum.inr (upI im a (cl (adds P 1 [] acc)), adv ts') : zEr ⊕ (zIm × List zTk)) with | Sum.inl x => Sum.inl x | Sum.inr (im', ts') => mapP nmW eW AW nmK eK AK P f im' ts'))
                  rw [if_neg (fun z => z h59)]
                  refine lp_mr_7 hs hbl hlim hr hkt hlk h4 hEW hEK hbW hbK hwW hwK hP2 hP hp0 hI hm hnm hfa hia h61 q2 h59 (fun S1 g1 e1 r1 i1 => ?_)
                  exact Ok.mono (ih S1 _ (adv ts') (by omega) (by omega) (hs.fr g1) r1 m1 m2 (hwW.fr g1 (fun _ => ⟨rfl, rfl⟩)) (hwK.fr g1 (fun _ => ⟨rfl, rfl, rfl, rfl⟩)) ((g1.1 _ _ _ rfl).trans hp0) i1 m4) fun r S2 y => RmQ.pre g1 e1 y
                · show Ok _ _ _ _ _ (fun r S1 => RmQ S S1 r (match (if (hdT ts').1 ≠ 59 then Sum.inl (1, (hdT ts').2.1) else Sum.inr (upI im a (cl (adds P 1 [] acc)), adv ts') : zEr ⊕ (zIm × List zTk)) with | Sum.inl x => Sum.inl x | Sum.inr (im', ts') => mapP nmW eW AW nmK eK AK P f im' ts'))
                  rw [if_pos h59]
                  exact lp_mr_6 hs hbl hlim hr hkt hlk h4 hEW hEK hbW hbK hwW hwK hP2 hP hp0 hI hm hnm hfa hia h61 q2 h59
            · rw [if_pos h61]
              exact lp_mr_4 hs hbl hlim hr hkt hlk h4 hEW hEK hbW hbK hwW hwK hP2 hP hp0 hI hm hnm hfa hia h61
      · rw [if_pos (by simpa using hnm)]
        exact lp_mr_1 hs hbl hlim hr hkt hlk h4 hEW hEK hbW hbK hwW hwK hP2 hP hp0 hI hm hnm

set_option maxRecDepth 100000 in
theorem ok_readMapR {S : zS} (hs : Sd S) {bs : List Nat} {lim : Nat} (hbl : bs.length ≤ 940) (hlim : lim ≤ 940) {ts : List zTk} (hr : Rr S bs lim ts) (hk : Tks ts) (hlk : Lk ts) (h4 : ts.length ≤ 401) {AW AK P : Nat} {nmW eW nmK eK : Nat → Nat} (hEW : Eok AW eW) (hEK : Eok AK eK) (hbW : ∀ a, a < AW → nmW a < 2 ^ 48) (hbK : ∀ a, a < AK → nmK a < 2 ^ 48) (hwW : Wow S AW nmW eW) (hwK : Wm S 1 3 AK nmK eK) (hP2 : 2 ≤ P) (hP : P ≤ 97) (hp0 : gI S 1322 0 1173 = nI P)  : Ok mX12_readMap 0 (ent 4 [zr 12 0]) [] S (fun r S1 => RmQ S S1 r (mapP nmW eW AW nmK eK AK P ts.length (fun _ => none) ts)) := by
  show Ok mX12_readMap 0 [some (zr 12 0), none, none, none] [] S _
  refine r_iconst (q := 1) (nI 0) dX12_readMap_0 rfl (by decide) ?_
  refine r_istore_n (q := 2) (L' := [some (zr 12 0), some (zi (nI 0)), none, none]) dX12_readMap_1 rfl rfl (by decide) rfl ?_
  have e0 : (0 : Nat) = mkB (tB (fun _ => none)) := rfl
  rw [show nI 0 = nI (mkB (tB (fun _ => none))) by rw [← e0]]
  exact lp_mr2 hbl hlim hEW hEK hbW hbK hP2 hP ts.length S (fun _ => none) ts (Nat.le_refl _) h4 hs hr hk hlk hwW hwK hp0 (fun a c _ h => by cases h) (fun a c h => by cases h)

