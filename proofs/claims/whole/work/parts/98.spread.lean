/-! a tree with its first entry that is not normal made so -/
def tfr (W : zWd) (k : Nat) : Nat := sm (tc W) k
def rfr (W : zWd) (k : Nat) : Nat := sm (fun i => tri (tc W i)) k
/-- all levels up to n, as the class holds them -/
def BS (S : zS) (b : Nat) (W : zWd) (n : Nat) (mk : Nat → Nat → Nat) (rl : Nat → Nat → Nat → Nat) : Prop := ∀ k, 1 ≤ k → k ≤ n → Lx S b k (tfr W k) (tl W k) ∧ Mx S b (tfr W k) (tl W k).length (mk k) ∧ Ux S b k (rfr W k) (tl W k).length (wP W) (mk k) (rl k)
theorem BS.fr {S S1 : zS} {b n : Nat} {W : zWd} {mk : Nat → Nat → Nat} {rl : Nat → Nat → Nat → Nat} {U : Nat → Nat → Nat → Bool} (h : BS S b W n mk rl) (f : Fr U S S1) (t : ∀ x k, 103 ≤ x → x ≤ 107 → U x b k = false) : BS S1 b W n mk rl := fun k k1 k2 => ⟨(h k k1 k2).1.fr f (fun j => ⟨t _ _ (by omega) (by omega), t _ _ (by omega) (by omega)⟩), (h k k1 k2).2.1.fr f (fun j => t _ _ (by omega) (by omega)), (h k k1 k2).2.2.fr f (fun j => ⟨t _ _ (by omega) (by omega), t _ _ (by omega) (by omega)⟩)⟩
/-- the vector has the numbers of a sum -/
def AccV (P : Nat) (T : List (List Nat)) (v : Nat → Nat) (u : zL) : Prop := ∀ j, j < T.length → (P : Int) ∣ (v j : Int) - co u (T.getD j [])
theorem acc_nil {P : Nat} {T : List (List Nat)} : AccV P T (fun _ => 0) [] := fun j _ => by rw [co_nil]; exact dvd_rf
theorem emod_dvd (a P : Int) : P ∣ a % P - a := by
  have h := Int.emod_add_mul_ediv a P
  refine ⟨-(a / P), ?_⟩
  rw [Int.mul_neg]; omega
theorem acc_add {P : Nat} (hP0 : 2 ≤ P) (hP : P ≤ 97) {T : List (List Nat)} (hT : T.Nodup) {v : Nat → Nat} {u : zL} (h : AccV P T v u) {i : Nat} (hi : i < T.length) (hv : v i < P) {x : Int32} (hx : -1000 < x.toInt ∧ x.toInt < 1000) : AccV P T (fun j => if j = i then rsN (nI (v i) + x) P else v j) (u ++ [(T.getD i [], x.toInt)]) := fun j hj => by
  show (P : Int) ∣ ((if j = i then rsN (nI (v i) + x) P else v j : Nat) : Int) - _
  rw [co_app, co_cons, co_nil, Int.add_zero]
  by_cases e : j = i
  · subst e
    rw [if_pos rfl, if_pos rfl, Int.mul_one, rsN_int (by omega)]
    have e1 : (nI (v j) + x).toInt = (v j : Int) + x.toInt := by
      rw [Int32.toInt_add, nI_toInt (by omega)]
      exact Int.bmod_eq_of_le (by omega) (by omega)
    rw [e1]
    refine dvd_tr (emod_dvd _ _) ?_
    rw [show (v j : Int) + x.toInt - (co u (T.getD j []) + x.toInt) = (v j : Int) - co u (T.getD j []) by omega]
    exact h j hj
  · rw [if_neg e, if_neg (fun z => e (getD_inj hT hi hj z).symm), Int.mul_zero, Int.add_zero]
    exact h j hj
theorem acc_zero {P : Nat} {T : List (List Nat)} {v : Nat → Nat} {u : zL} (h : AccV P T v u) (t : List Nat) : AccV P T v (u ++ [(t, 0)]) := fun j hj => by
  rw [co_app, co_cons, co_nil, Int.zero_mul, Int.add_zero, Int.add_zero]; exact h j hj
theorem acc_li {P : Nat} {T : List (List Nat)} (hT : T.Nodup) {v : Nat → Nat} {u : zL} (h : AccV P T v u) (hu : ∀ p, p ∈ u → p.1 ∈ T) : Li P u (Vn T v) := li_V hT hu fun k hk => dvd_sy (h k hk)
/-- a rule as a sum -/
def lowS (T : List (List Nat)) (r : Nat → Nat) (c : Nat) : zL := (List.range c).map (fun j => (T.getD j [], (r j : Int)))
theorem lowS_s {T : List (List Nat)} {r : Nat → Nat} {c : Nat} : lowS T r (c + 1) = lowS T r c ++ [(T.getD c [], (r c : Int))] := by unfold lowS; rw [List.range_succ, List.map_append]; rfl
theorem mp_lowS {T : List (List Nat)} {r : Nat → Nat} {c : Nat} {F : List Nat → List Nat} : mp F (lowS T r (c + 1)) = mp F (lowS T r c) ++ [(F (T.getD c []), (r c : Int))] := by rw [lowS_s, mp_app]; rfl
theorem lowS_mem {T : List (List Nat)} {r : Nat → Nat} {c : Nat} (hc : c ≤ T.length) {p : List Nat × Int} (h : p ∈ lowS T r c) : ∃ j, j < c ∧ p.1 = T.getD j [] := by
  obtain ⟨j, hj, rfl⟩ := List.mem_map.mp h
  exact ⟨j, List.mem_range.mp hj, rfl⟩
/-- a row is its tree less its rule -/
theorem row_low {P : Nat} {T : List (List Nat)} (hT : T.Nodup) {rl : Nat → Nat → Nat} {k : Nat} (hk : k < T.length) : Li P (V T (RC rl k)) ((T.getD k [], 1) :: scl (-1) (lowS T (rl k) k)) := by
  refine li_of_ev fun g => ?_
  rw [ev_cons, ev_sc, ev_V, Int.one_mul]
  have h1 : ∀ (c : Nat), c ≤ k → smz (fun j => RC rl k j * g (T.getD j [])) c = -1 * ev g (lowS T (rl k) c) := by
    intro c
    induction c with
    | zero => intro _; rfl
    | succ c ih =>
      intro hc
      rw [smz, ih (by omega), lowS_s, ev_app, ev_cons, ev_nil]
      have : RC rl k c = -(rl k c : Int) := (if_neg (by omega)).trans (if_pos (by omega))
      rw [this]
      show -1 * ev g (lowS T (rl k) c) + -(rl k c : Int) * g (T.getD c []) = -1 * (ev g (lowS T (rl k) c) + ((rl k c : Int) * g (T.getD c []) + 0))
      have e9 : -(rl k c : Int) * g (T.getD c []) = -((rl k c : Int) * g (T.getD c [])) := Int.neg_mul _ _
      rw [e9]; omega
  have h2 : ∀ (d : Nat), k + 1 + d ≤ T.length → smz (fun j => RC rl k j * g (T.getD j [])) (k + 1 + d) = g (T.getD k []) + -1 * ev g (lowS T (rl k) k) := by
    intro d
    induction d with
    | zero =>
      intro _
      rw [Nat.add_zero, smz, h1 k (Nat.le_refl _)]
      have : RC rl k k = 1 := if_pos rfl
      rw [this, Int.one_mul, Int.add_comm]
    | succ d ih =>
      intro hd
      rw [← Nat.add_assoc, smz, ih (by omega)]
      have : RC rl k (k + 1 + d) = 0 := (if_neg (by omega)).trans (if_neg (by omega))
      rw [this, Int.zero_mul, Int.add_zero]
  have := h2 (T.length - (k + 1)) (by omega)
  rw [show k + 1 + (T.length - (k + 1)) = T.length by omega] at this
  exact this
def tSp (b x y _k : Nat) : Bool := y == b && (x == 700 || x == 701 || x == 702 || x == 703)
theorem tSp_sh {b : Nat} (x y k : Nat) (h : tSh b x y k = true) : tSp b x y k = true := by
  simp [tSh] at h
  simp [tSp]
  omega
theorem tSp_ve {b : Nat} (x y k : Nat) (h : tVe b x y k = true) : tSp b x y k = true := by
  simp [tVe] at h
  simp [tSp, h.1, h.2]
def Rx (S : zS) (b : Nat) (t : List Nat) : Prop := ∀ j, j < t.length → gI S 700 b j = nI (nd (t.getD j 0))
theorem cx_eq {a : Nat} {us1 us2 : List (List Nat)} {u : List Nat} : cx a us1 us2 u = ((a + 1) :: us1.flatten) ++ u ++ us2.flatten := rfl
theorem cx_tr {A : Nat} {e : Nat → Nat} {a m n : Nat} {us1 us2 : List (List Nat)} (ha : a < A) (hl : us1.length + 1 + us2.length = e a) (h1 : ∀ u, u ∈ us1 → Fs A e u 1) (h2 : ∀ u, u ∈ us2 → Fs A e u 1) (hn : lvs us1.flatten + m + lvs us2.flatten = n) {u : List Nat} (hu : Tr A e m u) : Tr A e n (cx a us1 us2 u) := by
  refine ⟨Fs.put hu.1 (root_ctx ha hl h1 h2), ?_⟩
  rw [cx_eq, lvs_app, lvs_app, hu.2, lvs, if_neg (by omega), ← hn]; omega

set_option maxRecDepth 100000 in
theorem lp_spI {W : zWd} (hE : Eok (wA W) (we W)) {b n f0 : Nat} (hb4 : b < 4) (hn7 : n ≤ 7) {P : Nat} (h2 : 2 ≤ P) (hP : P ≤ 97) {x u z : List Nat} {m fm rfm k t en : Nat} (hm7 : m ≤ 7) (hxl : x.length + u.length + z.length ≤ 13) (hk : k < (tl W m).length) (htn : t < (tl W n).length) (hF : ∀ s, Tr (wA W) (we W) m s → Tr (wA W) (we W) n (x ++ s ++ z)) (hlt : ∀ c, c < k → ky (x ++ (tl W m).getD c [] ++ z) < ky ((tl W n).getD t [])) {rl : Nat → Nat} : ∀ (d c : Nat) (S : zS) (v : Nat → Nat) (w11 : Option zV), c + d = k → Sd S → Lx S b n f0 (tl W n) → Lx S b m fm (tl W m) → gI S 9 b 0 = nI P → rfm + tri k + k ≤ gN S 107 b → gN S 107 b ≤ 160000 → (∀ j, j < k → gI S 107 b (rfm + tri k + j) = nI (rl j) ∧ rl j < P) → Rx S b (x ++ u ++ z) → Vx S b (tl W n).length P v → AccV P (tl W n) v (mp (fun s => x ++ s ++ z) (lowS (tl W m) rl c)) → (∀ j, t ≤ j → j < (tl W n).length → v j = 0) → Ok mX0_spreadByEntry 133 [some (zr 0 b), some (zi (nI n)), some (zi (nI t)), some (zi (nI (x.length + u.length + z.length))), some (zi (nI x.length)), some (zi (nI en)), some (zi (nI (x.length + u.length))), some (zi (nI m)), some (zi (nI k)), some (zi (nI (rfm + tri k))), some (zi (nI c)), w11] [] S (fun r S1 => r = some (zi (nI 1)) ∧ Fr (tSp b) S S1 ∧ ∃ v1, Vx S1 b (tl W n).length P v1 ∧ AccV P (tl W n) v1 (mp (fun s => x ++ s ++ z) (lowS (tl W m) rl k)) ∧ ∀ j, t ≤ j → j < (tl W n).length → v1 j = 0) := by
  intro d
  induction d with
  | zero =>
    intro c S v w11 hc hs hL hLm hp hl1 hl2 hr hR hV hA hz
    obtain rfl : c = k := by omega
    have hk3 := hLm.2.2.2.1
    refine r_mask [true, true, true, true, true, true, true, true, true, true, true, false] rfl ?_
    refine r_iload (q := 135) dX0_spreadByEntry_133 rfl rfl ?_
    refine r_iload (q := 137) dX0_spreadByEntry_135 rfl rfl ?_
    refine r_icmp_geN (q := 140) (t := 200) (by omega) (by omega) dX0_spreadByEntry_137 (by decide) rfl (fun h137 => ?_) (fun h137 => absurd h137 (by omega))
    refine r_iconst (q := 201) (nI 1) dX0_spreadByEntry_200 rfl (by decide) ?_
    refine r_zreturn (by decide) dX0_spreadByEntry_201 rfl ?_
    exact ⟨rfl, Fr.rf, v, hV, hA, hz⟩
  | succ d ih =>
    intro c S v w11 hc hs hL hLm hp hl1 hl2 hr hR hV hA hz
    obtain ⟨r1, r2⟩ := hr c (by omega)
    have hk3 := hLm.2.2.2.1
    have hct := tl_tr hE (show c < (tl W m).length by omega)
    have hg := hF _ hct
    obtain ⟨i, hi, ei⟩ := mem_idx ((tl_mem hE).mpr hg)
    have hsn := tl_sorted hE hn7
    have hB : ∀ s, s ∈ tl W n → ky s < 2 ^ 30 := fun s z => ky_lt hE ((tl_mem hE).mp z) hn7
    have hit : i < t := by
      apply Classical.byContradiction
      intro q
      have h1 := sort_le hsn (show t ≤ i by omega) hi
      have h2 := hlt c (by omega)
      rw [ei] at h1; omega
    refine r_mask [true, true, true, true, true, true, true, true, true, true, true, false] rfl ?_
    by_cases hz0 : rl c = 0
    · skip
      refine r_iload (q := 135) dX0_spreadByEntry_133 rfl rfl ?_
      refine r_iload (q := 137) dX0_spreadByEntry_135 rfl rfl ?_
      refine r_icmp_geN (q := 140) (t := 200) (by omega) (by omega) dX0_spreadByEntry_137 (by decide) rfl (fun h137 => absurd h137 (by omega)) (fun h137 => ?_)
      refine r_aload_n (q := 141) dX0_spreadByEntry_140 rfl rfl rfl ?_
      refine r_getr (q := 144) (some (107, b)) ck0 dX0_spreadByEntry_141 rfl (k := 7) (by decide) wt384 rfl (hs.e (show b < 4 by omega)) (hs.r (show b < 4 by omega) (by decide)) ?_
      refine r_iload (q := 146) dX0_spreadByEntry_144 rfl rfl ?_
      refine r_iload (q := 148) dX0_spreadByEntry_146 rfl rfl ?_
      refine r_iaddN (q := 149) dX0_spreadByEntry_148 rfl ?_
      refine r_ialdN (q := 150) (gN S 107 b) (by decide) rfl dX0_spreadByEntry_149 rfl (hs.e (show b < 4 by omega)) rfl (by omega) (by omega) ?_
      refine r_topi (y := nI (rl c)) r1 ?_
      refine r_if_eqN (q := 153) (t := 194) (by omega) dX0_spreadByEntry_150 (by decide) rfl (fun h150 => ?_) (fun h150 => absurd h150 (by omega))
      refine r_iincN (q := 197) (L' := [some (zr 0 b), some (zi (nI n)), some (zi (nI t)), some (zi (nI (x.length + u.length + z.length))), some (zi (nI x.length)), some (zi (nI en)), some (zi (nI (x.length + u.length))), some (zi (nI m)), some (zi (nI k)), some (zi (nI (rfm + tri k))), some (zi (nI (c + 1))), none]) 1 rfl dX0_spreadByEntry_194 rfl rfl (by decide) rfl ?_
      refine r_goto (q := 133) dX0_spreadByEntry_197 (by decide) ?_
      refine ih (c + 1) S v _ (by omega) hs hL hLm hp hl1 hl2 hr hR hV ?_ hz
      rw [mp_lowS, hz0]; exact acc_zero hA _
    · skip
      refine r_iload (q := 135) dX0_spreadByEntry_133 rfl rfl ?_
      refine r_iload (q := 137) dX0_spreadByEntry_135 rfl rfl ?_
      refine r_icmp_geN (q := 140) (t := 200) (by omega) (by omega) dX0_spreadByEntry_137 (by decide) rfl (fun h137 => absurd h137 (by omega)) (fun h137 => ?_)
      refine r_aload_n (q := 141) dX0_spreadByEntry_140 rfl rfl rfl ?_
      refine r_getr (q := 144) (some (107, b)) ck0 dX0_spreadByEntry_141 rfl (k := 7) (by decide) wt384 rfl (hs.e (show b < 4 by omega)) (hs.r (show b < 4 by omega) (by decide)) ?_
      refine r_iload (q := 146) dX0_spreadByEntry_144 rfl rfl ?_
      refine r_iload (q := 148) dX0_spreadByEntry_146 rfl rfl ?_
      refine r_iaddN (q := 149) dX0_spreadByEntry_148 rfl ?_
      refine r_ialdN (q := 150) (gN S 107 b) (by decide) rfl dX0_spreadByEntry_149 rfl (hs.e (show b < 4 by omega)) rfl (by omega) (by omega) ?_
      refine r_topi (y := nI (rl c)) r1 ?_
      refine r_if_eqN (q := 153) (t := 194) (by omega) dX0_spreadByEntry_150 (by decide) rfl (fun h150 => absurd h150 (by omega)) (fun h150 => ?_)
      refine r_aload_n (q := 154) dX0_spreadByEntry_153 rfl rfl rfl ?_
      refine r_getr (q := 157) (some (6, b)) ck0 dX0_spreadByEntry_154 rfl (k := 1) (by decide) wt378 rfl (hs.e (show b < 4 by omega)) (hs.r (show b < 4 by omega) (by decide)) ?_
      refine r_iload_n (q := 158) dX0_spreadByEntry_157 rfl rfl rfl ?_
      refine r_iload (q := 160) dX0_spreadByEntry_158 rfl rfl ?_
      refine r_iload (q := 162) dX0_spreadByEntry_160 rfl rfl ?_
      refine r_aload_n (q := 163) dX0_spreadByEntry_162 rfl rfl rfl ?_
      refine r_iload (q := 165) dX0_spreadByEntry_163 rfl rfl ?_
      refine r_iload (q := 167) dX0_spreadByEntry_165 rfl rfl ?_
      refine r_callV (Mc := mX0_keyOf) (q := 170) (As := [zi (nI m), zi (nI c)]) (st := [zi (nI (x.length + u.length)), zi (nI x.length), zi (nI (x.length + u.length + z.length)), zr 6 b]) ck0 dX0_spreadByEntry_167 rfl rfl mkX0_keyOf wt792 wt793 wt794 rfl (Nat.le_of_ble_eq_true rfl) (Nat.le_of_ble_eq_true rfl) (by decide) (by decide) (by decide) (Or.inl rfl) (hs.e (show b < 4 by omega)) (ok_keyOf hs hb4 hm7 hLm (by omega)) (fun r167 S167 hp167 => ?_)
      obtain ⟨rfl, hq167⟩ := hp167
      rw [hq167]
      show Ok _ _ _ [zi (nI (ky ((tl W m).getD c []))), zi (nI (x.length + u.length)), zi (nI x.length), zi (nI (x.length + u.length + z.length)), zr 6 b] _ _
      refine r_iload (q := 172) dX0_spreadByEntry_170 rfl rfl ?_
      refine r_callV (Mc := mX6_replaced) (q := 175) (As := [zi (nI (x.length + u.length + z.length)), zi (nI x.length), zi (nI (x.length + u.length)), zi (nI (ky ((tl W m).getD c []))), zi (nI m)]) (st := []) ck6 dX0_spreadByEntry_172 rfl rfl mkX6_replaced wt856 wt857 wt858 rfl (Nat.le_of_ble_eq_true rfl) (Nat.le_of_ble_eq_true rfl) (by decide) (by decide) (by decide) (Or.inl rfl) (hs.e (show b < 5 by omega)) (ok_replaced hs (by omega) hE hct hg hm7 hn7 hxl hR) (fun r172 S172 hp172 => ?_)
      obtain ⟨rfl, f1, g1⟩ := hp172
      have f1' := f1.mono tSp_sh
      have hL1 := hL.fr f1 (fun k => ⟨rfl, rfl⟩)
      have hp1 : gI S172 9 b 0 = nI P := (f1.1 _ _ _ rfl).trans hp
      have hV1 := hV.fr f1 (fun k => rfl)
      rw [← ei]
      show Ok _ _ _ [zi (nI (ky ((tl W n).getD i [])))] _ _
      refine r_istore (q := 177) (L' := [some (zr 0 b), some (zi (nI n)), some (zi (nI t)), some (zi (nI (x.length + u.length + z.length))), some (zi (nI x.length)), some (zi (nI en)), some (zi (nI (x.length + u.length))), some (zi (nI m)), some (zi (nI k)), some (zi (nI (rfm + tri k))), some (zi (nI c)), some (zi (nI (ky ((tl W n).getD i []))))]) dX0_spreadByEntry_175 rfl (by decide) rfl ?_
      refine r_aload_n (q := 178) dX0_spreadByEntry_177 rfl rfl rfl ?_
      refine r_iload_n (q := 179) dX0_spreadByEntry_178 rfl rfl rfl ?_
      refine r_iload (q := 181) dX0_spreadByEntry_179 rfl rfl ?_
      refine r_aload_n (q := 182) dX0_spreadByEntry_181 rfl rfl rfl ?_
      refine r_getr (q := 185) (some (107, b)) ck0 dX0_spreadByEntry_182 rfl (k := 7) (by decide) wt384 rfl ((hs.fr f1).e (show b < 4 by omega)) ((hs.fr f1).r (show b < 4 by omega) (by decide)) ?_
      refine r_iload (q := 187) dX0_spreadByEntry_185 rfl rfl ?_
      refine r_iload (q := 189) dX0_spreadByEntry_187 rfl rfl ?_
      refine r_iaddN (q := 190) dX0_spreadByEntry_189 rfl ?_
      refine r_ialdN (q := 191) (gN S 107 b) (by decide) rfl dX0_spreadByEntry_190 rfl ((hs.fr f1).e (show b < 4 by omega)) (gN_22 f1.2.2) (by omega) (by omega) ?_
      refine r_topi (y := nI (rl c)) ((f1.1 _ _ _ rfl).trans r1) ?_
      refine r_callV (Mc := mX0_addToVector) (q := 194) (As := [zi (nI n), zi (nI (ky ((tl W n).getD i []))), zi (nI (rl c))]) (st := []) ck0 dX0_spreadByEntry_191 rfl rfl mkX0_addToVector wt860 wt862 wp38 rfl (Nat.le_of_ble_eq_true rfl) (Nat.le_of_ble_eq_true rfl) (by decide) (by decide) (by decide) (Or.inl rfl) ((hs.fr f1).e (show b < 4 by omega)) (ok_addToVector (hs.fr f1) hb4 hn7 hL1 hsn hB h2 hP hp1 hV1 hi (nI (rl c))) (fun r191 S191 hp191 => ?_)
      obtain ⟨rfl, hq191⟩ := hp191
      have f2 : Fr (tSp b) S S191 := by rw [hq191]; exact f1'.tr (fr_ve.mono tSp_ve)
      show Ok _ _ _ [] _ _
      refine r_iincN (q := 197) (L' := [some (zr 0 b), some (zi (nI n)), some (zi (nI t)), some (zi (nI (x.length + u.length + z.length))), some (zi (nI x.length)), some (zi (nI en)), some (zi (nI (x.length + u.length))), some (zi (nI m)), some (zi (nI k)), some (zi (nI (rfm + tri k))), some (zi (nI (c + 1))), some (zi (nI (ky ((tl W n).getD i []))))]) 1 rfl dX0_spreadByEntry_194 rfl rfl (by decide) rfl ?_
      refine r_goto (q := 133) dX0_spreadByEntry_197 (by decide) ?_
      have hx0 : (nI (rl c)).toInt = (rl c : Int) := nI_toInt (by omega)
      refine Ok.mono (ih (c + 1) S191 (fun j => if j = i then rsN (nI (v i) + nI (rl c)) P else v j) _ (by omega) (hs.fr f2) (hL.fr f2 (fun k => ⟨by simp [tSp], by simp [tSp]⟩)) (hLm.fr f2 (fun k => ⟨by simp [tSp], by simp [tSp]⟩)) ((f2.1 _ _ _ (by simp [tSp])).trans hp) (by rw [gN_22 f2.2.2]; exact hl1) (by rw [gN_22 f2.2.2]; exact hl2) (fun j hj => ⟨(f2.1 _ _ _ (by simp [tSp])).trans (hr j hj).1, (hr j hj).2⟩) (fun j hj => ?_) (by rw [hq191]; exact hV1.set (rsN_lt (by omega))) ?_ (fun j h3 h4 => ?_)) fun r S2 y => ⟨y.1, f2.tr y.2.1, y.2.2⟩
      · rw [hq191, gI_sI, if_neg (by omega), g1 j (by rw [List.length_append, List.length_append] at hj; omega)]; exact hR j hj
      · rw [mp_lowS, ← hx0, ← ei]
        exact acc_add h2 hP tl_nodup hA hi (hV i hi).2 (by rw [hx0]; omega)
      · show (if j = i then _ else v j) = 0
        rw [if_neg (by omega)]; exact hz j h3 h4

