/-! the sizes of a world, whoever found them; worlds told by their rows -/
noncomputable def szW (W : zWd) (n : Nat) : Nat := sm (fun t => if @decide (PvT W n t) (Classical.propDecidable _) = true then 0 else 1) (tl W n).length
theorem sz_C {W : zWd} (hW : Wok W) {mk : Nat → Nat → Nat} {rl : Nat → Nat → Nat → Nat} {n : Nat} (hC : LvC W mk rl n) : nz (mk n) (tl W n).length = szW W n := by
  unfold nz szW
  refine sm_cong fun t ht => ?_
  have h := pvT_C hW hC ht
  by_cases q : mk n t = 0
  · rw [if_pos q, if_neg (fun z => h.mpr (@of_decide_eq_true _ (Classical.propDecidable _) z) q)]
  · rw [if_neg q, if_pos (@decide_eq_true _ (Classical.propDecidable _) (h.mp q))]
theorem sz_le {W : zWd} {n : Nat} : szW W n ≤ (tl W n).length := by
  unfold szW
  generalize (tl W n).length = m
  induction m with
  | zero => exact Nat.le_refl _
  | succ m ih =>
    rw [sm]
    split <;> omega
theorem sz_R {W : zWd} (hW : Wok W) {pv : Nat → Nat → Bool} {bs : Nat → Nat → Nat → Nat} {n : Nat} (hC : LvR W pv bs n) : (tl W n).length - cntp (pv n) (tl W n).length = szW W n := by
  have key : ∀ k, k ≤ (tl W n).length → sm (fun t => if @decide (PvT W n t) (Classical.propDecidable _) = true then 0 else 1) k + cntp (pv n) k = k := by
    intro k
    induction k with
    | zero => intro _; rfl
    | succ k ih =>
      intro hk
      have h := pvT_R hW hC (show k < (tl W n).length by omega)
      have i := ih (by omega)
      have e2 : cntp (pv n) (k + 1) = cntp (pv n) k + (if pv n k = true then 1 else 0) := rfl
      rw [sm, e2]
      by_cases q : pv n k = true
      · rw [if_pos q, if_pos (@decide_eq_true _ (Classical.propDecidable _) (h.mp q))]; omega
      · rw [if_neg q, if_neg (fun z => q (h.mpr (@of_decide_eq_true _ (Classical.propDecidable _) z)))]; omega
  have := key _ (Nat.le_refl _)
  unfold szW
  omega
theorem CB.szs {S : zS} {b n0 n : Nat} {W : zWd} (hW : Wok W) {mk : Nat → Nat → Nat} {rl : Nat → Nat → Nat → Nat} (h : CB S b W n0 mk rl) (hn : n ≤ n0) : Szs S b (szW W) n := fun i i1 i2 => by
  obtain ⟨a, c⟩ := h.2.2.2.2.2.2.2.2.2 i i1 (by omega)
  rw [sz_C hW c] at a
  have := sz_le (W := W) (n := i)
  have := (h.2.2.2.1 i i1 (by omega)).1.2.2.2.1
  exact ⟨a, by omega⟩
theorem list_ext {α : Type} {d : α} {l r : List α} (h : l.length = r.length) (g : ∀ i, i < l.length → l.getD i d = r.getD i d) : l = r := by
  apply List.ext_getElem h
  intro i h1 h2
  have := g i h1
  rw [List.getD_eq_getElem?_getD, List.getElem?_eq_getElem h1, List.getD_eq_getElem?_getD, List.getElem?_eq_getElem h2] at this
  exact this
/-- a world is told by its rows in the class -/
theorem wqC_uniq {W W' : zWd} (hW : Wok W) (hW' : Wok W') {f : Nat → Nat → Int32} {g : Nat → Nat → Int64} (h : wqC W f g) (h' : wqC W' f g) : W = W' := by
  obtain ⟨a1, a2, a3, a4, a5, a6, a7, _⟩ := h
  obtain ⟨b1, b2, b3, b4, b5, b6, b7, _⟩ := h'
  have p1 := hW.1.2.1
  have p2 := hW'.1.2.1
  have A1 := hW.2.1.1
  have A2 := hW'.2.1.1
  have L1 := hW.2.2.2.1
  have L2 := hW'.2.2.2.1
  have eP : wP W = wP W' := (nI_eq (by omega) (by omega)).mp (a1.symm.trans b1)
  have eA : wA W = wA W' := (nI_eq (by omega) (by omega)).mp (a2.symm.trans b2)
  have eL : wL W = wL W' := (nI_eq (by omega) (by omega)).mp (a3.symm.trans b3)
  have ee : ∀ a, a < wA W → we W a = we W' a := fun a ha => by
    have x := hW.2.1.2 a ha
    have y := hW'.2.1.2 a (by omega)
    exact (nI_eq (by omega) (by omega)).mp ((a4 a ha).1.symm.trans (b4 a (by omega)).1)
  have en : ∀ a, a < wA W → wn W a = wn W' a := fun a ha => by
    have x := (hW.2.2.1.2.1 a ha).1
    have y := (hW'.2.2.1.2.1 a (by omega)).1
    have z := (a4 a ha).2.symm.trans (b4 a (by omega)).2
    exact (pk_lEQ (by omega) (by omega)).mp z
  have e1 : W.2.1 = W'.2.1 := list_ext (d := 0) eA ee
  have e2 : W.2.2.1 = W'.2.2.1 := list_ext (d := 0) (by rw [hW.2.2.1.1, hW'.2.2.1.1]; exact eA) (fun i hi => en i (by rw [← hW.2.2.1.1]; exact hi))
  have ewe : we W = we W' := funext fun a => by unfold we; rw [e1]
  have elv : ∀ L, L < wL W → (lw W L).1 = (lw W' L).1 := fun L hL => by
    have x := (hW.2.2.2.2.2 L hL).2.1
    have y := (hW'.2.2.2.2.2 L (by omega)).2.1
    exact (nI_eq (by omega) (by omega)).mp ((a5 L hL).symm.trans (b5 L (by omega)))
  have elf : ∀ L, L ≤ wL W → lf W L = lf W' L := fun L hL => by
    have x := lf_mono (W := W) hL
    have x' := hW.2.2.2.2.1
    have y := lf_mono (W := W') (show L ≤ wL W' by omega)
    have y' := hW'.2.2.2.2.1
    exact (nI_eq (by omega) (by omega)).mp ((a6 L hL).symm.trans (b6 L (by omega)))
  have e3 : W.2.2.2 = W'.2.2.2 := list_ext (d := ld) eL (fun L hL => by
    have hL' : L < wL W' := by rw [← eL]; exact hL
    have s1 := lf_succ hL
    have s2 := lf_succ hL'
    have f1 := elf L (Nat.le_of_lt hL)
    have f2 := elf (L + 1) hL
    have hlen : (lw W L).2.length = (lw W' L).2.length := by omega
    show lw W L = lw W' L
    refine Prod.ext (elv L hL) (list_ext (d := zd) hlen fun k hk => ?_)
    have c1 := a7 L k hL hk
    have c2 := b7 L k hL' (by omega)
    rw [f1] at c1
    obtain ⟨t1, n1⟩ := law_get hW hL hk
    obtain ⟨t2, n2⟩ := law_get hW' hL' (show k < (lw W' L).2.length by omega)
    have h7 := (hW.2.2.2.2.2 L hL).2.1
    rw [← ewe, ← eA, ← elv L hL] at t2
    have k1 := ky_lt hW.2.1 t1 h7
    have k2 := ky_lt hW.2.1 t2 h7
    have q1 : ky ((lw W L).2.getD k zd).1 = ky ((lw W' L).2.getD k zd).1 := (nI_eq (by omega) (by omega)).mp (c1.1.symm.trans c2.1)
    exact Prod.ext (ky_inj hW.2.1 t1 t2 h7 q1) ((nI_eq (by omega) (by omega)).mp (c1.2.symm.trans c2.2)))
  exact Prod.ext eP (Prod.ext e1 (Prod.ext e2 e3))
def tSr0 (x y k : Nat) : Bool := tBy x y k || x == 1367 && y == 0
def tSr1 (x y k : Nat) : Bool := tSe 1 x y k || x == 1367 && y == 0

set_option maxRecDepth 100000 in
theorem lp_sr0y {W : zWd} (hW : Wok W) {n : Nat} (hn7 : n ≤ 7) (h3n : tc W n ≤ 300) {n9 : Nat → Int64} : ∀ (d k : Nat) (S : zS), k + d = n + 1 → 1 ≤ k → Sd S → Fst S (szW W) (k - 1) → (∀ i, 1 ≤ i → i < k → tc W i ≤ 300) → wqR W (fun k => gI S 1306 0 k) n9 → Cw S → CR S W → IvI S → Ok mX12_series 2 [some (zr 12 0), some (zi (nI 0)), some (zi (nI n)), some (zi (nI k))] [] S (fun r S1 => r = some (zi (nI 1)) ∧ Fst S1 (szW W) n ∧ Fr tSr0 S S1 ∧ Cw S1 ∧ CR S1 W ∧ IvI S1) := by
  intro d
  induction d with
  | zero =>
    intro k S hk h1 hs hf hlow hR hO hcr hI
    obtain rfl : k = n + 1 := by omega
    refine r_iload_n (q := 3) dX12_series_2 rfl rfl rfl ?_
    refine r_iload_n (q := 4) dX12_series_3 rfl rfl rfl ?_
    refine r_icmp_gtN (q := 7) (t := 37) (by omega) (by omega) dX12_series_4 (by decide) rfl (fun h4 => ?_) (fun h4 => absurd h4 (by omega))
    refine r_iconst (q := 38) (nI 1) dX12_series_37 rfl (by decide) ?_
    refine r_zreturn (by decide) dX12_series_38 rfl ?_
    exact ⟨rfl, hf, Fr.rf, hO, hcr, hI⟩
  | succ d ih =>
    intro k S hk h1 hs hf hlow hR hO hcr hI
    have hk7 : k ≤ 7 := by omega
    have h3 : tc W k ≤ 300 := tc_down hW.2.1 hn7 h3n (by omega)
    refine r_iload_n (q := 3) dX12_series_2 rfl rfl rfl ?_
    refine r_iload_n (q := 4) dX12_series_3 rfl rfl rfl ?_
    refine r_icmp_gtN (q := 7) (t := 37) (by omega) (by omega) dX12_series_4 (by decide) rfl (fun h4 => absurd h4 (by omega)) (fun h4 => ?_)
    refine r_aload_n (q := 8) dX12_series_7 rfl rfl rfl ?_
    refine r_iload_n (q := 9) dX12_series_8 rfl rfl rfl ?_
    refine r_iload_n (q := 10) dX12_series_9 rfl rfl rfl ?_
    refine r_callV (Mc := mX12_isBeyond) (q := 13) (As := [zi (nI 0), zi (nI k)]) (st := []) ck12 dX12_series_10 rfl rfl mkX12_isBeyond wt1751 wt1753 wp99 rfl (Nat.le_of_ble_eq_true rfl) (Nat.le_of_ble_eq_true rfl) (by decide) (by decide) (by decide) (Or.inl rfl) (hs.e (by decide)) (ok_beyond0_n hs hW h1 hk7 hR hO hcr hI h3) (fun r10 S10 hp10 => ?_)
    obtain ⟨f1, hon, hcw, hiv, hws, L', pvs, bss, hB, hz⟩ := hp10
    have hs1 : Sd S10 := hs.fr f1
    have g1 : Fr tSr0 S S10 := f1.mono (fun x y k h => by simp [tSr0, h])
    have hR1 : wqR W (fun k => gI S10 1306 0 k) n9 := wqR.cong hW (fun k _ _ => (f1.1 1306 0 k rfl).symm) (fun _ _ => rfl) hR
    obtain ⟨rfl, _, hnL⟩ := hz.resolve_left (fun z => absurd z.2 (by omega))
    obtain ⟨hLr, hAc, hLv⟩ := hB.2.2.2.2 k h1 (by omega)
    have hcl := cntp_le (pv := pvs k) (tl W k).length
    have hb300 := hAc.1.2.2.2.2.1
    have hszr := sz_R hW hLv
    have hszl := sz_le (W := W) (n := k)
    show Ok _ _ _ [zi (nI 0)] _ _
    refine r_if_eqN (q := 16) (t := 18) (by omega) dX12_series_13 (by decide) rfl (fun h13 => ?_) (fun h13 => absurd h13 (by omega))
    refine r_aload_n (q := 19) dX12_series_18 rfl rfl rfl ?_
    refine r_getr (q := 22) (some (1367, 0)) ck12 dX12_series_19 rfl (k := 67) (by decide) wt1345 rfl (hs1.e (by decide)) (hs1.r (by decide) (by decide)) ?_
    refine r_iload_n (q := 23) dX12_series_22 rfl rfl rfl ?_
    refine r_aload_n (q := 24) dX12_series_23 rfl rfl rfl ?_
    refine r_iload_n (q := 25) dX12_series_24 rfl rfl rfl ?_
    refine r_iload_n (q := 26) dX12_series_25 rfl rfl rfl ?_
    refine r_callV (Mc := mX12_sizeOf) (q := 29) (As := [zi (nI 0), zi (nI k)]) (st := [zi (nI k), zr 1367 0]) ck12 dX12_series_26 rfl rfl mkX12_sizeOf wt1844 wt1846 wp120 rfl (Nat.le_of_ble_eq_true rfl) (Nat.le_of_ble_eq_true rfl) (by decide) (by decide) (by decide) (Or.inl rfl) (hs1.e (by decide)) (ok_sizeOf hs1 (by omega) hk7 hcl hAc.2.2.1 hLr.2.1) (fun r26 S26 hp26 => ?_)
    rw [hszr] at hp26
    obtain ⟨rfl, hq26⟩ := hp26
    rw [hq26]
    show Ok _ _ _ [zi (nI (szW W k)), zi (nI k), zr 1367 0] _ _
    refine r_i2l (q := 30) dX12_series_29 rfl ?_
    refine r_topl (y := lN (szW W k)) (nI_l (by omega)) ?_
    refine r_lastN (q := 31) 8 (by decide) rfl dX12_series_30 rfl (hs1.e (by decide)) (hs1.n rfl (by decide)) (by omega) (by decide) ?_
    refine r_iincN (q := 34) (L' := [some (zr 12 0), some (zi (nI 0)), some (zi (nI n)), some (zi (nI (k + 1)))]) 1 rfl dX12_series_31 rfl rfl (by decide) rfl ?_
    refine r_goto (q := 2) dX12_series_34 (by decide) ?_
    have f3 : Fr (fun x y _ => x == 1367 && y == 0) S10 (sJ S10 1367 0 k (lN (szW W k))) := (Fr.rf).j rfl
    have rc2 := (RcI.of (f3.fg hs1 (U := fun a _ _ => a = 1367) (fun a b k z => by simp at z; exact z.1)) ⟨by omega, by omega, fun x k a b => by omega, fun k _ => by omega⟩).rc (W := W)
    have hR2 : wqR W (fun k' => gI (sJ S10 1367 0 k (lN (szW W k))) 1306 0 k') n9 := hR1
    have g3 : Fr tSr0 S (sJ S10 1367 0 k (lN (szW W k))) := g1.tr (f3.mono (fun x y k h => by simp [tSr0, h]))
    refine Ok.mono (ih (k + 1) (sJ S10 1367 0 k (lN (szW W k))) (by omega) (by omega) (hs1.fr f3) (fun i a b => ?_) (fun i a b => if e : i = k then by rw [e]; exact h3 else hlow i a (by omega)) hR2 (rc2.2.1 hcw) (rc2.1 (fun _ => ⟨L', pvs, bss, hB⟩)) (rc2.2.2 hiv)) (fun r S3 z => ⟨z.1, z.2.1, g3.tr z.2.2.1, z.2.2.2⟩)
    rw [gJ_sJ]
    by_cases e : i = k
    · rw [if_pos ⟨rfl, rfl, e⟩, e]
    · rw [if_neg (by omega)]; exact (f1.2.1 _ _ _ rfl).trans (hf i a (by omega))

set_option maxRecDepth 100000 in
theorem ok_series0_y {S : zS} (hs : Sd S) {W : zWd} (hW : Wok W) {n : Nat} (hn7 : n ≤ 7) (h3n : tc W n ≤ 300) {n9 : Nat → Int64} (hR : wqR W (fun k => gI S 1306 0 k) n9) (hO : Cw S) (hcr : CR S W) (hI : IvI S) : Ok mX12_series 0 (ent 4 [zr 12 0, zi (nI 0), zi (nI n)]) [] S (fun r S1 => r = some (zi (nI 1)) ∧ Fst S1 (szW W) n ∧ Fr tSr0 S S1 ∧ Cw S1 ∧ CR S1 W ∧ IvI S1) := by
  show Ok mX12_series 0 [some (zr 12 0), some (zi (nI 0)), some (zi (nI n)), none] [] S _
  refine r_iconst (q := 1) (nI 1) dX12_series_0 rfl (by decide) ?_
  refine r_istore_n (q := 2) (L' := [some (zr 12 0), some (zi (nI 0)), some (zi (nI n)), some (zi (nI 1))]) dX12_series_1 rfl rfl (by decide) rfl ?_
  exact lp_sr0y hW hn7 h3n n 1 S (by omega) (by omega) hs (fun i a b => absurd b (by omega)) (fun i a b => absurd b (by omega)) hR hO hcr hI

set_option maxRecDepth 100000 in
theorem lp_sr0n {W : zWd} (hW : Wok W) {n : Nat} (hn7 : n ≤ 7) (h3n : ¬ tc W n ≤ 300) {n9 : Nat → Int64} : ∀ (d k : Nat) (S : zS), k + d = n + 1 → 1 ≤ k → Sd S → Fst S (szW W) (k - 1) → (∀ i, 1 ≤ i → i < k → tc W i ≤ 300) → wqR W (fun k => gI S 1306 0 k) n9 → Cw S → CR S W → IvI S → Ok mX12_series 2 [some (zr 12 0), some (zi (nI 0)), some (zi (nI n)), some (zi (nI k))] [] S (fun r S1 => r = some (zi (nI 0)) ∧ Fr tSr0 S S1 ∧ Cw S1 ∧ CR S1 W ∧ IvI S1) := by
  intro d
  induction d with
  | zero =>
    intro k S hk h1 hs hf hlow hR hO hcr hI
    obtain rfl : k = n + 1 := by omega
    exact absurd (show tc W n ≤ 300 from (Nat.eq_zero_or_pos n).elim (fun z => by rw [z]; exact Nat.zero_le _) (fun z => hlow n z (by omega))) h3n
  | succ d ih =>
    intro k S hk h1 hs hf hlow hR hO hcr hI
    have hk7 : k ≤ 7 := by omega
    by_cases h3 : tc W k ≤ 300
    · skip
      refine r_iload_n (q := 3) dX12_series_2 rfl rfl rfl ?_
      refine r_iload_n (q := 4) dX12_series_3 rfl rfl rfl ?_
      refine r_icmp_gtN (q := 7) (t := 37) (by omega) (by omega) dX12_series_4 (by decide) rfl (fun h4 => absurd h4 (by omega)) (fun h4 => ?_)
      refine r_aload_n (q := 8) dX12_series_7 rfl rfl rfl ?_
      refine r_iload_n (q := 9) dX12_series_8 rfl rfl rfl ?_
      refine r_iload_n (q := 10) dX12_series_9 rfl rfl rfl ?_
      refine r_callV (Mc := mX12_isBeyond) (q := 13) (As := [zi (nI 0), zi (nI k)]) (st := []) ck12 dX12_series_10 rfl rfl mkX12_isBeyond wt1751 wt1753 wp99 rfl (Nat.le_of_ble_eq_true rfl) (Nat.le_of_ble_eq_true rfl) (by decide) (by decide) (by decide) (Or.inl rfl) (hs.e (by decide)) (ok_beyond0_n hs hW h1 hk7 hR hO hcr hI h3) (fun r10 S10 hp10 => ?_)
      obtain ⟨f1, hon, hcw, hiv, hws, L', pvs, bss, hB, hz⟩ := hp10
      have hs1 : Sd S10 := hs.fr f1
      have g1 : Fr tSr0 S S10 := f1.mono (fun x y k h => by simp [tSr0, h])
      have hR1 : wqR W (fun k => gI S10 1306 0 k) n9 := wqR.cong hW (fun k _ _ => (f1.1 1306 0 k rfl).symm) (fun _ _ => rfl) hR
      obtain ⟨rfl, _, hnL⟩ := hz.resolve_left (fun z => absurd z.2 (by omega))
      obtain ⟨hLr, hAc, hLv⟩ := hB.2.2.2.2 k h1 (by omega)
      have hcl := cntp_le (pv := pvs k) (tl W k).length
      have hb300 := hAc.1.2.2.2.2.1
      have hszr := sz_R hW hLv
      have hszl := sz_le (W := W) (n := k)
      show Ok _ _ _ [zi (nI 0)] _ _
      refine r_if_eqN (q := 16) (t := 18) (by omega) dX12_series_13 (by decide) rfl (fun h13 => ?_) (fun h13 => absurd h13 (by omega))
      refine r_aload_n (q := 19) dX12_series_18 rfl rfl rfl ?_
      refine r_getr (q := 22) (some (1367, 0)) ck12 dX12_series_19 rfl (k := 67) (by decide) wt1345 rfl (hs1.e (by decide)) (hs1.r (by decide) (by decide)) ?_
      refine r_iload_n (q := 23) dX12_series_22 rfl rfl rfl ?_
      refine r_aload_n (q := 24) dX12_series_23 rfl rfl rfl ?_
      refine r_iload_n (q := 25) dX12_series_24 rfl rfl rfl ?_
      refine r_iload_n (q := 26) dX12_series_25 rfl rfl rfl ?_
      refine r_callV (Mc := mX12_sizeOf) (q := 29) (As := [zi (nI 0), zi (nI k)]) (st := [zi (nI k), zr 1367 0]) ck12 dX12_series_26 rfl rfl mkX12_sizeOf wt1844 wt1846 wp120 rfl (Nat.le_of_ble_eq_true rfl) (Nat.le_of_ble_eq_true rfl) (by decide) (by decide) (by decide) (Or.inl rfl) (hs1.e (by decide)) (ok_sizeOf hs1 (by omega) hk7 hcl hAc.2.2.1 hLr.2.1) (fun r26 S26 hp26 => ?_)
      rw [hszr] at hp26
      obtain ⟨rfl, hq26⟩ := hp26
      rw [hq26]
      show Ok _ _ _ [zi (nI (szW W k)), zi (nI k), zr 1367 0] _ _
      refine r_i2l (q := 30) dX12_series_29 rfl ?_
      refine r_topl (y := lN (szW W k)) (nI_l (by omega)) ?_
      refine r_lastN (q := 31) 8 (by decide) rfl dX12_series_30 rfl (hs1.e (by decide)) (hs1.n rfl (by decide)) (by omega) (by decide) ?_
      refine r_iincN (q := 34) (L' := [some (zr 12 0), some (zi (nI 0)), some (zi (nI n)), some (zi (nI (k + 1)))]) 1 rfl dX12_series_31 rfl rfl (by decide) rfl ?_
      refine r_goto (q := 2) dX12_series_34 (by decide) ?_
      have f3 : Fr (fun x y _ => x == 1367 && y == 0) S10 (sJ S10 1367 0 k (lN (szW W k))) := (Fr.rf).j rfl
      have rc2 := (RcI.of (f3.fg hs1 (U := fun a _ _ => a = 1367) (fun a b k z => by simp at z; exact z.1)) ⟨by omega, by omega, fun x k a b => by omega, fun k _ => by omega⟩).rc (W := W)
      have hR2 : wqR W (fun k' => gI (sJ S10 1367 0 k (lN (szW W k))) 1306 0 k') n9 := hR1
      have g3 : Fr tSr0 S (sJ S10 1367 0 k (lN (szW W k))) := g1.tr (f3.mono (fun x y k h => by simp [tSr0, h]))
      refine Ok.mono (ih (k + 1) (sJ S10 1367 0 k (lN (szW W k))) (by omega) (by omega) (hs1.fr f3) (fun i a b => ?_) (fun i a b => if e : i = k then by rw [e]; exact h3 else hlow i a (by omega)) hR2 (rc2.2.1 hcw) (rc2.1 (fun _ => ⟨L', pvs, bss, hB⟩)) (rc2.2.2 hiv)) (fun r S3 z => ⟨z.1, g3.tr z.2.1, z.2.2⟩)
      rw [gJ_sJ]
      by_cases e : i = k
      · rw [if_pos ⟨rfl, rfl, e⟩, e]
      · rw [if_neg (by omega)]; exact (f1.2.1 _ _ _ rfl).trans (hf i a (by omega))
    · skip
      refine r_iload_n (q := 3) dX12_series_2 rfl rfl rfl ?_
      refine r_iload_n (q := 4) dX12_series_3 rfl rfl rfl ?_
      refine r_icmp_gtN (q := 7) (t := 37) (by omega) (by omega) dX12_series_4 (by decide) rfl (fun h4 => absurd h4 (by omega)) (fun h4 => ?_)
      refine r_aload_n (q := 8) dX12_series_7 rfl rfl rfl ?_
      refine r_iload_n (q := 9) dX12_series_8 rfl rfl rfl ?_
      refine r_iload_n (q := 10) dX12_series_9 rfl rfl rfl ?_
      refine r_callV (Mc := mX12_isBeyond) (q := 13) (As := [zi (nI 0), zi (nI k)]) (st := []) ck12 dX12_series_10 rfl rfl mkX12_isBeyond wt1751 wt1753 wp99 rfl (Nat.le_of_ble_eq_true rfl) (Nat.le_of_ble_eq_true rfl) (by decide) (by decide) (by decide) (Or.inl rfl) (hs.e (by decide)) (ok_beyond0_y hs hW h1 hk7 hR hO hcr hI h3) (fun r10 S10 hp10 => ?_)
      obtain ⟨f1, hon, hcw, hiv, hws, L', pvs, bss, hB, hz⟩ := hp10
      have hs1 : Sd S10 := hs.fr f1
      have g1 : Fr tSr0 S S10 := f1.mono (fun x y k h => by simp [tSr0, h])
      have hR1 : wqR W (fun k => gI S10 1306 0 k) n9 := wqR.cong hW (fun k _ _ => (f1.1 1306 0 k rfl).symm) (fun _ _ => rfl) hR
      obtain ⟨rfl, _⟩ := hz.resolve_right (fun z => h3 z.2.1)
      show Ok _ _ _ [zi (nI 1)] _ _
      refine r_if_eqN (q := 16) (t := 18) (by omega) dX12_series_13 (by decide) rfl (fun h13 => absurd h13 (by omega)) (fun h13 => ?_)
      refine r_iconst (q := 17) (nI 0) dX12_series_16 rfl (by decide) ?_
      refine r_zreturn (by decide) dX12_series_17 rfl ?_
      exact ⟨rfl, g1, hcw, fun _ => ⟨L', pvs, bss, hB⟩, hiv⟩

set_option maxRecDepth 100000 in
theorem ok_series0_n {S : zS} (hs : Sd S) {W : zWd} (hW : Wok W) {n : Nat} (hn7 : n ≤ 7) (h3n : ¬ tc W n ≤ 300) {n9 : Nat → Int64} (hR : wqR W (fun k => gI S 1306 0 k) n9) (hO : Cw S) (hcr : CR S W) (hI : IvI S) : Ok mX12_series 0 (ent 4 [zr 12 0, zi (nI 0), zi (nI n)]) [] S (fun r S1 => r = some (zi (nI 0)) ∧ Fr tSr0 S S1 ∧ Cw S1 ∧ CR S1 W ∧ IvI S1) := by
  show Ok mX12_series 0 [some (zr 12 0), some (zi (nI 0)), some (zi (nI n)), none] [] S _
  refine r_iconst (q := 1) (nI 1) dX12_series_0 rfl (by decide) ?_
  refine r_istore_n (q := 2) (L' := [some (zr 12 0), some (zi (nI 0)), some (zi (nI n)), some (zi (nI 1))]) dX12_series_1 rfl rfl (by decide) rfl ?_
  exact lp_sr0n hW hn7 h3n n 1 S (by omega) (by omega) hs (fun i a b => absurd b (by omega)) (fun i a b => absurd b (by omega)) hR hO hcr hI

set_option maxRecDepth 100000 in
theorem lp_sr1y {W : zWd} (hW : Wok W) {n : Nat} (hn7 : n ≤ 7) (h3n : tc W n ≤ 300)  : ∀ (d k : Nat) (S : zS), k + d = n + 1 → 1 ≤ k → Sd S → Fst S (szW W) (k - 1) → (∀ i, 1 ≤ i → i < k → tc W i ≤ 300) → WS S W 1 → (∃ L pvs bss, RB S W 1 L pvs bss) → IvI S → Ok mX12_series 2 [some (zr 12 0), some (zi (nI 1)), some (zi (nI n)), some (zi (nI k))] [] S (fun r S1 => r = some (zi (nI 1)) ∧ Fst S1 (szW W) n ∧ Fr tSr1 S S1 ∧ WS S1 W 1 ∧ (∃ L pvs bss, RB S1 W 1 L pvs bss) ∧ IvI S1) := by
  intro d
  induction d with
  | zero =>
    intro k S hk h1 hs hf hlow hws hB0 hI
    obtain rfl : k = n + 1 := by omega
    refine r_iload_n (q := 3) dX12_series_2 rfl rfl rfl ?_
    refine r_iload_n (q := 4) dX12_series_3 rfl rfl rfl ?_
    refine r_icmp_gtN (q := 7) (t := 37) (by omega) (by omega) dX12_series_4 (by decide) rfl (fun h4 => ?_) (fun h4 => absurd h4 (by omega))
    refine r_iconst (q := 38) (nI 1) dX12_series_37 rfl (by decide) ?_
    refine r_zreturn (by decide) dX12_series_38 rfl ?_
    exact ⟨rfl, hf, Fr.rf, hws, hB0, hI⟩
  | succ d ih =>
    intro k S hk h1 hs hf hlow hws hB0 hI
    have hk7 : k ≤ 7 := by omega
    obtain ⟨L0, pv0, bs0, hBx⟩ := id hB0
    have h3 : tc W k ≤ 300 := tc_down hW.2.1 hn7 h3n (by omega)
    refine r_iload_n (q := 3) dX12_series_2 rfl rfl rfl ?_
    refine r_iload_n (q := 4) dX12_series_3 rfl rfl rfl ?_
    refine r_icmp_gtN (q := 7) (t := 37) (by omega) (by omega) dX12_series_4 (by decide) rfl (fun h4 => absurd h4 (by omega)) (fun h4 => ?_)
    refine r_aload_n (q := 8) dX12_series_7 rfl rfl rfl ?_
    refine r_iload_n (q := 9) dX12_series_8 rfl rfl rfl ?_
    refine r_iload_n (q := 10) dX12_series_9 rfl rfl rfl ?_
    refine r_callV (Mc := mX12_isBeyond) (q := 13) (As := [zi (nI 1), zi (nI k)]) (st := []) ck12 dX12_series_10 rfl rfl mkX12_isBeyond wt1751 wt1753 wp99 rfl (Nat.le_of_ble_eq_true rfl) (Nat.le_of_ble_eq_true rfl) (by decide) (by decide) (by decide) (Or.inl rfl) (hs.e (by decide)) (ok_beyond1_n hs hW h1 hk7 hws hBx hI h3) (fun r10 S10 hp10 => ?_)
    obtain ⟨f1, hiv, hws1, L', pvs, bss, hB, hz⟩ := hp10
    have hs1 : Sd S10 := hs.fr f1
    have g1 : Fr tSr1 S S10 := f1.mono (fun x y k h => by simp [tSr1, h])
    obtain ⟨rfl, _, hnL⟩ := hz.resolve_left (fun z => absurd z.2 (by omega))
    obtain ⟨hLr, hAc, hLv⟩ := hB.2.2.2.2 k h1 (by omega)
    have hcl := cntp_le (pv := pvs k) (tl W k).length
    have hb300 := hAc.1.2.2.2.2.1
    have hszr := sz_R hW hLv
    have hszl := sz_le (W := W) (n := k)
    show Ok _ _ _ [zi (nI 0)] _ _
    refine r_if_eqN (q := 16) (t := 18) (by omega) dX12_series_13 (by decide) rfl (fun h13 => ?_) (fun h13 => absurd h13 (by omega))
    refine r_aload_n (q := 19) dX12_series_18 rfl rfl rfl ?_
    refine r_getr (q := 22) (some (1367, 0)) ck12 dX12_series_19 rfl (k := 67) (by decide) wt1345 rfl (hs1.e (by decide)) (hs1.r (by decide) (by decide)) ?_
    refine r_iload_n (q := 23) dX12_series_22 rfl rfl rfl ?_
    refine r_aload_n (q := 24) dX12_series_23 rfl rfl rfl ?_
    refine r_iload_n (q := 25) dX12_series_24 rfl rfl rfl ?_
    refine r_iload_n (q := 26) dX12_series_25 rfl rfl rfl ?_
    refine r_callV (Mc := mX12_sizeOf) (q := 29) (As := [zi (nI 1), zi (nI k)]) (st := [zi (nI k), zr 1367 0]) ck12 dX12_series_26 rfl rfl mkX12_sizeOf wt1844 wt1846 wp120 rfl (Nat.le_of_ble_eq_true rfl) (Nat.le_of_ble_eq_true rfl) (by decide) (by decide) (by decide) (Or.inl rfl) (hs1.e (by decide)) (ok_sizeOf hs1 (by omega) hk7 hcl hAc.2.2.1 hLr.2.1) (fun r26 S26 hp26 => ?_)
    rw [hszr] at hp26
    obtain ⟨rfl, hq26⟩ := hp26
    rw [hq26]
    show Ok _ _ _ [zi (nI (szW W k)), zi (nI k), zr 1367 0] _ _
    refine r_i2l (q := 30) dX12_series_29 rfl ?_
    refine r_topl (y := lN (szW W k)) (nI_l (by omega)) ?_
    refine r_lastN (q := 31) 8 (by decide) rfl dX12_series_30 rfl (hs1.e (by decide)) (hs1.n rfl (by decide)) (by omega) (by decide) ?_
    refine r_iincN (q := 34) (L' := [some (zr 12 0), some (zi (nI 1)), some (zi (nI n)), some (zi (nI (k + 1)))]) 1 rfl dX12_series_31 rfl rfl (by decide) rfl ?_
    refine r_goto (q := 2) dX12_series_34 (by decide) ?_
    have f3 : Fr (fun x y _ => x == 1367 && y == 0) S10 (sJ S10 1367 0 k (lN (szW W k))) := (Fr.rf).j rfl
    have hB2 : RB (sJ S10 1367 0 k (lN (szW W k))) W 1 L' pvs bss := hB.fg (fun _ _ _ _ => rfl) (fun k' => by rw [gJ_sJ, if_neg (by omega)])
    have hiv2 : IvI (sJ S10 1367 0 k (lN (szW W k))) := hiv
    have hws2 : WS (sJ S10 1367 0 k (lN (szW W k))) W 1 := hws1
    have g3 : Fr tSr1 S (sJ S10 1367 0 k (lN (szW W k))) := g1.tr (f3.mono (fun x y k h => by simp [tSr1, h]))
    refine Ok.mono (ih (k + 1) (sJ S10 1367 0 k (lN (szW W k))) (by omega) (by omega) (hs1.fr f3) (fun i a b => ?_) (fun i a b => if e : i = k then by rw [e]; exact h3 else hlow i a (by omega)) hws2 ⟨L', pvs, bss, hB2⟩ hiv2) (fun r S3 z => ⟨z.1, z.2.1, g3.tr z.2.2.1, z.2.2.2⟩)
    rw [gJ_sJ]
    by_cases e : i = k
    · rw [if_pos ⟨rfl, rfl, e⟩, e]
    · rw [if_neg (by omega)]; exact (f1.2.1 _ _ _ rfl).trans (hf i a (by omega))

set_option maxRecDepth 100000 in
theorem ok_series1_y {S : zS} (hs : Sd S) {W : zWd} (hW : Wok W) {n : Nat} (hn7 : n ≤ 7) (h3n : tc W n ≤ 300) (hws : WS S W 1) (hB0 : ∃ L pvs bss, RB S W 1 L pvs bss) (hI : IvI S) : Ok mX12_series 0 (ent 4 [zr 12 0, zi (nI 1), zi (nI n)]) [] S (fun r S1 => r = some (zi (nI 1)) ∧ Fst S1 (szW W) n ∧ Fr tSr1 S S1 ∧ WS S1 W 1 ∧ (∃ L pvs bss, RB S1 W 1 L pvs bss) ∧ IvI S1) := by
  show Ok mX12_series 0 [some (zr 12 0), some (zi (nI 1)), some (zi (nI n)), none] [] S _
  refine r_iconst (q := 1) (nI 1) dX12_series_0 rfl (by decide) ?_
  refine r_istore_n (q := 2) (L' := [some (zr 12 0), some (zi (nI 1)), some (zi (nI n)), some (zi (nI 1))]) dX12_series_1 rfl rfl (by decide) rfl ?_
  exact lp_sr1y hW hn7 h3n n 1 S (by omega) (by omega) hs (fun i a b => absurd b (by omega)) (fun i a b => absurd b (by omega)) hws hB0 hI

set_option maxRecDepth 100000 in
theorem lp_sr1n {W : zWd} (hW : Wok W) {n : Nat} (hn7 : n ≤ 7) (h3n : ¬ tc W n ≤ 300)  : ∀ (d k : Nat) (S : zS), k + d = n + 1 → 1 ≤ k → Sd S → Fst S (szW W) (k - 1) → (∀ i, 1 ≤ i → i < k → tc W i ≤ 300) → WS S W 1 → (∃ L pvs bss, RB S W 1 L pvs bss) → IvI S → Ok mX12_series 2 [some (zr 12 0), some (zi (nI 1)), some (zi (nI n)), some (zi (nI k))] [] S (fun r S1 => r = some (zi (nI 0)) ∧ Fr tSr1 S S1 ∧ WS S1 W 1 ∧ (∃ L pvs bss, RB S1 W 1 L pvs bss) ∧ IvI S1) := by
  intro d
  induction d with
  | zero =>
    intro k S hk h1 hs hf hlow hws hB0 hI
    obtain rfl : k = n + 1 := by omega
    exact absurd (show tc W n ≤ 300 from (Nat.eq_zero_or_pos n).elim (fun z => by rw [z]; exact Nat.zero_le _) (fun z => hlow n z (by omega))) h3n
  | succ d ih =>
    intro k S hk h1 hs hf hlow hws hB0 hI
    have hk7 : k ≤ 7 := by omega
    obtain ⟨L0, pv0, bs0, hBx⟩ := id hB0
    by_cases h3 : tc W k ≤ 300
    · skip
      refine r_iload_n (q := 3) dX12_series_2 rfl rfl rfl ?_
      refine r_iload_n (q := 4) dX12_series_3 rfl rfl rfl ?_
      refine r_icmp_gtN (q := 7) (t := 37) (by omega) (by omega) dX12_series_4 (by decide) rfl (fun h4 => absurd h4 (by omega)) (fun h4 => ?_)
      refine r_aload_n (q := 8) dX12_series_7 rfl rfl rfl ?_
      refine r_iload_n (q := 9) dX12_series_8 rfl rfl rfl ?_
      refine r_iload_n (q := 10) dX12_series_9 rfl rfl rfl ?_
      refine r_callV (Mc := mX12_isBeyond) (q := 13) (As := [zi (nI 1), zi (nI k)]) (st := []) ck12 dX12_series_10 rfl rfl mkX12_isBeyond wt1751 wt1753 wp99 rfl (Nat.le_of_ble_eq_true rfl) (Nat.le_of_ble_eq_true rfl) (by decide) (by decide) (by decide) (Or.inl rfl) (hs.e (by decide)) (ok_beyond1_n hs hW h1 hk7 hws hBx hI h3) (fun r10 S10 hp10 => ?_)
      obtain ⟨f1, hiv, hws1, L', pvs, bss, hB, hz⟩ := hp10
      have hs1 : Sd S10 := hs.fr f1
      have g1 : Fr tSr1 S S10 := f1.mono (fun x y k h => by simp [tSr1, h])
      obtain ⟨rfl, _, hnL⟩ := hz.resolve_left (fun z => absurd z.2 (by omega))
      obtain ⟨hLr, hAc, hLv⟩ := hB.2.2.2.2 k h1 (by omega)
      have hcl := cntp_le (pv := pvs k) (tl W k).length
      have hb300 := hAc.1.2.2.2.2.1
      have hszr := sz_R hW hLv
      have hszl := sz_le (W := W) (n := k)
      show Ok _ _ _ [zi (nI 0)] _ _
      refine r_if_eqN (q := 16) (t := 18) (by omega) dX12_series_13 (by decide) rfl (fun h13 => ?_) (fun h13 => absurd h13 (by omega))
      refine r_aload_n (q := 19) dX12_series_18 rfl rfl rfl ?_
      refine r_getr (q := 22) (some (1367, 0)) ck12 dX12_series_19 rfl (k := 67) (by decide) wt1345 rfl (hs1.e (by decide)) (hs1.r (by decide) (by decide)) ?_
      refine r_iload_n (q := 23) dX12_series_22 rfl rfl rfl ?_
      refine r_aload_n (q := 24) dX12_series_23 rfl rfl rfl ?_
      refine r_iload_n (q := 25) dX12_series_24 rfl rfl rfl ?_
      refine r_iload_n (q := 26) dX12_series_25 rfl rfl rfl ?_
      refine r_callV (Mc := mX12_sizeOf) (q := 29) (As := [zi (nI 1), zi (nI k)]) (st := [zi (nI k), zr 1367 0]) ck12 dX12_series_26 rfl rfl mkX12_sizeOf wt1844 wt1846 wp120 rfl (Nat.le_of_ble_eq_true rfl) (Nat.le_of_ble_eq_true rfl) (by decide) (by decide) (by decide) (Or.inl rfl) (hs1.e (by decide)) (ok_sizeOf hs1 (by omega) hk7 hcl hAc.2.2.1 hLr.2.1) (fun r26 S26 hp26 => ?_)
      rw [hszr] at hp26
      obtain ⟨rfl, hq26⟩ := hp26
      rw [hq26]
      show Ok _ _ _ [zi (nI (szW W k)), zi (nI k), zr 1367 0] _ _
      refine r_i2l (q := 30) dX12_series_29 rfl ?_
      refine r_topl (y := lN (szW W k)) (nI_l (by omega)) ?_
      refine r_lastN (q := 31) 8 (by decide) rfl dX12_series_30 rfl (hs1.e (by decide)) (hs1.n rfl (by decide)) (by omega) (by decide) ?_
      refine r_iincN (q := 34) (L' := [some (zr 12 0), some (zi (nI 1)), some (zi (nI n)), some (zi (nI (k + 1)))]) 1 rfl dX12_series_31 rfl rfl (by decide) rfl ?_
      refine r_goto (q := 2) dX12_series_34 (by decide) ?_
      have f3 : Fr (fun x y _ => x == 1367 && y == 0) S10 (sJ S10 1367 0 k (lN (szW W k))) := (Fr.rf).j rfl
      have hB2 : RB (sJ S10 1367 0 k (lN (szW W k))) W 1 L' pvs bss := hB.fg (fun _ _ _ _ => rfl) (fun k' => by rw [gJ_sJ, if_neg (by omega)])
      have hiv2 : IvI (sJ S10 1367 0 k (lN (szW W k))) := hiv
      have hws2 : WS (sJ S10 1367 0 k (lN (szW W k))) W 1 := hws1
      have g3 : Fr tSr1 S (sJ S10 1367 0 k (lN (szW W k))) := g1.tr (f3.mono (fun x y k h => by simp [tSr1, h]))
      refine Ok.mono (ih (k + 1) (sJ S10 1367 0 k (lN (szW W k))) (by omega) (by omega) (hs1.fr f3) (fun i a b => ?_) (fun i a b => if e : i = k then by rw [e]; exact h3 else hlow i a (by omega)) hws2 ⟨L', pvs, bss, hB2⟩ hiv2) (fun r S3 z => ⟨z.1, g3.tr z.2.1, z.2.2⟩)
      rw [gJ_sJ]
      by_cases e : i = k
      · rw [if_pos ⟨rfl, rfl, e⟩, e]
      · rw [if_neg (by omega)]; exact (f1.2.1 _ _ _ rfl).trans (hf i a (by omega))
    · skip
      refine r_iload_n (q := 3) dX12_series_2 rfl rfl rfl ?_
      refine r_iload_n (q := 4) dX12_series_3 rfl rfl rfl ?_
      refine r_icmp_gtN (q := 7) (t := 37) (by omega) (by omega) dX12_series_4 (by decide) rfl (fun h4 => absurd h4 (by omega)) (fun h4 => ?_)
      refine r_aload_n (q := 8) dX12_series_7 rfl rfl rfl ?_
      refine r_iload_n (q := 9) dX12_series_8 rfl rfl rfl ?_
      refine r_iload_n (q := 10) dX12_series_9 rfl rfl rfl ?_
      refine r_callV (Mc := mX12_isBeyond) (q := 13) (As := [zi (nI 1), zi (nI k)]) (st := []) ck12 dX12_series_10 rfl rfl mkX12_isBeyond wt1751 wt1753 wp99 rfl (Nat.le_of_ble_eq_true rfl) (Nat.le_of_ble_eq_true rfl) (by decide) (by decide) (by decide) (Or.inl rfl) (hs.e (by decide)) (ok_beyond1_y hs hW h1 hk7 hws hBx hI h3) (fun r10 S10 hp10 => ?_)
      obtain ⟨f1, hiv, hws1, L', pvs, bss, hB, hz⟩ := hp10
      have hs1 : Sd S10 := hs.fr f1
      have g1 : Fr tSr1 S S10 := f1.mono (fun x y k h => by simp [tSr1, h])
      obtain ⟨rfl, _⟩ := hz.resolve_right (fun z => h3 z.2.1)
      show Ok _ _ _ [zi (nI 1)] _ _
      refine r_if_eqN (q := 16) (t := 18) (by omega) dX12_series_13 (by decide) rfl (fun h13 => absurd h13 (by omega)) (fun h13 => ?_)
      refine r_iconst (q := 17) (nI 0) dX12_series_16 rfl (by decide) ?_
      refine r_zreturn (by decide) dX12_series_17 rfl ?_
      exact ⟨rfl, g1, hws1, ⟨L', pvs, bss, hB⟩, hiv⟩

set_option maxRecDepth 100000 in
theorem ok_series1_n {S : zS} (hs : Sd S) {W : zWd} (hW : Wok W) {n : Nat} (hn7 : n ≤ 7) (h3n : ¬ tc W n ≤ 300) (hws : WS S W 1) (hB0 : ∃ L pvs bss, RB S W 1 L pvs bss) (hI : IvI S) : Ok mX12_series 0 (ent 4 [zr 12 0, zi (nI 1), zi (nI n)]) [] S (fun r S1 => r = some (zi (nI 0)) ∧ Fr tSr1 S S1 ∧ WS S1 W 1 ∧ (∃ L pvs bss, RB S1 W 1 L pvs bss) ∧ IvI S1) := by
  show Ok mX12_series 0 [some (zr 12 0), some (zi (nI 1)), some (zi (nI n)), none] [] S _
  refine r_iconst (q := 1) (nI 1) dX12_series_0 rfl (by decide) ?_
  refine r_istore_n (q := 2) (L' := [some (zr 12 0), some (zi (nI 1)), some (zi (nI n)), some (zi (nI 1))]) dX12_series_1 rfl rfl (by decide) rfl ?_
  exact lp_sr1n hW hn7 h3n n 1 S (by omega) (by omega) hs (fun i a b => absurd b (by omega)) (fun i a b => absurd b (by omega)) hws hB0 hI

set_option maxRecDepth 100000 in
theorem ok_isKeptAt_y {S : zS} (hs : Sd S) {m : Nat} (hm : m < 2) (hk : gI S 1393 0 m = nI 1) : Ok mX12_isKeptAt 0 (ent 2 [zr 12 0, zi (nI m)]) [] S (fun r S1 => r = some (zi (nI 1)) ∧ S1 = S) := by
  show Ok mX12_isKeptAt 0 [some (zr 12 0), some (zi (nI m))] [] S _
  refine r_iload_n (q := 1) dX12_isKeptAt_0 rfl rfl rfl ?_
  refine r_iconst (q := 2) (nI 0) dX12_isKeptAt_1 rfl (by decide) ?_
  refine r_iconst (q := 3) (nI 1) dX12_isKeptAt_2 rfl (by decide) ?_
  refine r_callS (Mc := mX12_isIn) (q := 6) (As := [zi (nI m), zi (nI 0), zi (nI 1)]) (st := []) dX12_isKeptAt_3 rfl rfl mkX12_isIn wt1614 wt1615 rfl (Nat.le_of_ble_eq_true rfl) (Nat.le_of_ble_eq_true rfl) (by decide) (by decide) (by decide) (Or.inl rfl) hs.some (ok_X12_isIn_in (by omega) (by omega) (by omega)) (fun r3 S3 hp3 => ?_)
  obtain ⟨rfl, hq3⟩ := hp3
  rw [hq3]
  show Ok _ _ _ [zi (nI 1)] _ _
  refine r_if_eqN (q := 9) (t := 22) (by omega) dX12_isKeptAt_6 (by decide) rfl (fun h6 => absurd h6 (by omega)) (fun h6 => ?_)
  refine r_aload_n (q := 10) dX12_isKeptAt_9 rfl rfl rfl ?_
  refine r_getr (q := 13) (some (1393, 0)) ck12 dX12_isKeptAt_10 rfl (k := 93) (by decide) wt1371 rfl (hs.e (by decide)) (hs.r (by decide) (by decide)) ?_
  refine r_iload_n (q := 14) dX12_isKeptAt_13 rfl rfl rfl ?_
  refine r_zaldN (q := 15) 2 (by decide) rfl dX12_isKeptAt_14 rfl (hs.e (by decide)) (hs.n rfl (by decide)) (by omega) (by decide) ?_
  refine r_topi (y := nI 1) hk ?_
  refine r_if_eqN (q := 18) (t := 22) (by omega) dX12_isKeptAt_15 (by decide) rfl (fun h15 => absurd h15 (by omega)) (fun h15 => ?_)
  refine r_iconst (q := 19) (nI 1) dX12_isKeptAt_18 rfl (by decide) ?_
  refine r_goto (q := 23) dX12_isKeptAt_19 (by decide) ?_
  refine r_zreturn (by decide) dX12_isKeptAt_23 rfl ?_
  exact ⟨rfl, rfl⟩

set_option maxRecDepth 100000 in
theorem ok_isKeptAt_n {S : zS} (hs : Sd S) {m : Nat} (hm : m < 2) (hk : gI S 1393 0 m = nI 0) : Ok mX12_isKeptAt 0 (ent 2 [zr 12 0, zi (nI m)]) [] S (fun r S1 => r = some (zi (nI 0)) ∧ S1 = S) := by
  show Ok mX12_isKeptAt 0 [some (zr 12 0), some (zi (nI m))] [] S _
  refine r_iload_n (q := 1) dX12_isKeptAt_0 rfl rfl rfl ?_
  refine r_iconst (q := 2) (nI 0) dX12_isKeptAt_1 rfl (by decide) ?_
  refine r_iconst (q := 3) (nI 1) dX12_isKeptAt_2 rfl (by decide) ?_
  refine r_callS (Mc := mX12_isIn) (q := 6) (As := [zi (nI m), zi (nI 0), zi (nI 1)]) (st := []) dX12_isKeptAt_3 rfl rfl mkX12_isIn wt1614 wt1615 rfl (Nat.le_of_ble_eq_true rfl) (Nat.le_of_ble_eq_true rfl) (by decide) (by decide) (by decide) (Or.inl rfl) hs.some (ok_X12_isIn_in (by omega) (by omega) (by omega)) (fun r3 S3 hp3 => ?_)
  obtain ⟨rfl, hq3⟩ := hp3
  rw [hq3]
  show Ok _ _ _ [zi (nI 1)] _ _
  refine r_if_eqN (q := 9) (t := 22) (by omega) dX12_isKeptAt_6 (by decide) rfl (fun h6 => absurd h6 (by omega)) (fun h6 => ?_)
  refine r_aload_n (q := 10) dX12_isKeptAt_9 rfl rfl rfl ?_
  refine r_getr (q := 13) (some (1393, 0)) ck12 dX12_isKeptAt_10 rfl (k := 93) (by decide) wt1371 rfl (hs.e (by decide)) (hs.r (by decide) (by decide)) ?_
  refine r_iload_n (q := 14) dX12_isKeptAt_13 rfl rfl rfl ?_
  refine r_zaldN (q := 15) 2 (by decide) rfl dX12_isKeptAt_14 rfl (hs.e (by decide)) (hs.n rfl (by decide)) (by omega) (by decide) ?_
  refine r_topi (y := nI 0) hk ?_
  refine r_if_eqN (q := 18) (t := 22) (by omega) dX12_isKeptAt_15 (by decide) rfl (fun h15 => ?_) (fun h15 => absurd h15 (by omega))
  refine r_iconst (q := 23) (nI 0) dX12_isKeptAt_22 rfl (by decide) ?_
  refine r_zreturn (by decide) dX12_isKeptAt_23 rfl ?_
  exact ⟨rfl, rfl⟩

theorem lt_two {a : Int32} (h : a ≤ nI 1) : a < nI 2 := by
  rw [Int32.lt_iff_toInt_lt]
  rw [Int32.le_iff_toInt_le] at h
  have e1 : (nI 1).toInt = 1 := by decide
  have e2 : (nI 2).toInt = 2 := by decide
  omega

set_option maxRecDepth 100000 in
theorem ok_isKeptAt_x {S : zS} (hs : Sd S) {a : Int32} (ha : ¬ (0 ≤ a ∧ a < nI 2)) : Ok mX12_isKeptAt 0 (ent 2 [zr 12 0, zi a]) [] S (fun r S1 => r = some (zi (nI 0)) ∧ S1 = S) := by
  show Ok mX12_isKeptAt 0 [some (zr 12 0), some (zi a)] [] S _
  refine r_iload_n (q := 1) dX12_isKeptAt_0 rfl rfl rfl ?_
  refine r_iconst (q := 2) (nI 0) dX12_isKeptAt_1 rfl (by decide) ?_
  refine r_iconst (q := 3) (nI 1) dX12_isKeptAt_2 rfl (by decide) ?_
  refine r_callS (Mc := mX12_isIn) (q := 6) (As := [zi a, zi (nI 0), zi (nI 1)]) (st := []) dX12_isKeptAt_3 rfl rfl mkX12_isIn wt1614 wt1615 rfl (Nat.le_of_ble_eq_true rfl) (Nat.le_of_ble_eq_true rfl) (by decide) (by decide) (by decide) (Or.inl rfl) hs.some (ok_X12_isIn_out (fun z => ha ⟨z.1, lt_two z.2⟩)) (fun r3 S3 hp3 => ?_)
  obtain ⟨rfl, hq3⟩ := hp3
  rw [hq3]
  show Ok _ _ _ [zi (nI 0)] _ _
  refine r_if_eqN (q := 9) (t := 22) (by omega) dX12_isKeptAt_6 (by decide) rfl (fun h6 => ?_) (fun h6 => absurd h6 (by omega))
  refine r_iconst (q := 23) (nI 0) dX12_isKeptAt_22 rfl (by decide) ?_
  refine r_zreturn (by decide) dX12_isKeptAt_23 rfl ?_
  exact ⟨rfl, rfl⟩

def tLd (x y k : Nat) : Bool := y == 0 && (x == 1322 && decide (1173 ≤ k) || x == 1323 && k == 1)

set_option maxRecDepth 100000 in
theorem ok_otherWorld {S : zS} (hs : Sd S) : Ok mX12_otherWorld 0 (ent 1 [zr 12 0]) [] S (fun r S1 => r = none ∧ S1 = sI S 1323 0 1 (nI 0)) := by
  show Ok mX12_otherWorld 0 [some (zr 12 0)] [] S _
  refine r_aload_n (q := 1) dX12_otherWorld_0 rfl rfl rfl ?_
  refine r_getr (q := 4) (some (1323, 0)) ck12 dX12_otherWorld_1 rfl (k := 23) (by decide) wt1301 rfl (hs.e (by decide)) (hs.r (by decide) (by decide)) ?_
  refine r_iconst (q := 5) (nI 1) dX12_otherWorld_4 rfl (by decide) ?_
  refine r_iconst (q := 6) (nI 0) dX12_otherWorld_5 rfl (by decide) ?_
  refine r_iastN (q := 7) 2 (by decide) rfl dX12_otherWorld_6 rfl (hs.e (by decide)) (hs.n rfl (by decide)) (by omega) (by decide) ?_
  refine r_return dX12_otherWorld_7 rfl ?_
  exact ⟨rfl, rfl⟩

set_option maxRecDepth 100000 in
theorem lp_ld2 {m : Nat} (hm : m < 2) : ∀ (d i : Nat) (S : zS), i + d = 1173 → Sd S → ∀ S0, Fr tLd S0 S → (∀ k, k < i → gI S 1322 0 (1173 + k) = gI S0 1391 0 (3775 * m + k)) → Ok mX12_loads 2 [some (zr 12 0), some (zi (nI m)), some (zi (nI i))] [] S (fun r S1 => r = none ∧ Fr tLd S0 S1 ∧ (∀ k, k < 1173 → gI S1 1322 0 (1173 + k) = gI S0 1391 0 (3775 * m + k)) ∧ gI S1 1323 0 1 = nI 0) := by
  intro d
  induction d with
  | zero =>
    intro i S hi hs S0 f0 hk
    obtain rfl : i = 1173 := by omega
    refine r_iload_n (q := 3) dX12_loads_2 rfl rfl rfl ?_
    refine r_sipush (q := 6) (nI 1173) dX12_loads_3 rfl (by decide) ?_
    refine r_icmp_geN (q := 9) (t := 37) (by omega) (by omega) dX12_loads_6 (by decide) rfl (fun h6 => ?_) (fun h6 => absurd h6 (by omega))
    refine r_aload_n (q := 38) dX12_loads_37 rfl rfl rfl ?_
    refine r_callV (Mc := mX12_otherWorld) (q := 41) (As := []) (st := []) ck12 dX12_loads_38 rfl rfl mkX12_otherWorld wt1569 wt1571 wp69 rfl (Nat.le_of_ble_eq_true rfl) (Nat.le_of_ble_eq_true rfl) (by decide) (by decide) (by decide) (Or.inl rfl) (hs.e (by decide)) (ok_otherWorld hs) (fun r38 S38 hp38 => ?_)
    obtain ⟨rfl, hq38⟩ := hp38
    rw [hq38]
    show Ok _ _ _ [] _ _
    refine r_return dX12_loads_41 rfl ?_
    exact ⟨rfl, f0.i (by simp [tLd]), fun k h => by rw [gI_sI, if_neg (by omega)]; exact hk k h, by rw [gI_sI, if_pos ⟨rfl, rfl, rfl⟩]⟩
  | succ d ih =>
    intro i S hi hs S0 f0 hk
    have e1 : gI S 1391 0 (3775 * m + i) = gI S0 1391 0 (3775 * m + i) := f0.1 _ _ _ rfl
    refine r_iload_n (q := 3) dX12_loads_2 rfl rfl rfl ?_
    refine r_sipush (q := 6) (nI 1173) dX12_loads_3 rfl (by decide) ?_
    refine r_icmp_geN (q := 9) (t := 37) (by omega) (by omega) dX12_loads_6 (by decide) rfl (fun h6 => absurd h6 (by omega)) (fun h6 => ?_)
    refine r_aload_n (q := 10) dX12_loads_9 rfl rfl rfl ?_
    refine r_getr (q := 13) (some (1322, 0)) ck12 dX12_loads_10 rfl (k := 22) (by decide) wt1300 rfl (hs.e (by decide)) (hs.r (by decide) (by decide)) ?_
    refine r_sipush (q := 16) (nI 1173) dX12_loads_13 rfl (by decide) ?_
    refine r_iload_n (q := 17) dX12_loads_16 rfl rfl rfl ?_
    refine r_iaddN (q := 18) dX12_loads_17 rfl ?_
    refine r_aload_n (q := 19) dX12_loads_18 rfl rfl rfl ?_
    refine r_getr (q := 22) (some (1391, 0)) ck12 dX12_loads_19 rfl (k := 91) (by decide) wt1369 rfl (hs.e (by decide)) (hs.r (by decide) (by decide)) ?_
    refine r_sipush (q := 25) (nI 3775) dX12_loads_22 rfl (by decide) ?_
    refine r_iload_n (q := 26) dX12_loads_25 rfl rfl rfl ?_
    refine r_imulN (q := 27) dX12_loads_26 rfl ?_
    refine r_iload_n (q := 28) dX12_loads_27 rfl rfl rfl ?_
    refine r_iaddN (q := 29) dX12_loads_28 rfl ?_
    refine r_ialdN (q := 30) 7550 (by decide) rfl dX12_loads_29 rfl (hs.e (by decide)) (hs.n rfl (by decide)) (by omega) (by decide) ?_
    refine r_iastN (q := 31) 2346 (by decide) rfl dX12_loads_30 rfl (hs.e (by decide)) (hs.n rfl (by decide)) (by omega) (by decide) ?_
    refine r_iincN (q := 34) (L' := [some (zr 12 0), some (zi (nI m)), some (zi (nI (i + 1)))]) 1 rfl dX12_loads_31 rfl rfl (by decide) rfl ?_
    refine r_goto (q := 2) dX12_loads_34 (by decide) ?_
    have f1 : Fr tLd S0 (sI S 1322 0 (1173 + i) (gI S 1391 0 (3775 * m + i))) := f0.i (by simp [tLd])
    refine ih (i + 1) _ (by omega) (hs.fr ((Fr.rf).i (by simp [tLd]) : Fr tLd S (sI S 1322 0 (1173 + i) (gI S 1391 0 (3775 * m + i))))) S0 f1 (fun k hk' => ?_)
    rw [gI_sI]
    by_cases e : k = i
    · rw [if_pos ⟨rfl, rfl, by omega⟩, e, e1]
    · rw [if_neg (by omega)]; exact hk k (by omega)

set_option maxRecDepth 100000 in
theorem ok_loads {S : zS} (hs : Sd S) {m : Nat} (hm : m < 2) : Ok mX12_loads 0 (ent 3 [zr 12 0, zi (nI m)]) [] S (fun r S1 => r = none ∧ Fr tLd S S1 ∧ (∀ k, k < 1173 → gI S1 1322 0 (1173 + k) = gI S 1391 0 (3775 * m + k)) ∧ gI S1 1323 0 1 = nI 0) := by
  show Ok mX12_loads 0 [some (zr 12 0), some (zi (nI m)), none] [] S _
  refine r_iconst (q := 1) (nI 0) dX12_loads_0 rfl (by decide) ?_
  refine r_istore_n (q := 2) (L' := [some (zr 12 0), some (zi (nI m)), some (zi (nI 0))]) dX12_loads_1 rfl rfl (by decide) rfl ?_
  exact lp_ld2 hm 1173 0 S (by omega) hs S Fr.rf (fun k hk => absurd hk (by omega))

