/-! dual: the reference -/
theorem wqR.law {b b' : Nat → Int32} {n9 : Nat → Int64} {W : zWd} (h : Wok W) (hc : wqR W b n9) {n : Nat} {c : List zT} (hL18 : wL W < 18) (hl : lf W (wL W) + c.length ≤ 200) (e2 : b' 2 = nI (wL W + 1)) (e7 : b' (7 + wL W) = nI n) (e25 : b' (25 + wL W + 1) = nI (lf W (wL W) + c.length)) (eT : ∀ k, k < c.length → b' (44 + lf W (wL W) + k) = nI (cd (c.getD k zd).1) ∧ b' (244 + lf W (wL W) + k) = nI (c.getD k zd).2) (eI : ∀ k, k ≠ 2 → k ≠ 7 + wL W → k ≠ 25 + wL W + 1 → (k < 44 + lf W (wL W) ∨ 44 + lf W (wL W) + c.length ≤ k) → (k < 244 + lf W (wL W) ∨ 244 + lf W (wL W) + c.length ≤ k) → b' k = b k) : wqR (addW W n c) b' n9 := by
  have hA := h.2.1.1
  obtain ⟨h1, h2, h3, h4, h5, h6, h7⟩ := hc
  refine ⟨(eI _ (by omega) (by omega) (by omega) (by omega) (by omega)).trans h1, (eI _ (by omega) (by omega) (by omega) (by omega) (by omega)).trans h2, by rw [addW_L]; exact e2, fun a ha => ?_, fun L hL => ?_, fun L hL => ?_, fun L k hL hk => ?_⟩
  · have ha' : a < wA W := ha
    exact ⟨(eI _ (by omega) (by omega) (by omega) (by omega) (by omega)).trans (h4 a ha').1, (h4 a ha').2⟩
  · rw [addW_L] at hL
    by_cases e : L = wL W
    · subst e
      rw [addW_eq]
      exact e7
    · rw [addW_lt (by omega)]
      exact (eI _ (by omega) (by omega) (by omega) (by omega) (by omega)).trans (h5 L (by omega))
  · rw [addW_L] at hL
    by_cases e : L = wL W + 1
    · subst e
      rw [addW_f1]
      exact e25
    · rw [addW_f (by omega)]
      exact (eI _ (by omega) (by omega) (by omega) (by omega) (by omega)).trans (h6 L (by omega))
  · rw [addW_L] at hL
    by_cases e : L = wL W
    · subst e
      rw [addW_eq] at hk ⊢
      rw [addW_f (Nat.le_refl _)]
      have hk : k < c.length := hk
      have := eT k hk
      exact ⟨by rw [← Nat.add_assoc]; exact this.1, by rw [← Nat.add_assoc]; exact this.2⟩
    · have hL' : L < wL W := by omega
      rw [addW_lt hL'] at hk ⊢
      have b1 := lf_succ hL'
      have b2 := lf_mono (W := W) (show L + 1 ≤ wL W from hL')
      rw [addW_f (by omega)]
      have := h7 L k hL' hk
      exact ⟨(eI _ (by omega) (by omega) (by omega) (by omega) (by omega)).trans this.1, (eI _ (by omega) (by omega) (by omega) (by omega) (by omega)).trans this.2⟩

def t07 (a b _k : Nat) : Bool := a == 1307 && b == 0
def tPz (a b _k : Nat) : Bool := a == 1365 && b == 0

set_option maxRecDepth 100000 in
theorem lp_md26 {P n : Nat} {Po : Option zV → zS → Prop} : ∀ (d i : Nat) (S : zS), i + d = 1173 → Sd S → (∀ j, j < i → gI S 1307 0 j = if j < 7 then gI S 1306 0 j else nI 0) → (∀ S1, Fr t07 S S1 → (∀ j, j < 1173 → gI S1 1307 0 j = if j < 7 then gI S 1306 0 j else nI 0) → Ok mX12_makeDual 61 [some (zr 12 0), some (zi (nI P)), some (zi (nI n)), some (zi (nI 1173)), none, none, none, none] [] S1 Po) → Ok mX12_makeDual 26 [some (zr 12 0), some (zi (nI P)), some (zi (nI n)), some (zi (nI i)), none, none, none, none] [] S Po := by
  intro d
  induction d with
  | zero =>
    intro i S hi hs hlo K
    obtain rfl : i = 1173 := by omega
    refine r_iload_n (q := 27) dX12_makeDual_26 rfl rfl rfl ?_
    refine r_sipush (q := 30) (nI 1173) dX12_makeDual_27 rfl (by decide) ?_
    refine r_icmp_geN (q := 33) (t := 61) (by omega) (by omega) dX12_makeDual_30 (by decide) rfl (fun h30 => ?_) (fun h30 => absurd h30 (by omega))
    exact K S Fr.rf hlo
  | succ d ih =>
    intro i S hi hs hlo K
    by_cases h7 : i < 7
    · skip
      refine r_iload_n (q := 27) dX12_makeDual_26 rfl rfl rfl ?_
      refine r_sipush (q := 30) (nI 1173) dX12_makeDual_27 rfl (by decide) ?_
      refine r_icmp_geN (q := 33) (t := 61) (by omega) (by omega) dX12_makeDual_30 (by decide) rfl (fun h30 => absurd h30 (by omega)) (fun h30 => ?_)
      refine r_aload_n (q := 34) dX12_makeDual_33 rfl rfl rfl ?_
      refine r_getr (q := 37) (some (1307, 0)) ck12 dX12_makeDual_34 rfl (k := 7) (by decide) wt1285 rfl (hs.e (by decide)) (hs.r (by decide) (by decide)) ?_
      refine r_iload_n (q := 38) dX12_makeDual_37 rfl rfl rfl ?_
      refine r_iload_n (q := 39) dX12_makeDual_38 rfl rfl rfl ?_
      refine r_bipush (q := 41) (nI 7) dX12_makeDual_39 rfl (by decide) ?_
      refine r_icmp_geN (q := 44) (t := 53) (by omega) (by omega) dX12_makeDual_41 (by decide) rfl (fun h41 => absurd h41 (by omega)) (fun h41 => ?_)
      refine r_aload_n (q := 45) dX12_makeDual_44 rfl rfl rfl ?_
      refine r_getr (q := 48) (some (1306, 0)) ck12 dX12_makeDual_45 rfl (k := 6) (by decide) wt1284 rfl (hs.e (by decide)) (hs.r (by decide) (by decide)) ?_
      refine r_iload_n (q := 49) dX12_makeDual_48 rfl rfl rfl ?_
      refine r_ialdN (q := 50) 3775 (by decide) rfl dX12_makeDual_49 rfl (hs.e (by decide)) (hs.n rfl (by decide)) (by omega) (by decide) ?_
      refine r_goto (q := 54) dX12_makeDual_50 (by decide) ?_
      refine r_iastN (q := 55) 1173 (by decide) rfl dX12_makeDual_54 rfl (hs.e (by decide)) (hs.n rfl (by decide)) (by omega) (by decide) ?_
      refine r_iincN (q := 58) (L' := [some (zr 12 0), some (zi (nI P)), some (zi (nI n)), some (zi (nI (i + 1))), none, none, none, none]) 1 rfl dX12_makeDual_55 rfl rfl (by decide) rfl ?_
      refine r_goto (q := 26) dX12_makeDual_58 (by decide) ?_
      have f1 : Fr t07 S (sI S 1307 0 i (gI S 1306 0 i)) := Fr.rf.i rfl
      have e06 : ∀ j, gI (sI S 1307 0 i (gI S 1306 0 i)) 1306 0 j = gI S 1306 0 j := fun j => f1.1 _ _ _ rfl
      refine ih (i + 1) (sI S 1307 0 i (gI S 1306 0 i)) (by omega) hs (fun j hj => ?_) (fun S1 f2 y => K S1 (f1.tr f2) (fun j hj => (y j hj).trans (by rw [e06])))
      rw [e06, gI_sI]
      by_cases e : j = i
      · rw [if_pos ⟨rfl, rfl, e⟩, e]; rw [if_pos h7]
      · rw [if_neg (fun z => e z.2.2)]; exact hlo j (by omega)
    · skip
      refine r_iload_n (q := 27) dX12_makeDual_26 rfl rfl rfl ?_
      refine r_sipush (q := 30) (nI 1173) dX12_makeDual_27 rfl (by decide) ?_
      refine r_icmp_geN (q := 33) (t := 61) (by omega) (by omega) dX12_makeDual_30 (by decide) rfl (fun h30 => absurd h30 (by omega)) (fun h30 => ?_)
      refine r_aload_n (q := 34) dX12_makeDual_33 rfl rfl rfl ?_
      refine r_getr (q := 37) (some (1307, 0)) ck12 dX12_makeDual_34 rfl (k := 7) (by decide) wt1285 rfl (hs.e (by decide)) (hs.r (by decide) (by decide)) ?_
      refine r_iload_n (q := 38) dX12_makeDual_37 rfl rfl rfl ?_
      refine r_iload_n (q := 39) dX12_makeDual_38 rfl rfl rfl ?_
      refine r_bipush (q := 41) (nI 7) dX12_makeDual_39 rfl (by decide) ?_
      refine r_icmp_geN (q := 44) (t := 53) (by omega) (by omega) dX12_makeDual_41 (by decide) rfl (fun h41 => ?_) (fun h41 => absurd h41 (by omega))
      refine r_iconst (q := 54) (nI 0) dX12_makeDual_53 rfl (by decide) ?_
      refine r_iastN (q := 55) 1173 (by decide) rfl dX12_makeDual_54 rfl (hs.e (by decide)) (hs.n rfl (by decide)) (by omega) (by decide) ?_
      refine r_iincN (q := 58) (L' := [some (zr 12 0), some (zi (nI P)), some (zi (nI n)), some (zi (nI (i + 1))), none, none, none, none]) 1 rfl dX12_makeDual_55 rfl rfl (by decide) rfl ?_
      refine r_goto (q := 26) dX12_makeDual_58 (by decide) ?_
      have f1 : Fr t07 S (sI S 1307 0 i (nI 0)) := Fr.rf.i rfl
      have e06 : ∀ j, gI (sI S 1307 0 i (nI 0)) 1306 0 j = gI S 1306 0 j := fun j => f1.1 _ _ _ rfl
      refine ih (i + 1) (sI S 1307 0 i (nI 0)) (by omega) hs (fun j hj => ?_) (fun S1 f2 y => K S1 (f1.tr f2) (fun j hj => (y j hj).trans (by rw [e06])))
      rw [e06, gI_sI]
      by_cases e : j = i
      · rw [if_pos ⟨rfl, rfl, e⟩, e]; rw [if_neg h7]
      · rw [if_neg (fun z => e z.2.2)]; exact hlo j (by omega)

set_option maxRecDepth 100000 in
theorem lp_md77 {P n : Nat} (hn18 : n ≤ 18) {Po : Option zV → zS → Prop} : ∀ (d i : Nat) (S : zS), i + d = n → Sd S → (∀ j, j < i → gI S 1365 0 j = nI 0) → (∀ S1, Fr tPz S S1 → PvS S1 n (fun _ => none) → Ok mX12_makeDual 95 [some (zr 12 0), some (zi (nI P)), some (zi (nI n)), some (zi (nI n)), none, none, none, none] [] S1 Po) → Ok mX12_makeDual 77 [some (zr 12 0), some (zi (nI P)), some (zi (nI n)), some (zi (nI i)), none, none, none, none] [] S Po := by
  intro d
  induction d with
  | zero =>
    intro i S hi hs hlo K
    obtain rfl : n = i := by omega
    refine r_iload_n (q := 78) dX12_makeDual_77 rfl rfl rfl ?_
    refine r_iload_n (q := 79) dX12_makeDual_78 rfl rfl rfl ?_
    refine r_icmp_geN (q := 82) (t := 95) (by omega) (by omega) dX12_makeDual_79 (by decide) rfl (fun h79 => ?_) (fun h79 => absurd h79 (by omega))
    exact K S Fr.rf (fun c hc => hlo c hc)
  | succ d ih =>
    intro i S hi hs hlo K
    refine r_iload_n (q := 78) dX12_makeDual_77 rfl rfl rfl ?_
    refine r_iload_n (q := 79) dX12_makeDual_78 rfl rfl rfl ?_
    refine r_icmp_geN (q := 82) (t := 95) (by omega) (by omega) dX12_makeDual_79 (by decide) rfl (fun h79 => absurd h79 (by omega)) (fun h79 => ?_)
    refine r_aload_n (q := 83) dX12_makeDual_82 rfl rfl rfl ?_
    refine r_getr (q := 86) (some (1365, 0)) ck12 dX12_makeDual_83 rfl (k := 65) (by decide) wt1343 rfl (hs.e (by decide)) (hs.r (by decide) (by decide)) ?_
    refine r_iload_n (q := 87) dX12_makeDual_86 rfl rfl rfl ?_
    refine r_iconst (q := 88) (nI 0) dX12_makeDual_87 rfl (by decide) ?_
    refine r_iastN (q := 89) 18 (by decide) rfl dX12_makeDual_88 rfl (hs.e (by decide)) (hs.n rfl (by decide)) (by omega) (by decide) ?_
    refine r_iincN (q := 92) (L' := [some (zr 12 0), some (zi (nI P)), some (zi (nI n)), some (zi (nI (i + 1))), none, none, none, none]) 1 rfl dX12_makeDual_89 rfl rfl (by decide) rfl ?_
    refine r_goto (q := 77) dX12_makeDual_92 (by decide) ?_
    have f1 : Fr tPz S (sI S 1365 0 i (nI 0)) := Fr.rf.i rfl
    refine ih (i + 1) (sI S 1365 0 i (nI 0)) (by omega) hs (fun j hj => ?_) (fun S1 f2 z => K S1 (f1.tr f2) z)
    rw [gI_sI]
    by_cases e : j = i
    · rw [if_pos ⟨rfl, rfl, e⟩]
    · rw [if_neg (fun z => e z.2.2)]; exact hlo j (by omega)

/-- what makeDual reads while it tells the laws -/
def MdI (S : zS) (W : zWd) (n P k F : Nat) (pv : Nat → Option Nat) (g : Nat → Nat → Nat) : Prop := Sd S ∧ PvS S n pv ∧ RwS S k n P g ∧ Co S F (tl W 3) ∧ gI S 1325 0 3 = nI F
theorem MdI.fr {S S1 : zS} {W : zWd} {n P k F : Nat} {pv : Nat → Option Nat} {g : Nat → Nat → Nat} (h : MdI S W n P k F pv g) (f : Fr t07 S S1) : MdI S1 W n P k F pv g := ⟨h.1.fr f, h.2.1.fr f (fun _ => rfl), h.2.2.1.fr f (fun _ => rfl), fun j hj => ⟨(f.1 _ _ _ rfl).trans (h.2.2.2.1 j hj).1, (h.2.2.2.1 j hj).2⟩, (f.1 _ _ _ rfl).trans h.2.2.2.2⟩
/-- terms told so far, the rest of h as it was -/
def HpS (S0 S : zS) (to : Nat) (pre : List zT) : Prop := (∀ k, k < pre.length → gI S 1307 0 (44 + to + k) = nI (cd (pre.getD k zd).1) ∧ gI S 1307 0 (244 + to + k) = nI (pre.getD k zd).2) ∧ ∀ k, (k < 44 + to ∨ 44 + to + pre.length ≤ k) → (k < 244 + to ∨ 244 + to + pre.length ≤ k) → gI S 1307 0 k = gI S0 1307 0 k
theorem HpS.put {S0 S : zS} {to : Nat} {pre : List zT} (h : HpS S0 S to pre) (hl : to + pre.length < 200) (t : List Nat) (v : Nat) : HpS S0 (sI (sI S 1307 0 (44 + (to + pre.length)) (nI (cd t))) 1307 0 (244 + (to + pre.length)) (nI v)) to (pre ++ [(t, v)]) := by
  refine ⟨fun k hk => ?_, fun k h1 h2 => ?_⟩
  · rw [List.length_append] at hk
    have hk : k < pre.length + 1 := hk
    rw [gI_sI, if_neg (by omega), gI_sI, gI_sI]
    by_cases e : k = pre.length
    · have e1 : (pre ++ [(t, v)]).getD k zd = (t, v) := by rw [e]; exact getD_snoc_eq
      rw [if_pos ⟨rfl, rfl, by omega⟩, if_pos ⟨rfl, rfl, by omega⟩, e1]
      exact ⟨rfl, rfl⟩
    · have e1 : (pre ++ [(t, v)]).getD k zd = pre.getD k zd := getD_snoc_lt (by omega)
      rw [if_neg (fun z => e (by omega)), if_neg (fun z => e (by omega)), gI_sI, if_neg (by omega), e1]
      exact h.1 k (by omega)
  · rw [List.length_append] at h1 h2
    have h1 : k < 44 + to ∨ 44 + to + (pre.length + 1) ≤ k := h1
    have h2 : k < 244 + to ∨ 244 + to + (pre.length + 1) ≤ k := h2
    rw [gI_sI, if_neg (by omega), gI_sI, if_neg (by omega)]
    exact h.2 k (by omega) (by omega)

set_option maxRecDepth 100000 in
theorem lp_md155 {W : zWd} (hW : Wok W) {n P k F : Nat} (hn : n = (tl W 3).length) (hPW : P = wP W) (hn18 : n ≤ 18) (hk18 : k ≤ 18) (hF : F + (tl W 3).length ≤ 4400) {pv : Nat → Option Nat} {g : Nat → Nat → Nat} {Z : (Nat → Int) → Prop} (hC : CI P k n Z k n pv g) {mk : Nat → Bool} {R : Nat → Nat → Nat} (hmk : ∀ c, mk c = (pv c).isSome) (hR : ∀ c, R c = g ((pv c).getD 0)) {f l to : Nat} (hf : f < n) (hl18 : l < 18) (hto : to + (dlw mk R P (tl W 3) f).length ≤ 200) {S0 : zS} {Po : Option zV → zS → Prop} : ∀ (m : Nat) (S : zS) (pre : List zT) (w7 : Option zV), m ≤ f → pre ++ dtm mk R P (tl W 3) f m = dlw mk R P (tl W 3) f → MdI S W n P k F pv g → Fr t07 S0 S → HpS S0 S to pre → (∀ S1 w6 w7, Fr t07 S0 S1 → HpS S0 S1 to (dlw mk R P (tl W 3) f) → Ok mX12_makeDual 263 [some (zr 12 0), some (zi (nI P)), some (zi (nI n)), some (zi (nI f)), some (zi (nI l)), some (zi (nI (to + (dlw mk R P (tl W 3) f).length))), w6, w7] [] S1 Po) → Ok mX12_makeDual 155 [some (zr 12 0), some (zi (nI P)), some (zi (nI n)), some (zi (nI f)), some (zi (nI l)), some (zi (nI (to + pre.length))), some (zi (nI m - 1)), w7] [] S Po := by
  have hPP := hW.1
  intro m
  induction m with
  | zero =>
    intro S pre w7 hm hpre hI f0 hH K
    have hs := hI.1
    have e : pre = dlw mk R P (tl W 3) f := by rw [← hpre]; exact (List.append_nil pre).symm
    refine r_mask [true, true, true, true, true, true, true, false] rfl ?_
    refine r_locs (L1 := [some (zr 12 0), some (zi (nI P)), some (zi (nI n)), some (zi (nI f)), some (zi (nI l)), some (zi (nI (to + pre.length))), some (zi (-1 : Int32)), none]) rfl ?_
    refine r_iload (q := 157) dX12_makeDual_155 rfl rfl ?_
    refine r_if_lt (q := 160) (t := 263) dX12_makeDual_157 (by decide) rfl (fun h157 => ?_) (fun h157 => absurd h157 ((by decide)))
    rw [e] at hH ⊢
    exact K S _ _ f0 hH
  | succ m ih =>
    intro S pre w7 hm hpre hI f0 hH K
    obtain ⟨hs, hV, hRw, hCo, hFr⟩ := id hI
    have hmn : m < n := by omega
    have hpm := hV m hmn
    have hco := hCo m (by omega)
    have hlp := congrArg List.length hpre
    rw [List.length_append] at hlp
    refine r_mask [true, true, true, true, true, true, true, false] rfl ?_
    refine r_locs (L1 := [some (zr 12 0), some (zi (nI P)), some (zi (nI n)), some (zi (nI f)), some (zi (nI l)), some (zi (nI (to + pre.length))), some (zi (nI m)), none]) (by rw [nI_pred]; rfl) ?_
    cases hpv : pv m with
    | none =>
      rw [hpv] at hpm
      have hpm : gI S 1365 0 m = nI 0 := hpm
      have hmm : mk m = false := by rw [hmk, hpv]; rfl
      have hd : dtm mk R P (tl W 3) f (m + 1) = dtm mk R P (tl W 3) f m := by rw [dtm, if_neg (fun z => by rw [hmm] at z; exact absurd z.1 (by decide))]
      refine r_iload (q := 157) dX12_makeDual_155 rfl rfl ?_
      refine r_if_ltN (q := 160) (t := 263) (by omega) dX12_makeDual_157 (by decide) rfl ?_
      refine r_iload (q := 162) dX12_makeDual_160 rfl rfl ?_
      refine r_iload_n (q := 163) dX12_makeDual_162 rfl rfl rfl ?_
      refine r_icmp_neN (q := 166) (t := 170) (by omega) (by omega) dX12_makeDual_163 (by decide) rfl (fun h163 => ?_) (fun h163 => absurd h163 (by omega))
      refine r_aload_n (q := 171) dX12_makeDual_170 rfl rfl rfl ?_
      refine r_getr (q := 174) (some (1365, 0)) ck12 dX12_makeDual_171 rfl (k := 65) (by decide) wt1343 rfl (hs.e (by decide)) (hs.r (by decide) (by decide)) ?_
      refine r_iload (q := 176) dX12_makeDual_174 rfl rfl ?_
      refine r_ialdN (q := 177) 18 (by decide) rfl dX12_makeDual_176 rfl (hs.e (by decide)) (hs.n rfl (by decide)) (by omega) (by decide) ?_
      refine r_topi (y := nI 0) hpm ?_
      refine r_if_leN (q := 180) (t := 206) (by omega) dX12_makeDual_177 (by decide) rfl (fun h177 => ?_) (fun h177 => absurd h177 (by omega))
      refine r_iconst (q := 207) (nI 0) dX12_makeDual_206 rfl (by decide) ?_
      refine r_istore (q := 209) (L' := [some (zr 12 0), some (zi (nI P)), some (zi (nI n)), some (zi (nI f)), some (zi (nI l)), some (zi (nI (to + pre.length))), some (zi (nI m)), some (zi (nI 0))]) dX12_makeDual_207 rfl (by decide) rfl ?_
      refine r_iload (q := 211) dX12_makeDual_209 rfl rfl ?_
      refine r_if_neN (q := 214) (t := 217) (by omega) dX12_makeDual_211 (by decide) rfl (fun h211 => absurd h211 (by omega)) (fun h211 => ?_)
      refine r_goto (q := 257) dX12_makeDual_214 (by decide) ?_
      refine r_iinc (q := 260) (L' := [some (zr 12 0), some (zi (nI P)), some (zi (nI n)), some (zi (nI f)), some (zi (nI l)), some (zi (nI (to + pre.length))), some (zi ((nI m) + (-1))), some (zi (nI 0))]) ((nI m) + (-1)) dX12_makeDual_257 rfl rfl (by decide) rfl rfl ?_
      refine r_goto (q := 155) dX12_makeDual_260 (by decide) ?_
      rw [Int32.sub_eq_add_neg] at ih
      exact ih S pre _ (by omega) (by rw [← hd]; exact hpre) hI f0 hH K
    | some p =>
      rw [hpv] at hpm
      have hpm : gI S 1365 0 m = nI (p + 1) := hpm
      have hmm : mk m = true := by rw [hmk, hpv]; rfl
      have hRm : R m = g p := by rw [hR, hpv]; rfl
      have hpk := (hC.2.2.2.1 m p hmn hpv).1
      obtain ⟨hgf, hgP⟩ := hRw p f hpk hf
      by_cases z0 : g p f = 0
      · have hd : dtm mk R P (tl W 3) f (m + 1) = dtm mk R P (tl W 3) f m := by rw [dtm, if_neg (fun z => z.2 (by rw [hRm]; exact z0))]
        have hv : (P - g p f) % P = 0 := by rw [z0, Nat.sub_zero, Nat.mod_self]
        refine r_iload (q := 157) dX12_makeDual_155 rfl rfl ?_
        refine r_if_ltN (q := 160) (t := 263) (by omega) dX12_makeDual_157 (by decide) rfl ?_
        refine r_iload (q := 162) dX12_makeDual_160 rfl rfl ?_
        refine r_iload_n (q := 163) dX12_makeDual_162 rfl rfl rfl ?_
        refine r_icmp_neN (q := 166) (t := 170) (by omega) (by omega) dX12_makeDual_163 (by decide) rfl (fun h163 => ?_) (fun h163 => absurd h163 (by omega))
        refine r_aload_n (q := 171) dX12_makeDual_170 rfl rfl rfl ?_
        refine r_getr (q := 174) (some (1365, 0)) ck12 dX12_makeDual_171 rfl (k := 65) (by decide) wt1343 rfl (hs.e (by decide)) (hs.r (by decide) (by decide)) ?_
        refine r_iload (q := 176) dX12_makeDual_174 rfl rfl ?_
        refine r_ialdN (q := 177) 18 (by decide) rfl dX12_makeDual_176 rfl (hs.e (by decide)) (hs.n rfl (by decide)) (by omega) (by decide) ?_
        refine r_topi (y := nI (p + 1)) hpm ?_
        refine r_if_leN (q := 180) (t := 206) (by omega) dX12_makeDual_177 (by decide) rfl (fun h177 => absurd h177 (by omega)) (fun h177 => ?_)
        refine r_iload_n (q := 181) dX12_makeDual_180 rfl rfl rfl ?_
        refine r_aload_n (q := 182) dX12_makeDual_181 rfl rfl rfl ?_
        refine r_getr (q := 185) (some (1364, 0)) ck12 dX12_makeDual_182 rfl (k := 64) (by decide) wt1342 rfl (hs.e (by decide)) (hs.r (by decide) (by decide)) ?_
        refine r_bipush (q := 187) (nI 18) dX12_makeDual_185 rfl (by decide) ?_
        refine r_aload_n (q := 188) dX12_makeDual_187 rfl rfl rfl ?_
        refine r_getr (q := 191) (some (1365, 0)) ck12 dX12_makeDual_188 rfl (k := 65) (by decide) wt1343 rfl (hs.e (by decide)) (hs.r (by decide) (by decide)) ?_
        refine r_iload (q := 193) dX12_makeDual_191 rfl rfl ?_
        refine r_ialdN (q := 194) 18 (by decide) rfl dX12_makeDual_193 rfl (hs.e (by decide)) (hs.n rfl (by decide)) (by omega) (by decide) ?_
        refine r_topi (y := nI (p + 1)) hpm ?_
        refine r_iconst (q := 195) (nI 1) dX12_makeDual_194 rfl (by decide) ?_
        refine r_isubN (q := 196) (by omega) dX12_makeDual_195 rfl ?_
        refine r_topi (y := nI p) (congrArg nI (Nat.add_sub_cancel p 1)) ?_
        refine r_imulN (q := 197) dX12_makeDual_196 rfl ?_
        refine r_iload_n (q := 198) dX12_makeDual_197 rfl rfl rfl ?_
        refine r_iaddN (q := 199) dX12_makeDual_198 rfl ?_
        refine r_topi (y := nI (18 * p + f)) rfl ?_
        refine r_ialdN (q := 200) 324 (by decide) rfl dX12_makeDual_199 rfl (hs.e (by decide)) (hs.n rfl (by decide)) (by omega) (by decide) ?_
        refine r_topi (y := nI (g p f)) hgf ?_
        refine r_isubN (q := 201) (by omega) dX12_makeDual_200 rfl ?_
        refine r_iload_n (q := 202) dX12_makeDual_201 rfl rfl rfl ?_
        refine r_iremN (q := 203) (by omega) (by omega) (by omega) dX12_makeDual_202 rfl ?_
        refine r_topi (y := nI (0)) (congrArg nI hv) ?_
        refine r_goto (q := 207) dX12_makeDual_203 (by decide) ?_
        refine r_istore (q := 209) (L' := [some (zr 12 0), some (zi (nI P)), some (zi (nI n)), some (zi (nI f)), some (zi (nI l)), some (zi (nI (to + pre.length))), some (zi (nI m)), some (zi (nI 0))]) dX12_makeDual_207 rfl (by decide) rfl ?_
        refine r_iload (q := 211) dX12_makeDual_209 rfl rfl ?_
        refine r_if_neN (q := 214) (t := 217) (by omega) dX12_makeDual_211 (by decide) rfl (fun h211 => absurd h211 (by omega)) (fun h211 => ?_)
        refine r_goto (q := 257) dX12_makeDual_214 (by decide) ?_
        refine r_iinc (q := 260) (L' := [some (zr 12 0), some (zi (nI P)), some (zi (nI n)), some (zi (nI f)), some (zi (nI l)), some (zi (nI (to + pre.length))), some (zi ((nI m) + (-1))), some (zi (nI 0))]) ((nI m) + (-1)) dX12_makeDual_257 rfl rfl (by decide) rfl rfl ?_
        refine r_goto (q := 155) dX12_makeDual_260 (by decide) ?_
        rw [Int32.sub_eq_add_neg] at ih
        exact ih S pre _ (by omega) (by rw [← hd]; exact hpre) hI f0 hH K
      · have hd : dtm mk R P (tl W 3) f (m + 1) = ((tl W 3).getD m [], (P - R m f) % P) :: dtm mk R P (tl W 3) f m := by rw [dtm, if_pos ⟨hmm, by rw [hRm]; exact z0⟩]
        rw [hd, List.length_cons] at hlp
        have hv : (P - g p f) % P = P - g p f := Nat.mod_eq_of_lt (by omega)
        have hvR : P - g p f = (P - R m f) % P := by rw [hRm, hv]
        refine r_iload (q := 157) dX12_makeDual_155 rfl rfl ?_
        refine r_if_ltN (q := 160) (t := 263) (by omega) dX12_makeDual_157 (by decide) rfl ?_
        refine r_iload (q := 162) dX12_makeDual_160 rfl rfl ?_
        refine r_iload_n (q := 163) dX12_makeDual_162 rfl rfl rfl ?_
        refine r_icmp_neN (q := 166) (t := 170) (by omega) (by omega) dX12_makeDual_163 (by decide) rfl (fun h163 => ?_) (fun h163 => absurd h163 (by omega))
        refine r_aload_n (q := 171) dX12_makeDual_170 rfl rfl rfl ?_
        refine r_getr (q := 174) (some (1365, 0)) ck12 dX12_makeDual_171 rfl (k := 65) (by decide) wt1343 rfl (hs.e (by decide)) (hs.r (by decide) (by decide)) ?_
        refine r_iload (q := 176) dX12_makeDual_174 rfl rfl ?_
        refine r_ialdN (q := 177) 18 (by decide) rfl dX12_makeDual_176 rfl (hs.e (by decide)) (hs.n rfl (by decide)) (by omega) (by decide) ?_
        refine r_topi (y := nI (p + 1)) hpm ?_
        refine r_if_leN (q := 180) (t := 206) (by omega) dX12_makeDual_177 (by decide) rfl (fun h177 => absurd h177 (by omega)) (fun h177 => ?_)
        refine r_iload_n (q := 181) dX12_makeDual_180 rfl rfl rfl ?_
        refine r_aload_n (q := 182) dX12_makeDual_181 rfl rfl rfl ?_
        refine r_getr (q := 185) (some (1364, 0)) ck12 dX12_makeDual_182 rfl (k := 64) (by decide) wt1342 rfl (hs.e (by decide)) (hs.r (by decide) (by decide)) ?_
        refine r_bipush (q := 187) (nI 18) dX12_makeDual_185 rfl (by decide) ?_
        refine r_aload_n (q := 188) dX12_makeDual_187 rfl rfl rfl ?_
        refine r_getr (q := 191) (some (1365, 0)) ck12 dX12_makeDual_188 rfl (k := 65) (by decide) wt1343 rfl (hs.e (by decide)) (hs.r (by decide) (by decide)) ?_
        refine r_iload (q := 193) dX12_makeDual_191 rfl rfl ?_
        refine r_ialdN (q := 194) 18 (by decide) rfl dX12_makeDual_193 rfl (hs.e (by decide)) (hs.n rfl (by decide)) (by omega) (by decide) ?_
        refine r_topi (y := nI (p + 1)) hpm ?_
        refine r_iconst (q := 195) (nI 1) dX12_makeDual_194 rfl (by decide) ?_
        refine r_isubN (q := 196) (by omega) dX12_makeDual_195 rfl ?_
        refine r_topi (y := nI p) (congrArg nI (Nat.add_sub_cancel p 1)) ?_
        refine r_imulN (q := 197) dX12_makeDual_196 rfl ?_
        refine r_iload_n (q := 198) dX12_makeDual_197 rfl rfl rfl ?_
        refine r_iaddN (q := 199) dX12_makeDual_198 rfl ?_
        refine r_topi (y := nI (18 * p + f)) rfl ?_
        refine r_ialdN (q := 200) 324 (by decide) rfl dX12_makeDual_199 rfl (hs.e (by decide)) (hs.n rfl (by decide)) (by omega) (by decide) ?_
        refine r_topi (y := nI (g p f)) hgf ?_
        refine r_isubN (q := 201) (by omega) dX12_makeDual_200 rfl ?_
        refine r_iload_n (q := 202) dX12_makeDual_201 rfl rfl rfl ?_
        refine r_iremN (q := 203) (by omega) (by omega) (by omega) dX12_makeDual_202 rfl ?_
        refine r_topi (y := nI (P - g p f)) (congrArg nI hv) ?_
        refine r_goto (q := 207) dX12_makeDual_203 (by decide) ?_
        refine r_istore (q := 209) (L' := [some (zr 12 0), some (zi (nI P)), some (zi (nI n)), some (zi (nI f)), some (zi (nI l)), some (zi (nI (to + pre.length))), some (zi (nI m)), some (zi (nI (P - g p f)))]) dX12_makeDual_207 rfl (by decide) rfl ?_
        refine r_iload (q := 211) dX12_makeDual_209 rfl rfl ?_
        refine r_if_neN (q := 214) (t := 217) (by omega) dX12_makeDual_211 (by decide) rfl (fun h211 => ?_) (fun h211 => absurd h211 (by omega))
        refine r_aload_n (q := 218) dX12_makeDual_217 rfl rfl rfl ?_
        refine r_getr (q := 221) (some (1307, 0)) ck12 dX12_makeDual_218 rfl (k := 7) (by decide) wt1285 rfl (hs.e (by decide)) (hs.r (by decide) (by decide)) ?_
        refine r_bipush (q := 223) (nI 44) dX12_makeDual_221 rfl (by decide) ?_
        refine r_iload (q := 225) dX12_makeDual_223 rfl rfl ?_
        refine r_iaddN (q := 226) dX12_makeDual_225 rfl ?_
        refine r_aload_n (q := 227) dX12_makeDual_226 rfl rfl rfl ?_
        refine r_getr (q := 230) (some (1328, 0)) ck12 dX12_makeDual_227 rfl (k := 28) (by decide) wt1306 rfl (hs.e (by decide)) (hs.r (by decide) (by decide)) ?_
        refine r_aload_n (q := 231) dX12_makeDual_230 rfl rfl rfl ?_
        refine r_getr (q := 234) (some (1325, 0)) ck12 dX12_makeDual_231 rfl (k := 25) (by decide) wt1303 rfl (hs.e (by decide)) (hs.r (by decide) (by decide)) ?_
        refine r_iconst (q := 235) (nI 3) dX12_makeDual_234 rfl (by decide) ?_
        refine r_ialdN (q := 236) 16 (by decide) rfl dX12_makeDual_235 rfl (hs.e (by decide)) (hs.n rfl (by decide)) (by omega) (by decide) ?_
        refine r_topi (y := nI F) hFr ?_
        refine r_iload (q := 238) dX12_makeDual_236 rfl rfl ?_
        refine r_iaddN (q := 239) dX12_makeDual_238 rfl ?_
        refine r_ialdN (q := 240) 4400 (by decide) rfl dX12_makeDual_239 rfl (hs.e (by decide)) (hs.n rfl (by decide)) (by omega) (by decide) ?_
        refine r_topi (y := nI (cd ((tl W 3).getD m []))) hco.1 ?_
        refine r_iastN (q := 241) 1173 (by decide) rfl dX12_makeDual_240 rfl (hs.e (by decide)) (hs.n rfl (by decide)) (by omega) (by decide) ?_
        refine r_aload_n (q := 242) dX12_makeDual_241 rfl rfl rfl ?_
        refine r_getr (q := 245) (some (1307, 0)) ck12 dX12_makeDual_242 rfl (k := 7) (by decide) wt1285 rfl (hs.e (by decide)) (hs.r (by decide) (by decide)) ?_
        refine r_sipush (q := 248) (nI 244) dX12_makeDual_245 rfl (by decide) ?_
        refine r_iload (q := 250) dX12_makeDual_248 rfl rfl ?_
        refine r_iaddN (q := 251) dX12_makeDual_250 rfl ?_
        refine r_iload (q := 253) dX12_makeDual_251 rfl rfl ?_
        refine r_iastN (q := 254) 1173 (by decide) rfl dX12_makeDual_253 rfl (hs.e (by decide)) (hs.n rfl (by decide)) (by omega) (by decide) ?_
        refine r_iincN (q := 257) (L' := [some (zr 12 0), some (zi (nI P)), some (zi (nI n)), some (zi (nI f)), some (zi (nI l)), some (zi (nI (to + pre.length + 1))), some (zi (nI m)), some (zi (nI (P - g p f)))]) 1 rfl dX12_makeDual_254 rfl rfl (by decide) rfl ?_
        refine r_iinc (q := 260) (L' := [some (zr 12 0), some (zi (nI P)), some (zi (nI n)), some (zi (nI f)), some (zi (nI l)), some (zi (nI (to + pre.length + 1))), some (zi ((nI m) + (-1))), some (zi (nI (P - g p f)))]) ((nI m) + (-1)) dX12_makeDual_257 rfl rfl (by decide) rfl rfl ?_
        refine r_goto (q := 155) dX12_makeDual_260 (by decide) ?_
        rw [Int32.sub_eq_add_neg] at ih
        have f1 : Fr t07 S (sI (sI S 1307 0 (44 + (to + pre.length)) (nI (cd ((tl W 3).getD m [])))) 1307 0 (244 + (to + pre.length)) (nI (P - g p f))) := (Fr.rf.i rfl).i rfl
        have hH1 := hH.put (by omega) ((tl W 3).getD m []) (P - g p f)
        have el : to + (pre ++ [((tl W 3).getD m [], P - g p f)]).length = to + pre.length + 1 := by rw [List.length_append]; rfl
        have := ih (sI (sI S 1307 0 (44 + (to + pre.length)) (nI (cd ((tl W 3).getD m [])))) 1307 0 (244 + (to + pre.length)) (nI (P - g p f))) (pre ++ [((tl W 3).getD m [], P - g p f)]) (some (zi (nI (P - g p f)))) (by omega) (by rw [List.append_assoc, ← hpre, hd, ← hvR]; rfl) (hI.fr f1) (f0.tr f1) hH1 K
        rw [el] at this
        exact this

