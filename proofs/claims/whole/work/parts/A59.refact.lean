/-! a line of a world: the reference -/
/-- a world that is being read, in the reference: the row h, the names from 3 on -/
def WHr (S : zS) (W : zWd) : Prop := wqR W (fun k => gI S 1307 0 k) (fun i => gJ S 1308 0 (3 + i))
def tLn (a b k : Nat) : Bool := tRs a b k || a == 1307 && b == 0 || a == 1308 && b == 0 && decide (3 ≤ k) || a == 12 && b == 0 && k == 56 || a == 1322 && b == 0 && decide (1173 ≤ k)
theorem tLn_s (a b k : Nat) (h : tRs a b k = true) : tLn a b k = true := by simp [tLn, h]
theorem tLn_x (a b k : Nat) (h : tNx a b k = true) : tLn a b k = true := tLn_s a b k (tRs_b a b k h)
theorem tLn_d (a b k : Nat) (h : tBd a b k = true) : tLn a b k = true := tLn_s a b k (tRs_q a b k (tRq_b a b k (tNb_d a b k h)))
/-- what a line leaves: the fault, or the world so far and what is left to read -/
def LnR (S S1 : zS) (bs : List Nat) (lim : Nat) (r : Option zV) : zEr ⊕ ((Bool × zWd) × List zTk) → Prop
  | Sum.inl x => r = some (zi (nI 0)) ∧ Fr tLn S S1 ∧ Fq S1 x
  | Sum.inr ((told, W), ts) => r = some (zi (nI 1)) ∧ Fr tLn S S1 ∧ gI S1 12 0 13 = gI S 12 0 13 ∧ Rr S1 bs lim ts ∧ WHr S1 W ∧ gI S1 12 0 56 = nI (b01 told) ∧ ∀ k, k = 3 ∨ 444 ≤ k → gI S1 1307 0 k = gI S 1307 0 k
theorem WHr.ext {S S1 : zS} {W : zWd} (h : WHr S W) (eI : ∀ k, gI S1 1307 0 k = gI S 1307 0 k) (eJ : ∀ k, gJ S1 1308 0 k = gJ S 1308 0 k) : WHr S1 W := by
  obtain ⟨h1, h2, h3, h4, h5, h6, h7⟩ := h
  exact ⟨(eI _).trans h1, (eI _).trans h2, (eI _).trans h3, fun a ha => ⟨(eI _).trans (h4 a ha).1, (eJ _).trans (h4 a ha).2⟩, fun L hL => (eI _).trans (h5 L hL), fun L hL => (eI _).trans (h6 L hL), fun L k hL hk => ⟨(eI _).trans (h7 L k hL hk).1, (eI _).trans (h7 L k hL hk).2⟩⟩
theorem WHr.fr {S S1 : zS} {W : zWd} {T : Nat → Nat → Nat → Bool} (h : WHr S W) (f : Fr T S S1) (t : ∀ k, T 1307 0 k = false ∧ T 1308 0 k = false) : WHr S1 W := h.ext (fun k => f.1 _ _ _ (t k).1) (fun k => f.2.1 _ _ _ (t k).2)
theorem WHr.prime {S S1 : zS} {W : zWd} (h : WHr S W) {v : Nat} (e0 : gI S1 1307 0 0 = nI v) (eI : ∀ k, k ≠ 0 → gI S1 1307 0 k = gI S 1307 0 k) (eJ : ∀ k, gJ S1 1308 0 k = gJ S 1308 0 k) : WHr S1 (v, W.2) := by
  obtain ⟨h1, h2, h3, h4, h5, h6, h7⟩ := h
  exact ⟨e0, (eI _ (by omega)).trans h2, (eI _ (by omega)).trans h3, fun a ha => ⟨(eI _ (by omega)).trans (h4 a ha).1, (eJ _).trans (h4 a ha).2⟩, fun L hL => (eI _ (by omega)).trans (h5 L hL), fun L hL => (eI _ (by omega)).trans (h6 L hL), fun L k hL hk => ⟨(eI _ (by omega)).trans (h7 L k hL hk).1, (eI _ (by omega)).trans (h7 L k hL hk).2⟩⟩
theorem WHr.act {S S1 : zS} {W : zWd} (h : Wok W) (hc : WHr S W) (hL : wL W = 0) {x v : Nat} (e1 : gI S1 1307 0 1 = nI (wA W + 1)) (e4 : gI S1 1307 0 (4 + wA W) = nI v) (ej : gJ S1 1308 0 (3 + wA W) = lN x) (hA : wA W < 3) (eI : ∀ k, k ≠ 1 → k ≠ 4 + wA W → gI S1 1307 0 k = gI S 1307 0 k) (eJ : ∀ k, k ≠ 3 + wA W → gJ S1 1308 0 k = gJ S 1308 0 k) : WHr S1 (actW W v x) := by
  have hn := h.2.2.1.1
  obtain ⟨h1, h2, h3, h4, h5, h6, h7⟩ := hc
  refine ⟨(eI _ (by omega) (by omega)).trans h1, by rw [actW_A]; exact e1, (eI _ (by omega) (by omega)).trans h3, fun a ha => ?_, fun L hL' => absurd hL' (by show ¬ L < wL W; omega), fun L hL' => ?_, fun L k hL' => absurd hL' (by show ¬ L < wL W; omega)⟩
  · rw [actW_A] at ha
    by_cases e : a = wA W
    · subst e
      rw [actW_e1, actW_n1 hn]
      exact ⟨e4, ej⟩
    · rw [actW_e (by omega), actW_n hn (by omega)]
      have := h4 a (by omega)
      exact ⟨(eI _ (by omega) (by omega)).trans this.1, (eJ _ (by omega)).trans this.2⟩
  · have hL2 : L ≤ wL W := hL'
    exact (eI _ (by omega) (by omega)).trans (h6 L hL2)
theorem WHr.law {S S1 : zS} {W : zWd} (h : Wok W) (hc : WHr S W) {n : Nat} {c : List zT} (hL18 : wL W < 18) (hl : lf W (wL W) + c.length ≤ 200) (e2 : gI S1 1307 0 2 = nI (wL W + 1)) (e7 : gI S1 1307 0 (7 + wL W) = nI n) (e25 : gI S1 1307 0 (25 + wL W + 1) = nI (lf W (wL W) + c.length)) (eT : ∀ k, k < c.length → gI S1 1307 0 (44 + lf W (wL W) + k) = nI (cd (c.getD k zd).1) ∧ gI S1 1307 0 (244 + lf W (wL W) + k) = nI (c.getD k zd).2) (eI : ∀ k, k ≠ 2 → k ≠ 7 + wL W → k ≠ 25 + wL W + 1 → (k < 44 + lf W (wL W) ∨ 44 + lf W (wL W) + c.length ≤ k) → (k < 244 + lf W (wL W) ∨ 244 + lf W (wL W) + c.length ≤ k) → gI S1 1307 0 k = gI S 1307 0 k) (eJ : ∀ k, gJ S1 1308 0 k = gJ S 1308 0 k) : WHr S1 (addW W n c) := by
  have hA := h.2.1.1
  obtain ⟨h1, h2, h3, h4, h5, h6, h7⟩ := hc
  refine ⟨(eI _ (by omega) (by omega) (by omega) (by omega) (by omega)).trans h1, (eI _ (by omega) (by omega) (by omega) (by omega) (by omega)).trans h2, by rw [addW_L]; exact e2, fun a ha => ?_, fun L hL => ?_, fun L hL => ?_, fun L k hL hk => ?_⟩
  · have ha' : a < wA W := ha
    exact ⟨(eI _ (by omega) (by omega) (by omega) (by omega) (by omega)).trans (h4 a ha').1, (eJ _).trans (h4 a ha').2⟩
  · rw [addW_L] at hL
    by_cases e : L = wL W
    · subst e
      rw [addW_eq]
      exact e7
    · rw [addW_lt (by omega)]
      exact (eI _ (by omega) (by omega) (by omega) (by omega) (by omega)).trans (h5 L (by omega))
  · rw [addW_L] at hL
    by_cases e : L = wL W + 1
    · subst e
      rw [addW_f1]
      exact e25
    · rw [addW_f (by omega)]
      exact (eI _ (by omega) (by omega) (by omega) (by omega) (by omega)).trans (h6 L (by omega))
  · rw [addW_L] at hL
    by_cases e : L = wL W
    · subst e
      rw [addW_eq] at hk ⊢
      rw [addW_f (Nat.le_refl _)]
      have hk : k < c.length := hk
      have := eT k hk
      exact ⟨by rw [← Nat.add_assoc]; exact this.1, by rw [← Nat.add_assoc]; exact this.2⟩
    · have hL' : L < wL W := by omega
      rw [addW_lt hL'] at hk ⊢
      have b1 := lf_succ hL'
      have b2 := lf_mono (W := W) (show L + 1 ≤ wL W from hL')
      rw [addW_f (by omega)]
      have := h7 L k hL' hk
      exact ⟨(eI _ (by omega) (by omega) (by omega) (by omega) (by omega)).trans this.1, (eI _ (by omega) (by omega) (by omega) (by omega) (by omega)).trans this.2⟩

set_option maxRecDepth 100000 in
theorem lp_rnm_n {Po : Option zV → zS → Prop} {S : zS} (hs : Sd S) {W : zWd} (hW : Wok W) (hA : wA W < 3) (hn : ∀ a, a < wA W → gJ S 1308 0 (3 + a) = lN (wn W a)) {v : Nat} (hv : v < 2 ^ 48) (hw : gJ S 12 0 15 = lN v) (hfa : fAct (wn W) v (wA W) = none) (K : Ok mX12_readAct 85 [some (zr 12 0), some (zi (nI (wA W))), some (zi (nI (wA W)))] [] S Po) : ∀ (d k : Nat), k + d = wA W → Ok mX12_readAct 52 [some (zr 12 0), some (zi (nI (wA W))), some (zi (nI k))] [] S Po := by
  intro d
  induction d with
  | zero =>
    intro k hk
    obtain rfl : k = wA W := by omega
    refine r_iload_n (q := 53) dX12_readAct_52 rfl rfl rfl ?_
    refine r_iload_n (q := 54) dX12_readAct_53 rfl rfl rfl ?_
    refine r_icmp_geN (q := 57) (t := 85) (by omega) (by omega) dX12_readAct_54 (by decide) rfl (fun h54 => ?_) (fun h54 => absurd h54 (by omega))
    exact K
  | succ d ih =>
    intro k hk
    have r1 := hn k (by omega)
    have r2 := (hW.2.2.1.2.1 k (by omega)).1
    have r3 := fAct_none hfa k (by omega)
    refine r_iload_n (q := 53) dX12_readAct_52 rfl rfl rfl ?_
    refine r_iload_n (q := 54) dX12_readAct_53 rfl rfl rfl ?_
    refine r_icmp_geN (q := 57) (t := 85) (by omega) (by omega) dX12_readAct_54 (by decide) rfl (fun h54 => absurd h54 (by omega)) (fun h54 => ?_)
    refine r_aload_n (q := 58) dX12_readAct_57 rfl rfl rfl ?_
    refine r_getr (q := 61) (some (1308, 0)) ck12 dX12_readAct_58 rfl (k := 8) (by decide) wt1286 rfl (hs.e (by decide)) (hs.r (by decide) (by decide)) ?_
    refine r_iconst (q := 62) (nI 3) dX12_readAct_61 rfl (by decide) ?_
    refine r_iload_n (q := 63) dX12_readAct_62 rfl rfl rfl ?_
    refine r_iaddN (q := 64) dX12_readAct_63 rfl ?_
    refine r_laldN (q := 65) 6 (by decide) rfl dX12_readAct_64 rfl (hs.e (by decide)) (hs.n rfl (by decide)) (by omega) (by decide) ?_
    refine r_topl (y := lN (wn W k)) r1 ?_
    refine r_aload_n (q := 66) dX12_readAct_65 rfl rfl rfl ?_
    refine r_getl (q := 69) ck12 dX12_readAct_66 rfl (k := 15) (by decide) wt1293 rfl (hs.e (by decide)) ?_
    refine r_topl (y := lN v) hw ?_
    refine r_lcmp (q := 70) dX12_readAct_69 rfl ?_
    refine r_if_ne (q := 73) (t := 79) dX12_readAct_70 (by decide) rfl (fun h70 => ?_) (fun h70 => absurd h70 (fun z => z ((lcmp_ne (by omega) (by omega)).mpr r3)))
    refine r_iincN (q := 82) (L' := [some (zr 12 0), some (zi (nI (wA W))), some (zi (nI (k + 1)))]) 1 rfl dX12_readAct_79 rfl rfl (by decide) rfl ?_
    refine r_goto (q := 52) dX12_readAct_82 (by decide) ?_
    exact ih (k + 1) (by omega)

set_option maxRecDepth 100000 in
theorem lp_rnm_y {Po : Option zV → zS → Prop} {S : zS} (hs : Sd S) {W : zWd} (hW : Wok W) (hA : wA W < 3) (hn : ∀ a, a < wA W → gJ S 1308 0 (3 + a) = lN (wn W a)) {v : Nat} (hv : v < 2 ^ 48) (hw : gJ S 12 0 15 = lN v) {a : Nat} (ha : a < wA W) (hva : wn W a = v) (K : Ok mX12_readAct 73 [some (zr 12 0), some (zi (nI (wA W))), some (zi (nI a))] [] S Po) : ∀ (d k : Nat), k + d = a → Ok mX12_readAct 52 [some (zr 12 0), some (zi (nI (wA W))), some (zi (nI k))] [] S Po := by
  intro d
  induction d with
  | zero =>
    intro k hk
    obtain rfl : k = a := by omega
    have r1 := hn k (by omega)
    have r2 := (hW.2.2.1.2.1 k (by omega)).1
    refine r_iload_n (q := 53) dX12_readAct_52 rfl rfl rfl ?_
    refine r_iload_n (q := 54) dX12_readAct_53 rfl rfl rfl ?_
    refine r_icmp_geN (q := 57) (t := 85) (by omega) (by omega) dX12_readAct_54 (by decide) rfl (fun h54 => absurd h54 (by omega)) (fun h54 => ?_)
    refine r_aload_n (q := 58) dX12_readAct_57 rfl rfl rfl ?_
    refine r_getr (q := 61) (some (1308, 0)) ck12 dX12_readAct_58 rfl (k := 8) (by decide) wt1286 rfl (hs.e (by decide)) (hs.r (by decide) (by decide)) ?_
    refine r_iconst (q := 62) (nI 3) dX12_readAct_61 rfl (by decide) ?_
    refine r_iload_n (q := 63) dX12_readAct_62 rfl rfl rfl ?_
    refine r_iaddN (q := 64) dX12_readAct_63 rfl ?_
    refine r_laldN (q := 65) 6 (by decide) rfl dX12_readAct_64 rfl (hs.e (by decide)) (hs.n rfl (by decide)) (by omega) (by decide) ?_
    refine r_topl (y := lN (wn W k)) r1 ?_
    refine r_aload_n (q := 66) dX12_readAct_65 rfl rfl rfl ?_
    refine r_getl (q := 69) ck12 dX12_readAct_66 rfl (k := 15) (by decide) wt1293 rfl (hs.e (by decide)) ?_
    refine r_topl (y := lN v) hw ?_
    refine r_lcmp (q := 70) dX12_readAct_69 rfl ?_
    refine r_if_ne (q := 73) (t := 79) dX12_readAct_70 (by decide) rfl (fun h70 => absurd h70 (fun z => (lcmp_ne (by omega) (by omega)).mp z hva)) (fun h70 => ?_)
    exact K
  | succ d ih =>
    intro k hk
    have r1 := hn k (by omega)
    have r2 := (hW.2.2.1.2.1 k (by omega)).1
    have r3 : wn W k ≠ v := fun z => absurd (wok_inj hW k a (by omega) ha (z.trans hva.symm)) (by omega)
    refine r_iload_n (q := 53) dX12_readAct_52 rfl rfl rfl ?_
    refine r_iload_n (q := 54) dX12_readAct_53 rfl rfl rfl ?_
    refine r_icmp_geN (q := 57) (t := 85) (by omega) (by omega) dX12_readAct_54 (by decide) rfl (fun h54 => absurd h54 (by omega)) (fun h54 => ?_)
    refine r_aload_n (q := 58) dX12_readAct_57 rfl rfl rfl ?_
    refine r_getr (q := 61) (some (1308, 0)) ck12 dX12_readAct_58 rfl (k := 8) (by decide) wt1286 rfl (hs.e (by decide)) (hs.r (by decide) (by decide)) ?_
    refine r_iconst (q := 62) (nI 3) dX12_readAct_61 rfl (by decide) ?_
    refine r_iload_n (q := 63) dX12_readAct_62 rfl rfl rfl ?_
    refine r_iaddN (q := 64) dX12_readAct_63 rfl ?_
    refine r_laldN (q := 65) 6 (by decide) rfl dX12_readAct_64 rfl (hs.e (by decide)) (hs.n rfl (by decide)) (by omega) (by decide) ?_
    refine r_topl (y := lN (wn W k)) r1 ?_
    refine r_aload_n (q := 66) dX12_readAct_65 rfl rfl rfl ?_
    refine r_getl (q := 69) ck12 dX12_readAct_66 rfl (k := 15) (by decide) wt1293 rfl (hs.e (by decide)) ?_
    refine r_topl (y := lN v) hw ?_
    refine r_lcmp (q := 70) dX12_readAct_69 rfl ?_
    refine r_if_ne (q := 73) (t := 79) dX12_readAct_70 (by decide) rfl (fun h70 => ?_) (fun h70 => absurd h70 (fun z => z ((lcmp_ne (by omega) (by omega)).mpr r3)))
    refine r_iincN (q := 82) (L' := [some (zr 12 0), some (zi (nI (wA W))), some (zi (nI (k + 1)))]) 1 rfl dX12_readAct_79 rfl rfl (by decide) rfl ?_
    refine r_goto (q := 52) dX12_readAct_82 (by decide) ?_
    exact ih (k + 1) (by omega)

set_option maxRecDepth 100000 in
theorem ok_ract_a {S : zS} (hs : Sd S) {bs : List Nat} {lim : Nat} (hbl : bs.length ≤ 940) (hlim : lim ≤ 940) {ts : List zTk} (hr : Rr S bs lim ts) {W : zWd} (h : Wpk W ts) (hc : WHr S W) {told : Bool} (h56 : gI S 12 0 56 = nI (b01 told)) (hL : 0 < wL W) : Ok mX12_readAct 0 (ent 3 [zr 12 0]) [] S (fun r S1 => LnR S S1 bs lim r (actP told W ts)) := by
  obtain ⟨t1, t2, t3, t4⟩ := h.2.1.hd
  obtain ⟨u1, u2, u3, u4⟩ := h.2.1.adv.hd
  obtain ⟨v1, v2, v3, v4⟩ := h.2.1.adv.adv.hd
  have hL18 := h.1.2.2.2.1
  have hA3 := h.1.2.1.1
  have e : actP told W ts = Sum.inl (3, (hdT ts).2.1) := if_pos hL
  rw [e]
  show Ok mX12_readAct 0 [some (zr 12 0), none, none] [] S _
  refine r_aload_n (q := 1) dX12_readAct_0 rfl rfl rfl ?_
  refine r_getr (q := 4) (some (1307, 0)) ck12 dX12_readAct_1 rfl (k := 7) (by decide) wt1285 rfl (hs.e (by decide)) (hs.r (by decide) (by decide)) ?_
  refine r_iconst (q := 5) (nI 1) dX12_readAct_4 rfl (by decide) ?_
  refine r_ialdN (q := 6) 1173 (by decide) rfl dX12_readAct_5 rfl (hs.e (by decide)) (hs.n rfl (by decide)) (by omega) (by decide) ?_
  refine r_topi (y := nI (wA W)) hc.2.1 ?_
  refine r_istore_n (q := 7) (L' := [some (zr 12 0), some (zi (nI (wA W))), none]) dX12_readAct_6 rfl rfl (by decide) rfl ?_
  refine r_aload_n (q := 8) dX12_readAct_7 rfl rfl rfl ?_
  refine r_getr (q := 11) (some (1307, 0)) ck12 dX12_readAct_8 rfl (k := 7) (by decide) wt1285 rfl (hs.e (by decide)) (hs.r (by decide) (by decide)) ?_
  refine r_iconst (q := 12) (nI 2) dX12_readAct_11 rfl (by decide) ?_
  refine r_ialdN (q := 13) 1173 (by decide) rfl dX12_readAct_12 rfl (hs.e (by decide)) (hs.n rfl (by decide)) (by omega) (by decide) ?_
  refine r_topi (y := nI (wL W)) hc.2.2.1 ?_
  refine r_if_leN (q := 16) (t := 22) (by omega) dX12_readAct_13 (by decide) rfl (fun h13 => absurd h13 (by omega)) (fun h13 => ?_)
  refine r_aload_n (q := 17) dX12_readAct_16 rfl rfl rfl ?_
  refine r_iconst (q := 18) (nI 3) dX12_readAct_17 rfl (by decide) ?_
  refine r_callV (Mc := mX12_bad) (q := 21) (As := [zi (nI 3)]) (st := []) ck12 dX12_readAct_18 rfl rfl mkX12_bad wt1596 wt1598 wp74 rfl (Nat.le_of_ble_eq_true rfl) (Nat.le_of_ble_eq_true rfl) (by decide) (by decide) (by decide) (Or.inl rfl) (hs.e (by decide)) (ok_bad (S := S) hs hbl hlim hr h.2.1 3) (fun r18 S18 hp18 => ?_)
  obtain ⟨rfl, w18, x18⟩ := hp18
  show Ok _ _ _ [zi (nI 0)] _ _
  refine r_zreturn (by decide) dX12_readAct_21 rfl ?_
  exact ⟨rfl, w18.mono (fun a b k z => tLn_d a b k z), x18⟩

set_option maxRecDepth 100000 in
theorem ok_ract_b {S : zS} (hs : Sd S) {bs : List Nat} {lim : Nat} (hbl : bs.length ≤ 940) (hlim : lim ≤ 940) {ts : List zTk} (hr : Rr S bs lim ts) {W : zWd} (h : Wpk W ts) (hc : WHr S W) {told : Bool} (h56 : gI S 12 0 56 = nI (b01 told)) (hL : ¬ 0 < wL W) (hA : 3 ≤ wA W) : Ok mX12_readAct 0 (ent 3 [zr 12 0]) [] S (fun r S1 => LnR S S1 bs lim r (actP told W ts)) := by
  obtain ⟨t1, t2, t3, t4⟩ := h.2.1.hd
  obtain ⟨u1, u2, u3, u4⟩ := h.2.1.adv.hd
  obtain ⟨v1, v2, v3, v4⟩ := h.2.1.adv.adv.hd
  have hL18 := h.1.2.2.2.1
  have hA3 := h.1.2.1.1
  have e : actP told W ts = Sum.inl (4, (hdT ts).2.1) := (if_neg hL).trans (if_pos hA)
  rw [e]
  show Ok mX12_readAct 0 [some (zr 12 0), none, none] [] S _
  refine r_aload_n (q := 1) dX12_readAct_0 rfl rfl rfl ?_
  refine r_getr (q := 4) (some (1307, 0)) ck12 dX12_readAct_1 rfl (k := 7) (by decide) wt1285 rfl (hs.e (by decide)) (hs.r (by decide) (by decide)) ?_
  refine r_iconst (q := 5) (nI 1) dX12_readAct_4 rfl (by decide) ?_
  refine r_ialdN (q := 6) 1173 (by decide) rfl dX12_readAct_5 rfl (hs.e (by decide)) (hs.n rfl (by decide)) (by omega) (by decide) ?_
  refine r_topi (y := nI (wA W)) hc.2.1 ?_
  refine r_istore_n (q := 7) (L' := [some (zr 12 0), some (zi (nI (wA W))), none]) dX12_readAct_6 rfl rfl (by decide) rfl ?_
  refine r_aload_n (q := 8) dX12_readAct_7 rfl rfl rfl ?_
  refine r_getr (q := 11) (some (1307, 0)) ck12 dX12_readAct_8 rfl (k := 7) (by decide) wt1285 rfl (hs.e (by decide)) (hs.r (by decide) (by decide)) ?_
  refine r_iconst (q := 12) (nI 2) dX12_readAct_11 rfl (by decide) ?_
  refine r_ialdN (q := 13) 1173 (by decide) rfl dX12_readAct_12 rfl (hs.e (by decide)) (hs.n rfl (by decide)) (by omega) (by decide) ?_
  refine r_topi (y := nI (wL W)) hc.2.2.1 ?_
  refine r_if_leN (q := 16) (t := 22) (by omega) dX12_readAct_13 (by decide) rfl (fun h13 => ?_) (fun h13 => absurd h13 (by omega))
  refine r_iload_n (q := 23) dX12_readAct_22 rfl rfl rfl ?_
  refine r_iconst (q := 24) (nI 3) dX12_readAct_23 rfl (by decide) ?_
  refine r_icmp_neN (q := 27) (t := 33) (by omega) (by omega) dX12_readAct_24 (by decide) rfl (fun h24 => absurd h24 (by omega)) (fun h24 => ?_)
  refine r_aload_n (q := 28) dX12_readAct_27 rfl rfl rfl ?_
  refine r_iconst (q := 29) (nI 4) dX12_readAct_28 rfl (by decide) ?_
  refine r_callV (Mc := mX12_bad) (q := 32) (As := [zi (nI 4)]) (st := []) ck12 dX12_readAct_29 rfl rfl mkX12_bad wt1596 wt1598 wp74 rfl (Nat.le_of_ble_eq_true rfl) (Nat.le_of_ble_eq_true rfl) (by decide) (by decide) (by decide) (Or.inl rfl) (hs.e (by decide)) (ok_bad (S := S) hs hbl hlim hr h.2.1 4) (fun r29 S29 hp29 => ?_)
  obtain ⟨rfl, w29, x29⟩ := hp29
  show Ok _ _ _ [zi (nI 0)] _ _
  refine r_zreturn (by decide) dX12_readAct_32 rfl ?_
  exact ⟨rfl, w29.mono (fun a b k z => tLn_d a b k z), x29⟩

set_option maxRecDepth 100000 in
theorem ok_ract_c {S : zS} (hs : Sd S) {bs : List Nat} {lim : Nat} (hbl : bs.length ≤ 940) (hlim : lim ≤ 940) {ts : List zTk} (hr : Rr S bs lim ts) {W : zWd} (h : Wpk W ts) (hc : WHr S W) {told : Bool} (h56 : gI S 12 0 56 = nI (b01 told)) (hL : ¬ 0 < wL W) (hA : ¬ 3 ≤ wA W) (hnm : ¬ isNmb (adv ts) = true) : Ok mX12_readAct 0 (ent 3 [zr 12 0]) [] S (fun r S1 => LnR S S1 bs lim r (actP told W ts)) := by
  obtain ⟨t1, t2, t3, t4⟩ := h.2.1.hd
  obtain ⟨u1, u2, u3, u4⟩ := h.2.1.adv.hd
  obtain ⟨v1, v2, v3, v4⟩ := h.2.1.adv.adv.hd
  have hL18 := h.1.2.2.2.1
  have hA3 := h.1.2.1.1
  have e : actP told W ts = Sum.inl (1, (hdT (adv ts)).2.1) := (if_neg hL).trans ((if_neg hA).trans (if_pos (by simpa using hnm)))
  rw [e]
  show Ok mX12_readAct 0 [some (zr 12 0), none, none] [] S _
  refine r_aload_n (q := 1) dX12_readAct_0 rfl rfl rfl ?_
  refine r_getr (q := 4) (some (1307, 0)) ck12 dX12_readAct_1 rfl (k := 7) (by decide) wt1285 rfl (hs.e (by decide)) (hs.r (by decide) (by decide)) ?_
  refine r_iconst (q := 5) (nI 1) dX12_readAct_4 rfl (by decide) ?_
  refine r_ialdN (q := 6) 1173 (by decide) rfl dX12_readAct_5 rfl (hs.e (by decide)) (hs.n rfl (by decide)) (by omega) (by decide) ?_
  refine r_topi (y := nI (wA W)) hc.2.1 ?_
  refine r_istore_n (q := 7) (L' := [some (zr 12 0), some (zi (nI (wA W))), none]) dX12_readAct_6 rfl rfl (by decide) rfl ?_
  refine r_aload_n (q := 8) dX12_readAct_7 rfl rfl rfl ?_
  refine r_getr (q := 11) (some (1307, 0)) ck12 dX12_readAct_8 rfl (k := 7) (by decide) wt1285 rfl (hs.e (by decide)) (hs.r (by decide) (by decide)) ?_
  refine r_iconst (q := 12) (nI 2) dX12_readAct_11 rfl (by decide) ?_
  refine r_ialdN (q := 13) 1173 (by decide) rfl dX12_readAct_12 rfl (hs.e (by decide)) (hs.n rfl (by decide)) (by omega) (by decide) ?_
  refine r_topi (y := nI (wL W)) hc.2.2.1 ?_
  refine r_if_leN (q := 16) (t := 22) (by omega) dX12_readAct_13 (by decide) rfl (fun h13 => ?_) (fun h13 => absurd h13 (by omega))
  refine r_iload_n (q := 23) dX12_readAct_22 rfl rfl rfl ?_
  refine r_iconst (q := 24) (nI 3) dX12_readAct_23 rfl (by decide) ?_
  refine r_icmp_neN (q := 27) (t := 33) (by omega) (by omega) dX12_readAct_24 (by decide) rfl (fun h24 => ?_) (fun h24 => absurd h24 (by omega))
  refine r_aload_n (q := 34) dX12_readAct_33 rfl rfl rfl ?_
  refine r_callV (Mc := mX12_next) (q := 37) (As := []) (st := []) ck12 dX12_readAct_34 rfl rfl mkX12_next wt1573 wt1575 wp70 rfl (Nat.le_of_ble_eq_true rfl) (Nat.le_of_ble_eq_true rfl) (by decide) (by decide) (by decide) (Or.inl rfl) (hs.e (by decide)) (ok_nextR (S := S) hs hbl hlim hr) (fun r34 S34 hp34 => ?_)
  obtain ⟨rfl, w34, x34⟩ := hp34
  have g34 : Sd S34 := Sd.fr (S := S) hs w34
  have c34 : WHr S34 W := hc.fr w34 (fun _ => ⟨rfl, rfl⟩)
  show Ok _ _ _ [] _ _
  refine r_aload_n (q := 38) dX12_readAct_37 rfl rfl rfl ?_
  refine r_callV (Mc := mX12_isName) (q := 41) (As := []) (st := []) ck12 dX12_readAct_38 rfl rfl mkX12_isName wt1608 wt1610 wp76 rfl (Nat.le_of_ble_eq_true rfl) (Nat.le_of_ble_eq_true rfl) (by decide) (by decide) (by decide) (Or.inl rfl) (g34.e (by decide)) (ok_isNameR g34 hbl hlim x34 h.2.1.adv) (fun r38 S38 hp38 => ?_)
  obtain ⟨rfl, hq38⟩ := hp38
  rw [hq38]
  rw [if_neg hnm]
  show Ok _ _ _ [zi (nI 0)] _ _
  refine r_if_neN (q := 44) (t := 50) (by omega) dX12_readAct_41 (by decide) rfl (fun h41 => absurd h41 (by omega)) (fun h41 => ?_)
  refine r_aload_n (q := 45) dX12_readAct_44 rfl rfl rfl ?_
  refine r_iconst (q := 46) (nI 1) dX12_readAct_45 rfl (by decide) ?_
  refine r_callV (Mc := mX12_bad) (q := 49) (As := [zi (nI 1)]) (st := []) ck12 dX12_readAct_46 rfl rfl mkX12_bad wt1596 wt1598 wp74 rfl (Nat.le_of_ble_eq_true rfl) (Nat.le_of_ble_eq_true rfl) (by decide) (by decide) (by decide) (Or.inl rfl) (g34.e (by decide)) (ok_bad (S := S34) g34 hbl hlim x34 h.2.1.adv 1) (fun r46 S46 hp46 => ?_)
  obtain ⟨rfl, w46, x46⟩ := hp46
  show Ok _ _ _ [zi (nI 0)] _ _
  refine r_zreturn (by decide) dX12_readAct_49 rfl ?_
  exact ⟨rfl, (w34.mono (fun a b k z => tLn_x a b k z)).tr (w46.mono (fun a b k z => tLn_d a b k z)), x46⟩

set_option maxRecDepth 100000 in
theorem ok_ract_d {S : zS} (hs : Sd S) {bs : List Nat} {lim : Nat} (hbl : bs.length ≤ 940) (hlim : lim ≤ 940) {ts : List zTk} (hr : Rr S bs lim ts) {W : zWd} (h : Wpk W ts) (hc : WHr S W) {told : Bool} (h56 : gI S 12 0 56 = nI (b01 told)) (hL : ¬ 0 < wL W) (hA : ¬ 3 ≤ wA W) (hnm : isNmb (adv ts) = true) {a : Nat} (hfa : fAct (wn W) (hdT (adv ts)).2.2 (wA W) = some a) : Ok mX12_readAct 0 (ent 3 [zr 12 0]) [] S (fun r S1 => LnR S S1 bs lim r (actP told W ts)) := by
  obtain ⟨t1, t2, t3, t4⟩ := h.2.1.hd
  obtain ⟨u1, u2, u3, u4⟩ := h.2.1.adv.hd
  obtain ⟨v1, v2, v3, v4⟩ := h.2.1.adv.adv.hd
  have hL18 := h.1.2.2.2.1
  have hA3 := h.1.2.1.1
  have ha := (fAct_some hfa).1
  have e : actP told W ts = Sum.inl (3, (hdT (adv ts)).2.1) := (if_neg hL).trans ((if_neg hA).trans ((if_neg (by rw [hnm]; decide)).trans (if_pos (by rw [hfa]; simp))))
  rw [e]
  show Ok mX12_readAct 0 [some (zr 12 0), none, none] [] S _
  refine r_aload_n (q := 1) dX12_readAct_0 rfl rfl rfl ?_
  refine r_getr (q := 4) (some (1307, 0)) ck12 dX12_readAct_1 rfl (k := 7) (by decide) wt1285 rfl (hs.e (by decide)) (hs.r (by decide) (by decide)) ?_
  refine r_iconst (q := 5) (nI 1) dX12_readAct_4 rfl (by decide) ?_
  refine r_ialdN (q := 6) 1173 (by decide) rfl dX12_readAct_5 rfl (hs.e (by decide)) (hs.n rfl (by decide)) (by omega) (by decide) ?_
  refine r_topi (y := nI (wA W)) hc.2.1 ?_
  refine r_istore_n (q := 7) (L' := [some (zr 12 0), some (zi (nI (wA W))), none]) dX12_readAct_6 rfl rfl (by decide) rfl ?_
  refine r_aload_n (q := 8) dX12_readAct_7 rfl rfl rfl ?_
  refine r_getr (q := 11) (some (1307, 0)) ck12 dX12_readAct_8 rfl (k := 7) (by decide) wt1285 rfl (hs.e (by decide)) (hs.r (by decide) (by decide)) ?_
  refine r_iconst (q := 12) (nI 2) dX12_readAct_11 rfl (by decide) ?_
  refine r_ialdN (q := 13) 1173 (by decide) rfl dX12_readAct_12 rfl (hs.e (by decide)) (hs.n rfl (by decide)) (by omega) (by decide) ?_
  refine r_topi (y := nI (wL W)) hc.2.2.1 ?_
  refine r_if_leN (q := 16) (t := 22) (by omega) dX12_readAct_13 (by decide) rfl (fun h13 => ?_) (fun h13 => absurd h13 (by omega))
  refine r_iload_n (q := 23) dX12_readAct_22 rfl rfl rfl ?_
  refine r_iconst (q := 24) (nI 3) dX12_readAct_23 rfl (by decide) ?_
  refine r_icmp_neN (q := 27) (t := 33) (by omega) (by omega) dX12_readAct_24 (by decide) rfl (fun h24 => ?_) (fun h24 => absurd h24 (by omega))
  refine r_aload_n (q := 34) dX12_readAct_33 rfl rfl rfl ?_
  refine r_callV (Mc := mX12_next) (q := 37) (As := []) (st := []) ck12 dX12_readAct_34 rfl rfl mkX12_next wt1573 wt1575 wp70 rfl (Nat.le_of_ble_eq_true rfl) (Nat.le_of_ble_eq_true rfl) (by decide) (by decide) (by decide) (Or.inl rfl) (hs.e (by decide)) (ok_nextR (S := S) hs hbl hlim hr) (fun r34 S34 hp34 => ?_)
  obtain ⟨rfl, w34, x34⟩ := hp34
  have g34 : Sd S34 := Sd.fr (S := S) hs w34
  have c34 : WHr S34 W := hc.fr w34 (fun _ => ⟨rfl, rfl⟩)
  show Ok _ _ _ [] _ _
  refine r_aload_n (q := 38) dX12_readAct_37 rfl rfl rfl ?_
  refine r_callV (Mc := mX12_isName) (q := 41) (As := []) (st := []) ck12 dX12_readAct_38 rfl rfl mkX12_isName wt1608 wt1610 wp76 rfl (Nat.le_of_ble_eq_true rfl) (Nat.le_of_ble_eq_true rfl) (by decide) (by decide) (by decide) (Or.inl rfl) (g34.e (by decide)) (ok_isNameR g34 hbl hlim x34 h.2.1.adv) (fun r38 S38 hp38 => ?_)
  obtain ⟨rfl, hq38⟩ := hp38
  rw [hq38]
  rw [if_pos hnm]
  show Ok _ _ _ [zi (nI 1)] _ _
  refine r_if_neN (q := 44) (t := 50) (by omega) dX12_readAct_41 (by decide) rfl (fun h41 => ?_) (fun h41 => absurd h41 (by omega))
  refine r_iconst (q := 51) (nI 0) dX12_readAct_50 rfl (by decide) ?_
  refine r_istore_n (q := 52) (L' := [some (zr 12 0), some (zi (nI (wA W))), some (zi (nI 0))]) dX12_readAct_51 rfl rfl (by decide) rfl ?_
  refine lp_rnm_y g34 h.1 (by omega) (fun a ha => (c34.2.2.2.1 a ha).2) (u3 (isNmb_t.mp hnm).1).1 (x34.1.2.2.1 (isNmb_t.mp hnm).1) (fAct_some hfa).1 (fAct_some hfa).2 ?_ a 0 (by omega)
  refine r_aload_n (q := 74) dX12_readAct_73 rfl rfl rfl ?_
  refine r_iconst (q := 75) (nI 3) dX12_readAct_74 rfl (by decide) ?_
  refine r_callV (Mc := mX12_bad) (q := 78) (As := [zi (nI 3)]) (st := []) ck12 dX12_readAct_75 rfl rfl mkX12_bad wt1596 wt1598 wp74 rfl (Nat.le_of_ble_eq_true rfl) (Nat.le_of_ble_eq_true rfl) (by decide) (by decide) (by decide) (Or.inl rfl) (g34.e (by decide)) (ok_bad (S := S34) g34 hbl hlim x34 h.2.1.adv 3) (fun r75 S75 hp75 => ?_)
  obtain ⟨rfl, w75, x75⟩ := hp75
  show Ok _ _ _ [zi (nI 0)] _ _
  refine r_zreturn (by decide) dX12_readAct_78 rfl ?_
  exact ⟨rfl, (w34.mono (fun a b k z => tLn_x a b k z)).tr (w75.mono (fun a b k z => tLn_d a b k z)), x75⟩

set_option maxRecDepth 100000 in
theorem ok_ract_e {S : zS} (hs : Sd S) {bs : List Nat} {lim : Nat} (hbl : bs.length ≤ 940) (hlim : lim ≤ 940) {ts : List zTk} (hr : Rr S bs lim ts) {W : zWd} (h : Wpk W ts) (hc : WHr S W) {told : Bool} (h56 : gI S 12 0 56 = nI (b01 told)) (hL : ¬ 0 < wL W) (hA : ¬ 3 ≤ wA W) (hnm : isNmb (adv ts) = true) (hfa : fAct (wn W) (hdT (adv ts)).2.2 (wA W) = none) (hk3 : (hdT (adv (adv ts))).1 ≠ 3) : Ok mX12_readAct 0 (ent 3 [zr 12 0]) [] S (fun r S1 => LnR S S1 bs lim r (actP told W ts)) := by
  obtain ⟨t1, t2, t3, t4⟩ := h.2.1.hd
  obtain ⟨u1, u2, u3, u4⟩ := h.2.1.adv.hd
  obtain ⟨v1, v2, v3, v4⟩ := h.2.1.adv.adv.hd
  have hL18 := h.1.2.2.2.1
  have hA3 := h.1.2.1.1
  have hk32 : ¬ rkt (hdT (adv (adv ts))).1 = 2 := fun z => hk3 (rkt_2.mp z)
  have hrk := rkt_le (k := (hdT (adv (adv ts))).1)
  have e : actP told W ts = Sum.inl (1, (hdT (adv (adv ts))).2.1) := (if_neg hL).trans ((if_neg hA).trans ((if_neg (by rw [hnm]; decide)).trans ((if_neg (fun z => z hfa)).trans (if_pos hk3))))
  rw [e]
  show Ok mX12_readAct 0 [some (zr 12 0), none, none] [] S _
  refine r_aload_n (q := 1) dX12_readAct_0 rfl rfl rfl ?_
  refine r_getr (q := 4) (some (1307, 0)) ck12 dX12_readAct_1 rfl (k := 7) (by decide) wt1285 rfl (hs.e (by decide)) (hs.r (by decide) (by decide)) ?_
  refine r_iconst (q := 5) (nI 1) dX12_readAct_4 rfl (by decide) ?_
  refine r_ialdN (q := 6) 1173 (by decide) rfl dX12_readAct_5 rfl (hs.e (by decide)) (hs.n rfl (by decide)) (by omega) (by decide) ?_
  refine r_topi (y := nI (wA W)) hc.2.1 ?_
  refine r_istore_n (q := 7) (L' := [some (zr 12 0), some (zi (nI (wA W))), none]) dX12_readAct_6 rfl rfl (by decide) rfl ?_
  refine r_aload_n (q := 8) dX12_readAct_7 rfl rfl rfl ?_
  refine r_getr (q := 11) (some (1307, 0)) ck12 dX12_readAct_8 rfl (k := 7) (by decide) wt1285 rfl (hs.e (by decide)) (hs.r (by decide) (by decide)) ?_
  refine r_iconst (q := 12) (nI 2) dX12_readAct_11 rfl (by decide) ?_
  refine r_ialdN (q := 13) 1173 (by decide) rfl dX12_readAct_12 rfl (hs.e (by decide)) (hs.n rfl (by decide)) (by omega) (by decide) ?_
  refine r_topi (y := nI (wL W)) hc.2.2.1 ?_
  refine r_if_leN (q := 16) (t := 22) (by omega) dX12_readAct_13 (by decide) rfl (fun h13 => ?_) (fun h13 => absurd h13 (by omega))
  refine r_iload_n (q := 23) dX12_readAct_22 rfl rfl rfl ?_
  refine r_iconst (q := 24) (nI 3) dX12_readAct_23 rfl (by decide) ?_
  refine r_icmp_neN (q := 27) (t := 33) (by omega) (by omega) dX12_readAct_24 (by decide) rfl (fun h24 => ?_) (fun h24 => absurd h24 (by omega))
  refine r_aload_n (q := 34) dX12_readAct_33 rfl rfl rfl ?_
  refine r_callV (Mc := mX12_next) (q := 37) (As := []) (st := []) ck12 dX12_readAct_34 rfl rfl mkX12_next wt1573 wt1575 wp70 rfl (Nat.le_of_ble_eq_true rfl) (Nat.le_of_ble_eq_true rfl) (by decide) (by decide) (by decide) (Or.inl rfl) (hs.e (by decide)) (ok_nextR (S := S) hs hbl hlim hr) (fun r34 S34 hp34 => ?_)
  obtain ⟨rfl, w34, x34⟩ := hp34
  have g34 : Sd S34 := Sd.fr (S := S) hs w34
  have c34 : WHr S34 W := hc.fr w34 (fun _ => ⟨rfl, rfl⟩)
  show Ok _ _ _ [] _ _
  refine r_aload_n (q := 38) dX12_readAct_37 rfl rfl rfl ?_
  refine r_callV (Mc := mX12_isName) (q := 41) (As := []) (st := []) ck12 dX12_readAct_38 rfl rfl mkX12_isName wt1608 wt1610 wp76 rfl (Nat.le_of_ble_eq_true rfl) (Nat.le_of_ble_eq_true rfl) (by decide) (by decide) (by decide) (Or.inl rfl) (g34.e (by decide)) (ok_isNameR g34 hbl hlim x34 h.2.1.adv) (fun r38 S38 hp38 => ?_)
  obtain ⟨rfl, hq38⟩ := hp38
  rw [hq38]
  rw [if_pos hnm]
  show Ok _ _ _ [zi (nI 1)] _ _
  refine r_if_neN (q := 44) (t := 50) (by omega) dX12_readAct_41 (by decide) rfl (fun h41 => ?_) (fun h41 => absurd h41 (by omega))
  refine r_iconst (q := 51) (nI 0) dX12_readAct_50 rfl (by decide) ?_
  refine r_istore_n (q := 52) (L' := [some (zr 12 0), some (zi (nI (wA W))), some (zi (nI 0))]) dX12_readAct_51 rfl rfl (by decide) rfl ?_
  refine lp_rnm_n g34 h.1 (by omega) (fun a ha => (c34.2.2.2.1 a ha).2) (u3 (isNmb_t.mp hnm).1).1 (x34.1.2.2.1 (isNmb_t.mp hnm).1) hfa ?_ (wA W) 0 (by omega)
  have r98 : Rr (sJ S34 1308 0 (3 + wA W) (lN (hdT (adv ts)).2.2)) bs lim (adv ts) := x34.cong (fun k => rfl) (fun k _ => rfl) (by rw [gJ_sJ, if_neg (by omega)])
  refine r_aload_n (q := 86) dX12_readAct_85 rfl rfl rfl ?_
  refine r_getr (q := 89) (some (1308, 0)) ck12 dX12_readAct_86 rfl (k := 8) (by decide) wt1286 rfl (g34.e (by decide)) (g34.r (by decide) (by decide)) ?_
  refine r_iconst (q := 90) (nI 3) dX12_readAct_89 rfl (by decide) ?_
  refine r_iload_n (q := 91) dX12_readAct_90 rfl rfl rfl ?_
  refine r_iaddN (q := 92) dX12_readAct_91 rfl ?_
  refine r_aload_n (q := 93) dX12_readAct_92 rfl rfl rfl ?_
  refine r_getl (q := 96) ck12 dX12_readAct_93 rfl (k := 15) (by decide) wt1293 rfl (g34.e (by decide)) ?_
  refine r_topl (y := lN ((hdT (adv ts)).2.2)) (x34.1.2.2.1 (isNmb_t.mp hnm).1) ?_
  refine r_lastN (q := 97) 6 (by decide) rfl dX12_readAct_96 rfl (g34.e (by decide)) (g34.n rfl (by decide)) (by omega) (by decide) ?_
  refine r_aload_n (q := 98) dX12_readAct_97 rfl rfl rfl ?_
  refine r_callV (Mc := mX12_next) (q := 101) (As := []) (st := []) ck12 dX12_readAct_98 rfl rfl mkX12_next wt1573 wt1575 wp70 rfl (Nat.le_of_ble_eq_true rfl) (Nat.le_of_ble_eq_true rfl) (by decide) (by decide) (by decide) (Or.inl rfl) (g34.e (by decide)) (ok_nextR (S := sJ S34 1308 0 (3 + (wA W)) (lN ((hdT (adv ts)).2.2))) g34 hbl hlim r98) (fun r98 S98 hp98 => ?_)
  obtain ⟨rfl, w98, x98⟩ := hp98
  have g98 : Sd S98 := Sd.fr (S := sJ S34 1308 0 (3 + (wA W)) (lN ((hdT (adv ts)).2.2))) g34 w98
  show Ok _ _ _ [] _ _
  refine r_aload_n (q := 102) dX12_readAct_101 rfl rfl rfl ?_
  refine r_geti (q := 105) ck12 dX12_readAct_102 rfl (k := 9) (by decide) wt1287 (Or.inl rfl) (g98.e (by decide)) ?_
  refine r_topi (y := nI (rkt (hdT (adv (adv ts))).1)) x98.1.1 ?_
  refine r_iconst (q := 106) (nI 2) dX12_readAct_105 rfl (by decide) ?_
  refine r_icmp_eqN (q := 109) (t := 115) (by omega) (by omega) dX12_readAct_106 (by decide) rfl (fun h106 => absurd h106 (by omega)) (fun h106 => ?_)
  refine r_aload_n (q := 110) dX12_readAct_109 rfl rfl rfl ?_
  refine r_iconst (q := 111) (nI 1) dX12_readAct_110 rfl (by decide) ?_
  refine r_callV (Mc := mX12_bad) (q := 114) (As := [zi (nI 1)]) (st := []) ck12 dX12_readAct_111 rfl rfl mkX12_bad wt1596 wt1598 wp74 rfl (Nat.le_of_ble_eq_true rfl) (Nat.le_of_ble_eq_true rfl) (by decide) (by decide) (by decide) (Or.inl rfl) (g98.e (by decide)) (ok_bad (S := S98) g98 hbl hlim x98 h.2.1.adv.adv 1) (fun r111 S111 hp111 => ?_)
  obtain ⟨rfl, w111, x111⟩ := hp111
  show Ok _ _ _ [zi (nI 0)] _ _
  refine r_zreturn (by decide) dX12_readAct_114 rfl ?_
  exact ⟨rfl, ((w34.mono (fun a b k z => tLn_x a b k z)).tr ((Fr.rf.j (by simp [tLn]) : Fr tLn S34 (sJ S34 1308 0 (3 + wA W) (lN (hdT (adv ts)).2.2))).tr (w98.mono (fun a b k z => tLn_x a b k z)))).tr (w111.mono (fun a b k z => tLn_d a b k z)), x111⟩

set_option maxRecDepth 100000 in
theorem ok_ract_f {S : zS} (hs : Sd S) {bs : List Nat} {lim : Nat} (hbl : bs.length ≤ 940) (hlim : lim ≤ 940) {ts : List zTk} (hr : Rr S bs lim ts) {W : zWd} (h : Wpk W ts) (hc : WHr S W) {told : Bool} (h56 : gI S 12 0 56 = nI (b01 told)) (hL : ¬ 0 < wL W) (hA : ¬ 3 ≤ wA W) (hnm : isNmb (adv ts) = true) (hfa : fAct (wn W) (hdT (adv ts)).2.2 (wA W) = none) (hk3 : (hdT (adv (adv ts))).1 = 3) (hv : (hdT (adv (adv ts))).2.2 < 2 ∨ 4 < (hdT (adv (adv ts))).2.2) : Ok mX12_readAct 0 (ent 3 [zr 12 0]) [] S (fun r S1 => LnR S S1 bs lim r (actP told W ts)) := by
  obtain ⟨t1, t2, t3, t4⟩ := h.2.1.hd
  obtain ⟨u1, u2, u3, u4⟩ := h.2.1.adv.hd
  obtain ⟨v1, v2, v3, v4⟩ := h.2.1.adv.adv.hd
  have hL18 := h.1.2.2.2.1
  have hA3 := h.1.2.1.1
  have hv9 := v4 hk3
  have hk32 := rkt_2.mpr hk3
  have e : actP told W ts = Sum.inl (2, (hdT (adv (adv ts))).2.1) := (if_neg hL).trans ((if_neg hA).trans ((if_neg (by rw [hnm]; decide)).trans ((if_neg (fun z => z hfa)).trans ((if_neg (fun z => z hk3)).trans (if_pos hv)))))
  rw [e]
  show Ok mX12_readAct 0 [some (zr 12 0), none, none] [] S _
  refine r_aload_n (q := 1) dX12_readAct_0 rfl rfl rfl ?_
  refine r_getr (q := 4) (some (1307, 0)) ck12 dX12_readAct_1 rfl (k := 7) (by decide) wt1285 rfl (hs.e (by decide)) (hs.r (by decide) (by decide)) ?_
  refine r_iconst (q := 5) (nI 1) dX12_readAct_4 rfl (by decide) ?_
  refine r_ialdN (q := 6) 1173 (by decide) rfl dX12_readAct_5 rfl (hs.e (by decide)) (hs.n rfl (by decide)) (by omega) (by decide) ?_
  refine r_topi (y := nI (wA W)) hc.2.1 ?_
  refine r_istore_n (q := 7) (L' := [some (zr 12 0), some (zi (nI (wA W))), none]) dX12_readAct_6 rfl rfl (by decide) rfl ?_
  refine r_aload_n (q := 8) dX12_readAct_7 rfl rfl rfl ?_
  refine r_getr (q := 11) (some (1307, 0)) ck12 dX12_readAct_8 rfl (k := 7) (by decide) wt1285 rfl (hs.e (by decide)) (hs.r (by decide) (by decide)) ?_
  refine r_iconst (q := 12) (nI 2) dX12_readAct_11 rfl (by decide) ?_
  refine r_ialdN (q := 13) 1173 (by decide) rfl dX12_readAct_12 rfl (hs.e (by decide)) (hs.n rfl (by decide)) (by omega) (by decide) ?_
  refine r_topi (y := nI (wL W)) hc.2.2.1 ?_
  refine r_if_leN (q := 16) (t := 22) (by omega) dX12_readAct_13 (by decide) rfl (fun h13 => ?_) (fun h13 => absurd h13 (by omega))
  refine r_iload_n (q := 23) dX12_readAct_22 rfl rfl rfl ?_
  refine r_iconst (q := 24) (nI 3) dX12_readAct_23 rfl (by decide) ?_
  refine r_icmp_neN (q := 27) (t := 33) (by omega) (by omega) dX12_readAct_24 (by decide) rfl (fun h24 => ?_) (fun h24 => absurd h24 (by omega))
  refine r_aload_n (q := 34) dX12_readAct_33 rfl rfl rfl ?_
  refine r_callV (Mc := mX12_next) (q := 37) (As := []) (st := []) ck12 dX12_readAct_34 rfl rfl mkX12_next wt1573 wt1575 wp70 rfl (Nat.le_of_ble_eq_true rfl) (Nat.le_of_ble_eq_true rfl) (by decide) (by decide) (by decide) (Or.inl rfl) (hs.e (by decide)) (ok_nextR (S := S) hs hbl hlim hr) (fun r34 S34 hp34 => ?_)
  obtain ⟨rfl, w34, x34⟩ := hp34
  have g34 : Sd S34 := Sd.fr (S := S) hs w34
  have c34 : WHr S34 W := hc.fr w34 (fun _ => ⟨rfl, rfl⟩)
  show Ok _ _ _ [] _ _
  refine r_aload_n (q := 38) dX12_readAct_37 rfl rfl rfl ?_
  refine r_callV (Mc := mX12_isName) (q := 41) (As := []) (st := []) ck12 dX12_readAct_38 rfl rfl mkX12_isName wt1608 wt1610 wp76 rfl (Nat.le_of_ble_eq_true rfl) (Nat.le_of_ble_eq_true rfl) (by decide) (by decide) (by decide) (Or.inl rfl) (g34.e (by decide)) (ok_isNameR g34 hbl hlim x34 h.2.1.adv) (fun r38 S38 hp38 => ?_)
  obtain ⟨rfl, hq38⟩ := hp38
  rw [hq38]
  rw [if_pos hnm]
  show Ok _ _ _ [zi (nI 1)] _ _
  refine r_if_neN (q := 44) (t := 50) (by omega) dX12_readAct_41 (by decide) rfl (fun h41 => ?_) (fun h41 => absurd h41 (by omega))
  refine r_iconst (q := 51) (nI 0) dX12_readAct_50 rfl (by decide) ?_
  refine r_istore_n (q := 52) (L' := [some (zr 12 0), some (zi (nI (wA W))), some (zi (nI 0))]) dX12_readAct_51 rfl rfl (by decide) rfl ?_
  refine lp_rnm_n g34 h.1 (by omega) (fun a ha => (c34.2.2.2.1 a ha).2) (u3 (isNmb_t.mp hnm).1).1 (x34.1.2.2.1 (isNmb_t.mp hnm).1) hfa ?_ (wA W) 0 (by omega)
  have r98 : Rr (sJ S34 1308 0 (3 + wA W) (lN (hdT (adv ts)).2.2)) bs lim (adv ts) := x34.cong (fun k => rfl) (fun k _ => rfl) (by rw [gJ_sJ, if_neg (by omega)])
  refine r_aload_n (q := 86) dX12_readAct_85 rfl rfl rfl ?_
  refine r_getr (q := 89) (some (1308, 0)) ck12 dX12_readAct_86 rfl (k := 8) (by decide) wt1286 rfl (g34.e (by decide)) (g34.r (by decide) (by decide)) ?_
  refine r_iconst (q := 90) (nI 3) dX12_readAct_89 rfl (by decide) ?_
  refine r_iload_n (q := 91) dX12_readAct_90 rfl rfl rfl ?_
  refine r_iaddN (q := 92) dX12_readAct_91 rfl ?_
  refine r_aload_n (q := 93) dX12_readAct_92 rfl rfl rfl ?_
  refine r_getl (q := 96) ck12 dX12_readAct_93 rfl (k := 15) (by decide) wt1293 rfl (g34.e (by decide)) ?_
  refine r_topl (y := lN ((hdT (adv ts)).2.2)) (x34.1.2.2.1 (isNmb_t.mp hnm).1) ?_
  refine r_lastN (q := 97) 6 (by decide) rfl dX12_readAct_96 rfl (g34.e (by decide)) (g34.n rfl (by decide)) (by omega) (by decide) ?_
  refine r_aload_n (q := 98) dX12_readAct_97 rfl rfl rfl ?_
  refine r_callV (Mc := mX12_next) (q := 101) (As := []) (st := []) ck12 dX12_readAct_98 rfl rfl mkX12_next wt1573 wt1575 wp70 rfl (Nat.le_of_ble_eq_true rfl) (Nat.le_of_ble_eq_true rfl) (by decide) (by decide) (by decide) (Or.inl rfl) (g34.e (by decide)) (ok_nextR (S := sJ S34 1308 0 (3 + (wA W)) (lN ((hdT (adv ts)).2.2))) g34 hbl hlim r98) (fun r98 S98 hp98 => ?_)
  obtain ⟨rfl, w98, x98⟩ := hp98
  have g98 : Sd S98 := Sd.fr (S := sJ S34 1308 0 (3 + (wA W)) (lN ((hdT (adv ts)).2.2))) g34 w98
  show Ok _ _ _ [] _ _
  refine r_aload_n (q := 102) dX12_readAct_101 rfl rfl rfl ?_
  refine r_geti (q := 105) ck12 dX12_readAct_102 rfl (k := 9) (by decide) wt1287 (Or.inl rfl) (g98.e (by decide)) ?_
  refine r_topi (y := nI (rkt (hdT (adv (adv ts))).1)) x98.1.1 ?_
  refine r_iconst (q := 106) (nI 2) dX12_readAct_105 rfl (by decide) ?_
  refine r_icmp_eqN (q := 109) (t := 115) (by omega) (by omega) dX12_readAct_106 (by decide) rfl (fun h106 => ?_) (fun h106 => absurd h106 (by omega))
  refine r_aload_n (q := 116) dX12_readAct_115 rfl rfl rfl ?_
  refine r_geti (q := 119) ck12 dX12_readAct_116 rfl (k := 12) (by decide) wt1290 (Or.inl rfl) (g98.e (by decide)) ?_
  refine r_topi (y := nI ((hdT (adv (adv ts))).2.2)) (x98.1.2.2.2.1 hk3) ?_
  refine r_iconst (q := 120) (nI 2) dX12_readAct_119 rfl (by decide) ?_
  refine r_iconst (q := 121) (nI 4) dX12_readAct_120 rfl (by decide) ?_
  refine r_callS (Mc := mX12_isIn) (q := 124) (As := [zi (nI ((hdT (adv (adv ts))).2.2)), zi (nI 2), zi (nI 4)]) (st := []) dX12_readAct_121 rfl rfl mkX12_isIn wt1614 wt1615 rfl (Nat.le_of_ble_eq_true rfl) (Nat.le_of_ble_eq_true rfl) (by decide) (by decide) (by decide) (Or.inl rfl) g98.some (ok_X12_isIn_out (fun z => by have z1 := Int32.le_iff_toInt_le.mp z.1; have z2 := Int32.le_iff_toInt_le.mp z.2; rw [nI_toInt (by omega), nI_toInt (by omega)] at z1 z2; omega)) (fun r121 S121 hp121 => ?_)
  obtain ⟨rfl, hq121⟩ := hp121
  rw [hq121]
  show Ok _ _ _ [zi (nI 0)] _ _
  refine r_if_neN (q := 127) (t := 133) (by omega) dX12_readAct_124 (by decide) rfl (fun h124 => absurd h124 (by omega)) (fun h124 => ?_)
  refine r_aload_n (q := 128) dX12_readAct_127 rfl rfl rfl ?_
  refine r_iconst (q := 129) (nI 2) dX12_readAct_128 rfl (by decide) ?_
  refine r_callV (Mc := mX12_bad) (q := 132) (As := [zi (nI 2)]) (st := []) ck12 dX12_readAct_129 rfl rfl mkX12_bad wt1596 wt1598 wp74 rfl (Nat.le_of_ble_eq_true rfl) (Nat.le_of_ble_eq_true rfl) (by decide) (by decide) (by decide) (Or.inl rfl) (g98.e (by decide)) (ok_bad (S := S98) g98 hbl hlim x98 h.2.1.adv.adv 2) (fun r129 S129 hp129 => ?_)
  obtain ⟨rfl, w129, x129⟩ := hp129
  show Ok _ _ _ [zi (nI 0)] _ _
  refine r_zreturn (by decide) dX12_readAct_132 rfl ?_
  exact ⟨rfl, ((w34.mono (fun a b k z => tLn_x a b k z)).tr ((Fr.rf.j (by simp [tLn]) : Fr tLn S34 (sJ S34 1308 0 (3 + wA W) (lN (hdT (adv ts)).2.2))).tr (w98.mono (fun a b k z => tLn_x a b k z)))).tr (w129.mono (fun a b k z => tLn_d a b k z)), x129⟩

set_option maxRecDepth 100000 in
theorem ok_ract_g {S : zS} (hs : Sd S) {bs : List Nat} {lim : Nat} (hbl : bs.length ≤ 940) (hlim : lim ≤ 940) {ts : List zTk} (hr : Rr S bs lim ts) {W : zWd} (h : Wpk W ts) (hc : WHr S W) {told : Bool} (h56 : gI S 12 0 56 = nI (b01 told)) (hL : ¬ 0 < wL W) (hA : ¬ 3 ≤ wA W) (hnm : isNmb (adv ts) = true) (hfa : fAct (wn W) (hdT (adv ts)).2.2 (wA W) = none) (hk3 : (hdT (adv (adv ts))).1 = 3) (hv : ¬ ((hdT (adv (adv ts))).2.2 < 2 ∨ 4 < (hdT (adv (adv ts))).2.2)) : Ok mX12_readAct 0 (ent 3 [zr 12 0]) [] S (fun r S1 => LnR S S1 bs lim r (actP told W ts)) := by
  obtain ⟨t1, t2, t3, t4⟩ := h.2.1.hd
  obtain ⟨u1, u2, u3, u4⟩ := h.2.1.adv.hd
  obtain ⟨v1, v2, v3, v4⟩ := h.2.1.adv.adv.hd
  have hL18 := h.1.2.2.2.1
  have hA3 := h.1.2.1.1
  have hv9 := v4 hk3
  have hk32 := rkt_2.mpr hk3
  have e : actP told W ts = Sum.inr ((told, actW W (hdT (adv (adv ts))).2.2 (hdT (adv ts)).2.2), adv (adv (adv ts))) := (if_neg hL).trans ((if_neg hA).trans ((if_neg (by rw [hnm]; decide)).trans ((if_neg (fun z => z hfa)).trans ((if_neg (fun z => z hk3)).trans (if_neg hv)))))
  rw [e]
  show Ok mX12_readAct 0 [some (zr 12 0), none, none] [] S _
  refine r_aload_n (q := 1) dX12_readAct_0 rfl rfl rfl ?_
  refine r_getr (q := 4) (some (1307, 0)) ck12 dX12_readAct_1 rfl (k := 7) (by decide) wt1285 rfl (hs.e (by decide)) (hs.r (by decide) (by decide)) ?_
  refine r_iconst (q := 5) (nI 1) dX12_readAct_4 rfl (by decide) ?_
  refine r_ialdN (q := 6) 1173 (by decide) rfl dX12_readAct_5 rfl (hs.e (by decide)) (hs.n rfl (by decide)) (by omega) (by decide) ?_
  refine r_topi (y := nI (wA W)) hc.2.1 ?_
  refine r_istore_n (q := 7) (L' := [some (zr 12 0), some (zi (nI (wA W))), none]) dX12_readAct_6 rfl rfl (by decide) rfl ?_
  refine r_aload_n (q := 8) dX12_readAct_7 rfl rfl rfl ?_
  refine r_getr (q := 11) (some (1307, 0)) ck12 dX12_readAct_8 rfl (k := 7) (by decide) wt1285 rfl (hs.e (by decide)) (hs.r (by decide) (by decide)) ?_
  refine r_iconst (q := 12) (nI 2) dX12_readAct_11 rfl (by decide) ?_
  refine r_ialdN (q := 13) 1173 (by decide) rfl dX12_readAct_12 rfl (hs.e (by decide)) (hs.n rfl (by decide)) (by omega) (by decide) ?_
  refine r_topi (y := nI (wL W)) hc.2.2.1 ?_
  refine r_if_leN (q := 16) (t := 22) (by omega) dX12_readAct_13 (by decide) rfl (fun h13 => ?_) (fun h13 => absurd h13 (by omega))
  refine r_iload_n (q := 23) dX12_readAct_22 rfl rfl rfl ?_
  refine r_iconst (q := 24) (nI 3) dX12_readAct_23 rfl (by decide) ?_
  refine r_icmp_neN (q := 27) (t := 33) (by omega) (by omega) dX12_readAct_24 (by decide) rfl (fun h24 => ?_) (fun h24 => absurd h24 (by omega))
  refine r_aload_n (q := 34) dX12_readAct_33 rfl rfl rfl ?_
  refine r_callV (Mc := mX12_next) (q := 37) (As := []) (st := []) ck12 dX12_readAct_34 rfl rfl mkX12_next wt1573 wt1575 wp70 rfl (Nat.le_of_ble_eq_true rfl) (Nat.le_of_ble_eq_true rfl) (by decide) (by decide) (by decide) (Or.inl rfl) (hs.e (by decide)) (ok_nextR (S := S) hs hbl hlim hr) (fun r34 S34 hp34 => ?_)
  obtain ⟨rfl, w34, x34⟩ := hp34
  have g34 : Sd S34 := Sd.fr (S := S) hs w34
  have c34 : WHr S34 W := hc.fr w34 (fun _ => ⟨rfl, rfl⟩)
  show Ok _ _ _ [] _ _
  refine r_aload_n (q := 38) dX12_readAct_37 rfl rfl rfl ?_
  refine r_callV (Mc := mX12_isName) (q := 41) (As := []) (st := []) ck12 dX12_readAct_38 rfl rfl mkX12_isName wt1608 wt1610 wp76 rfl (Nat.le_of_ble_eq_true rfl) (Nat.le_of_ble_eq_true rfl) (by decide) (by decide) (by decide) (Or.inl rfl) (g34.e (by decide)) (ok_isNameR g34 hbl hlim x34 h.2.1.adv) (fun r38 S38 hp38 => ?_)
  obtain ⟨rfl, hq38⟩ := hp38
  rw [hq38]
  rw [if_pos hnm]
  show Ok _ _ _ [zi (nI 1)] _ _
  refine r_if_neN (q := 44) (t := 50) (by omega) dX12_readAct_41 (by decide) rfl (fun h41 => ?_) (fun h41 => absurd h41 (by omega))
  refine r_iconst (q := 51) (nI 0) dX12_readAct_50 rfl (by decide) ?_
  refine r_istore_n (q := 52) (L' := [some (zr 12 0), some (zi (nI (wA W))), some (zi (nI 0))]) dX12_readAct_51 rfl rfl (by decide) rfl ?_
  refine lp_rnm_n g34 h.1 (by omega) (fun a ha => (c34.2.2.2.1 a ha).2) (u3 (isNmb_t.mp hnm).1).1 (x34.1.2.2.1 (isNmb_t.mp hnm).1) hfa ?_ (wA W) 0 (by omega)
  have r98 : Rr (sJ S34 1308 0 (3 + wA W) (lN (hdT (adv ts)).2.2)) bs lim (adv ts) := x34.cong (fun k => rfl) (fun k _ => rfl) (by rw [gJ_sJ, if_neg (by omega)])
  refine r_aload_n (q := 86) dX12_readAct_85 rfl rfl rfl ?_
  refine r_getr (q := 89) (some (1308, 0)) ck12 dX12_readAct_86 rfl (k := 8) (by decide) wt1286 rfl (g34.e (by decide)) (g34.r (by decide) (by decide)) ?_
  refine r_iconst (q := 90) (nI 3) dX12_readAct_89 rfl (by decide) ?_
  refine r_iload_n (q := 91) dX12_readAct_90 rfl rfl rfl ?_
  refine r_iaddN (q := 92) dX12_readAct_91 rfl ?_
  refine r_aload_n (q := 93) dX12_readAct_92 rfl rfl rfl ?_
  refine r_getl (q := 96) ck12 dX12_readAct_93 rfl (k := 15) (by decide) wt1293 rfl (g34.e (by decide)) ?_
  refine r_topl (y := lN ((hdT (adv ts)).2.2)) (x34.1.2.2.1 (isNmb_t.mp hnm).1) ?_
  refine r_lastN (q := 97) 6 (by decide) rfl dX12_readAct_96 rfl (g34.e (by decide)) (g34.n rfl (by decide)) (by omega) (by decide) ?_
  refine r_aload_n (q := 98) dX12_readAct_97 rfl rfl rfl ?_
  refine r_callV (Mc := mX12_next) (q := 101) (As := []) (st := []) ck12 dX12_readAct_98 rfl rfl mkX12_next wt1573 wt1575 wp70 rfl (Nat.le_of_ble_eq_true rfl) (Nat.le_of_ble_eq_true rfl) (by decide) (by decide) (by decide) (Or.inl rfl) (g34.e (by decide)) (ok_nextR (S := sJ S34 1308 0 (3 + (wA W)) (lN ((hdT (adv ts)).2.2))) g34 hbl hlim r98) (fun r98 S98 hp98 => ?_)
  obtain ⟨rfl, w98, x98⟩ := hp98
  have g98 : Sd S98 := Sd.fr (S := sJ S34 1308 0 (3 + (wA W)) (lN ((hdT (adv ts)).2.2))) g34 w98
  have e98 : gI S98 1307 0 1 = nI (wA W) := (w98.1 _ _ _ rfl).trans c34.2.1
  show Ok _ _ _ [] _ _
  refine r_aload_n (q := 102) dX12_readAct_101 rfl rfl rfl ?_
  refine r_geti (q := 105) ck12 dX12_readAct_102 rfl (k := 9) (by decide) wt1287 (Or.inl rfl) (g98.e (by decide)) ?_
  refine r_topi (y := nI (rkt (hdT (adv (adv ts))).1)) x98.1.1 ?_
  refine r_iconst (q := 106) (nI 2) dX12_readAct_105 rfl (by decide) ?_
  refine r_icmp_eqN (q := 109) (t := 115) (by omega) (by omega) dX12_readAct_106 (by decide) rfl (fun h106 => ?_) (fun h106 => absurd h106 (by omega))
  refine r_aload_n (q := 116) dX12_readAct_115 rfl rfl rfl ?_
  refine r_geti (q := 119) ck12 dX12_readAct_116 rfl (k := 12) (by decide) wt1290 (Or.inl rfl) (g98.e (by decide)) ?_
  refine r_topi (y := nI ((hdT (adv (adv ts))).2.2)) (x98.1.2.2.2.1 hk3) ?_
  refine r_iconst (q := 120) (nI 2) dX12_readAct_119 rfl (by decide) ?_
  refine r_iconst (q := 121) (nI 4) dX12_readAct_120 rfl (by decide) ?_
  refine r_callS (Mc := mX12_isIn) (q := 124) (As := [zi (nI ((hdT (adv (adv ts))).2.2)), zi (nI 2), zi (nI 4)]) (st := []) dX12_readAct_121 rfl rfl mkX12_isIn wt1614 wt1615 rfl (Nat.le_of_ble_eq_true rfl) (Nat.le_of_ble_eq_true rfl) (by decide) (by decide) (by decide) (Or.inl rfl) g98.some (ok_X12_isIn_in (by omega) (by omega) (by omega)) (fun r121 S121 hp121 => ?_)
  obtain ⟨rfl, hq121⟩ := hp121
  rw [hq121]
  show Ok _ _ _ [zi (nI 1)] _ _
  refine r_if_neN (q := 127) (t := 133) (by omega) dX12_readAct_124 (by decide) rfl (fun h124 => ?_) (fun h124 => absurd h124 (by omega))
  refine r_aload_n (q := 134) dX12_readAct_133 rfl rfl rfl ?_
  refine r_getr (q := 137) (some (1307, 0)) ck12 dX12_readAct_134 rfl (k := 7) (by decide) wt1285 rfl (g98.e (by decide)) (g98.r (by decide) (by decide)) ?_
  refine r_iconst (q := 138) (nI 4) dX12_readAct_137 rfl (by decide) ?_
  refine r_iload_n (q := 139) dX12_readAct_138 rfl rfl rfl ?_
  refine r_iaddN (q := 140) dX12_readAct_139 rfl ?_
  refine r_aload_n (q := 141) dX12_readAct_140 rfl rfl rfl ?_
  refine r_geti (q := 144) ck12 dX12_readAct_141 rfl (k := 12) (by decide) wt1290 (Or.inl rfl) (g98.e (by decide)) ?_
  refine r_topi (y := nI ((hdT (adv (adv ts))).2.2)) (x98.1.2.2.2.1 hk3) ?_
  refine r_iastN (q := 145) 1173 (by decide) rfl dX12_readAct_144 rfl (g98.e (by decide)) (g98.n rfl (by decide)) (by omega) (by decide) ?_
  refine r_aload_n (q := 146) dX12_readAct_145 rfl rfl rfl ?_
  refine r_getr (q := 149) (some (1307, 0)) ck12 dX12_readAct_146 rfl (k := 7) (by decide) wt1285 rfl (g98.e (by decide)) (g98.r (by decide) (by decide)) ?_
  refine r_iconst (q := 150) (nI 1) dX12_readAct_149 rfl (by decide) ?_
  refine r_dup2 (q := 151) dX12_readAct_150 rfl rfl rfl ?_
  refine r_ialdN (q := 152) 1173 (by decide) rfl dX12_readAct_151 rfl (g98.e (by decide)) (g98.n rfl (by decide)) (by omega) (by decide) ?_
  refine r_topi (y := gI S98 1307 0 1) (by repeat (first | rw [gI_sI, if_neg (by omega)] | rw [gI_sI, if_pos ⟨rfl, rfl, rfl⟩] | rw [gJ_sJ, if_neg (by omega)] | rw [gJ_sJ, if_pos ⟨rfl, rfl, rfl⟩] | rw [gI_sJ] | rw [gJ_sI])) ?_
  refine r_topi (y := nI (wA W)) e98 ?_
  refine r_iconst (q := 153) (nI 1) dX12_readAct_152 rfl (by decide) ?_
  refine r_iaddN (q := 154) dX12_readAct_153 rfl ?_
  refine r_iastN (q := 155) 1173 (by decide) rfl dX12_readAct_154 rfl (g98.e (by decide)) (g98.n rfl (by decide)) (by omega) (by decide) ?_
  refine r_aload_n (q := 156) dX12_readAct_155 rfl rfl rfl ?_
  refine r_callV (Mc := mX12_next) (q := 159) (As := []) (st := []) ck12 dX12_readAct_156 rfl rfl mkX12_next wt1573 wt1575 wp70 rfl (Nat.le_of_ble_eq_true rfl) (Nat.le_of_ble_eq_true rfl) (by decide) (by decide) (by decide) (Or.inl rfl) (g98.e (by decide)) (ok_nextR (S := sI (sI S98 1307 0 (4 + (wA W)) (nI ((hdT (adv (adv ts))).2.2))) 1307 0 1 (nI ((wA W) + 1))) g98 hbl hlim (x98.cong (fun k => by rw [gI_sI, if_neg (by omega), gI_sI, if_neg (by omega)]) (fun k _ => by rw [gI_sI, if_neg (by omega), gI_sI, if_neg (by omega)]) rfl)) (fun r156 S156 hp156 => ?_)
  obtain ⟨rfl, w156, x156⟩ := hp156
  have g156 : Sd S156 := Sd.fr (S := sI (sI S98 1307 0 (4 + (wA W)) (nI ((hdT (adv (adv ts))).2.2))) 1307 0 1 (nI ((wA W) + 1))) g98 w156
  show Ok _ _ _ [] _ _
  refine r_iconst (q := 160) (nI 1) dX12_readAct_159 rfl (by decide) ?_
  refine r_zreturn (by decide) dX12_readAct_160 rfl ?_
  have g0 : Fr tLn S98 (sI (sI S98 1307 0 (4 + wA W) (nI (hdT (adv (adv ts))).2.2)) 1307 0 1 (nI (wA W + 1))) := (Fr.rf.i (by simp [tLn])).i (by simp [tLn])
  have hI : ∀ k, k ≠ 1 → k ≠ 4 + wA W → gI S156 1307 0 k = gI S34 1307 0 k := fun k a b => by rw [w156.1 1307 0 k rfl, gI_sI, if_neg (by omega), gI_sI, if_neg (by omega), w98.1 1307 0 k rfl]; rfl
  have hJ : ∀ k, gJ S156 1308 0 k = gJ (sJ S34 1308 0 (3 + wA W) (lN (hdT (adv ts)).2.2)) 1308 0 k := fun k => by rw [w156.2.1 1308 0 k rfl, gJ_sI, gJ_sI, w98.2.1 1308 0 k rfl]
  have hA4 : WHr S156 (actW W (hdT (adv (adv ts))).2.2 (hdT (adv ts)).2.2) := c34.act h.1 (by omega) (by rw [w156.1 1307 0 1 rfl, gI_sI, if_pos ⟨rfl, rfl, rfl⟩]) (by rw [w156.1 1307 0 _ rfl, gI_sI, if_neg (by omega), gI_sI, if_pos ⟨rfl, rfl, rfl⟩]) (by rw [hJ, gJ_sJ, if_pos ⟨rfl, rfl, rfl⟩]) (by omega) hI (fun k a => by rw [hJ, gJ_sJ, if_neg (by omega)])
  exact ⟨rfl, (((w34.mono (fun a b k z => tLn_x a b k z)).tr ((Fr.rf.j (by simp [tLn]) : Fr tLn S34 (sJ S34 1308 0 (3 + wA W) (lN (hdT (adv ts)).2.2))).tr (w98.mono (fun a b k z => tLn_x a b k z)))).tr g0).tr (w156.mono (fun a b k z => tLn_x a b k z)), by rw [w156.1 12 0 13 rfl, gI_sI, if_neg (by omega), gI_sI, if_neg (by omega), w98.1 12 0 13 rfl]; exact w34.1 12 0 13 rfl, x156, hA4, by rw [w156.1 12 0 56 rfl, gI_sI, if_neg (by omega), gI_sI, if_neg (by omega), w98.1 12 0 56 rfl]; exact (w34.1 12 0 56 rfl).trans h56, fun k hk => (hI k (by omega) (by omega)).trans (w34.1 1307 0 k rfl)⟩

theorem ok_ract {S : zS} (hs : Sd S) {bs : List Nat} {lim : Nat} (hbl : bs.length ≤ 940) (hlim : lim ≤ 940) {ts : List zTk} (hr : Rr S bs lim ts) {W : zWd} (h : Wpk W ts) (hc : WHr S W) {told : Bool} (h56 : gI S 12 0 56 = nI (b01 told)) : Ok mX12_readAct 0 (ent 3 [zr 12 0]) [] S (fun r S1 => LnR S S1 bs lim r (actP told W ts)) := by
  by_cases hL : 0 < wL W
  · exact ok_ract_a hs hbl hlim hr h hc h56 hL
  by_cases hA : 3 ≤ wA W
  · exact ok_ract_b hs hbl hlim hr h hc h56 hL hA
  by_cases hnm : isNmb (adv ts) = true
  · cases hfa : fAct (wn W) (hdT (adv ts)).2.2 (wA W) with
    | some a => exact ok_ract_d hs hbl hlim hr h hc h56 hL hA hnm hfa
    | none =>
      by_cases hk3 : (hdT (adv (adv ts))).1 = 3
      · by_cases hv : (hdT (adv (adv ts))).2.2 < 2 ∨ 4 < (hdT (adv (adv ts))).2.2
        · exact ok_ract_f hs hbl hlim hr h hc h56 hL hA hnm hfa hk3 hv
        · exact ok_ract_g hs hbl hlim hr h hc h56 hL hA hnm hfa hk3 hv
      · exact ok_ract_e hs hbl hlim hr h hc h56 hL hA hnm hfa hk3
  · exact ok_ract_c hs hbl hlim hr h hc h56 hL hA hnm

