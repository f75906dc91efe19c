/-! map: the class -/
theorem mapP_ok {nmW eW : Nat → Nat} {AW : Nat} {nmK eK : Nat → Nat} {AK P : Nat} (hEW : Eok AW eW) (hE : Eok AK eK) (hP : 0 < P) : ∀ (f : Nat) (im im' : zIm) (ts : List zTk), Tks ts → Lk ts → ts.length ≤ 401 → ImS AW eW AK eK P im → mapP nmW eW AW nmK eK AK P f im ts = Sum.inr im' → ImS AW eW AK eK P im' ∧ allI AW im' = true
  | 0, _, _, _, _, _, _, _, h => by cases h
  | f + 1, im, im', ts, hk, hlk, h4, hI, h => by
    rw [mapP] at h
    split at h
    · split at h
      · rename_i ha; cases h; exact ⟨hI, ha⟩
      · cases h
    · cases q : lineM nmW eW AW nmK eK AK P im ts with
      | inl x => rw [q] at h; cases h
      | inr x =>
        obtain ⟨im2, ts2⟩ := x
        obtain ⟨a1, a2, a3, a4⟩ := lineM_ok hEW hE hP hk hlk h4 hI q
        rw [q] at h
        exact mapP_ok hEW hE hP f im2 im' ts2 a1 a2 (by omega) a4 h
def imf (im : zIm) : Nat → List zT := fun a => (im a).getD []
def mapQ (W Wk : zWd) (bs : List Nat) : zEr ⊕ zIm := mapP (wn W) (we W) (wA W) (wn Wk) (we Wk) (wA Wk) (wP Wk) (lexA bs 400 0).length (fun _ => none) (lexA bs 400 0)
theorem mapQ_ok {W Wk : zWd} (hW : Wok W) (hK : Wok Wk) {bs : List Nat} (hb : ∀ c, c ∈ bs → c < 256) (hbl : bs.length ≤ 940) {im : zIm} (h : mapQ W Wk bs = Sum.inr im) : ImW W Wk (imf im) ∧ (∀ a, a < wA W → (imf im a).length ≤ 64) ∧ ∀ a, a < wA W → im a = some (imf im a) := by
  have hlen : (lexA bs 400 0).length ≤ 401 := by
    have := lexA_len (bs := bs) (lim := 400) (min bs.length 400) 0 (by omega)
    omega
  obtain ⟨h1, h2⟩ := mapP_ok hW.2.1 hK.2.1 (show 0 < wP Wk by have := hK.1.1; omega) _ _ _ _ (lex_tks hb hbl) (lex_lk _ _) hlen (fun a c z => by cases z) h
  have h3 := allI_t.mp h2
  have h4 : ∀ a, a < wA W → im a = some (imf im a) := fun a ha => by
    have := h3 a ha
    unfold imf
    cases q : im a with
    | none => rw [q] at this; cases this
    | some c => rfl
  exact ⟨fun a ha => (h1 a _ (h4 a ha)).2.1, fun a ha => by have := (h1 a _ (h4 a ha)).2.2; omega, h4⟩
def Gre (W Wk : zWd) : Prop := ∃ l, l < wL W ∧ ¬ tc Wk (lw W l).1 ≤ 300

set_option maxRecDepth 100000 in
theorem lp_reach2 {W : zWd} (hW : Wok W) {b N n0 : Nat} (hb4 : b < 4) (hN7 : N ≤ 7) (h3N : tc W N ≤ 300) : ∀ (d n : Nat) (S : zS) (mk : Nat → Nat → Nat) (rl : Nat → Nat → Nat → Nat), N ≤ n + d → n0 ≤ n → n ≤ 7 → Sd S → WC S b W → Tcs S b W → CB S b W n mk rl → Ok mX0_reach 20 [some (zr 0 b), some (zi (nI N)), some (zi (nI (n + 1)))] [] S (fun r S1 => r = some (zi (nI 1)) ∧ Fg (tRe b) S S1 ∧ WC S1 b W ∧ ∃ n mk rl, CB S1 b W n mk rl ∧ N ≤ n ∧ n0 ≤ n) := by
  have hE := hW.2.1
  intro d
  induction d with
  | zero =>
    intro n S mk rl hd hn0 hn7 hs hc hT hB
    refine r_iload_n (q := 21) dX0_reach_20 rfl rfl rfl ?_
    refine r_iload_n (q := 22) dX0_reach_21 rfl rfl rfl ?_
    refine r_icmp_gtN (q := 25) (t := 79) (by omega) (by omega) dX0_reach_22 (by decide) rfl (fun h22 => ?_) (fun h22 => absurd h22 (by omega))
    refine r_iconst (q := 80) (nI 1) dX0_reach_79 rfl (by decide) ?_
    refine r_zreturn (by decide) dX0_reach_80 rfl ?_
    exact ⟨rfl, Fg.rf hs, hc, n, mk, rl, hB, by omega, hn0⟩
  | succ d ih =>
    intro n S mk rl hd hn0 hn7 hs hc hT hB
    by_cases hNn : N ≤ n
    · skip
      refine r_iload_n (q := 21) dX0_reach_20 rfl rfl rfl ?_
      refine r_iload_n (q := 22) dX0_reach_21 rfl rfl rfl ?_
      refine r_icmp_gtN (q := 25) (t := 79) (by omega) (by omega) dX0_reach_22 (by decide) rfl (fun h22 => ?_) (fun h22 => absurd h22 (by omega))
      refine r_iconst (q := 80) (nI 1) dX0_reach_79 rfl (by decide) ?_
      refine r_zreturn (by decide) dX0_reach_80 rfl ?_
      exact ⟨rfl, Fg.rf hs, hc, n, mk, rl, hB, by omega, hn0⟩
    · have hsm := tc_small hE (show n + 1 ≤ 7 by omega)
      have t9 := hT (n + 1) (by omega) (by omega)
      have h3 : tc W (n + 1) ≤ 300 := tc_down hE hN7 h3N (by omega)
      refine r_iload_n (q := 21) dX0_reach_20 rfl rfl rfl ?_
      refine r_iload_n (q := 22) dX0_reach_21 rfl rfl rfl ?_
      refine r_icmp_gtN (q := 25) (t := 79) (by omega) (by omega) dX0_reach_22 (by decide) rfl (fun h22 => absurd h22 (by omega)) (fun h22 => ?_)
      refine r_aload_n (q := 26) dX0_reach_25 rfl rfl rfl ?_
      refine r_getr (q := 29) (some (9, b)) ck0 dX0_reach_26 rfl (k := 0) (by decide) wt374 rfl (hs.e (show b < 4 by omega)) (hs.r (show b < 4 by omega) (by decide)) ?_
      refine r_getr (q := 32) (some (1009, b)) ck9 dX0_reach_29 rfl (k := 9) (by decide) wt339 rfl (hs.e (show b < 4 by omega)) (hs.r (show b < 4 by omega) (by decide)) ?_
      refine r_iload_n (q := 33) dX0_reach_32 rfl rfl rfl ?_
      refine r_laldN (q := 34) 11 (by decide) rfl dX0_reach_33 rfl (hs.e (show b < 4 by omega)) (hs.n rfl (show b < 4 by omega)) (by omega) (by decide) ?_
      refine r_topl (y := lN (tc W (n + 1))) t9 ?_
      refine r_ldc2 (q := 37) (300 : Int64) dX0_reach_34 rfl wt774 ?_
      refine r_topl (y := lN 300) rfl ?_
      refine r_lcmp (q := 38) dX0_reach_37 rfl ?_
      refine r_if_le (q := 41) (t := 43) dX0_reach_38 (by decide) rfl (fun h38 => ?_) (fun h38 => absurd h38 (fun z => z ((lcmp_le (by omega) (by omega)).mpr h3)))
      refine lp_level hW hb4 hs hc hB (by omega) h3 (fun S1 mk1 rl1 f1 g1 g2 => ?_)
      refine r_iincN (q := 76) (L' := [some (zr 0 b), some (zi (nI N)), some (zi (nI (n + 1 + 1)))]) 1 rfl dX0_reach_73 rfl rfl (by decide) rfl ?_
      refine r_goto (q := 20) dX0_reach_76 (by decide) ?_
      exact Ok.mono (ih (n + 1) S1 mk1 rl1 (by omega) (by omega) (by omega) f1.sd g1 (hT.fg f1) g2) fun r S2 z => ⟨z.1, f1.tr z.2.1, z.2.2⟩

set_option maxRecDepth 100000 in
theorem ok_reach_m {S : zS} (hs : Sd S) {W : zWd} (hW : Wok W) {b N n : Nat} (hb4 : b < 4) (hN1 : 1 ≤ N) (hN7 : N ≤ 7) (hc : WC S b W) (hT : Tcs S b W) {mk : Nat → Nat → Nat} {rl : Nat → Nat → Nat → Nat} (hB : CB S b W n mk rl) (h3 : tc W N ≤ 300) : Ok mX0_reach 0 (ent 3 [zr 0 b, zi (nI N)]) [] S (fun r S1 => r = some (zi (nI 1)) ∧ Fg (tRe b) S S1 ∧ WC S1 b W ∧ ∃ n1 mk rl, CB S1 b W n1 mk rl ∧ N ≤ n1 ∧ n ≤ n1) := by
  have hn7 := hB.2.1
  show Ok mX0_reach 0 [some (zr 0 b), some (zi (nI N)), none] [] S _
  refine r_iload_n (q := 1) dX0_reach_0 rfl rfl rfl ?_
  refine r_iconst (q := 2) (nI 1) dX0_reach_1 rfl (by decide) ?_
  refine r_icmp_ltN (q := 5) (t := 11) (by omega) (by omega) dX0_reach_2 (by decide) rfl (fun h2 => absurd h2 (by omega)) (fun h2 => ?_)
  refine r_iload_n (q := 6) dX0_reach_5 rfl rfl rfl ?_
  refine r_bipush (q := 8) (nI 7) dX0_reach_6 rfl (by decide) ?_
  refine r_icmp_leN (q := 11) (t := 13) (by omega) (by omega) dX0_reach_8 (by decide) rfl (fun h8 => ?_) (fun h8 => absurd h8 (by omega))
  refine r_aload_n (q := 14) dX0_reach_13 rfl rfl rfl ?_
  refine r_geti (q := 17) ck0 dX0_reach_14 rfl (k := 2) (by decide) wt379 (Or.inl rfl) (hs.e (show b < 4 by omega)) ?_
  refine r_topi (y := nI n) hB.1 ?_
  refine r_iconst (q := 18) (nI 1) dX0_reach_17 rfl (by decide) ?_
  refine r_iaddN (q := 19) dX0_reach_18 rfl ?_
  refine r_istore_n (q := 20) (L' := [some (zr 0 b), some (zi (nI N)), some (zi (nI (n + 1)))]) dX0_reach_19 rfl rfl (by decide) rfl ?_
  exact lp_reach2 hW hb4 (by omega) h3 N n S mk rl (by omega) (Nat.le_refl _) hB.2.1 hs hc hT hB

set_option maxRecDepth 100000 in
theorem lp_map86 {W Wk : zWd} (hW : Wok W) (hK : Wok Wk) {cc s : Nat} (hc4 : cc < 4) (hs4 : s < 4) {y : Int32} {Po : Option zV → zS → Prop} : ∀ (d l : Nat) (S : zS) (n0 : Nat) (mk : Nat → Nat → Nat) (rl : Nat → Nat → Nat → Nat), l + d = wL W → Sd S → WC S cc W → WC S s Wk → Tcs S s Wk → CB S s Wk n0 mk rl → (∀ i, i < l → (lw W i).1 ≤ n0 ∧ tc Wk (lw W i).1 ≤ 300) → (∀ S1 n1 mk1 rl1, ¬ Gre W Wk → Fg (tRe s) S S1 → WC S1 s Wk → CB S1 s Wk n1 mk1 rl1 → (∀ i, i < wL W → (lw W i).1 ≤ n1) → Ok mX11_map 119 [some (zr 11 0), some (zi y), some (zr 0 s), some (zr 9 cc), some (zi (nI (wL W)))] [] S1 Po) → (∀ S1, Gre W Wk → Fg (tRe s) S S1 → (∃ n mk rl, CB S1 s Wk n mk rl) → Po (some (zi (-1001 : Int32))) S1) → Ok mX11_map 86 [some (zr 11 0), some (zi y), some (zr 0 s), some (zr 9 cc), some (zi (nI l))] [] S Po := by
  intro d
  have h18 := hW.2.2.2.1
  induction d with
  | zero =>
    intro l S n0 mk rl hl hs hcW hc hT hB hlo K1 K0
    have el : l = wL W := by omega
    subst el
    have e4 := hcW.2.2.1
    refine r_iload (q := 88) dX11_map_86 rfl rfl ?_
    refine r_aload_n (q := 89) dX11_map_88 rfl rfl rfl ?_
    refine r_geti (q := 92) ck9 dX11_map_89 rfl (k := 4) (by decide) wt316 (Or.inl rfl) (hs.e (show cc < 4 by omega)) ?_
    refine r_topi (y := nI (wL W)) e4 ?_
    refine r_icmp_geN (q := 95) (t := 119) (by omega) (by omega) dX11_map_92 (by decide) rfl (fun h92 => ?_) (fun h92 => absurd h92 (by omega))
    exact K1 S n0 mk rl (fun ⟨i, a, b⟩ => b (hlo i a).2) (Fg.rf hs) hc hB (fun i hi => (hlo i hi).1)
  | succ d ih =>
    intro l S n0 mk rl hl hs hcW hc hT hB hlo K1 K0
    have e4 := hcW.2.2.1
    have e5 := hcW.2.2.2.2.1 l (by omega)
    obtain ⟨g1, g2, g3⟩ := hW.2.2.2.2.2 l (by omega)
    by_cases h3 : tc Wk (lw W l).1 ≤ 300
    · skip
      refine r_iload (q := 88) dX11_map_86 rfl rfl ?_
      refine r_aload_n (q := 89) dX11_map_88 rfl rfl rfl ?_
      refine r_geti (q := 92) ck9 dX11_map_89 rfl (k := 4) (by decide) wt316 (Or.inl rfl) (hs.e (show cc < 4 by omega)) ?_
      refine r_topi (y := nI (wL W)) e4 ?_
      refine r_icmp_geN (q := 95) (t := 119) (by omega) (by omega) dX11_map_92 (by decide) rfl (fun h92 => absurd h92 (by omega)) (fun h92 => ?_)
      refine r_aload_n (q := 96) dX11_map_95 rfl rfl rfl ?_
      refine r_aload_n (q := 97) dX11_map_96 rfl rfl rfl ?_
      refine r_getr (q := 100) (some (1005, cc)) ck9 dX11_map_97 rfl (k := 5) (by decide) wt320 rfl (hs.e (show cc < 4 by omega)) (hs.r (show cc < 4 by omega) (by decide)) ?_
      refine r_iload (q := 102) dX11_map_100 rfl rfl ?_
      refine r_ialdN (q := 103) 18 (by decide) rfl dX11_map_102 rfl (hs.e (show cc < 4 by omega)) (hs.n rfl (show cc < 4 by omega)) (by omega) (by decide) ?_
      refine r_topi (y := nI ((lw W l).1)) e5 ?_
      refine r_callV (Mc := mX0_reach) (q := 106) (As := [zi (nI ((lw W l).1))]) (st := []) ck0 dX11_map_103 rfl rfl mkX0_reach wt770 wt771 wt772 rfl (Nat.le_of_ble_eq_true rfl) (Nat.le_of_ble_eq_true rfl) (by decide) (by decide) (by decide) (Or.inr ⟨Nat.le_of_ble_eq_true rfl, rfl, rfl⟩) (hs.e (show s < 4 by omega)) (ok_reach_m hs hK hs4 (by omega) g2 hc hT hB h3) (fun r103 S103 hp103 => ?_)
      obtain ⟨rfl, f1, hc1, n1, mk1, rl1, hB1, b1, b2⟩ := hp103
      have hs1 := f1.sd
      show Ok _ _ _ [zi (nI 1)] _ _
      refine r_if_neN (q := 109) (t := 113) (by omega) dX11_map_106 (by decide) rfl (fun h106 => ?_) (fun h106 => absurd h106 (by omega))
      refine r_iincN (q := 116) (L' := [some (zr 11 0), some (zi y), some (zr 0 s), some (zr 9 cc), some (zi (nI (l + 1)))]) 1 rfl dX11_map_113 rfl rfl (by decide) rfl ?_
      refine r_goto (q := 86) dX11_map_116 (by decide) ?_
      exact ih (l + 1) S103 n1 mk1 rl1 (by omega) hs1 (hcW.fg f1 (fun a k ha => by unfold tRe; omega)) hc1 (hT.re f1) hB1 (fun i hi => by
        by_cases e : i = l
        · rw [e]; exact ⟨b1, h3⟩
        · have := hlo i (by omega); exact ⟨by omega, this.2⟩) (fun S2 n2 mk2 rl2 g f => K1 S2 n2 mk2 rl2 g (f1.tr f)) (fun S2 g f => K0 S2 g (f1.tr f))
    · skip
      refine r_iload (q := 88) dX11_map_86 rfl rfl ?_
      refine r_aload_n (q := 89) dX11_map_88 rfl rfl rfl ?_
      refine r_geti (q := 92) ck9 dX11_map_89 rfl (k := 4) (by decide) wt316 (Or.inl rfl) (hs.e (show cc < 4 by omega)) ?_
      refine r_topi (y := nI (wL W)) e4 ?_
      refine r_icmp_geN (q := 95) (t := 119) (by omega) (by omega) dX11_map_92 (by decide) rfl (fun h92 => absurd h92 (by omega)) (fun h92 => ?_)
      refine r_aload_n (q := 96) dX11_map_95 rfl rfl rfl ?_
      refine r_aload_n (q := 97) dX11_map_96 rfl rfl rfl ?_
      refine r_getr (q := 100) (some (1005, cc)) ck9 dX11_map_97 rfl (k := 5) (by decide) wt320 rfl (hs.e (show cc < 4 by omega)) (hs.r (show cc < 4 by omega) (by decide)) ?_
      refine r_iload (q := 102) dX11_map_100 rfl rfl ?_
      refine r_ialdN (q := 103) 18 (by decide) rfl dX11_map_102 rfl (hs.e (show cc < 4 by omega)) (hs.n rfl (show cc < 4 by omega)) (by omega) (by decide) ?_
      refine r_topi (y := nI ((lw W l).1)) e5 ?_
      refine r_callV (Mc := mX0_reach) (q := 106) (As := [zi (nI ((lw W l).1))]) (st := []) ck0 dX11_map_103 rfl rfl mkX0_reach wt770 wt771 wt772 rfl (Nat.le_of_ble_eq_true rfl) (Nat.le_of_ble_eq_true rfl) (by decide) (by decide) (by decide) (Or.inr ⟨Nat.le_of_ble_eq_true rfl, rfl, rfl⟩) (hs.e (show s < 4 by omega)) (ok_reach_n hs hK hs4 (by omega) g2 hc hT hB h3) (fun r103 S103 hp103 => ?_)
      obtain ⟨rfl, f1, hc1, hB1⟩ := hp103
      have hs1 := f1.sd
      show Ok _ _ _ [zi (nI 0)] _ _
      refine r_if_neN (q := 109) (t := 113) (by omega) dX11_map_106 (by decide) rfl (fun h106 => absurd h106 (by omega)) (fun h106 => ?_)
      refine r_sipush (q := 112) ((-1001 : Int32)) dX11_map_109 rfl (by decide) ?_
      refine r_ireturn dX11_map_112 rfl ?_
      exact K0 S103 ⟨l, by omega, h3⟩ f1 hB1

def tM0 (a b k : Nat) : Prop := tBg a b k = true ∨ a = 11 ∧ b = 0 ∧ k = 1
def tMc (s a b k : Nat) : Prop := tM0 a b k ∨ tMp a b k ∨ tRe s a b k ∨ tBrk s a b k ∨ a = 3 ∧ k = 1
theorem tBg_n {a b k : Nat} (h : tBg a b k = true) : b = 0 ∧ (a = 500 ∨ a = 501 ∨ a = 502 ∨ a = 4) := by
  simp [tBg] at h
  omega

set_option maxRecDepth 100000 in
theorem cm_map_no {S : zS} (hs : Sd S) {cc : Nat} (hcc : gI S 11 0 3 = nI cc) (hc4 : cc < 4) {bs : List Nat} (hbl : bs.length ≤ 940) (h1 : gI S 11 0 1 = nI bs.length) (hb : Bs S 1200 bs) {m : Nat} (hm : m < 2) (hk : gI S 1204 0 m = -1) : Ok mX11_map 0 (ent 5 [zr 11 0, zi (nI m)]) [] S (fun r S1 => r = some (zi (-1000 : Int32)) ∧ Fg tM0 S S1 ∧ gI S1 4 0 14 = nI 0 ∧ gI S1 11 0 1 = nI 0) := by
  show Ok mX11_map 0 [some (zr 11 0), some (zi (nI m)), none, none, none] [] S _
  refine r_aload_n (q := 1) dX11_map_0 rfl rfl rfl ?_
  refine r_getr (q := 4) (some (4, 0)) ck11 dX11_map_1 rfl (k := 14) (by decide) wt436 rfl (hs.e (by decide)) (hs.r (by decide) (by decide)) ?_
  refine r_aload_n (q := 5) dX11_map_4 rfl rfl rfl ?_
  refine r_getr (q := 8) (some (1200, 0)) ck11 dX11_map_5 rfl (k := 0) (by decide) wt422 rfl (hs.e (by decide)) (hs.r (by decide) (by decide)) ?_
  refine r_aload_n (q := 9) dX11_map_8 rfl rfl rfl ?_
  refine r_callV (Mc := mX11_emptyTape) (q := 12) (As := []) (st := [zr 1200 0, zr 4 0]) ck11 dX11_map_9 rfl rfl mkX11_emptyTape wt503 wt505 wp2 rfl (Nat.le_of_ble_eq_true rfl) (Nat.le_of_ble_eq_true rfl) (by decide) (by decide) (by decide) (Or.inl rfl) (hs.e (by decide)) (ok_X11_emptyTape hs) (fun r9 S9 hp9 => ?_)
  obtain ⟨rfl, hq9⟩ := hp9
  rw [hq9]
  rw [h1]
  show Ok _ _ _ [zi (nI bs.length), zr 1200 0, zr 4 0] _ _
  refine r_sipush (q := 15) (nI 400) dX11_map_12 rfl (by decide) ?_
  refine r_callV (Mc := mX4_begin) (q := 18) (As := [zr 1200 0, zi (nI bs.length), zi (nI 400)]) (st := []) ck4 dX11_map_15 rfl rfl mkX4_begin wt507 wt508 wt509 rfl (Nat.le_of_ble_eq_true rfl) (Nat.le_of_ble_eq_true rfl) (by decide) (by decide) (by decide) (Or.inl rfl) (hs.e (by decide)) (ok_begin (S := sI S 11 0 1 (nI 0)) hs ⟨fun k hk => by rw [gI_sI, if_neg (by omega)]; exact hb.1 k hk, hb.2⟩ hbl (show 400 ≤ 940 by omega)) (fun r15 S15 hp15 => ?_)
  obtain ⟨rfl, b1, b2, b3⟩ := hp15
  have gS : Sd S15 := Sd.fr (S := sI S 11 0 1 (nI 0)) hs b1
  have hcc' : gI S15 11 0 3 = nI cc := (b1.1 _ _ _ rfl).trans (by rw [gI_sI, if_neg (by omega)]; exact hcc)
  have gF : Fg tM0 S S15 := (Fg.of22 (S1 := sI S 11 0 1 (nI 0)) hs rfl (fun a b k _ hz => by rw [gI_sI, if_neg (fun z => hz (Or.inr z))]) (fun _ _ _ _ _ => rfl)).tr (b1.fg (S := sI S 11 0 1 (nI 0)) hs (fun a b k z => Or.inl z))
  have g11 : gI S15 11 0 1 = nI 0 := (b1.1 _ _ _ rfl).trans (by rw [gI_sI, if_pos ⟨rfl, rfl, rfl⟩])
  show Ok _ _ _ [] _ _
  refine r_aload_n (q := 19) dX11_map_18 rfl rfl rfl ?_
  refine r_iload_n (q := 20) dX11_map_19 rfl rfl rfl ?_
  refine r_callV (Mc := mX11_basisKept) (q := 23) (As := [zi (nI m)]) (st := []) ck11 dX11_map_20 rfl rfl mkX11_basisKept wt1037 wt1039 wp55 rfl (Nat.le_of_ble_eq_true rfl) (Nat.le_of_ble_eq_true rfl) (by decide) (by decide) (by decide) (Or.inl rfl) (gS.e (by decide)) (ok_X11_basisKept_no gS hm ((b1.1 _ _ _ rfl).trans (by rw [gI_sI, if_neg (by omega)]; exact hk))) (fun r20 S20 hp20 => ?_)
  obtain ⟨rfl, hq20⟩ := hp20
  rw [hq20]
  show Ok _ _ _ [zn] _ _
  refine r_astore_n (q := 24) (L' := [some (zr 11 0), some (zi (nI m)), some (zn), none, none]) dX11_map_23 rfl rfl (by decide) rfl ?_
  refine r_aload_n (q := 25) dX11_map_24 rfl rfl rfl ?_
  refine r_callV (Mc := mX11_worldHere) (q := 28) (As := []) (st := []) ck11 dX11_map_25 rfl rfl mkX11_worldHere wt678 wt680 wp20 rfl (Nat.le_of_ble_eq_true rfl) (Nat.le_of_ble_eq_true rfl) (by decide) (by decide) (by decide) (Or.inl rfl) (gS.e (by decide)) (ok_X11_worldHere gS hcc' hc4) (fun r25 S25 hp25 => ?_)
  obtain ⟨rfl, hq25⟩ := hp25
  rw [hq25]
  show Ok _ _ _ [zr 9 cc] _ _
  refine r_astore_n (q := 29) (L' := [some (zr 11 0), some (zi (nI m)), some (zn), some (zr 9 cc), none]) dX11_map_28 rfl rfl (by decide) rfl ?_
  refine r_aload_n (q := 30) dX11_map_29 rfl rfl rfl ?_
  refine r_ifnull (q := 33) (t := 47) (r := none) dX11_map_30 (by decide) rfl (fun _ => ?_) (fun z => absurd rfl z)
  refine r_sipush (q := 50) ((-1000 : Int32)) dX11_map_47 rfl (by decide) ?_
  refine r_ireturn dX11_map_50 rfl ?_
  exact ⟨rfl, gF, b2, g11⟩

set_option maxRecDepth 100000 in
theorem cm_map_out {S : zS} (hs : Sd S) {cc : Nat} (hcc : gI S 11 0 3 = nI cc) (hc4 : cc < 4) {bs : List Nat} (hbl : bs.length ≤ 940) (h1 : gI S 11 0 1 = nI bs.length) (hb : Bs S 1200 bs) {y : Int32} (hy : ¬ (0 ≤ y ∧ y < nI 2)) : Ok mX11_map 0 (ent 5 [zr 11 0, zi y]) [] S (fun r S1 => r = some (zi (-1000 : Int32)) ∧ Fg tM0 S S1 ∧ gI S1 4 0 14 = nI 0 ∧ gI S1 11 0 1 = nI 0) := by
  show Ok mX11_map 0 [some (zr 11 0), some (zi y), none, none, none] [] S _
  refine r_aload_n (q := 1) dX11_map_0 rfl rfl rfl ?_
  refine r_getr (q := 4) (some (4, 0)) ck11 dX11_map_1 rfl (k := 14) (by decide) wt436 rfl (hs.e (by decide)) (hs.r (by decide) (by decide)) ?_
  refine r_aload_n (q := 5) dX11_map_4 rfl rfl rfl ?_
  refine r_getr (q := 8) (some (1200, 0)) ck11 dX11_map_5 rfl (k := 0) (by decide) wt422 rfl (hs.e (by decide)) (hs.r (by decide) (by decide)) ?_
  refine r_aload_n (q := 9) dX11_map_8 rfl rfl rfl ?_
  refine r_callV (Mc := mX11_emptyTape) (q := 12) (As := []) (st := [zr 1200 0, zr 4 0]) ck11 dX11_map_9 rfl rfl mkX11_emptyTape wt503 wt505 wp2 rfl (Nat.le_of_ble_eq_true rfl) (Nat.le_of_ble_eq_true rfl) (by decide) (by decide) (by decide) (Or.inl rfl) (hs.e (by decide)) (ok_X11_emptyTape hs) (fun r9 S9 hp9 => ?_)
  obtain ⟨rfl, hq9⟩ := hp9
  rw [hq9]
  rw [h1]
  show Ok _ _ _ [zi (nI bs.length), zr 1200 0, zr 4 0] _ _
  refine r_sipush (q := 15) (nI 400) dX11_map_12 rfl (by decide) ?_
  refine r_callV (Mc := mX4_begin) (q := 18) (As := [zr 1200 0, zi (nI bs.length), zi (nI 400)]) (st := []) ck4 dX11_map_15 rfl rfl mkX4_begin wt507 wt508 wt509 rfl (Nat.le_of_ble_eq_true rfl) (Nat.le_of_ble_eq_true rfl) (by decide) (by decide) (by decide) (Or.inl rfl) (hs.e (by decide)) (ok_begin (S := sI S 11 0 1 (nI 0)) hs ⟨fun k hk => by rw [gI_sI, if_neg (by omega)]; exact hb.1 k hk, hb.2⟩ hbl (show 400 ≤ 940 by omega)) (fun r15 S15 hp15 => ?_)
  obtain ⟨rfl, b1, b2, b3⟩ := hp15
  have gS : Sd S15 := Sd.fr (S := sI S 11 0 1 (nI 0)) hs b1
  have hcc' : gI S15 11 0 3 = nI cc := (b1.1 _ _ _ rfl).trans (by rw [gI_sI, if_neg (by omega)]; exact hcc)
  have gF : Fg tM0 S S15 := (Fg.of22 (S1 := sI S 11 0 1 (nI 0)) hs rfl (fun a b k _ hz => by rw [gI_sI, if_neg (fun z => hz (Or.inr z))]) (fun _ _ _ _ _ => rfl)).tr (b1.fg (S := sI S 11 0 1 (nI 0)) hs (fun a b k z => Or.inl z))
  have g11 : gI S15 11 0 1 = nI 0 := (b1.1 _ _ _ rfl).trans (by rw [gI_sI, if_pos ⟨rfl, rfl, rfl⟩])
  show Ok _ _ _ [] _ _
  refine r_aload_n (q := 19) dX11_map_18 rfl rfl rfl ?_
  refine r_iload_n (q := 20) dX11_map_19 rfl rfl rfl ?_
  refine r_callV (Mc := mX11_basisKept) (q := 23) (As := [zi y]) (st := []) ck11 dX11_map_20 rfl rfl mkX11_basisKept wt1037 wt1039 wp55 rfl (Nat.le_of_ble_eq_true rfl) (Nat.le_of_ble_eq_true rfl) (by decide) (by decide) (by decide) (Or.inl rfl) (gS.e (by decide)) (ok_X11_basisKept_out gS hy) (fun r20 S20 hp20 => ?_)
  obtain ⟨rfl, hq20⟩ := hp20
  rw [hq20]
  show Ok _ _ _ [zn] _ _
  refine r_astore_n (q := 24) (L' := [some (zr 11 0), some (zi y), some (zn), none, none]) dX11_map_23 rfl rfl (by decide) rfl ?_
  refine r_aload_n (q := 25) dX11_map_24 rfl rfl rfl ?_
  refine r_callV (Mc := mX11_worldHere) (q := 28) (As := []) (st := []) ck11 dX11_map_25 rfl rfl mkX11_worldHere wt678 wt680 wp20 rfl (Nat.le_of_ble_eq_true rfl) (Nat.le_of_ble_eq_true rfl) (by decide) (by decide) (by decide) (Or.inl rfl) (gS.e (by decide)) (ok_X11_worldHere gS hcc' hc4) (fun r25 S25 hp25 => ?_)
  obtain ⟨rfl, hq25⟩ := hp25
  rw [hq25]
  show Ok _ _ _ [zr 9 cc] _ _
  refine r_astore_n (q := 29) (L' := [some (zr 11 0), some (zi y), some (zn), some (zr 9 cc), none]) dX11_map_28 rfl rfl (by decide) rfl ?_
  refine r_aload_n (q := 30) dX11_map_29 rfl rfl rfl ?_
  refine r_ifnull (q := 33) (t := 47) (r := none) dX11_map_30 (by decide) rfl (fun _ => ?_) (fun z => absurd rfl z)
  refine r_sipush (q := 50) ((-1000 : Int32)) dX11_map_47 rfl (by decide) ?_
  refine r_ireturn dX11_map_50 rfl ?_
  exact ⟨rfl, gF, b2, g11⟩

set_option maxRecDepth 100000 in
theorem cm_map_p {S : zS} (hs : Sd S) {cc : Nat} (hcc : gI S 11 0 3 = nI cc) (hc4 : cc < 4) {bs : List Nat} (hbl : bs.length ≤ 940) (h1 : gI S 11 0 1 = nI bs.length) (hb : Bs S 1200 bs) {W Wk : zWd} (hW : Wok W) (hK : Wok Wk) {m s : Nat} (hm : m < 2) (hk : gI S 1204 0 m = nI s) (hs4 : s < 4) (hcW : WC S cc W) (hcK : WC S s Wk) (hPP : ¬ wP Wk = wP W) : Ok mX11_map 0 (ent 5 [zr 11 0, zi (nI m)]) [] S (fun r S1 => r = some (zi (-1000 : Int32)) ∧ Fg tM0 S S1 ∧ gI S1 4 0 14 = nI 0 ∧ gI S1 11 0 1 = nI 0) := by
  have hP1 := hW.1.2.1
  have hP2 := hK.1.2.1
  show Ok mX11_map 0 [some (zr 11 0), some (zi (nI m)), none, none, none] [] S _
  refine r_aload_n (q := 1) dX11_map_0 rfl rfl rfl ?_
  refine r_getr (q := 4) (some (4, 0)) ck11 dX11_map_1 rfl (k := 14) (by decide) wt436 rfl (hs.e (by decide)) (hs.r (by decide) (by decide)) ?_
  refine r_aload_n (q := 5) dX11_map_4 rfl rfl rfl ?_
  refine r_getr (q := 8) (some (1200, 0)) ck11 dX11_map_5 rfl (k := 0) (by decide) wt422 rfl (hs.e (by decide)) (hs.r (by decide) (by decide)) ?_
  refine r_aload_n (q := 9) dX11_map_8 rfl rfl rfl ?_
  refine r_callV (Mc := mX11_emptyTape) (q := 12) (As := []) (st := [zr 1200 0, zr 4 0]) ck11 dX11_map_9 rfl rfl mkX11_emptyTape wt503 wt505 wp2 rfl (Nat.le_of_ble_eq_true rfl) (Nat.le_of_ble_eq_true rfl) (by decide) (by decide) (by decide) (Or.inl rfl) (hs.e (by decide)) (ok_X11_emptyTape hs) (fun r9 S9 hp9 => ?_)
  obtain ⟨rfl, hq9⟩ := hp9
  rw [hq9]
  rw [h1]
  show Ok _ _ _ [zi (nI bs.length), zr 1200 0, zr 4 0] _ _
  refine r_sipush (q := 15) (nI 400) dX11_map_12 rfl (by decide) ?_
  refine r_callV (Mc := mX4_begin) (q := 18) (As := [zr 1200 0, zi (nI bs.length), zi (nI 400)]) (st := []) ck4 dX11_map_15 rfl rfl mkX4_begin wt507 wt508 wt509 rfl (Nat.le_of_ble_eq_true rfl) (Nat.le_of_ble_eq_true rfl) (by decide) (by decide) (by decide) (Or.inl rfl) (hs.e (by decide)) (ok_begin (S := sI S 11 0 1 (nI 0)) hs ⟨fun k hk => by rw [gI_sI, if_neg (by omega)]; exact hb.1 k hk, hb.2⟩ hbl (show 400 ≤ 940 by omega)) (fun r15 S15 hp15 => ?_)
  obtain ⟨rfl, b1, b2, b3⟩ := hp15
  have gS : Sd S15 := Sd.fr (S := sI S 11 0 1 (nI 0)) hs b1
  have hcc' : gI S15 11 0 3 = nI cc := (b1.1 _ _ _ rfl).trans (by rw [gI_sI, if_neg (by omega)]; exact hcc)
  have gF : Fg tM0 S S15 := (Fg.of22 (S1 := sI S 11 0 1 (nI 0)) hs rfl (fun a b k _ hz => by rw [gI_sI, if_neg (fun z => hz (Or.inr z))]) (fun _ _ _ _ _ => rfl)).tr (b1.fg (S := sI S 11 0 1 (nI 0)) hs (fun a b k z => Or.inl z))
  have g11 : gI S15 11 0 1 = nI 0 := (b1.1 _ _ _ rfl).trans (by rw [gI_sI, if_pos ⟨rfl, rfl, rfl⟩])
  show Ok _ _ _ [] _ _
  refine r_aload_n (q := 19) dX11_map_18 rfl rfl rfl ?_
  refine r_iload_n (q := 20) dX11_map_19 rfl rfl rfl ?_
  refine r_callV (Mc := mX11_basisKept) (q := 23) (As := [zi (nI m)]) (st := []) ck11 dX11_map_20 rfl rfl mkX11_basisKept wt1037 wt1039 wp55 rfl (Nat.le_of_ble_eq_true rfl) (Nat.le_of_ble_eq_true rfl) (by decide) (by decide) (by decide) (Or.inl rfl) (gS.e (by decide)) (ok_X11_basisKept_in gS hm ((b1.1 _ _ _ rfl).trans (by rw [gI_sI, if_neg (by omega)]; exact hk)) hs4) (fun r20 S20 hp20 => ?_)
  obtain ⟨rfl, hq20⟩ := hp20
  rw [hq20]
  have hcW1 : WC S15 cc W := hcW.fg gF (fun a k ha z => by rcases z with z | z; have := tBg_n z; omega; omega)
  have hcK1 : WC S15 s Wk := hcK.fg gF (fun a k ha z => by rcases z with z | z; have := tBg_n z; omega; omega)
  show Ok _ _ _ [zr 0 s] _ _
  refine r_astore_n (q := 24) (L' := [some (zr 11 0), some (zi (nI m)), some (zr 0 s), none, none]) dX11_map_23 rfl rfl (by decide) rfl ?_
  refine r_aload_n (q := 25) dX11_map_24 rfl rfl rfl ?_
  refine r_callV (Mc := mX11_worldHere) (q := 28) (As := []) (st := []) ck11 dX11_map_25 rfl rfl mkX11_worldHere wt678 wt680 wp20 rfl (Nat.le_of_ble_eq_true rfl) (Nat.le_of_ble_eq_true rfl) (by decide) (by decide) (by decide) (Or.inl rfl) (gS.e (by decide)) (ok_X11_worldHere gS hcc' hc4) (fun r25 S25 hp25 => ?_)
  obtain ⟨rfl, hq25⟩ := hp25
  rw [hq25]
  show Ok _ _ _ [zr 9 cc] _ _
  refine r_astore_n (q := 29) (L' := [some (zr 11 0), some (zi (nI m)), some (zr 0 s), some (zr 9 cc), none]) dX11_map_28 rfl rfl (by decide) rfl ?_
  refine r_aload_n (q := 30) dX11_map_29 rfl rfl rfl ?_
  refine r_ifnull (q := 33) (t := 47) (r := some (0, s)) dX11_map_30 (by decide) rfl (fun z => by cases z) (fun _ => ?_)
  refine r_aload_n (q := 34) dX11_map_33 rfl rfl rfl ?_
  refine r_getr (q := 37) (some (9, s)) ck0 dX11_map_34 rfl (k := 0) (by decide) wt377 rfl (gS.e (show s < 4 by omega)) (gS.r (show s < 4 by omega) (by decide)) ?_
  refine r_geti (q := 40) ck9 dX11_map_37 rfl (k := 0) (by decide) wt295 (Or.inl rfl) (gS.e (show s < 4 by omega)) ?_
  refine r_topi (y := nI (wP Wk)) hcK1.1 ?_
  refine r_aload_n (q := 41) dX11_map_40 rfl rfl rfl ?_
  refine r_geti (q := 44) ck9 dX11_map_41 rfl (k := 0) (by decide) wt295 (Or.inl rfl) (gS.e (show cc < 4 by omega)) ?_
  refine r_topi (y := nI (wP W)) hcW1.1 ?_
  refine r_icmp_eqN (q := 47) (t := 51) (by omega) (by omega) dX11_map_44 (by decide) rfl (fun h44 => absurd h44 (by omega)) (fun h44 => ?_)
  refine r_sipush (q := 50) ((-1000 : Int32)) dX11_map_47 rfl (by decide) ?_
  refine r_ireturn dX11_map_50 rfl ?_
  exact ⟨rfl, gF, b2, g11⟩

set_option maxRecDepth 100000 in
theorem cm_map_f {S : zS} (hs : Sd S) {cc : Nat} (hcc : gI S 11 0 3 = nI cc) (hc4 : cc < 4) {bs : List Nat} (hbl : bs.length ≤ 940) (h1 : gI S 11 0 1 = nI bs.length) (hb : Bs S 1200 bs) {W Wk : zWd} (hW : Wok W) (hK : Wok Wk) {m s : Nat} (hm : m < 2) (hk : gI S 1204 0 m = nI s) (hs4 : s < 4) (hcW : WC S cc W) (hcK : WC S s Wk) (hPP : wP Wk = wP W) (hTLs : TLs S) {x : zEr} (hq : mapQ W Wk bs = Sum.inl x) : Ok mX11_map 0 (ent 5 [zr 11 0, zi (nI m)]) [] S (fun r S1 => r = some (zi ((-1 : Int32) - nI x.2)) ∧ Fg (fun a b k => tM0 a b k ∨ tMp a b k) S S1 ∧ Fl S1 x ∧ gI S1 11 0 1 = nI 0 ∧ ∀ a, a < 3 → TL S1 (a + 13)) := by
  have hP1 := hW.1.2.1
  have hP2 := hK.1.2.1
  have hlen : (lexA bs 400 0).length ≤ 401 := by
    have := lexA_len (bs := bs) (lim := 400) (min bs.length 400) 0 (by omega)
    omega
  show Ok mX11_map 0 [some (zr 11 0), some (zi (nI m)), none, none, none] [] S _
  refine r_aload_n (q := 1) dX11_map_0 rfl rfl rfl ?_
  refine r_getr (q := 4) (some (4, 0)) ck11 dX11_map_1 rfl (k := 14) (by decide) wt436 rfl (hs.e (by decide)) (hs.r (by decide) (by decide)) ?_
  refine r_aload_n (q := 5) dX11_map_4 rfl rfl rfl ?_
  refine r_getr (q := 8) (some (1200, 0)) ck11 dX11_map_5 rfl (k := 0) (by decide) wt422 rfl (hs.e (by decide)) (hs.r (by decide) (by decide)) ?_
  refine r_aload_n (q := 9) dX11_map_8 rfl rfl rfl ?_
  refine r_callV (Mc := mX11_emptyTape) (q := 12) (As := []) (st := [zr 1200 0, zr 4 0]) ck11 dX11_map_9 rfl rfl mkX11_emptyTape wt503 wt505 wp2 rfl (Nat.le_of_ble_eq_true rfl) (Nat.le_of_ble_eq_true rfl) (by decide) (by decide) (by decide) (Or.inl rfl) (hs.e (by decide)) (ok_X11_emptyTape hs) (fun r9 S9 hp9 => ?_)
  obtain ⟨rfl, hq9⟩ := hp9
  rw [hq9]
  rw [h1]
  show Ok _ _ _ [zi (nI bs.length), zr 1200 0, zr 4 0] _ _
  refine r_sipush (q := 15) (nI 400) dX11_map_12 rfl (by decide) ?_
  refine r_callV (Mc := mX4_begin) (q := 18) (As := [zr 1200 0, zi (nI bs.length), zi (nI 400)]) (st := []) ck4 dX11_map_15 rfl rfl mkX4_begin wt507 wt508 wt509 rfl (Nat.le_of_ble_eq_true rfl) (Nat.le_of_ble_eq_true rfl) (by decide) (by decide) (by decide) (Or.inl rfl) (hs.e (by decide)) (ok_begin (S := sI S 11 0 1 (nI 0)) hs ⟨fun k hk => by rw [gI_sI, if_neg (by omega)]; exact hb.1 k hk, hb.2⟩ hbl (show 400 ≤ 940 by omega)) (fun r15 S15 hp15 => ?_)
  obtain ⟨rfl, b1, b2, b3⟩ := hp15
  have gS : Sd S15 := Sd.fr (S := sI S 11 0 1 (nI 0)) hs b1
  have hcc' : gI S15 11 0 3 = nI cc := (b1.1 _ _ _ rfl).trans (by rw [gI_sI, if_neg (by omega)]; exact hcc)
  have gF : Fg tM0 S S15 := (Fg.of22 (S1 := sI S 11 0 1 (nI 0)) hs rfl (fun a b k _ hz => by rw [gI_sI, if_neg (fun z => hz (Or.inr z))]) (fun _ _ _ _ _ => rfl)).tr (b1.fg (S := sI S 11 0 1 (nI 0)) hs (fun a b k z => Or.inl z))
  have g11 : gI S15 11 0 1 = nI 0 := (b1.1 _ _ _ rfl).trans (by rw [gI_sI, if_pos ⟨rfl, rfl, rfl⟩])
  show Ok _ _ _ [] _ _
  refine r_aload_n (q := 19) dX11_map_18 rfl rfl rfl ?_
  refine r_iload_n (q := 20) dX11_map_19 rfl rfl rfl ?_
  refine r_callV (Mc := mX11_basisKept) (q := 23) (As := [zi (nI m)]) (st := []) ck11 dX11_map_20 rfl rfl mkX11_basisKept wt1037 wt1039 wp55 rfl (Nat.le_of_ble_eq_true rfl) (Nat.le_of_ble_eq_true rfl) (by decide) (by decide) (by decide) (Or.inl rfl) (gS.e (by decide)) (ok_X11_basisKept_in gS hm ((b1.1 _ _ _ rfl).trans (by rw [gI_sI, if_neg (by omega)]; exact hk)) hs4) (fun r20 S20 hp20 => ?_)
  obtain ⟨rfl, hq20⟩ := hp20
  rw [hq20]
  have hcW1 : WC S15 cc W := hcW.fg gF (fun a k ha z => by rcases z with z | z; have := tBg_n z; omega; omega)
  have hcK1 : WC S15 s Wk := hcK.fg gF (fun a k ha z => by rcases z with z | z; have := tBg_n z; omega; omega)
  show Ok _ _ _ [zr 0 s] _ _
  refine r_astore_n (q := 24) (L' := [some (zr 11 0), some (zi (nI m)), some (zr 0 s), none, none]) dX11_map_23 rfl rfl (by decide) rfl ?_
  refine r_aload_n (q := 25) dX11_map_24 rfl rfl rfl ?_
  refine r_callV (Mc := mX11_worldHere) (q := 28) (As := []) (st := []) ck11 dX11_map_25 rfl rfl mkX11_worldHere wt678 wt680 wp20 rfl (Nat.le_of_ble_eq_true rfl) (Nat.le_of_ble_eq_true rfl) (by decide) (by decide) (by decide) (Or.inl rfl) (gS.e (by decide)) (ok_X11_worldHere gS hcc' hc4) (fun r25 S25 hp25 => ?_)
  obtain ⟨rfl, hq25⟩ := hp25
  rw [hq25]
  show Ok _ _ _ [zr 9 cc] _ _
  refine r_astore_n (q := 29) (L' := [some (zr 11 0), some (zi (nI m)), some (zr 0 s), some (zr 9 cc), none]) dX11_map_28 rfl rfl (by decide) rfl ?_
  refine r_aload_n (q := 30) dX11_map_29 rfl rfl rfl ?_
  refine r_ifnull (q := 33) (t := 47) (r := some (0, s)) dX11_map_30 (by decide) rfl (fun z => by cases z) (fun _ => ?_)
  refine r_aload_n (q := 34) dX11_map_33 rfl rfl rfl ?_
  refine r_getr (q := 37) (some (9, s)) ck0 dX11_map_34 rfl (k := 0) (by decide) wt377 rfl (gS.e (show s < 4 by omega)) (gS.r (show s < 4 by omega) (by decide)) ?_
  refine r_geti (q := 40) ck9 dX11_map_37 rfl (k := 0) (by decide) wt295 (Or.inl rfl) (gS.e (show s < 4 by omega)) ?_
  refine r_topi (y := nI (wP Wk)) hcK1.1 ?_
  refine r_aload_n (q := 41) dX11_map_40 rfl rfl rfl ?_
  refine r_geti (q := 44) ck9 dX11_map_41 rfl (k := 0) (by decide) wt295 (Or.inl rfl) (gS.e (show cc < 4 by omega)) ?_
  refine r_topi (y := nI (wP W)) hcW1.1 ?_
  refine r_icmp_eqN (q := 47) (t := 51) (by omega) (by omega) dX11_map_44 (by decide) rfl (fun h44 => ?_) (fun h44 => absurd h44 (by omega))
  refine r_aload_n (q := 52) dX11_map_51 rfl rfl rfl ?_
  refine r_getr (q := 55) (some (4, 0)) ck11 dX11_map_52 rfl (k := 14) (by decide) wt436 rfl (gS.e (by decide)) (gS.r (by decide) (by decide)) ?_
  refine r_aload_n (q := 56) dX11_map_55 rfl rfl rfl ?_
  refine r_aload_n (q := 57) dX11_map_56 rfl rfl rfl ?_
  refine r_getr (q := 60) (some (9, s)) ck0 dX11_map_57 rfl (k := 0) (by decide) wt377 rfl (gS.e (show s < 4 by omega)) (gS.r (show s < 4 by omega) (by decide)) ?_
  refine r_aload_n (q := 61) dX11_map_60 rfl rfl rfl ?_
  refine r_getr (q := 64) (some (3, 0)) ck11 dX11_map_61 rfl (k := 16) (by decide) wt438 rfl (gS.e (by decide)) (gS.r (by decide) (by decide)) ?_
  refine r_getr (q := 67) (some (400, 0)) ck3 dX11_map_64 rfl (k := 0) (by decide) wt202 rfl (gS.e (by decide)) (gS.r (by decide) (by decide)) ?_
  refine r_callV (Mc := mX4_readMap) (q := 70) (As := [zr 9 cc, zr 9 s, zr 400 0]) (st := []) ck4 dX11_map_67 rfl rfl mkX4_readMap wt1049 wt1050 wt1051 rfl (Nat.le_of_ble_eq_true rfl) (Nat.le_of_ble_eq_true rfl) (by decide) (by decide) (by decide) (Or.inr ⟨Nat.le_of_ble_eq_true rfl, rfl, rfl⟩) (gS.e (by decide)) (ok_readMap gS b3 (lex_tks hb.2 hbl) (lex_lk _ _) hlen hc4 hs4 hW.2.1 hK.2.1 (wn_lt hW) (wn_inj hW) (wn_lt hK) (wn_inj hK) ⟨hcW1.2.1, hcW1.2.2.2.1⟩ ⟨hcK1.2.1, hcK1.2.2.2.1⟩ hK.1.1 hK.1.2.1 hcK1.1 (fun a ha => (hTLs (a + 13) (by omega)).cong (gN_22 b1.2.2) (gN_22 b1.2.2) ((b1.1 _ _ _ rfl).trans (by rw [gI_sI, if_neg (by omega)])))) (fun r67 S67 hp67 => ?_)
  unfold mapQ at hq
  rw [hq] at hp67
  obtain ⟨rfl, r1, r2, r3⟩ := hp67
  have hs2 := r1.sd
  have r11 : gI S67 11 0 1 = nI 0 := (r1.I (by omega) (fun z => by have := tMp_n z; omega)).trans g11
  show Ok _ _ _ [zi (nI 0)] _ _
  refine r_if_neN (q := 73) (t := 83) (by omega) dX11_map_70 (by decide) rfl (fun h70 => absurd h70 (by omega)) (fun h70 => ?_)
  refine r_iconst (q := 74) ((-1 : Int32)) dX11_map_73 rfl (by decide) ?_
  refine r_aload_n (q := 75) dX11_map_74 rfl rfl rfl ?_
  refine r_getr (q := 78) (some (4, 0)) ck11 dX11_map_75 rfl (k := 14) (by decide) wt436 rfl (hs2.e (by decide)) (hs2.r (by decide) (by decide)) ?_
  refine r_geti (q := 81) ck4 dX11_map_78 rfl (k := 15) (by decide) wt139 (Or.inl rfl) (hs2.e (by decide)) ?_
  refine r_topi (y := nI x.2) r2.2 ?_
  refine r_isub (q := 82) dX11_map_81 rfl ?_
  refine r_ireturn dX11_map_82 rfl ?_
  exact ⟨rfl, (gF.mono fun a b k z => Or.inl z).tr (r1.mono fun a b k z => Or.inr z), r2, r11, r3⟩

set_option maxRecDepth 100000 in
theorem cm_map_r {S : zS} (hs : Sd S) {cc : Nat} (hcc : gI S 11 0 3 = nI cc) (hc4 : cc < 4) {bs : List Nat} (hbl : bs.length ≤ 940) (h1 : gI S 11 0 1 = nI bs.length) (hb : Bs S 1200 bs) {W Wk : zWd} (hW : Wok W) (hK : Wok Wk) {m s : Nat} (hm : m < 2) (hk : gI S 1204 0 m = nI s) (hs4 : s < 4) (hcW : WC S cc W) (hcK : WC S s Wk) (hPP : wP Wk = wP W) (hTLs : TLs S) (hTk : Tcs S s Wk) {n0 : Nat} {mk0 : Nat → Nat → Nat} {rl0 : Nat → Nat → Nat → Nat} (hB : CB S s Wk n0 mk0 rl0) {im : zIm} (hq : mapQ W Wk bs = Sum.inr im) : Ok mX11_map 0 (ent 5 [zr 11 0, zi (nI m)]) [] S (fun r S1 => Fg (tMc s) S S1 ∧ gI S1 4 0 14 = nI 0 ∧ gI S1 11 0 1 = nI 0 ∧ (∃ n mk rl, CB S1 s Wk n mk rl) ∧ (∀ a, a < 6 → TL S1 (a + 13)) ∧ (Gre W Wk ∧ r = some (zi (-1001 : Int32)) ∧ gI S1 3 0 1 = gI S 3 0 1 ∨ ¬ Gre W Wk ∧ r = some (zi (nI (cntK (kpB W Wk (imf im)) (wL W)))) ∧ BrD (kpB W Wk (imf im)) (wL W) 0 (gI S1 3 0 1))) := by
  have hP1 := hW.1.2.1
  have hP2 := hK.1.2.1
  have hlen : (lexA bs 400 0).length ≤ 401 := by
    have := lexA_len (bs := bs) (lim := 400) (min bs.length 400) 0 (by omega)
    omega
  show Ok mX11_map 0 [some (zr 11 0), some (zi (nI m)), none, none, none] [] S _
  refine r_aload_n (q := 1) dX11_map_0 rfl rfl rfl ?_
  refine r_getr (q := 4) (some (4, 0)) ck11 dX11_map_1 rfl (k := 14) (by decide) wt436 rfl (hs.e (by decide)) (hs.r (by decide) (by decide)) ?_
  refine r_aload_n (q := 5) dX11_map_4 rfl rfl rfl ?_
  refine r_getr (q := 8) (some (1200, 0)) ck11 dX11_map_5 rfl (k := 0) (by decide) wt422 rfl (hs.e (by decide)) (hs.r (by decide) (by decide)) ?_
  refine r_aload_n (q := 9) dX11_map_8 rfl rfl rfl ?_
  refine r_callV (Mc := mX11_emptyTape) (q := 12) (As := []) (st := [zr 1200 0, zr 4 0]) ck11 dX11_map_9 rfl rfl mkX11_emptyTape wt503 wt505 wp2 rfl (Nat.le_of_ble_eq_true rfl) (Nat.le_of_ble_eq_true rfl) (by decide) (by decide) (by decide) (Or.inl rfl) (hs.e (by decide)) (ok_X11_emptyTape hs) (fun r9 S9 hp9 => ?_)
  obtain ⟨rfl, hq9⟩ := hp9
  rw [hq9]
  rw [h1]
  show Ok _ _ _ [zi (nI bs.length), zr 1200 0, zr 4 0] _ _
  refine r_sipush (q := 15) (nI 400) dX11_map_12 rfl (by decide) ?_
  refine r_callV (Mc := mX4_begin) (q := 18) (As := [zr 1200 0, zi (nI bs.length), zi (nI 400)]) (st := []) ck4 dX11_map_15 rfl rfl mkX4_begin wt507 wt508 wt509 rfl (Nat.le_of_ble_eq_true rfl) (Nat.le_of_ble_eq_true rfl) (by decide) (by decide) (by decide) (Or.inl rfl) (hs.e (by decide)) (ok_begin (S := sI S 11 0 1 (nI 0)) hs ⟨fun k hk => by rw [gI_sI, if_neg (by omega)]; exact hb.1 k hk, hb.2⟩ hbl (show 400 ≤ 940 by omega)) (fun r15 S15 hp15 => ?_)
  obtain ⟨rfl, b1, b2, b3⟩ := hp15
  have gS : Sd S15 := Sd.fr (S := sI S 11 0 1 (nI 0)) hs b1
  have hcc' : gI S15 11 0 3 = nI cc := (b1.1 _ _ _ rfl).trans (by rw [gI_sI, if_neg (by omega)]; exact hcc)
  have gF : Fg tM0 S S15 := (Fg.of22 (S1 := sI S 11 0 1 (nI 0)) hs rfl (fun a b k _ hz => by rw [gI_sI, if_neg (fun z => hz (Or.inr z))]) (fun _ _ _ _ _ => rfl)).tr (b1.fg (S := sI S 11 0 1 (nI 0)) hs (fun a b k z => Or.inl z))
  have g11 : gI S15 11 0 1 = nI 0 := (b1.1 _ _ _ rfl).trans (by rw [gI_sI, if_pos ⟨rfl, rfl, rfl⟩])
  show Ok _ _ _ [] _ _
  refine r_aload_n (q := 19) dX11_map_18 rfl rfl rfl ?_
  refine r_iload_n (q := 20) dX11_map_19 rfl rfl rfl ?_
  refine r_callV (Mc := mX11_basisKept) (q := 23) (As := [zi (nI m)]) (st := []) ck11 dX11_map_20 rfl rfl mkX11_basisKept wt1037 wt1039 wp55 rfl (Nat.le_of_ble_eq_true rfl) (Nat.le_of_ble_eq_true rfl) (by decide) (by decide) (by decide) (Or.inl rfl) (gS.e (by decide)) (ok_X11_basisKept_in gS hm ((b1.1 _ _ _ rfl).trans (by rw [gI_sI, if_neg (by omega)]; exact hk)) hs4) (fun r20 S20 hp20 => ?_)
  obtain ⟨rfl, hq20⟩ := hp20
  rw [hq20]
  have hcW1 : WC S15 cc W := hcW.fg gF (fun a k ha z => by rcases z with z | z; have := tBg_n z; omega; omega)
  have hcK1 : WC S15 s Wk := hcK.fg gF (fun a k ha z => by rcases z with z | z; have := tBg_n z; omega; omega)
  show Ok _ _ _ [zr 0 s] _ _
  refine r_astore_n (q := 24) (L' := [some (zr 11 0), some (zi (nI m)), some (zr 0 s), none, none]) dX11_map_23 rfl rfl (by decide) rfl ?_
  refine r_aload_n (q := 25) dX11_map_24 rfl rfl rfl ?_
  refine r_callV (Mc := mX11_worldHere) (q := 28) (As := []) (st := []) ck11 dX11_map_25 rfl rfl mkX11_worldHere wt678 wt680 wp20 rfl (Nat.le_of_ble_eq_true rfl) (Nat.le_of_ble_eq_true rfl) (by decide) (by decide) (by decide) (Or.inl rfl) (gS.e (by decide)) (ok_X11_worldHere gS hcc' hc4) (fun r25 S25 hp25 => ?_)
  obtain ⟨rfl, hq25⟩ := hp25
  rw [hq25]
  show Ok _ _ _ [zr 9 cc] _ _
  refine r_astore_n (q := 29) (L' := [some (zr 11 0), some (zi (nI m)), some (zr 0 s), some (zr 9 cc), none]) dX11_map_28 rfl rfl (by decide) rfl ?_
  refine r_aload_n (q := 30) dX11_map_29 rfl rfl rfl ?_
  refine r_ifnull (q := 33) (t := 47) (r := some (0, s)) dX11_map_30 (by decide) rfl (fun z => by cases z) (fun _ => ?_)
  refine r_aload_n (q := 34) dX11_map_33 rfl rfl rfl ?_
  refine r_getr (q := 37) (some (9, s)) ck0 dX11_map_34 rfl (k := 0) (by decide) wt377 rfl (gS.e (show s < 4 by omega)) (gS.r (show s < 4 by omega) (by decide)) ?_
  refine r_geti (q := 40) ck9 dX11_map_37 rfl (k := 0) (by decide) wt295 (Or.inl rfl) (gS.e (show s < 4 by omega)) ?_
  refine r_topi (y := nI (wP Wk)) hcK1.1 ?_
  refine r_aload_n (q := 41) dX11_map_40 rfl rfl rfl ?_
  refine r_geti (q := 44) ck9 dX11_map_41 rfl (k := 0) (by decide) wt295 (Or.inl rfl) (gS.e (show cc < 4 by omega)) ?_
  refine r_topi (y := nI (wP W)) hcW1.1 ?_
  refine r_icmp_eqN (q := 47) (t := 51) (by omega) (by omega) dX11_map_44 (by decide) rfl (fun h44 => ?_) (fun h44 => absurd h44 (by omega))
  refine r_aload_n (q := 52) dX11_map_51 rfl rfl rfl ?_
  refine r_getr (q := 55) (some (4, 0)) ck11 dX11_map_52 rfl (k := 14) (by decide) wt436 rfl (gS.e (by decide)) (gS.r (by decide) (by decide)) ?_
  refine r_aload_n (q := 56) dX11_map_55 rfl rfl rfl ?_
  refine r_aload_n (q := 57) dX11_map_56 rfl rfl rfl ?_
  refine r_getr (q := 60) (some (9, s)) ck0 dX11_map_57 rfl (k := 0) (by decide) wt377 rfl (gS.e (show s < 4 by omega)) (gS.r (show s < 4 by omega) (by decide)) ?_
  refine r_aload_n (q := 61) dX11_map_60 rfl rfl rfl ?_
  refine r_getr (q := 64) (some (3, 0)) ck11 dX11_map_61 rfl (k := 16) (by decide) wt438 rfl (gS.e (by decide)) (gS.r (by decide) (by decide)) ?_
  refine r_getr (q := 67) (some (400, 0)) ck3 dX11_map_64 rfl (k := 0) (by decide) wt202 rfl (gS.e (by decide)) (gS.r (by decide) (by decide)) ?_
  refine r_callV (Mc := mX4_readMap) (q := 70) (As := [zr 9 cc, zr 9 s, zr 400 0]) (st := []) ck4 dX11_map_67 rfl rfl mkX4_readMap wt1049 wt1050 wt1051 rfl (Nat.le_of_ble_eq_true rfl) (Nat.le_of_ble_eq_true rfl) (by decide) (by decide) (by decide) (Or.inr ⟨Nat.le_of_ble_eq_true rfl, rfl, rfl⟩) (gS.e (by decide)) (ok_readMap gS b3 (lex_tks hb.2 hbl) (lex_lk _ _) hlen hc4 hs4 hW.2.1 hK.2.1 (wn_lt hW) (wn_inj hW) (wn_lt hK) (wn_inj hK) ⟨hcW1.2.1, hcW1.2.2.2.1⟩ ⟨hcK1.2.1, hcK1.2.2.2.1⟩ hK.1.1 hK.1.2.1 hcK1.1 (fun a ha => (hTLs (a + 13) (by omega)).cong (gN_22 b1.2.2) (gN_22 b1.2.2) ((b1.1 _ _ _ rfl).trans (by rw [gI_sI, if_neg (by omega)])))) (fun r67 S67 hp67 => ?_)
  unfold mapQ at hq
  rw [hq] at hp67
  obtain ⟨rfl, r1, r2, r3⟩ := hp67
  have hs2 := r1.sd
  have r11 : gI S67 11 0 1 = nI 0 := (r1.I (by omega) (fun z => by have := tMp_n z; omega)).trans g11
  show Ok _ _ _ [zi (nI 1)] _ _
  refine r_if_neN (q := 73) (t := 83) (by omega) dX11_map_70 (by decide) rfl (fun h70 => ?_) (fun h70 => absurd h70 (by omega))
  refine r_iconst (q := 84) (nI 0) dX11_map_83 rfl (by decide) ?_
  refine r_istore (q := 86) (L' := [some (zr 11 0), some (zi (nI m)), some (zr 0 s), some (zr 9 cc), some (zi (nI 0))]) dX11_map_84 rfl (by decide) rfl ?_
  obtain ⟨q1, q2, q3⟩ := mapQ_ok hW hK hb.2 hbl (im := im) hq
  have hmp : ∀ a b k, tMp a b k → (a = 8 ∨ a = 902 ∨ a = 903) ∧ 13 ≤ b ∧ b ≤ 15 ∨ b = 0 ∧ (a = 4 ∨ a = 509 ∨ a = 510) := fun a b k z => by have := tMp_n z; omega
  have hcW2 : WC S67 cc W := hcW1.fg r1 (fun a k ha z => by have := hmp _ _ _ z; omega)
  have hcK2 : WC S67 s Wk := hcK1.fg r1 (fun a k ha z => by have := hmp _ _ _ z; omega)
  have gA : Fg (fun a b k => tM0 a b k ∨ tMp a b k) S S67 := (gF.mono fun a b k z => Or.inl z).tr (r1.mono fun a b k z => Or.inr z)
  have hM : ∀ a b k, (tM0 a b k ∨ tMp a b k) → (a = 8 ∨ a = 902 ∨ a = 903) ∧ 13 ≤ b ∧ b ≤ 15 ∨ b = 0 ∧ (a = 4 ∨ a = 509 ∨ a = 510 ∨ a = 500 ∨ a = 501 ∨ a = 502 ∨ a = 11 ∧ k = 1) := fun a b k z => by
    rcases z with (z | z) | z
    · have := tBg_n z; omega
    · omega
    · have := hmp _ _ _ z; omega
  have hT2 : Tcs S67 s Wk := fun m a b => (gA.J (by omega) (fun z => by have := hM _ _ _ z; omega)).trans (hTk m a b)
  have hB2 : CB S67 s Wk n0 mk0 rl0 := hB.fg gA ⟨fun z => by have := hM _ _ _ z; omega, fun x k a b z => by have := hM _ _ _ z; omega⟩
  have hA3 := hW.2.1.1
  have hImC : ImC S67 W (imf im) := fun a ha => (r3 a (by omega)).2 _ (q3 a ha)
  have htl : ∀ a, a < 3 → TL S67 (a + 13) := fun a ha => r3.tl ha
  have htl2 : ∀ j, j = 16 ∨ j = 17 ∨ j = 18 → TL S67 j := fun j hj => (hTLs j (by omega)).fg4 gA ⟨fun z => by have := hM _ _ _ z; omega, fun z => by have := hM _ _ _ z; omega, fun z => by have := hM _ _ _ z; omega⟩
  have e14 : gI S67 4 0 14 = nI 0 := r2.trans b2
  have gB : Fg (tMc s) S S67 := gA.mono fun a b k z => z.elim Or.inl (fun z => Or.inr (Or.inl z))
  refine lp_map86 hW hK hc4 hs4 (wL W) 0 S67 n0 mk0 rl0 (by omega) hs2 hcW2 hcK2 hT2 hB2 (fun i hi => absurd hi (by omega)) (fun S3 n1 mk1 rl1 hG f3 hc3 hB3 hn1 => ?_) (fun S3 hG f3 hB3 => ?_)
  · have hs3 := f3.sd
    have gC : Fg (tMc s) S S3 := gB.tr (f3.mono fun a b k z => Or.inr (Or.inr (Or.inl z)))
    have htR : ∀ j, j < 19 → TL S67 j → TL S3 j := fun j hj h => h.fg4 f3 ⟨by unfold tRe; omega, by unfold tRe; omega, by unfold tRe; omega⟩
    refine r_aload_n (q := 120) dX11_map_119 rfl rfl rfl ?_
    refine r_getr (q := 123) (some (3, 0)) ck11 dX11_map_120 rfl (k := 16) (by decide) wt438 rfl (hs3.e (by decide)) (hs3.r (by decide) (by decide)) ?_
    refine r_aload_n (q := 124) dX11_map_123 rfl rfl rfl ?_
    refine r_aload_n (q := 125) dX11_map_124 rfl rfl rfl ?_
    refine r_aload_n (q := 126) dX11_map_125 rfl rfl rfl ?_
    refine r_getr (q := 129) (some (6, 4)) ck11 dX11_map_126 rfl (k := 13) (by decide) wt435 rfl (hs3.e (by decide)) (hs3.r (by decide) (by decide)) ?_
    refine r_callV (Mc := mX3_bringLaws) (q := 132) (As := [zr 9 cc, zr 0 s, zr 6 4]) (st := []) ck3 dX11_map_129 rfl rfl mkX3_bringLaws wt1057 wt1058 wt1059 rfl (Nat.le_of_ble_eq_true rfl) (Nat.le_of_ble_eq_true rfl) (by decide) (by decide) (by decide) (Or.inr ⟨Nat.le_of_ble_eq_true rfl, rfl, rfl⟩) (hs3.e (by decide)) (ok_bringLaws hW hK q1 hs4 hn1 hc4 hPP.symm hs3 (hcW2.fg f3 (fun a k ha => by unfold tRe; omega)) hc3 hB3 (hImC.fg hA3 f3 (fun b k hb => ⟨by unfold tRe; omega, by unfold tRe; omega, by unfold tRe; omega⟩)) (htR 16 (by omega) (htl2 16 (by omega))) (htR 17 (by omega) (htl2 17 (by omega))) (htR 18 (by omega) (htl2 18 (by omega)))) (fun r129 S129 hp129 => ?_)
    obtain ⟨rfl, f4, hbr, t6, t7, t8⟩ := hp129
    show Ok _ _ _ [zi (nI (cntK (kpB W Wk (imf im)) (wL W)))] _ _
    refine r_ireturn dX11_map_132 rfl ?_
    have gD : Fg (tMc s) S S129 := gC.tr (f4.mono fun a b k z => Or.inr (Or.inr (Or.inr z)))
    refine ⟨gD, (f4.I (by omega) (by unfold tBrk; omega)).trans ((f3.I (by omega) (by unfold tRe; omega)).trans e14), (f4.I (by omega) (by unfold tBrk; omega)).trans ((f3.I (by omega) (by unfold tRe; omega)).trans r11), ⟨n1, mk1, rl1, hB3.fg f4 ⟨by unfold tBrk; omega, fun x k a b => by unfold tBrk; omega⟩⟩, fun a ha => ?_, Or.inr ⟨hG, rfl, hbr⟩⟩
    obtain h | rfl | rfl | rfl : a < 3 ∨ a = 3 ∨ a = 4 ∨ a = 5 := by omega
    · exact (htR _ (by omega) (htl a h)).fg4 f4 ⟨by unfold tBrk; omega, by unfold tBrk; omega, by unfold tBrk; omega⟩
    · exact t6
    · exact t7
    · exact t8
  · refine ⟨gB.tr (f3.mono fun a b k z => Or.inr (Or.inr (Or.inl z))), (f3.I (by omega) (by unfold tRe; omega)).trans e14, (f3.I (by omega) (by unfold tRe; omega)).trans r11, hB3, fun a ha => ?_, Or.inl ⟨hG, rfl, ?_⟩⟩
    · obtain h | h : a < 3 ∨ 3 ≤ a := by omega
      · exact (htl a h).fg4 f3 ⟨by unfold tRe; omega, by unfold tRe; omega, by unfold tRe; omega⟩
      · exact (htl2 _ (by omega)).fg4 f3 ⟨by unfold tRe; omega, by unfold tRe; omega, by unfold tRe; omega⟩
    · exact (f3.I (by omega) (by unfold tRe; omega)).trans (gA.I (by omega) (fun z => by have := hM _ _ _ z; omega))

