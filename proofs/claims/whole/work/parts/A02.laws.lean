/-! laws entered -/
/-- rules that came besides -/
def Ext (W : zWd) (n : Nat) (mkn : Nat → Nat) (rln : Nat → Nat → Nat) (mkn' : Nat → Nat) (rln' : Nat → Nat → Nat) : Prop := (∀ u, Rw (tl W n) (mkb mkn) (RC rln) u → Rw (tl W n) (mkb mkn') (RC rln') u) ∧ ∀ s, s < (tl W n).length → mkn' s ≠ 0 → (mkn s ≠ 0 ∧ mkn' s = mkn s ∧ ∀ j, j < s → rln' s j = rln s j) ∨ mkn' s = 2 ∧ Id W n (V (tl W n) (RC rln' s))
theorem Ext.rf {W : zWd} {n : Nat} {mkn : Nat → Nat} {rln : Nat → Nat → Nat} : Ext W n mkn rln mkn rln := ⟨fun _ h => h, fun _ _ h => Or.inl ⟨h, rfl, fun _ _ => rfl⟩⟩
theorem Ext.tr {W : zWd} {n : Nat} {mk1 mk2 mk3 : Nat → Nat} {r1 r2 r3 : Nat → Nat → Nat} (h : Ext W n mk1 r1 mk2 r2) (g : Ext W n mk2 r2 mk3 r3) : Ext W n mk1 r1 mk3 r3 := ⟨fun u hu => g.1 u (h.1 u hu), fun s hs hm => by
  rcases g.2 s hs hm with ⟨a, b, c⟩ | ⟨a, b⟩
  · rcases h.2 s hs a with ⟨d, e, f⟩ | ⟨d, e⟩
    · exact Or.inl ⟨d, b.trans e, fun j hj => (c j hj).trans (f j hj)⟩
    · exact Or.inr ⟨b.trans d, by rw [V_cong fun j _ => RC_cong c j]; exact e⟩
  · exact Or.inr ⟨a, b⟩⟩
/-- all rows are 0 by the laws -/
def RId (W : zWd) (n : Nat) (mkn : Nat → Nat) (rln : Nat → Nat → Nat) : Prop := ∀ s, s < (tl W n).length → mkn s ≠ 0 → Id W n (V (tl W n) (RC rln s))
theorem Ext.id {W : zWd} {n : Nat} {mk1 mk2 : Nat → Nat} {r1 r2 : Nat → Nat → Nat} (h : Ext W n mk1 r1 mk2 r2) (hi : RId W n mk1 r1) : RId W n mk2 r2 := fun s hs hm => by
  rcases h.2 s hs hm with ⟨a, b, c⟩ | ⟨a, b⟩
  · rw [V_cong fun j _ => RC_cong c j]; exact hi s hs a
  · exact b
theorem EntS.ext {W : zWd} {n : Nat} {mk1 mk2 : Nat → Nat} {r1 r2 : Nat → Nat → Nat} {v : Nat → Nat} (h : EntS (tl W n) (wP W) mk1 r1 mk2 r2 v) (hi : RId W n mk1 r1) (hv : Id W n (Vn (tl W n) v)) : Ext W n mk1 r1 mk2 r2 := ⟨h.mono, fun s hs hm => by
  by_cases q : mk1 s = 0
  · rcases h.2.2 s hs hm with a | ⟨a, b⟩
    · exact absurd q a
    · refine Or.inr ⟨a, Sp.le b fun u hu => ?_⟩
      rcases hu with rfl | ⟨t, _, h1, h2, rfl⟩
      · exact hv
      · exact hi t h1 h2
  · have := h.2.1 s hs q
    exact Or.inl ⟨q, this⟩⟩
theorem lz_snoc {c : List zT} {k : Nat} (hk : k < c.length) : lz (c.take (k + 1)) = lz (c.take k) ++ [((c.getD k zd).1, ((c.getD k zd).2 : Int))] := by
  unfold lz
  rw [List.take_succ, List.map_append, List.getD_eq_getElem?_getD, List.getElem?_eq_getElem hk]
  rfl
theorem WC.sp {S S1 : zS} {b : Nat} {W : zWd} (h : WC S b W) (f : Fr (tSp b) S S1) : WC S1 b W := h.fr f (fun a k ha => by simp [tSp]; omega)
theorem WC.e2 {S S1 : zS} {b f0 rf m : Nat} {W : zWd} (h : WC S b W) (f : Fr (tE2 b f0 rf m) S S1) : WC S1 b W := h.fr f (fun a k ha => tE2_n (by omega))
theorem Wk.sp {S S1 : zS} {b n : Nat} {W : zWd} (hE : Eok (wA W) (we W)) {mk : Nat → Nat → Nat} {rl : Nat → Nat → Nat → Nat} (h : Wk S b W n mk rl) (f : Fr (tSp b) S S1) : Wk S1 b W n mk rl := h.fr hE (m := 0) (f.mono tE2_sp)
theorem WC.wa {S : zS} {b : Nat} {W : zWd} (h : WC S b W) : Wa S b W := ⟨h.2.1, fun a ha => (h.2.2.2.1 a ha).1⟩

set_option maxRecDepth 100000 in
theorem lp_law1 {W : zWd} (hW : Wok W) {b n L : Nat} (hb4 : b < 4) (hn7 : n ≤ 7) (hL18 : L < wL W) (hLn : (lw W L).1 = n) {Po : Option zV → zS → Prop} : ∀ (d k : Nat) (S : zS) (v : Nat → Nat), k + d = (lw W L).2.length → Sd S → WC S b W → Lx S b n (tfr W n) (tl W n) → Vx S b (tl W n).length (wP W) v → AccV (wP W) (tl W n) v (lz ((lw W L).2.take k)) → (∀ S1 v1, Fr (tVe b) S S1 → Vx S1 b (tl W n).length (wP W) v1 → AccV (wP W) (tl W n) v1 (lz (lw W L).2) → Ok mX0_addLaws 85 [some (zr 0 b), some (zi (nI n)), some (zi (nI L)), some (zi (nI (lf W L + (lw W L).2.length)))] [] S1 Po) → Ok mX0_addLaws 41 [some (zr 0 b), some (zi (nI n)), some (zi (nI L)), some (zi (nI (lf W L + k)))] [] S Po := by
  have hE := hW.2.1
  have hP2 := hW.1.1
  have hP97 := hW.1.2.1
  have h18 := hW.2.2.2.1
  have hlf := hW.lf2 hL18
  have hls := lf_succ hL18
  intro d
  induction d with
  | zero =>
    intro k S v hk hs hc hL hV hA K
    obtain rfl : k = (lw W L).2.length := by omega
    have c6 := hc.2.2.2.2.2.1 (L + 1) (by omega)
    rw [hls] at c6
    refine r_iload_n (q := 42) dX0_addLaws_41 rfl rfl rfl ?_
    refine r_aload_n (q := 43) dX0_addLaws_42 rfl rfl rfl ?_
    refine r_getr (q := 46) (some (9, b)) ck0 dX0_addLaws_43 rfl (k := 0) (by decide) wt374 rfl (hs.e (show b < 4 by omega)) (hs.r (show b < 4 by omega) (by decide)) ?_
    refine r_getr (q := 49) (some (1006, b)) ck9 dX0_addLaws_46 rfl (k := 6) (by decide) wt327 rfl (hs.e (show b < 4 by omega)) (hs.r (show b < 4 by omega) (by decide)) ?_
    refine r_iload_n (q := 50) dX0_addLaws_49 rfl rfl rfl ?_
    refine r_iconst (q := 51) (nI 1) dX0_addLaws_50 rfl (by decide) ?_
    refine r_iaddN (q := 52) dX0_addLaws_51 rfl ?_
    refine r_ialdN (q := 53) 19 (by decide) rfl dX0_addLaws_52 rfl (hs.e (show b < 4 by omega)) (hs.n rfl (show b < 4 by omega)) (by omega) (by decide) ?_
    refine r_topi (y := nI (lf W L + (lw W L).2.length)) c6 ?_
    refine r_icmp_geN (q := 56) (t := 85) (by omega) (by omega) dX0_addLaws_53 (by decide) rfl (fun h53 => ?_) (fun h53 => absurd h53 (by omega))
    exact K S v Fr.rf hV (by rw [List.take_length] at hA; exact hA)
  | succ d ih =>
    intro k S v hk hs hc hL hV hA K
    have c6 := hc.2.2.2.2.2.1 (L + 1) (by omega)
    rw [hls] at c6
    have hkl : k < (lw W L).2.length := by omega
    obtain ⟨c7, c8⟩ := hc.2.2.2.2.2.2 L k hL18 hkl
    have hq := (hW.2.2.2.2.2 L hL18).2.2.1.2 _ (_root_.Jvm.Pilot.CLeafWorldsLaw_law_r8483_d58aac.mem_getD hkl)
    have htr := hq.1
    rw [hLn] at htr
    obtain ⟨i, hi, ei⟩ := mem_idx ((tl_mem hE).mpr htr)
    have hsn := tl_sorted hE hn7
    have hB : ∀ s, s ∈ tl W n → ky s < 2 ^ 30 := fun s z => ky_lt hE ((tl_mem hE).mp z) hn7
    refine r_iload_n (q := 42) dX0_addLaws_41 rfl rfl rfl ?_
    refine r_aload_n (q := 43) dX0_addLaws_42 rfl rfl rfl ?_
    refine r_getr (q := 46) (some (9, b)) ck0 dX0_addLaws_43 rfl (k := 0) (by decide) wt374 rfl (hs.e (show b < 4 by omega)) (hs.r (show b < 4 by omega) (by decide)) ?_
    refine r_getr (q := 49) (some (1006, b)) ck9 dX0_addLaws_46 rfl (k := 6) (by decide) wt327 rfl (hs.e (show b < 4 by omega)) (hs.r (show b < 4 by omega) (by decide)) ?_
    refine r_iload_n (q := 50) dX0_addLaws_49 rfl rfl rfl ?_
    refine r_iconst (q := 51) (nI 1) dX0_addLaws_50 rfl (by decide) ?_
    refine r_iaddN (q := 52) dX0_addLaws_51 rfl ?_
    refine r_ialdN (q := 53) 19 (by decide) rfl dX0_addLaws_52 rfl (hs.e (show b < 4 by omega)) (hs.n rfl (show b < 4 by omega)) (by omega) (by decide) ?_
    refine r_topi (y := nI (lf W L + (lw W L).2.length)) c6 ?_
    refine r_icmp_geN (q := 56) (t := 85) (by omega) (by omega) dX0_addLaws_53 (by decide) rfl (fun h53 => absurd h53 (by omega)) (fun h53 => ?_)
    refine r_aload_n (q := 57) dX0_addLaws_56 rfl rfl rfl ?_
    refine r_iload_n (q := 58) dX0_addLaws_57 rfl rfl rfl ?_
    refine r_aload_n (q := 59) dX0_addLaws_58 rfl rfl rfl ?_
    refine r_getr (q := 62) (some (9, b)) ck0 dX0_addLaws_59 rfl (k := 0) (by decide) wt374 rfl (hs.e (show b < 4 by omega)) (hs.r (show b < 4 by omega) (by decide)) ?_
    refine r_getr (q := 65) (some (1007, b)) ck9 dX0_addLaws_62 rfl (k := 7) (by decide) wt332 rfl (hs.e (show b < 4 by omega)) (hs.r (show b < 4 by omega) (by decide)) ?_
    refine r_iload_n (q := 66) dX0_addLaws_65 rfl rfl rfl ?_
    refine r_ialdN (q := 67) 200 (by decide) rfl dX0_addLaws_66 rfl (hs.e (show b < 4 by omega)) (hs.n rfl (show b < 4 by omega)) (by omega) (by decide) ?_
    refine r_topi (y := nI (ky ((tl W n).getD i []))) (c7.trans (by rw [ei])) ?_
    refine r_aload_n (q := 68) dX0_addLaws_67 rfl rfl rfl ?_
    refine r_getr (q := 71) (some (9, b)) ck0 dX0_addLaws_68 rfl (k := 0) (by decide) wt374 rfl (hs.e (show b < 4 by omega)) (hs.r (show b < 4 by omega) (by decide)) ?_
    refine r_getr (q := 74) (some (1008, b)) ck9 dX0_addLaws_71 rfl (k := 8) (by decide) wt337 rfl (hs.e (show b < 4 by omega)) (hs.r (show b < 4 by omega) (by decide)) ?_
    refine r_iload_n (q := 75) dX0_addLaws_74 rfl rfl rfl ?_
    refine r_ialdN (q := 76) 200 (by decide) rfl dX0_addLaws_75 rfl (hs.e (show b < 4 by omega)) (hs.n rfl (show b < 4 by omega)) (by omega) (by decide) ?_
    refine r_topi (y := nI (((lw W L).2.getD k zd).2)) c8 ?_
    refine r_callV (Mc := mX0_addToVector) (q := 79) (As := [zi (nI n), zi (nI (ky ((tl W n).getD i []))), zi (nI (((lw W L).2.getD k zd).2))]) (st := []) ck0 dX0_addLaws_76 rfl rfl mkX0_addToVector wt860 wt862 wp38 rfl (Nat.le_of_ble_eq_true rfl) (Nat.le_of_ble_eq_true rfl) (by decide) (by decide) (by decide) (Or.inl rfl) (hs.e (show b < 4 by omega)) (ok_addToVector hs hb4 hn7 hL hsn hB hP2 hP97 hc.1 hV hi (nI ((lw W L).2.getD k zd).2)) (fun r76 S76 hp76 => ?_)
    obtain ⟨rfl, hq76⟩ := hp76
    have f2 : Fr (tVe b) S S76 := by rw [hq76]; exact fr_ve
    show Ok _ _ _ [] _ _
    refine r_iincN (q := 82) (L' := [some (zr 0 b), some (zi (nI n)), some (zi (nI L)), some (zi (nI (lf W L + k + 1)))]) 1 rfl dX0_addLaws_79 rfl rfl (by decide) rfl ?_
    refine r_goto (q := 41) dX0_addLaws_82 (by decide) ?_
    have hx0 : (nI ((lw W L).2.getD k zd).2).toInt = (((lw W L).2.getD k zd).2 : Int) := nI_toInt (by omega)
    refine ih (k + 1) S76 (fun j => if j = i then rsN (nI (v i) + nI ((lw W L).2.getD k zd).2) (wP W) else v j) (by omega) (hs.fr f2) (hc.fr f2 (fun a k ha => by simp [tVe]; omega)) (hL.fr f2 (fun k => ⟨rfl, rfl⟩)) (by rw [hq76]; exact hV.set (rsN_lt (by omega))) ?_ (fun S1 v1 g1 g2 g3 => K S1 v1 (f2.tr g1) g2 g3)
    rw [lz_snoc hkl, ← hx0, ← ei]
    exact acc_add hP2 hP97 tl_nodup hA hi (hV i hi).2 (by rw [hx0]; omega)

set_option maxRecDepth 100000 in
theorem lp_law2 {W : zWd} (hW : Wok W) {b n : Nat} (hb4 : b < 4) (hn7 : n ≤ 7) (hn1 : 1 ≤ n) {mk : Nat → Nat → Nat} {rl : Nat → Nat → Nat → Nat} : ∀ (d L : Nat) (S : zS) (mkn : Nat → Nat) (rln : Nat → Nat → Nat) (w3 : Option zV), L + d = wL W → Wk S b W n mk rl → WC S b W → Lvl S b W n mkn rln → RId W n mkn rln → Ok mX0_addLaws 2 [some (zr 0 b), some (zi (nI n)), some (zi (nI L)), w3] [] S (fun r S1 => r = none ∧ Fr (tE2 b (tfr W n) (rfr W n) (tl W n).length) S S1 ∧ ∃ mkn' rln', Lvl S1 b W n mkn' rln' ∧ Ext W n mkn rln mkn' rln' ∧ ∀ l, L ≤ l → l < wL W → (lw W l).1 = n → Sp (wP W) (Rw (tl W n) (mkb mkn') (RC rln')) (lz (lw W l).2)) := by
  have hE := hW.2.1
  have hP2 := hW.1.1
  have hP97 := hW.1.2.1
  have h18 := hW.2.2.2.1
  intro d
  induction d with
  | zero =>
    intro L S mkn rln w3 hL hk hc hl hi
    obtain rfl : L = wL W := by omega
    have c4 := hc.2.2.1
    have hs := hk.1
    refine r_mask [true, true, true, false] rfl ?_
    refine r_iload_n (q := 3) dX0_addLaws_2 rfl rfl rfl ?_
    refine r_aload_n (q := 4) dX0_addLaws_3 rfl rfl rfl ?_
    refine r_getr (q := 7) (some (9, b)) ck0 dX0_addLaws_4 rfl (k := 0) (by decide) wt374 rfl (hs.e (show b < 4 by omega)) (hs.r (show b < 4 by omega) (by decide)) ?_
    refine r_geti (q := 10) ck9 dX0_addLaws_7 rfl (k := 4) (by decide) wt315 (Or.inl rfl) (hs.e (show b < 4 by omega)) ?_
    refine r_topi (y := nI (wL W)) c4 ?_
    refine r_icmp_geN (q := 13) (t := 96) (by omega) (by omega) dX0_addLaws_10 (by decide) rfl (fun h10 => ?_) (fun h10 => absurd h10 (by omega))
    refine r_return dX0_addLaws_96 rfl ?_
    exact ⟨rfl, Fr.rf, mkn, rln, hl, Ext.rf, fun l a b => absurd a (by omega)⟩
  | succ d ih =>
    intro L S mkn rln w3 hL hk hc hl hi
    have c4 := hc.2.2.1
    have hL18 : L < wL W := by omega
    have c5 := hc.2.2.2.2.1 L hL18
    have c6 := hc.2.2.2.2.2.1 L (by omega)
    have hw := hW.2.2.2.2.2 L hL18
    have hs := hk.1
    refine r_mask [true, true, true, false] rfl ?_
    by_cases hLn : (lw W L).1 = n
    · skip
      refine r_iload_n (q := 3) dX0_addLaws_2 rfl rfl rfl ?_
      refine r_aload_n (q := 4) dX0_addLaws_3 rfl rfl rfl ?_
      refine r_getr (q := 7) (some (9, b)) ck0 dX0_addLaws_4 rfl (k := 0) (by decide) wt374 rfl (hs.e (show b < 4 by omega)) (hs.r (show b < 4 by omega) (by decide)) ?_
      refine r_geti (q := 10) ck9 dX0_addLaws_7 rfl (k := 4) (by decide) wt315 (Or.inl rfl) (hs.e (show b < 4 by omega)) ?_
      refine r_topi (y := nI (wL W)) c4 ?_
      refine r_icmp_geN (q := 13) (t := 96) (by omega) (by omega) dX0_addLaws_10 (by decide) rfl (fun h10 => absurd h10 (by omega)) (fun h10 => ?_)
      refine r_aload_n (q := 14) dX0_addLaws_13 rfl rfl rfl ?_
      refine r_getr (q := 17) (some (9, b)) ck0 dX0_addLaws_14 rfl (k := 0) (by decide) wt374 rfl (hs.e (show b < 4 by omega)) (hs.r (show b < 4 by omega) (by decide)) ?_
      refine r_getr (q := 20) (some (1005, b)) ck9 dX0_addLaws_17 rfl (k := 5) (by decide) wt321 rfl (hs.e (show b < 4 by omega)) (hs.r (show b < 4 by omega) (by decide)) ?_
      refine r_iload_n (q := 21) dX0_addLaws_20 rfl rfl rfl ?_
      refine r_ialdN (q := 22) 18 (by decide) rfl dX0_addLaws_21 rfl (hs.e (show b < 4 by omega)) (hs.n rfl (show b < 4 by omega)) (by omega) (by decide) ?_
      refine r_topi (y := nI ((lw W L).1)) c5 ?_
      refine r_iload_n (q := 23) dX0_addLaws_22 rfl rfl rfl ?_
      refine r_icmp_neN (q := 26) (t := 90) (by omega) (by omega) dX0_addLaws_23 (by decide) rfl (fun h23 => absurd h23 (by omega)) (fun h23 => ?_)
      refine r_aload_n (q := 27) dX0_addLaws_26 rfl rfl rfl ?_
      refine r_iload_n (q := 28) dX0_addLaws_27 rfl rfl rfl ?_
      refine r_callV (Mc := mX0_clearVector) (q := 31) (As := [zi (nI n)]) (st := []) ck0 dX0_addLaws_28 rfl rfl mkX0_clearVector wt848 wt850 wp36 rfl (Nat.le_of_ble_eq_true rfl) (Nat.le_of_ble_eq_true rfl) (by decide) (by decide) (by decide) (Or.inl rfl) (hs.e (show b < 4 by omega)) (ok_clearVector hs hb4 hn7 hl.1) (fun r28 S28 hp28 => ?_)
      obtain ⟨rfl, hq28⟩ := hp28
      have hv0 := vx_clear (S := S) (b := b) (m := (tl W n).length) (P := wP W) (by omega)
      rw [← hq28] at hv0
      obtain ⟨hv1, f1⟩ := hv0
      have f1' := f1.mono (tSp_ve (b := b))
      show Ok _ _ _ [] _ _
      refine r_aload_n (q := 32) dX0_addLaws_31 rfl rfl rfl ?_
      refine r_getr (q := 35) (some (9, b)) ck0 dX0_addLaws_32 rfl (k := 0) (by decide) wt374 rfl ((hs.fr f1).e (show b < 4 by omega)) ((hs.fr f1).r (show b < 4 by omega) (by decide)) ?_
      refine r_getr (q := 38) (some (1006, b)) ck9 dX0_addLaws_35 rfl (k := 6) (by decide) wt327 rfl ((hs.fr f1).e (show b < 4 by omega)) ((hs.fr f1).r (show b < 4 by omega) (by decide)) ?_
      refine r_iload_n (q := 39) dX0_addLaws_38 rfl rfl rfl ?_
      refine r_ialdN (q := 40) 19 (by decide) rfl dX0_addLaws_39 rfl ((hs.fr f1).e (show b < 4 by omega)) ((hs.fr f1).n rfl (show b < 4 by omega)) (by omega) (by decide) ?_
      refine r_topi (y := nI (lf W L)) ((f1.1 _ _ _ rfl).trans c6) ?_
      refine r_istore_n (q := 41) (L' := [some (zr 0 b), some (zi (nI n)), some (zi (nI L)), some (zi (nI (lf W L)))]) dX0_addLaws_40 rfl rfl (by decide) rfl ?_
      refine lp_law1 hW hb4 hn7 hL18 hLn _ 0 S28 (fun _ => 0) (Nat.zero_add _) (hs.fr f1) (hc.sp f1') (hl.1.fr f1 (fun k => ⟨rfl, rfl⟩)) hv1 acc_nil (fun S2 v2 f2 hV2 hA2 => ?_)
      have f3 : Fr (tSp b) S S2 := f1'.tr (f2.mono tSp_ve)
      have hl2 := hl.fr f3
      have hk2 := hk.sp hE f3
      refine r_aload_n (q := 86) dX0_addLaws_85 rfl rfl rfl ?_
      refine r_iload_n (q := 87) dX0_addLaws_86 rfl rfl rfl ?_
      refine r_callV (Mc := mX0_enterVector) (q := 90) (As := [zi (nI n)]) (st := []) ck0 dX0_addLaws_87 rfl rfl mkX0_enterVector wt877 wt879 wp42 rfl (Nat.le_of_ble_eq_true rfl) (Nat.le_of_ble_eq_true rfl) (by decide) (by decide) (by decide) (Or.inl rfl) (hk2.1.e (show b < 4 by omega)) (ok_enterVector hk2.1 hb4 hn7 hl2.1 tl_nodup hP2 hP97 hW.1.2.2 hk2.2.2.2 hl2.2.1 hl2.2.2 hV2) (fun r87 S87 hp87 => ?_)
      obtain ⟨rfl, f4, mk4, rl4, hM4, hU4, hE4⟩ := hp87
      show Ok _ _ _ [] _ _
      refine r_iincN (q := 93) (L' := [some (zr 0 b), some (zi (nI n)), some (zi (nI (L + 1))), some (zi (nI (lf W L + (lw W L).2.length)))]) 1 rfl dX0_addLaws_90 rfl rfl (by decide) rfl ?_
      refine r_goto (q := 2) dX0_addLaws_93 (by decide) ?_
      have f5 : Fr (tE2 b (tfr W n) (rfr W n) (tl W n).length) S S87 := (f3.mono tE2_sp).tr (f4.mono tE2_en)
      have hli : Li (wP W) (lz (lw W L).2) (Vn (tl W n) v2) := acc_li tl_nodup hA2 (fun p hp => by have := lw_tr hW hL18 hp; rw [hLn] at this; exact (tl_mem hE).mpr this)
      have hvid : Id W n (Vn (tl W n) v2) := by have := Id.law hW hL18; rw [hLn] at this; exact Sp.li this hli
      have hx := hE4.ext hi hvid
      refine Ok.mono (ih (L + 1) S87 mk4 rl4 _ (by omega) (hk.fr hE f5) (hc.e2 f5) ⟨hl2.1.fr f4 (fun k => ⟨by simp [tEn], by simp [tEn]⟩), hM4, hU4⟩ (hx.id hi)) fun r S9 z => ?_
      obtain ⟨z1, z2, mk5, rl5, z3, z4, z5⟩ := z
      refine ⟨z1, f5.tr z2, mk5, rl5, z3, hx.tr z4, fun l a b c => ?_⟩
      by_cases e : l = L
      · subst e
        exact ((hE4.1).mono z4.1).li hli.sy
      · exact z5 l (by omega) b c
    · skip
      refine r_iload_n (q := 3) dX0_addLaws_2 rfl rfl rfl ?_
      refine r_aload_n (q := 4) dX0_addLaws_3 rfl rfl rfl ?_
      refine r_getr (q := 7) (some (9, b)) ck0 dX0_addLaws_4 rfl (k := 0) (by decide) wt374 rfl (hs.e (show b < 4 by omega)) (hs.r (show b < 4 by omega) (by decide)) ?_
      refine r_geti (q := 10) ck9 dX0_addLaws_7 rfl (k := 4) (by decide) wt315 (Or.inl rfl) (hs.e (show b < 4 by omega)) ?_
      refine r_topi (y := nI (wL W)) c4 ?_
      refine r_icmp_geN (q := 13) (t := 96) (by omega) (by omega) dX0_addLaws_10 (by decide) rfl (fun h10 => absurd h10 (by omega)) (fun h10 => ?_)
      refine r_aload_n (q := 14) dX0_addLaws_13 rfl rfl rfl ?_
      refine r_getr (q := 17) (some (9, b)) ck0 dX0_addLaws_14 rfl (k := 0) (by decide) wt374 rfl (hs.e (show b < 4 by omega)) (hs.r (show b < 4 by omega) (by decide)) ?_
      refine r_getr (q := 20) (some (1005, b)) ck9 dX0_addLaws_17 rfl (k := 5) (by decide) wt321 rfl (hs.e (show b < 4 by omega)) (hs.r (show b < 4 by omega) (by decide)) ?_
      refine r_iload_n (q := 21) dX0_addLaws_20 rfl rfl rfl ?_
      refine r_ialdN (q := 22) 18 (by decide) rfl dX0_addLaws_21 rfl (hs.e (show b < 4 by omega)) (hs.n rfl (show b < 4 by omega)) (by omega) (by decide) ?_
      refine r_topi (y := nI ((lw W L).1)) c5 ?_
      refine r_iload_n (q := 23) dX0_addLaws_22 rfl rfl rfl ?_
      refine r_icmp_neN (q := 26) (t := 90) (by omega) (by omega) dX0_addLaws_23 (by decide) rfl (fun h23 => ?_) (fun h23 => absurd h23 (by omega))
      refine r_iincN (q := 93) (L' := [some (zr 0 b), some (zi (nI n)), some (zi (nI (L + 1))), none]) 1 rfl dX0_addLaws_90 rfl rfl (by decide) rfl ?_
      refine r_goto (q := 2) dX0_addLaws_93 (by decide) ?_
      exact Ok.mono (ih (L + 1) S mkn rln _ (by omega) hk hc hl hi) fun r S9 z => ⟨z.1, z.2.1, by obtain ⟨mk5, rl5, z3, z4, z5⟩ := z.2.2; exact ⟨mk5, rl5, z3, z4, fun l a b c => if e : l = L then absurd (by rw [← e]; exact c) hLn else z5 l (by omega) b c⟩⟩

set_option maxRecDepth 100000 in
theorem ok_addLaws {S : zS} {W : zWd} (hW : Wok W) {b n : Nat} (hb4 : b < 4) (hn7 : n ≤ 7) (hn1 : 1 ≤ n) {mk : Nat → Nat → Nat} {rl : Nat → Nat → Nat → Nat} (hk : Wk S b W n mk rl) (hc : WC S b W) {mkn : Nat → Nat} {rln : Nat → Nat → Nat} (hl : Lvl S b W n mkn rln) (hi : RId W n mkn rln) : Ok mX0_addLaws 0 (ent 4 [zr 0 b, zi (nI n)]) [] S (fun r S1 => r = none ∧ Fr (tE2 b (tfr W n) (rfr W n) (tl W n).length) S S1 ∧ ∃ mkn' rln', Lvl S1 b W n mkn' rln' ∧ Ext W n mkn rln mkn' rln' ∧ ∀ l, 0 ≤ l → l < wL W → (lw W l).1 = n → Sp (wP W) (Rw (tl W n) (mkb mkn') (RC rln')) (lz (lw W l).2)) := by
  show Ok mX0_addLaws 0 [some (zr 0 b), some (zi (nI n)), none, none] [] S _
  refine r_iconst (q := 1) (nI 0) dX0_addLaws_0 rfl (by decide) ?_
  refine r_istore_n (q := 2) (L' := [some (zr 0 b), some (zi (nI n)), some (zi (nI 0)), none]) dX0_addLaws_1 rfl rfl (by decide) rfl ?_
  exact lp_law2 hW hb4 hn7 hn1 _ 0 S mkn rln _ (Nat.zero_add _) hk hc hl hi

