/-! sums brought to normal trees -/
/-- the sum of a vector, from the greatest tree down: k trees were passed -/
def Dn (T : List (List Nat)) (v : Nat → Nat) : Nat → List zT
  | 0 => []
  | k + 1 => Dn T v k ++ (if v (T.length - 1 - k) = 0 then [] else [(T.getD (T.length - 1 - k) [], v (T.length - 1 - k))])
theorem mem_Dn {T : List (List Nat)} {v : Nat → Nat} : ∀ {k : Nat}, k ≤ T.length → ∀ {p : zT}, p ∈ Dn T v k → ∃ s, T.length - k ≤ s ∧ s < T.length ∧ p = (T.getD s [], v s) ∧ v s ≠ 0
  | 0, _, p, h => absurd h List.not_mem_nil
  | k + 1, hk, p, h => by
    rw [Dn] at h
    rcases List.mem_append.mp h with h | h
    · obtain ⟨s, a, b, c⟩ := mem_Dn (k := k) (by omega) h
      exact ⟨s, by omega, b, c⟩
    · split at h
      · exact absurd h List.not_mem_nil
      · rename_i h0
        exact ⟨T.length - 1 - k, by omega, by omega, List.mem_singleton.mp h, h0⟩
theorem dn_add {P : Nat} {T : List (List Nat)} (hT : Srt T) {v : Nat → Nat} {k x : Nat} (hk : k < T.length) : addT P (T.getD (T.length - 1 - k) []) x (Dn T v k) = Dn T v k ++ [(T.getD (T.length - 1 - k) [], x % P)] := by
  rw [addT_new (k := (Dn T v k).length) (Nat.le_refl _) (fun i hi => ?_) (fun z => absurd z (by omega)), List.take_length, List.drop_length]
  obtain ⟨s, a, b, c, _⟩ := mem_Dn (by omega) (mem_getD hi)
  rw [c]
  exact sort_lt hT (by omega) b
theorem dn_cl {T : List (List Nat)} {v : Nat → Nat} {k : Nat} (hk : k ≤ T.length) : cl (Dn T v k) = Dn T v k := cl_id fun p hp => by
  obtain ⟨s, _, _, c, d⟩ := mem_Dn hk hp
  rw [c]; exact d
theorem dn_step {P : Nat} {T : List (List Nat)} (hT : Srt T) {v : Nat → Nat} {k : Nat} (hk : k < T.length) (hv : v (T.length - 1 - k) < P) : cl (addT P (T.getD (T.length - 1 - k) []) (v (T.length - 1 - k)) (Dn T v k)) = Dn T v (k + 1) := by
  have e : ∀ a b : List zT, cl (a ++ b) = cl a ++ cl b := fun a b => List.filter_append a b
  rw [dn_add hT hk, Nat.mod_eq_of_lt hv, Dn, e, dn_cl (by omega)]
  refine congrArg (Dn T v k ++ ·) ?_
  by_cases h0 : v (T.length - 1 - k) = 0
  · rw [if_pos h0, h0]; rfl
  · rw [if_neg h0]
    exact cl_id fun p hp => by rw [List.mem_singleton.mp hp]; exact h0
theorem dn_ce {W : zWd} (hW : Wok W) {n : Nat} (hn7 : n ≤ 7) {v : Nat → Nat} (hv : ∀ i, i < (tl W n).length → v i < wP W) : ∀ {k : Nat}, k ≤ (tl W n).length → Ce (wA W) (we W) (wP W) n (Dn (tl W n) v k)
  | 0, _ => ce_nil
  | k + 1, hk => by
    have hP2 := hW.1.1
    have ih := dn_ce hW hn7 hv (k := k) (by omega)
    rw [← dn_step (P := wP W) (tl_sorted hW.2.1 hn7) (by omega) (hv _ (by omega))]
    exact ih.put hW.2.1 (by omega) hn7 (tl_tr hW.2.1 (by omega))
theorem Ty.ve {S S1 : zS} {b j : Nat} {c : List zT} (h : Ty S j c) (f : Fr (tVe b) S S1) : Ty S1 j c := by
  obtain ⟨h1, h2, m, h3, h4, h5⟩ := h
  exact ⟨(f.1 _ _ _ rfl).trans h1, fun k hk => ⟨(f.1 _ _ _ rfl).trans (h2 k hk).1, (f.1 _ _ _ rfl).trans (h2 k hk).2⟩, m, by rw [gN_22 f.2.2]; exact h3, by rw [gN_22 f.2.2]; exact h4, h5⟩

set_option maxRecDepth 100000 in
theorem lp_nm12 {W : zWd} (hW : Wok W) {b n f0 j : Nat} (hb4 : b < 4) (hn1 : 1 ≤ n) (hn7 : n ≤ 7) (hj : j < 19) {c : List zT} (hc9 : ∀ p, p ∈ c → Tr (wA W) (we W) n p.1 ∧ p.2 < wP W) {Po : Option zV → zS → Prop} : ∀ (d k : Nat) (S : zS) (v : Nat → Nat), k + d = c.length → Sd S → gI S 9 b 0 = nI (wP W) → Lx S b n f0 (tl W n) → Ty S j c → Vx S b (tl W n).length (wP W) v → AccV (wP W) (tl W n) v (lz (c.take k)) → (∀ S1 v1, Fr (tVe b) S S1 → Vx S1 b (tl W n).length (wP W) v1 → AccV (wP W) (tl W n) v1 (lz c) → Ok mX0_normalise 43 [some (zr 0 b), some (zr 8 j), some (zi (nI n)), some (zi (nI c.length))] [] S1 Po) → Ok mX0_normalise 12 [some (zr 0 b), some (zr 8 j), some (zi (nI n)), some (zi (nI k))] [] S Po := by
  have hE := hW.2.1
  have hP2 := hW.1.1
  have hP97 := hW.1.2.1
  intro d
  induction d with
  | zero =>
    intro k S v hk hs hp hL hty hV hA K
    obtain rfl : k = c.length := by omega
    have hcl : c.length ≤ 1200 := by obtain ⟨_, _, m, _, _, _, a, b⟩ := hty; omega
    have t1 := hty.1
    refine r_iload_n (q := 13) dX0_normalise_12 rfl rfl rfl ?_
    refine r_aload_n (q := 14) dX0_normalise_13 rfl rfl rfl ?_
    refine r_geti (q := 17) ck8 dX0_normalise_14 rfl (k := 1) (by decide) wt68 (Or.inl rfl) (hs.e (show j < 19 by omega)) ?_
    refine r_topi (y := nI c.length) t1 ?_
    refine r_icmp_geN (q := 20) (t := 43) (by omega) (by omega) dX0_normalise_17 (by decide) rfl (fun h17 => ?_) (fun h17 => absurd h17 (by omega))
    exact K S v Fr.rf hV (by rw [List.take_length] at hA; exact hA)
  | succ d ih =>
    intro k S v hk hs hp hL hty hV hA K
    have hkl : k < c.length := by omega
    have hty' := hty
    obtain ⟨t1, t2, M, m2, m3, m4, m5, m6⟩ := hty
    obtain ⟨r1, r2⟩ := t2 k hkl
    have hq := hc9 _ (_root_.Jvm.Pilot.CLeafWorldsLaw_law_r8483_d58aac.mem_getD hkl)
    obtain ⟨i, hi, ei⟩ := mem_idx ((tl_mem hE).mpr hq.1)
    have hsn := tl_sorted hE hn7
    have hB : ∀ s, s ∈ tl W n → ky s < 2 ^ 30 := fun s z => ky_lt hE ((tl_mem hE).mp z) hn7
    rw [← ei] at r1
    refine r_iload_n (q := 13) dX0_normalise_12 rfl rfl rfl ?_
    refine r_aload_n (q := 14) dX0_normalise_13 rfl rfl rfl ?_
    refine r_geti (q := 17) ck8 dX0_normalise_14 rfl (k := 1) (by decide) wt68 (Or.inl rfl) (hs.e (show j < 19 by omega)) ?_
    refine r_topi (y := nI c.length) t1 ?_
    refine r_icmp_geN (q := 20) (t := 43) (by omega) (by omega) dX0_normalise_17 (by decide) rfl (fun h17 => absurd h17 (by omega)) (fun h17 => ?_)
    refine r_aload_n (q := 21) dX0_normalise_20 rfl rfl rfl ?_
    refine r_iload_n (q := 22) dX0_normalise_21 rfl rfl rfl ?_
    refine r_aload_n (q := 23) dX0_normalise_22 rfl rfl rfl ?_
    refine r_getr (q := 26) (some (902, j)) ck8 dX0_normalise_23 rfl (k := 2) (by decide) wt74 rfl (hs.e (show j < 19 by omega)) (hs.r (show j < 19 by omega) (by decide)) ?_
    refine r_iload_n (q := 27) dX0_normalise_26 rfl rfl rfl ?_
    refine r_ialdN (q := 28) M (by decide) rfl dX0_normalise_27 rfl (hs.e (show j < 19 by omega)) m2 (by omega) (by omega) ?_
    refine r_topi (y := nI (ky ((tl W n).getD i []))) r1 ?_
    refine r_aload_n (q := 29) dX0_normalise_28 rfl rfl rfl ?_
    refine r_getr (q := 32) (some (903, j)) ck8 dX0_normalise_29 rfl (k := 3) (by decide) wt80 rfl (hs.e (show j < 19 by omega)) (hs.r (show j < 19 by omega) (by decide)) ?_
    refine r_iload_n (q := 33) dX0_normalise_32 rfl rfl rfl ?_
    refine r_ialdN (q := 34) M (by decide) rfl dX0_normalise_33 rfl (hs.e (show j < 19 by omega)) m3 (by omega) (by omega) ?_
    refine r_topi (y := nI ((c.getD k zd).2)) r2 ?_
    refine r_callV (Mc := mX0_addToVector) (q := 37) (As := [zi (nI n), zi (nI (ky ((tl W n).getD i []))), zi (nI ((c.getD k zd).2))]) (st := []) ck0 dX0_normalise_34 rfl rfl mkX0_addToVector wt860 wt862 wp38 rfl (Nat.le_of_ble_eq_true rfl) (Nat.le_of_ble_eq_true rfl) (by decide) (by decide) (by decide) (Or.inl rfl) (hs.e (show b < 4 by omega)) (ok_addToVector hs hb4 hn7 hL hsn hB hP2 hP97 hp hV hi (nI (c.getD k zd).2)) (fun r34 S34 hp34 => ?_)
    obtain ⟨rfl, hq34⟩ := hp34
    have f2 : Fr (tVe b) S S34 := by rw [hq34]; exact fr_ve
    show Ok _ _ _ [] _ _
    refine r_iincN (q := 40) (L' := [some (zr 0 b), some (zr 8 j), some (zi (nI n)), some (zi (nI (k + 1)))]) 1 rfl dX0_normalise_37 rfl rfl (by decide) rfl ?_
    refine r_goto (q := 12) dX0_normalise_40 (by decide) ?_
    have hx0 : (nI (c.getD k zd).2).toInt = ((c.getD k zd).2 : Int) := nI_toInt (by omega)
    refine ih (k + 1) S34 (fun j => if j = i then rsN (nI (v i) + nI (c.getD k zd).2) (wP W) else v j) (by omega) (hs.fr f2) ((f2.1 _ _ _ rfl).trans hp) (hL.fr f2 (fun k => ⟨rfl, rfl⟩)) (hty'.ve f2) (by rw [hq34]; exact hV.set (rsN_lt (by omega))) ?_ (fun S1 v1 g1 g2 g3 => K S1 v1 (f2.tr g1) g2 g3)
    rw [lz_snoc hkl, ← hx0, ← ei]
    exact acc_add hP2 hP97 tl_nodup hA hi (hV i hi).2 (by rw [hx0]; omega)

set_option maxRecDepth 100000 in
theorem lp_nm61 {W : zWd} (hW : Wok W) {b n f0 j : Nat} (hb4 : b < 4) (hn1 : 1 ≤ n) (hn7 : n ≤ 7) (hj : j < 19) {v : Nat → Nat} (hv : ∀ i, i < (tl W n).length → v i < wP W) : ∀ (d k : Nat) (x : Int32) (S : zS), k + d = (tl W n).length → x = nI d - 1 → Sd S → gI S 9 b 0 = nI (wP W) → Lx S b n f0 (tl W n) → (∀ i, i < (tl W n).length → gI S 703 b i = nI (v i)) → Ty S j (Dn (tl W n) v k) → Ok mX0_normalise 61 [some (zr 0 b), some (zr 8 j), some (zi (nI n)), some (zi x)] [] S (fun r S1 => r = none ∧ Fg (tTy j) S S1 ∧ Ty S1 j (Dn (tl W n) v (tl W n).length)) := by
  have hE := hW.2.1
  have hP2 := hW.1.1
  have hP97 := hW.1.2.1
  intro d
  induction d with
  | zero =>
    intro k x S hk hx hs hp hL hV hty
    obtain rfl : x = -1 := hx.trans (by decide)
    obtain rfl : k = (tl W n).length := by omega
    refine r_iload_n (q := 62) dX0_normalise_61 rfl rfl rfl ?_
    refine r_if_lt (q := 65) (t := 97) dX0_normalise_62 (by decide) rfl (fun h62 => ?_) (fun h62 => absurd h62 (by decide))
    refine r_return dX0_normalise_97 rfl ?_
    exact ⟨rfl, Fg.rf hs, hty⟩
  | succ d ih =>
    intro k x S hk hx hs hp hL hV hty
    obtain rfl : x = nI d := hx.trans (nI_prd d)
    have hT300 := hL.2.2.2.1
    have hd : d < (tl W n).length := by omega
    have ed : (tl W n).length - 1 - k = d := by omega
    have v1 := hV d hd
    have htr := tl_tr hE hd
    have hkl : k < (tl W n).length := by omega
    have hstep := dn_step (P := wP W) (tl_sorted hE hn7) (v := v) hkl (hv _ (by omega))
    rw [ed] at hstep
    refine r_iload_n (q := 62) dX0_normalise_61 rfl rfl rfl ?_
    refine r_if_ltN (q := 65) (t := 97) (by omega) dX0_normalise_62 (by decide) rfl ?_
    refine r_aload_n (q := 66) dX0_normalise_65 rfl rfl rfl ?_
    refine r_aload_n (q := 67) dX0_normalise_66 rfl rfl rfl ?_
    refine r_iload_n (q := 68) dX0_normalise_67 rfl rfl rfl ?_
    refine r_iload_n (q := 69) dX0_normalise_68 rfl rfl rfl ?_
    refine r_callV (Mc := mX0_keyOf) (q := 72) (As := [zi (nI n), zi (nI d)]) (st := [zr 8 j]) ck0 dX0_normalise_69 rfl rfl mkX0_keyOf wt792 wt793 wt794 rfl (Nat.le_of_ble_eq_true rfl) (Nat.le_of_ble_eq_true rfl) (by decide) (by decide) (by decide) (Or.inl rfl) (hs.e (show b < 4 by omega)) (ok_keyOf hs hb4 hn7 hL hd) (fun r69 S69 hp69 => ?_)
    obtain ⟨rfl, hq69⟩ := hp69
    rw [hq69]
    show Ok _ _ _ [zi (nI (ky ((tl W n).getD d []))), zr 8 j] _ _
    refine r_aload_n (q := 73) dX0_normalise_72 rfl rfl rfl ?_
    refine r_getr (q := 76) (some (6, b)) ck0 dX0_normalise_73 rfl (k := 1) (by decide) wt378 rfl (hs.e (show b < 4 by omega)) (hs.r (show b < 4 by omega) (by decide)) ?_
    refine r_getr (q := 79) (some (703, b)) ck6 dX0_normalise_76 rfl (k := 3) (by decide) wt103 rfl (hs.e (show b < 5 by omega)) (hs.r (show b < 5 by omega) (by decide)) ?_
    refine r_iload_n (q := 80) dX0_normalise_79 rfl rfl rfl ?_
    refine r_ialdN (q := 81) 300 (by decide) rfl dX0_normalise_80 rfl (hs.e (show b < 5 by omega)) (hs.n rfl (show b < 5 by omega)) (by omega) (by decide) ?_
    refine r_topi (y := nI (v d)) v1 ?_
    refine r_aload_n (q := 82) dX0_normalise_81 rfl rfl rfl ?_
    refine r_getr (q := 85) (some (9, b)) ck0 dX0_normalise_82 rfl (k := 0) (by decide) wt374 rfl (hs.e (show b < 4 by omega)) (hs.r (show b < 4 by omega) (by decide)) ?_
    refine r_geti (q := 88) ck9 dX0_normalise_85 rfl (k := 0) (by decide) wt294 (Or.inl rfl) (hs.e (show b < 4 by omega)) ?_
    refine r_topi (y := nI (wP W)) hp ?_
    refine r_callV (Mc := mX8_put) (q := 91) (As := [zi (nI (ky ((tl W n).getD d []))), zi (nI (v d)), zi (nI (wP W))]) (st := []) ck8 dX0_normalise_88 rfl rfl mkX8_put wt906 wt610 wt611 rfl (Nat.le_of_ble_eq_true rfl) (Nat.le_of_ble_eq_true rfl) (by decide) (by decide) (by decide) (Or.inr ⟨Nat.le_of_ble_eq_true rfl, rfl, rfl⟩) (hs.e (show j < 19 by omega)) (ok_X8_put hs hj hE htr hn7 hty (dn_ce hW hn7 hv (by omega)) hP2 hP97 (U := tl W n) (by omega) (mem_gd hd) (fun p hp => by obtain ⟨s, _, h2, h3, _⟩ := mem_Dn (by omega) hp; rw [h3]; exact mem_gd h2) (nI (v d))) (fun r88 S88 hp88 => ?_)
    obtain ⟨rfl, f1, h1⟩ := hp88
    rw [rsN_nI (by have := hv d hd; omega) (by omega), Nat.mod_eq_of_lt (hv d hd), hstep] at h1
    show Ok _ _ _ [] _ _
    refine r_iinc (q := 94) (L' := [some (zr 0 b), some (zr 8 j), some (zi (nI n)), some (zi ((nI d) + (-1)))]) ((nI d) + (-1)) dX0_normalise_91 rfl rfl (by decide) rfl rfl ?_
    refine r_goto (q := 61) dX0_normalise_94 (by decide) ?_
    refine Ok.mono (ih (k + 1) _ S88 (by omega) (Int32.sub_eq_add_neg _ _).symm f1.sd ((f1.I (by omega) (by unfold tTy; omega)).trans hp) ⟨(f1.I (by omega) (by unfold tTy; omega)).trans hL.1, (f1.I (by omega) (by unfold tTy; omega)).trans hL.2.1, hL.2.2.1, hL.2.2.2.1, fun i hi => (f1.I (by omega) (by unfold tTy; omega)).trans (hL.2.2.2.2 i hi)⟩ (fun i hi => (f1.I (by omega) (by unfold tTy; omega)).trans (hV i hi)) h1) (fun r S2 z => ⟨z.1, f1.tr z.2.1, z.2.2⟩)

def tNm (b j x y k : Nat) : Prop := x = 703 ∧ y = b ∨ tTy j x y k ∨ x = 8 ∧ y = j ∧ k = 0
/-- a sum brought to normal trees by rules -/
def NfC (W : zWd) (n : Nat) (mk : Nat → Nat) (rl : Nat → Nat → Nat) (c c1 : List zT) : Prop := ∃ v v1, AccV (wP W) (tl W n) v (lz c) ∧ (∀ i, i < (tl W n).length → v i < wP W) ∧ RedS (tl W n) (wP W) mk rl v v1 ∧ (∀ i, i < (tl W n).length → v1 i < wP W) ∧ c1 = Dn (tl W n) v1 (tl W n).length

set_option maxRecDepth 100000 in
theorem ok_normalise {S : zS} (hs : Sd S) {W : zWd} (hW : Wok W) {b : Nat} (hb4 : b < 4) (hc : WC S b W) {n0 : Nat} {mk : Nat → Nat → Nat} {rl : Nat → Nat → Nat → Nat} (hB : CB S b W n0 mk rl) {j n : Nat} (hj : j < 19) (hn1 : 1 ≤ n) (hn7 : n ≤ 7) (hn : n ≤ n0) {c : List zT} (hlv : gI S 8 j 0 = nI n) (hty : Ty S j c) (hc9 : ∀ p, p ∈ c → Tr (wA W) (we W) n p.1 ∧ p.2 < wP W) : Ok mX0_normalise 0 (ent 4 [zr 0 b, zr 8 j]) [] S (fun r S1 => r = none ∧ Fg (tNm b j) S S1 ∧ gI S1 8 j 0 = nI n ∧ ∃ c1, NfC W n (mk n) (rl n) c c1 ∧ Ty S1 j c1) := by
  obtain ⟨hL, hM, hU⟩ := hB.2.2.2.1 n hn1 hn
  have hT300 := hL.2.2.2.1
  have hP0 : 0 < wP W := Nat.lt_of_lt_of_le (by decide) hW.1.1
  show Ok mX0_normalise 0 [some (zr 0 b), some (zr 8 j), none, none] [] S _
  refine r_aload_n (q := 1) dX0_normalise_0 rfl rfl rfl ?_
  refine r_geti (q := 4) ck8 dX0_normalise_1 rfl (k := 0) (by decide) wt61 (Or.inl rfl) (hs.e (show j < 19 by omega)) ?_
  refine r_topi (y := nI n) hlv ?_
  refine r_istore_n (q := 5) (L' := [some (zr 0 b), some (zr 8 j), some (zi (nI n)), none]) dX0_normalise_4 rfl rfl (by decide) rfl ?_
  refine r_aload_n (q := 6) dX0_normalise_5 rfl rfl rfl ?_
  refine r_iload_n (q := 7) dX0_normalise_6 rfl rfl rfl ?_
  refine r_callV (Mc := mX0_clearVector) (q := 10) (As := [zi (nI n)]) (st := []) ck0 dX0_normalise_7 rfl rfl mkX0_clearVector wt848 wt850 wp36 rfl (Nat.le_of_ble_eq_true rfl) (Nat.le_of_ble_eq_true rfl) (by decide) (by decide) (by decide) (Or.inl rfl) (hs.e (show b < 4 by omega)) (ok_clearVector hs hb4 hn7 hL) (fun r7 S7 hp7 => ?_)
  obtain ⟨rfl, hq7⟩ := hp7
  have f0 : Fr (tVe b) S S7 := by rw [hq7]; exact (vx_clear hP0).2
  have hs0 := hs.fr f0
  have hV0 : Vx S7 b (tl W n).length (wP W) (fun _ => 0) := by rw [hq7]; exact (vx_clear hP0).1
  show Ok _ _ _ [] _ _
  refine r_iconst (q := 11) (nI 0) dX0_normalise_10 rfl (by decide) ?_
  refine r_istore_n (q := 12) (L' := [some (zr 0 b), some (zr 8 j), some (zi (nI n)), some (zi (nI 0))]) dX0_normalise_11 rfl rfl (by decide) rfl ?_
  refine lp_nm12 hW hb4 hn1 hn7 hj hc9 c.length 0 S7 (fun _ => 0) (by omega) hs0 ((f0.1 _ _ _ rfl).trans hc.1) (hL.fr f0 (fun k => ⟨rfl, rfl⟩)) (hty.ve f0) hV0 acc_nil (fun S1 v g1 g2 g3 => ?_)
  have f1 : Fr (tVe b) S S1 := f0.tr g1
  have hs1 := hs.fr f1
  have hL1 := hL.fr f1 (fun k => ⟨rfl, rfl⟩)
  refine r_aload_n (q := 44) dX0_normalise_43 rfl rfl rfl ?_
  refine r_iload_n (q := 45) dX0_normalise_44 rfl rfl rfl ?_
  refine r_callV (Mc := mX0_reduceVector) (q := 48) (As := [zi (nI n)]) (st := []) ck0 dX0_normalise_45 rfl rfl mkX0_reduceVector wt865 wt867 wp39 rfl (Nat.le_of_ble_eq_true rfl) (Nat.le_of_ble_eq_true rfl) (by decide) (by decide) (by decide) (Or.inl rfl) (hs1.e (show b < 4 by omega)) (ok_reduceVector hs1 hb4 hn7 hL1 tl_nodup hW.1.1 hW.1.2.1 ((f1.1 _ _ _ rfl).trans hc.1) g2 (hM.fr f1 (fun k => rfl)) (hU.fr f1 (fun k => ⟨rfl, rfl⟩))) (fun r45 S45 hp45 => ?_)
  obtain ⟨rfl, f2, v1, h1, h2⟩ := hp45
  have f3 : Fr (tVe b) S S45 := f1.tr f2
  have hs3 := hs.fr f3
  have hL3 := hL.fr f3 (fun k => ⟨rfl, rfl⟩)
  show Ok _ _ _ [] _ _
  refine r_aload_n (q := 49) dX0_normalise_48 rfl rfl rfl ?_
  refine r_iload_n (q := 50) dX0_normalise_49 rfl rfl rfl ?_
  refine r_callV (Mc := mX8_clear) (q := 53) (As := [zi (nI n)]) (st := []) ck8 dX0_normalise_50 rfl rfl mkX8_clear wt905 wt603 wt604 rfl (Nat.le_of_ble_eq_true rfl) (Nat.le_of_ble_eq_true rfl) (by decide) (by decide) (by decide) (Or.inl rfl) (hs3.e (show j < 19 by omega)) (ok_X8_clear hs3 hj (nI n)) (fun r50 S50 hp50 => ?_)
  obtain ⟨rfl, hq50⟩ := hp50
  rw [hq50]
  show Ok _ _ _ [] _ _
  refine r_aload_n (q := 54) dX0_normalise_53 rfl rfl rfl ?_
  refine r_iload_n (q := 55) dX0_normalise_54 rfl rfl rfl ?_
  refine r_callV (Mc := mX0_treesOf) (q := 58) (As := [zi (nI n)]) (st := []) ck0 dX0_normalise_55 rfl rfl mkX0_treesOf wt788 wt789 wt790 rfl (Nat.le_of_ble_eq_true rfl) (Nat.le_of_ble_eq_true rfl) (by decide) (by decide) (by decide) (Or.inl rfl) (hs3.e (show b < 4 by omega)) (ok_treesOf (S := sI (sI S45 8 j 0 (nI n)) 8 j 1 (nI 0)) hs3 hb4 hn7 (hL3.fr (U := fun x _ _ => x == 8) (((Fr.rf).i rfl).i rfl) (fun _ => ⟨rfl, rfl⟩))) (fun r55 S55 hp55 => ?_)
  obtain ⟨rfl, hq55⟩ := hp55
  rw [hq55]
  show Ok _ _ _ [zi (nI ((tl W n).length))] _ _
  refine r_iconst (q := 59) (nI 1) dX0_normalise_58 rfl (by decide) ?_
  refine r_isub (q := 60) dX0_normalise_59 rfl ?_
  refine r_istore_n (q := 61) (L' := [some (zr 0 b), some (zr 8 j), some (zi (nI n)), some (zi ((nI ((tl W n).length)) - (nI 1)))]) dX0_normalise_60 rfl rfl (by decide) rfl ?_
  have f5 : Fg (tNm b j) S45 (sI (sI S45 8 j 0 (nI n)) 8 j 1 (nI 0)) := Fg.of22 hs3 rfl (fun a b' k _ hz => by rw [gI_sI, if_neg (fun z => hz (by unfold tNm tTy; omega)), gI_sI, if_neg (fun z => hz (by unfold tNm tTy; omega))]) (fun _ _ _ _ _ => rfl)
  have hty5 : Ty (sI (sI S45 8 j 0 (nI n)) 8 j 1 (nI 0)) j (Dn (tl W n) v1 0) := by
    obtain ⟨_, _, m, h3, h4, h5, h6, _⟩ := hty.ve f3
    exact ⟨by rw [gI_sI, if_pos ⟨rfl, rfl, rfl⟩]; rfl, fun k hk => absurd hk (by simp [Dn]), m, h3, h4, h5, h6, by simp [Dn]⟩
  refine Ok.mono (lp_nm61 (f0 := tfr W n) hW hb4 hn1 hn7 hj (fun i hi => (h1 i hi).2) (tl W n).length 0 _ _ (by omega) rfl f5.sd (by rw [gI_sI, if_neg (by omega), gI_sI, if_neg (by omega)]; exact (f3.1 _ _ _ rfl).trans hc.1) (hL3.fr (U := fun x _ _ => x == 8) (((Fr.rf).i rfl).i rfl) (fun _ => ⟨rfl, rfl⟩)) (fun i hi => by rw [gI_sI, if_neg (by omega), gI_sI, if_neg (by omega)]; exact (h1 i hi).1) hty5) (fun r S6 z => ⟨z.1, ((f3.fg hs (fun a b' k y => Or.inl (by simp [tVe] at y; exact y))).tr f5).tr (z.2.1.mono fun a b' k y => Or.inr (Or.inl y)), ?_, _, ⟨v, v1, g3, fun i hi => (g2 i hi).2, h2, fun i hi => (h1 i hi).2, rfl⟩, z.2.2⟩)
  rw [z.2.1.I (by omega) (by unfold tTy; omega), gI_sI, if_neg (by omega), gI_sI, if_pos ⟨rfl, rfl, rfl⟩]

/-- a row of the reference as a sum -/
theorem dn_addR {P : Nat} {T : List (List Nat)} (hT : Srt T) {v : Nat → Nat} {k : Nat} (hk : k < T.length) (hv : v (T.length - 1 - k) < P) : Dn T v (k + 1) = if v (T.length - 1 - k) = 0 then Dn T v k else addT P (T.getD (T.length - 1 - k) []) (v (T.length - 1 - k)) (Dn T v k) := by
  rw [Dn]
  by_cases h : v (T.length - 1 - k) = 0
  · rw [if_pos h, if_pos h, List.append_nil]
  · rw [if_neg h, if_neg h, dn_add hT hk, Nat.mod_eq_of_lt hv]

set_option maxRecDepth 100000 in
theorem lp_rs14 {W : zWd} (hW : Wok W) {n F : Nat} (hn7 : n ≤ 7) (hm3 : (tl W n).length ≤ 300) (hF4 : F + (tl W n).length ≤ 4400) {v : Nat → Nat} : ∀ (d k : Nat) (x : Int32) (S : zS), k + d = (tl W n).length → x = nI d - 1 → Sd S → gI S 1325 0 n = nI F → Co S F (tl W n) → gI S 1306 0 0 = nI (wP W) → WrR S 0 W → Vr S (tl W n).length (wP W) v → Rs (we W) S (Dn (tl W n) v k) → Ok mX12_rowSum 14 [some (zr 12 0), some (zi (nI n)), some (zi x)] [] S (fun r S1 => r = none ∧ Fr tAT S S1 ∧ Rs (we W) S1 (Dn (tl W n) v (tl W n).length)) := by
  have hE := hW.2.1
  have hP2 := hW.1.1
  have hP97 := hW.1.2.1
  intro d
  induction d with
  | zero =>
    intro k x S hk hx hs h5 hC hp hw hV hR
    obtain rfl : x = -1 := hx.trans (by decide)
    obtain rfl : k = (tl W n).length := by omega
    refine r_iload_n (q := 15) dX12_rowSum_14 rfl rfl rfl ?_
    refine r_if_lt (q := 18) (t := 63) dX12_rowSum_15 (by decide) rfl (fun h15 => ?_) (fun h15 => absurd h15 (by decide))
    refine r_return dX12_rowSum_63 rfl ?_
    exact ⟨rfl, Fr.rf, hR⟩
  | succ d ih =>
    intro k x S hk hx hs h5 hC hp hw hV hR
    obtain rfl : x = nI d := hx.trans (nI_prd d)
    have hd : d < (tl W n).length := by omega
    have ed : (tl W n).length - 1 - k = d := by omega
    obtain ⟨v1, v2⟩ := hV d hd
    obtain ⟨c1, c2⟩ := hC d hd
    have htr := tl_tr hE hd
    have hkl : k < (tl W n).length := by omega
    have hstep := dn_addR (P := wP W) (tl_sorted hE hn7) (v := v) hkl (by rw [ed]; exact v2)
    rw [ed] at hstep
    have hlen := nodup_le ((Dn (tl W n) v k).map Prod.fst) (tl W n) (dn_ce hW hn7 (fun i hi => (hV i hi).2) (by omega)).1.1.nodup (fun x hx => by
      obtain ⟨p, h1, h2⟩ := List.mem_map.mp hx
      obtain ⟨s, _, s2, s3, _⟩ := mem_Dn (by omega) h1
      rw [← h2, s3]; exact mem_gd s2)
    rw [List.length_map] at hlen
    by_cases h0 : v d = 0
    · rw [h0] at v1
      rw [if_pos h0] at hstep
      refine r_iload_n (q := 15) dX12_rowSum_14 rfl rfl rfl ?_
      refine r_if_ltN (q := 18) (t := 63) (by omega) dX12_rowSum_15 (by decide) rfl ?_
      refine r_aload_n (q := 19) dX12_rowSum_18 rfl rfl rfl ?_
      refine r_getr (q := 22) (some (1341, 0)) ck12 dX12_rowSum_19 rfl (k := 41) (by decide) wt1319 rfl (hs.e (by decide)) (hs.r (by decide) (by decide)) ?_
      refine r_iload_n (q := 23) dX12_rowSum_22 rfl rfl rfl ?_
      refine r_ialdN (q := 24) 300 (by decide) rfl dX12_rowSum_23 rfl (hs.e (by decide)) (hs.n rfl (by decide)) (by omega) (by decide) ?_
      refine r_topi (y := nI 0) v1 ?_
      refine r_if_eqN (q := 27) (t := 57) (by omega) dX12_rowSum_24 (by decide) rfl (fun h24 => ?_) (fun h24 => absurd h24 (by omega))
      refine r_iinc (q := 60) (L' := [some (zr 12 0), some (zi (nI n)), some (zi ((nI d) + (-1)))]) ((nI d) + (-1)) dX12_rowSum_57 rfl rfl (by decide) rfl rfl ?_
      refine r_goto (q := 14) dX12_rowSum_60 (by decide) ?_
      exact ih (k + 1) _ S (by omega) (Int32.sub_eq_add_neg _ _).symm hs h5 hC hp hw hV (by rw [hstep]; exact hR)
    · rw [if_neg h0] at hstep
      refine r_iload_n (q := 15) dX12_rowSum_14 rfl rfl rfl ?_
      refine r_if_ltN (q := 18) (t := 63) (by omega) dX12_rowSum_15 (by decide) rfl ?_
      refine r_aload_n (q := 19) dX12_rowSum_18 rfl rfl rfl ?_
      refine r_getr (q := 22) (some (1341, 0)) ck12 dX12_rowSum_19 rfl (k := 41) (by decide) wt1319 rfl (hs.e (by decide)) (hs.r (by decide) (by decide)) ?_
      refine r_iload_n (q := 23) dX12_rowSum_22 rfl rfl rfl ?_
      refine r_ialdN (q := 24) 300 (by decide) rfl dX12_rowSum_23 rfl (hs.e (by decide)) (hs.n rfl (by decide)) (by omega) (by decide) ?_
      refine r_topi (y := nI (v d)) v1 ?_
      refine r_if_eqN (q := 27) (t := 57) (by omega) dX12_rowSum_24 (by decide) rfl (fun h24 => absurd h24 (by omega)) (fun h24 => ?_)
      refine r_aload_n (q := 28) dX12_rowSum_27 rfl rfl rfl ?_
      refine r_aload_n (q := 29) dX12_rowSum_28 rfl rfl rfl ?_
      refine r_getr (q := 32) (some (1328, 0)) ck12 dX12_rowSum_29 rfl (k := 28) (by decide) wt1306 rfl (hs.e (by decide)) (hs.r (by decide) (by decide)) ?_
      refine r_aload_n (q := 33) dX12_rowSum_32 rfl rfl rfl ?_
      refine r_getr (q := 36) (some (1325, 0)) ck12 dX12_rowSum_33 rfl (k := 25) (by decide) wt1303 rfl (hs.e (by decide)) (hs.r (by decide) (by decide)) ?_
      refine r_iload_n (q := 37) dX12_rowSum_36 rfl rfl rfl ?_
      refine r_ialdN (q := 38) 16 (by decide) rfl dX12_rowSum_37 rfl (hs.e (by decide)) (hs.n rfl (by decide)) (by omega) (by decide) ?_
      refine r_topi (y := nI F) h5 ?_
      refine r_iload_n (q := 39) dX12_rowSum_38 rfl rfl rfl ?_
      refine r_iaddN (q := 40) dX12_rowSum_39 rfl ?_
      refine r_ialdN (q := 41) 4400 (by decide) rfl dX12_rowSum_40 rfl (hs.e (by decide)) (hs.n rfl (by decide)) (by omega) (by decide) ?_
      refine r_topi (y := nI (cd ((tl W n).getD d []))) c1 ?_
      refine r_aload_n (q := 42) dX12_rowSum_41 rfl rfl rfl ?_
      refine r_getr (q := 45) (some (1341, 0)) ck12 dX12_rowSum_42 rfl (k := 41) (by decide) wt1319 rfl (hs.e (by decide)) (hs.r (by decide) (by decide)) ?_
      refine r_iload_n (q := 46) dX12_rowSum_45 rfl rfl rfl ?_
      refine r_ialdN (q := 47) 300 (by decide) rfl dX12_rowSum_46 rfl (hs.e (by decide)) (hs.n rfl (by decide)) (by omega) (by decide) ?_
      refine r_topi (y := nI (v d)) v1 ?_
      refine r_iconst (q := 48) (nI 0) dX12_rowSum_47 rfl (by decide) ?_
      refine r_aload_n (q := 49) dX12_rowSum_48 rfl rfl rfl ?_
      refine r_getr (q := 52) (some (1306, 0)) ck12 dX12_rowSum_49 rfl (k := 6) (by decide) wt1284 rfl (hs.e (by decide)) (hs.r (by decide) (by decide)) ?_
      refine r_iconst (q := 53) (nI 0) dX12_rowSum_52 rfl (by decide) ?_
      refine r_ialdN (q := 54) 3775 (by decide) rfl dX12_rowSum_53 rfl (hs.e (by decide)) (hs.n rfl (by decide)) (by omega) (by decide) ?_
      refine r_topi (y := nI (wP W)) hp ?_
      refine r_callV (Mc := mX12_addTerm) (q := 57) (As := [zi (nI (cd ((tl W n).getD d []))), zi (nI (v d)), zi (nI 0), zi (nI (wP W))]) (st := []) ck12 dX12_rowSum_54 rfl rfl mkX12_addTerm wt1641 wt1643 wp83 rfl (Nat.le_of_ble_eq_true rfl) (Nat.le_of_ble_eq_true rfl) (by decide) (by decide) (by decide) (Or.inl rfl) (hs.e (by decide)) (ok_X12_addTerm hs hE htr hn7 hR (fun p hp => (dn_ce hW hn7 (fun i hi => (hV i hi).2) (by omega)).1.2 p hp) hP2 hP97 (v := v d) (by omega) (by omega) (q := 0) (by omega) (fun a ha => hw.2 a ha)) (fun r54 S54 hp54 => ?_)
      obtain ⟨rfl, f1, hr1⟩ := hp54
      rw [← hstep] at hr1
      show Ok _ _ _ [] _ _
      refine r_iinc (q := 60) (L' := [some (zr 12 0), some (zi (nI n)), some (zi ((nI d) + (-1)))]) ((nI d) + (-1)) dX12_rowSum_57 rfl rfl (by decide) rfl rfl ?_
      refine r_goto (q := 14) dX12_rowSum_60 (by decide) ?_
      refine Ok.mono (ih (k + 1) _ S54 (by omega) (Int32.sub_eq_add_neg _ _).symm (hs.fr f1) ((f1.1 _ _ _ rfl).trans h5) (hC.fr f1 (fun _ _ => rfl)) ((f1.1 _ _ _ rfl).trans hp) (hw.fr f1 (fun _ => rfl)) (fun i hi => ⟨(f1.1 _ _ _ rfl).trans (hV i hi).1, (hV i hi).2⟩) hr1) (fun r S2 z => ⟨z.1, f1.tr z.2.1, z.2.2⟩)

set_option maxRecDepth 100000 in
theorem ok_rowSum {W : zWd} (hW : Wok W) {n F : Nat} (hn7 : n ≤ 7) (hm3 : (tl W n).length ≤ 300) (hF4 : F + (tl W n).length ≤ 4400) {v : Nat → Nat} {S : zS} (hs : Sd S) (h4 : gI S 1324 0 n = nI (tl W n).length) (h5 : gI S 1325 0 n = nI F) (hC : Co S F (tl W n)) (hp : gI S 1306 0 0 = nI (wP W)) (hw : WrR S 0 W) (hV : Vr S (tl W n).length (wP W) v) : Ok mX12_rowSum 0 (ent 3 [zr 12 0, zi (nI n)]) [] S (fun r S1 => r = none ∧ Fr (fun x y k => tAT x y k || x == 12 && y == 0 && k == 48) S S1 ∧ gI S1 12 0 48 = nI n ∧ Rs (we W) S1 (Dn (tl W n) v (tl W n).length)) := by
  show Ok mX12_rowSum 0 [some (zr 12 0), some (zi (nI n)), none] [] S _
  refine r_aload_n (q := 1) dX12_rowSum_0 rfl rfl rfl ?_
  refine r_iload_n (q := 2) dX12_rowSum_1 rfl rfl rfl ?_
  refine r_callV (Mc := mX12_noSum) (q := 5) (As := [zi (nI n)]) (st := []) ck12 dX12_rowSum_2 rfl rfl mkX12_noSum wt1625 wt1627 wp79 rfl (Nat.le_of_ble_eq_true rfl) (Nat.le_of_ble_eq_true rfl) (by decide) (by decide) (by decide) (Or.inl rfl) (hs.e (by decide)) (ok_X12_noSum hs (nI n)) (fun r2 S2 hp2 => ?_)
  obtain ⟨rfl, hq2⟩ := hp2
  rw [hq2]
  show Ok _ _ _ [] _ _
  refine r_aload_n (q := 6) dX12_rowSum_5 rfl rfl rfl ?_
  refine r_getr (q := 9) (some (1324, 0)) ck12 dX12_rowSum_6 rfl (k := 24) (by decide) wt1302 rfl (hs.e (by decide)) (hs.r (by decide) (by decide)) ?_
  refine r_iload_n (q := 10) dX12_rowSum_9 rfl rfl rfl ?_
  refine r_ialdN (q := 11) 16 (by decide) rfl dX12_rowSum_10 rfl (hs.e (by decide)) (hs.n rfl (by decide)) (by omega) (by decide) ?_
  refine r_topi (y := gI S 1324 0 n) (by simp [gI_sI, gJ_sJ, gI_sJ, gJ_sI]) ?_
  refine r_topi (y := nI ((tl W n).length)) h4 ?_
  refine r_iconst (q := 12) (nI 1) dX12_rowSum_11 rfl (by decide) ?_
  refine r_isub (q := 13) dX12_rowSum_12 rfl ?_
  refine r_istore_n (q := 14) (L' := [some (zr 12 0), some (zi (nI n)), some (zi ((nI ((tl W n).length)) - (nI 1)))]) dX12_rowSum_13 rfl rfl (by decide) rfl ?_
  have f1 : Fr (fun x y k => tAT x y k || x == 12 && y == 0 && k == 48) S (sI (sI S 12 0 47 (nI 0)) 12 0 48 (nI n)) := ((Fr.rf).i rfl).i rfl
  refine Ok.mono (lp_rs14 hW hn7 hm3 hF4 (tl W n).length 0 _ (sI (sI S 12 0 47 (nI 0)) 12 0 48 (nI n)) (by omega) rfl hs ((f1.1 _ _ _ rfl).trans h5) (hC.fr f1 (fun _ _ => rfl)) ((f1.1 _ _ _ rfl).trans hp) (hw.fr f1 (fun _ => rfl)) (fun i hi => ⟨(f1.1 _ _ _ rfl).trans (hV i hi).1, (hV i hi).2⟩) ⟨by rw [gI_sI, if_neg (by omega), gI_sI, if_pos ⟨rfl, rfl, rfl⟩]; rfl, fun k hk => absurd hk (by simp [Dn])⟩) (fun r S2 z => ⟨z.1, f1.tr (z.2.1.mono (fun x y k h => by simp [h])), ?_, z.2.2⟩)
  rw [z.2.1.1 _ _ _ rfl, gI_sI, if_pos ⟨rfl, rfl, rfl⟩]

