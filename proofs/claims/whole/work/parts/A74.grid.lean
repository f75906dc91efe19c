/-! dual: the class's rows told -/
theorem nmT_drop {cs : List zT} {t : List Nat} {i : Nat} (h : i < cs.length) : nmT (cs.drop i) t = if (cs.getD i zd).1 = t then (cs.getD i zd).2 else nmT (cs.drop (i + 1)) t := by
  have e : cs.drop i = cs.getD i zd :: cs.drop (i + 1) := by
    rw [List.getD_eq_getElem?_getD, List.getElem?_eq_getElem h]
    exact List.drop_eq_getElem_cons h
  rw [e]
  rfl
theorem nmT_lt {P : Nat} (hP : 0 < P) {t : List Nat} : ∀ {cs : List zT}, (∀ p, p ∈ cs → p.2 < P) → nmT cs t < P
  | [], _ => hP
  | p :: r, h => by
    rw [nmT]
    split
    · exact h p List.mem_cons_self
    · exact nmT_lt hP (fun q hq => h q (List.mem_cons_of_mem _ hq))
theorem getD_mem1 {t : List Nat} {i : Nat} (h : i < t.length) : t.getD i 0 ∈ t := by
  rw [List.getD_eq_getElem?_getD, List.getElem?_eq_getElem h]
  exact List.getElem_mem h
theorem nd_map {t : List Nat} {i : Nat} (h : i < t.length) : (t.map nd).getD i 0 = nd (t.getD i 0) := by
  rw [List.getD_eq_getElem?_getD, List.getElem?_map, List.getD_eq_getElem?_getD, List.getElem?_eq_getElem h]
  rfl
theorem nI_negmul {a : Nat} (ha : a < 100000) : ((-1 : Int32) * nI a).toInt = -(a : Int) := by
  rw [Int32.toInt_mul, nI_toInt (by omega)]
  have : (-1 : Int32).toInt = -1 := by decide
  rw [this, Int.neg_one_mul]
  exact Int.bmod_eq_of_le (by omega) (by omega)
theorem rs_neg {P a : Nat} (hP : 0 < P) (ha : a < P) (h97 : P ≤ 97) : rsN ((-1 : Int32) * nI a) P = (P - a) % P := by
  refine dvd_eqN (rsN_lt hP) (Nat.mod_lt _ hP) ?_
  have h1 := rsN_dvd (x := (-1 : Int32) * nI a) hP
  rw [nI_negmul (by omega)] at h1
  have h2 := mod_dvN (P := P) (a := P - a)
  have h3 : (P : Int) ∣ -(a : Int) - ((P - a : Nat) : Int) := ⟨-1, by rw [Int.mul_neg, Int.mul_one]; omega⟩
  exact dvd_tr h1 (dvd_tr h3 (dvd_sy h2))

set_option maxRecDepth 100000 in
theorem lp_no7 {S : zS} (hs : Sd S) {W : zWd} (hW : Wok W) {b : Nat} (hb4 : b < 4) {l : Nat} (hl : l < wL W) (hc : WC S b W) (h3 : (lw W l).1 = 3) {t : List Nat} (ht : Tr (wA W) (we W) 3 t) : ∀ (d i : Nat), i + d = (lw W l).2.length → Ok mX2_numberOf 7 [some (zr 9 b), some (zi (nI l)), some (zi (nI (ky t))), some (zi (nI (lf W l + i)))] [] S (fun z S1 => z = some (zi (nI (nmT ((lw W l).2.drop i) t))) ∧ S1 = S) := by
  have hL18 := hW.2.2.2.1
  have hlf := hW.lf2 hl
  have hce := (hW.2.2.2.2.2 l hl).2.2
  have hto : gI S 1006 b (l + 1) = nI (lf W l + (lw W l).2.length) := (hc.2.2.2.2.2.1 (l + 1) (by omega)).trans (by rw [lf_succ hl])
  intro d
  induction d with
  | zero =>
    intro i hi
    obtain rfl : i = (lw W l).2.length := by omega
    refine r_iload_n (q := 8) dX2_numberOf_7 rfl rfl rfl ?_
    refine r_aload_n (q := 9) dX2_numberOf_8 rfl rfl rfl ?_
    refine r_getr (q := 12) (some (1006, b)) ck9 dX2_numberOf_9 rfl (k := 6) (by decide) wt325 rfl (hs.e (show b < 4 by omega)) (hs.r (show b < 4 by omega) (by decide)) ?_
    refine r_iload_n (q := 13) dX2_numberOf_12 rfl rfl rfl ?_
    refine r_iconst (q := 14) (nI 1) dX2_numberOf_13 rfl (by decide) ?_
    refine r_iaddN (q := 15) dX2_numberOf_14 rfl ?_
    refine r_ialdN (q := 16) 19 (by decide) rfl dX2_numberOf_15 rfl (hs.e (show b < 4 by omega)) (hs.n rfl (show b < 4 by omega)) (by omega) (by decide) ?_
    refine r_topi (y := nI (lf W l + (lw W l).2.length)) hto ?_
    refine r_icmp_geN (q := 19) (t := 42) (by omega) (by omega) dX2_numberOf_16 (by decide) rfl (fun h16 => ?_) (fun h16 => absurd h16 (by omega))
    refine r_iconst (q := 43) (nI 0) dX2_numberOf_42 rfl (by decide) ?_
    refine r_ireturn dX2_numberOf_43 rfl ?_
    exact ⟨by rw [List.drop_length]; rfl, rfl⟩
  | succ d ih =>
    intro i hi
    have hil : i < (lw W l).2.length := by omega
    obtain ⟨hk1, hk2⟩ := hc.2.2.2.2.2.2 l i hl hil
    have htr := (hce.1.2 _ (mem_getD hil)).1
    rw [h3] at htr
    have b1 := ky_lt hW.2.1 htr (by omega)
    have b2 := ky_lt hW.2.1 ht (by omega)
    by_cases e0 : ((lw W l).2.getD i zd).1 = t
    · have ek : ky ((lw W l).2.getD i zd).1 = ky t := by rw [e0]
      refine r_iload_n (q := 8) dX2_numberOf_7 rfl rfl rfl ?_
      refine r_aload_n (q := 9) dX2_numberOf_8 rfl rfl rfl ?_
      refine r_getr (q := 12) (some (1006, b)) ck9 dX2_numberOf_9 rfl (k := 6) (by decide) wt325 rfl (hs.e (show b < 4 by omega)) (hs.r (show b < 4 by omega) (by decide)) ?_
      refine r_iload_n (q := 13) dX2_numberOf_12 rfl rfl rfl ?_
      refine r_iconst (q := 14) (nI 1) dX2_numberOf_13 rfl (by decide) ?_
      refine r_iaddN (q := 15) dX2_numberOf_14 rfl ?_
      refine r_ialdN (q := 16) 19 (by decide) rfl dX2_numberOf_15 rfl (hs.e (show b < 4 by omega)) (hs.n rfl (show b < 4 by omega)) (by omega) (by decide) ?_
      refine r_topi (y := nI (lf W l + (lw W l).2.length)) hto ?_
      refine r_icmp_geN (q := 19) (t := 42) (by omega) (by omega) dX2_numberOf_16 (by decide) rfl (fun h16 => absurd h16 (by omega)) (fun h16 => ?_)
      refine r_aload_n (q := 20) dX2_numberOf_19 rfl rfl rfl ?_
      refine r_getr (q := 23) (some (1007, b)) ck9 dX2_numberOf_20 rfl (k := 7) (by decide) wt331 rfl (hs.e (show b < 4 by omega)) (hs.r (show b < 4 by omega) (by decide)) ?_
      refine r_iload_n (q := 24) dX2_numberOf_23 rfl rfl rfl ?_
      refine r_ialdN (q := 25) 200 (by decide) rfl dX2_numberOf_24 rfl (hs.e (show b < 4 by omega)) (hs.n rfl (show b < 4 by omega)) (by omega) (by decide) ?_
      refine r_topi (y := nI (ky ((lw W l).2.getD i zd).1)) hk1 ?_
      refine r_iload_n (q := 26) dX2_numberOf_25 rfl rfl rfl ?_
      refine r_icmp_neN (q := 29) (t := 36) (by omega) (by omega) dX2_numberOf_26 (by decide) rfl (fun h26 => absurd h26 (by omega)) (fun h26 => ?_)
      refine r_aload_n (q := 30) dX2_numberOf_29 rfl rfl rfl ?_
      refine r_getr (q := 33) (some (1008, b)) ck9 dX2_numberOf_30 rfl (k := 8) (by decide) wt336 rfl (hs.e (show b < 4 by omega)) (hs.r (show b < 4 by omega) (by decide)) ?_
      refine r_iload_n (q := 34) dX2_numberOf_33 rfl rfl rfl ?_
      refine r_ialdN (q := 35) 200 (by decide) rfl dX2_numberOf_34 rfl (hs.e (show b < 4 by omega)) (hs.n rfl (show b < 4 by omega)) (by omega) (by decide) ?_
      refine r_topi (y := nI (((lw W l).2.getD i zd).2)) hk2 ?_
      refine r_ireturn dX2_numberOf_35 rfl ?_
      exact ⟨by rw [nmT_drop hil, if_pos e0], rfl⟩
    · have ek : ky ((lw W l).2.getD i zd).1 ≠ ky t := fun z => e0 (ky_inj hW.2.1 htr ht (by omega) z)
      refine r_iload_n (q := 8) dX2_numberOf_7 rfl rfl rfl ?_
      refine r_aload_n (q := 9) dX2_numberOf_8 rfl rfl rfl ?_
      refine r_getr (q := 12) (some (1006, b)) ck9 dX2_numberOf_9 rfl (k := 6) (by decide) wt325 rfl (hs.e (show b < 4 by omega)) (hs.r (show b < 4 by omega) (by decide)) ?_
      refine r_iload_n (q := 13) dX2_numberOf_12 rfl rfl rfl ?_
      refine r_iconst (q := 14) (nI 1) dX2_numberOf_13 rfl (by decide) ?_
      refine r_iaddN (q := 15) dX2_numberOf_14 rfl ?_
      refine r_ialdN (q := 16) 19 (by decide) rfl dX2_numberOf_15 rfl (hs.e (show b < 4 by omega)) (hs.n rfl (show b < 4 by omega)) (by omega) (by decide) ?_
      refine r_topi (y := nI (lf W l + (lw W l).2.length)) hto ?_
      refine r_icmp_geN (q := 19) (t := 42) (by omega) (by omega) dX2_numberOf_16 (by decide) rfl (fun h16 => absurd h16 (by omega)) (fun h16 => ?_)
      refine r_aload_n (q := 20) dX2_numberOf_19 rfl rfl rfl ?_
      refine r_getr (q := 23) (some (1007, b)) ck9 dX2_numberOf_20 rfl (k := 7) (by decide) wt331 rfl (hs.e (show b < 4 by omega)) (hs.r (show b < 4 by omega) (by decide)) ?_
      refine r_iload_n (q := 24) dX2_numberOf_23 rfl rfl rfl ?_
      refine r_ialdN (q := 25) 200 (by decide) rfl dX2_numberOf_24 rfl (hs.e (show b < 4 by omega)) (hs.n rfl (show b < 4 by omega)) (by omega) (by decide) ?_
      refine r_topi (y := nI (ky ((lw W l).2.getD i zd).1)) hk1 ?_
      refine r_iload_n (q := 26) dX2_numberOf_25 rfl rfl rfl ?_
      refine r_icmp_neN (q := 29) (t := 36) (by omega) (by omega) dX2_numberOf_26 (by decide) rfl (fun h26 => ?_) (fun h26 => absurd h26 (by omega))
      refine r_iincN (q := 39) (L' := [some (zr 9 b), some (zi (nI l)), some (zi (nI (ky t))), some (zi (nI (lf W l + i + 1)))]) 1 rfl dX2_numberOf_36 rfl rfl (by decide) rfl ?_
      refine r_goto (q := 7) dX2_numberOf_39 (by decide) ?_
      exact Ok.mono (ih (i + 1) (by omega)) (fun z S1 q => ⟨by rw [nmT_drop hil, if_neg e0]; exact q.1, q.2⟩)

set_option maxRecDepth 100000 in
theorem ok_numberOf {S : zS} (hs : Sd S) {W : zWd} (hW : Wok W) {b : Nat} (hb4 : b < 4) {l : Nat} (hl : l < wL W) (hc : WC S b W) (h3 : (lw W l).1 = 3) {t : List Nat} (ht : Tr (wA W) (we W) 3 t) : Ok mX2_numberOf 0 (ent 4 [zr 9 b, zi (nI l), zi (nI (ky t))]) [] S (fun z S1 => z = some (zi (nI (nmT (lw W l).2 t))) ∧ S1 = S) := by
  have hL18 := hW.2.2.2.1
  show Ok mX2_numberOf 0 [some (zr 9 b), some (zi (nI l)), some (zi (nI (ky t))), none] [] S _
  refine r_aload_n (q := 1) dX2_numberOf_0 rfl rfl rfl ?_
  refine r_getr (q := 4) (some (1006, b)) ck9 dX2_numberOf_1 rfl (k := 6) (by decide) wt325 rfl (hs.e (show b < 4 by omega)) (hs.r (show b < 4 by omega) (by decide)) ?_
  refine r_iload_n (q := 5) dX2_numberOf_4 rfl rfl rfl ?_
  refine r_ialdN (q := 6) 19 (by decide) rfl dX2_numberOf_5 rfl (hs.e (show b < 4 by omega)) (hs.n rfl (show b < 4 by omega)) (by omega) (by decide) ?_
  refine r_topi (y := nI (lf W l)) (hc.2.2.2.2.2.1 l (by omega)) ?_
  refine r_istore_n (q := 7) (L' := [some (zr 9 b), some (zi (nI l)), some (zi (nI (ky t))), some (zi (nI (lf W l)))]) dX2_numberOf_6 rfl rfl (by decide) rfl ?_
  exact lp_no7 hs hW hb4 hl hc h3 ht (lw W l).2.length 0 (by omega)

def tFw (l a b _k : Nat) : Bool := a == 10300 && b == l || a == 302 && b == 0
theorem eqn_lt {W : zWd} (hW : Wok W) {l c : Nat} : eqn W l c < wP W := Nat.mod_lt _ (by have := hW.1.1; omega)

set_option maxRecDepth 100000 in
theorem lp_fr3 {W : zWd} (hW : Wok W) {b : Nat} (hb4 : b < 4) {l : Nat} (hl : l < wL W) (h3 : (lw W l).1 = 3) (hn18 : (tl W 3).length ≤ 18) {f0 : Nat} : ∀ (d i : Nat) (S : zS) (w6 w7 : Option zV), i + d = (tl W 3).length → Sd S → WC S b W → Lx S b 3 f0 (tl W 3) → (∀ c, c < i → gI S 10300 l c = nI (eqn W l c)) → Ok mX2_fillRow 3 [some (zr 2 0), some (zr 9 b), some (zi (nI l)), some (zr 0 b), some (zi (nI (tl W 3).length)), some (zi (nI i)), w6, w7] [] S (fun z S1 => z = none ∧ Fr (tFw l) S S1 ∧ ∀ c, c < (tl W 3).length → gI S1 10300 l c = nI (eqn W l c)) := by
  have hL18 := hW.2.2.2.1
  have hP := hW.1
  have hce := (hW.2.2.2.2.2 l hl).2.2
  intro d
  induction d with
  | zero =>
    intro i S w6 w7 hi hs hc hL hlo
    obtain rfl : i = (tl W 3).length := by omega
    refine r_mask [true, true, true, true, true, true, false, false] rfl ?_
    refine r_iload (q := 5) dX2_fillRow_3 rfl rfl ?_
    refine r_iload (q := 7) dX2_fillRow_5 rfl rfl ?_
    refine r_icmp_geN (q := 10) (t := 79) (by omega) (by omega) dX2_fillRow_7 (by decide) rfl (fun h7 => ?_) (fun h7 => absurd h7 (by omega))
    refine r_return dX2_fillRow_79 rfl ?_
    exact ⟨rfl, Fr.rf, hlo⟩
  | succ d ih =>
    intro i S w6 w7 hi hs hc hL hlo
    have hin : i < (tl W 3).length := by omega
    have ht := tl_tr hW.2.1 hin
    have hln : 2 ≤ ((tl W 3).getD i []).length := by have := lvs_le ((tl W 3).getD i []); have := ht.2; omega
    have h13 : ((tl W 3).getD i []).length ≤ 13 := by have := (ht.len hW.2.1).1; omega
    have hA3 := hW.2.1.1
    have htok : ((tl W 3).getD i []).getD 1 0 ≤ 3 := Nat.le_trans (ht.1.tok _ (getD_mem1 (by omega))) hA3
    obtain ⟨S0, hS0⟩ : ∃ S0, S0 = stR S 302 0 (((tl W 3).getD i []).map nd) := ⟨_, rfl⟩
    have f1 : Fr (tFw l) S S0 := by rw [hS0]; exact (Fr.rf).stR (fun k => by simp [tFw])
    have hs0 : Sd S0 := hs.fr f1
    have hc0 : WC S0 b W := hc.fr f1 (fun a k ha => by simp [tFw]; omega)
    have hL0 : Lx S0 b 3 f0 (tl W 3) := hL.fr f1 (fun k => ⟨by simp [tFw], by simp [tFw]⟩)
    have hnd : gI S0 302 0 1 = nI (nd (((tl W 3).getD i []).getD 1 0)) := by
      rw [hS0, gI_stR_k (by rw [List.length_map]; omega), nd_map (by omega)]
    have hnl : nmT (lw W l).2 ((tl W 3).getD i []) < wP W := nmT_lt (by omega) (fun p hp => (hce.1.2 p hp).2)
    refine r_mask [true, true, true, true, true, true, false, false] rfl ?_
    by_cases k0 : ((tl W 3).getD i []).getD 1 0 = 0
    · have hn3 : nd (((tl W 3).getD i []).getD 1 0) = 3 := by rw [k0]; rfl
      have hev : eqn W l i = (wP W - nmT (lw W l).2 ((tl W 3).getD i [])) % wP W := by unfold eqn; rw [if_pos k0]
      refine r_iload (q := 5) dX2_fillRow_3 rfl rfl ?_
      refine r_iload (q := 7) dX2_fillRow_5 rfl rfl ?_
      refine r_icmp_geN (q := 10) (t := 79) (by omega) (by omega) dX2_fillRow_7 (by decide) rfl (fun h7 => absurd h7 (by omega)) (fun h7 => ?_)
      refine r_aload_n (q := 11) dX2_fillRow_10 rfl rfl rfl ?_
      refine r_iconst (q := 12) (nI 3) dX2_fillRow_11 rfl (by decide) ?_
      refine r_iload (q := 14) dX2_fillRow_12 rfl rfl ?_
      refine r_callV (Mc := mX0_keyOf) (q := 17) (As := [zi (nI 3), zi (nI i)]) (st := []) ck0 dX2_fillRow_14 rfl rfl mkX0_keyOf wt995 wt793 wt794 rfl (Nat.le_of_ble_eq_true rfl) (Nat.le_of_ble_eq_true rfl) (by decide) (by decide) (by decide) (Or.inl rfl) (hs.e (show b < 4 by omega)) (ok_keyOf hs hb4 (by omega) hL hin) (fun r14 S14 hp14 => ?_)
      obtain ⟨rfl, hq14⟩ := hp14
      rw [hq14]
      show Ok _ _ _ [zi (nI (ky ((tl W 3).getD i [])))] _ _
      refine r_istore (q := 19) (L' := [some (zr 2 0), some (zr 9 b), some (zi (nI l)), some (zr 0 b), some (zi (nI ((tl W 3).length))), some (zi (nI i)), some (zi (nI (ky ((tl W 3).getD i [])))), none]) dX2_fillRow_17 rfl (by decide) rfl ?_
      refine r_iload (q := 21) dX2_fillRow_19 rfl rfl ?_
      refine r_iconst (q := 22) (nI 3) dX2_fillRow_21 rfl (by decide) ?_
      refine r_aload_n (q := 23) dX2_fillRow_22 rfl rfl rfl ?_
      refine r_getr (q := 26) (some (302, 0)) ck2 dX2_fillRow_23 rfl (k := 2) (by decide) wt273 rfl (hs.e (by decide)) (hs.r (by decide) (by decide)) ?_
      refine r_callS (Mc := mX6_open) (q := 29) (As := [zi (nI (ky ((tl W 3).getD i []))), zi (nI 3), zr 302 0]) (st := []) dX2_fillRow_26 rfl rfl mkX6_open wt996 wt746 rfl (Nat.le_of_ble_eq_true rfl) (Nat.le_of_ble_eq_true rfl) (by decide) (by decide) (by decide) (Or.inl rfl) hs.some (ok_open_302 hs hW.2.1 ht (by omega)) (fun r26 S26 hp26 => ?_)
      obtain ⟨rfl, hq26⟩ := hp26
      rw [hq26, ← hS0]
      show Ok _ _ _ [zi (nI (((tl W 3).getD i []).length))] _ _
      refine r_pop (q := 30) dX2_fillRow_29 rfl rfl ?_
      refine r_aload_n (q := 31) dX2_fillRow_30 rfl rfl rfl ?_
      refine r_getr (q := 34) (some (302, 0)) ck2 dX2_fillRow_31 rfl (k := 2) (by decide) wt273 rfl (hs0.e (by decide)) (hs0.r (by decide) (by decide)) ?_
      refine r_iconst (q := 35) (nI 1) dX2_fillRow_34 rfl (by decide) ?_
      refine r_ialdN (q := 36) 13 (by decide) rfl dX2_fillRow_35 rfl (hs0.e (by decide)) (hs0.n rfl (by decide)) (by omega) (by decide) ?_
      refine r_topi (y := nI (nd (((tl W 3).getD i []).getD 1 0))) hnd ?_
      refine r_iconst (q := 37) (nI 3) dX2_fillRow_36 rfl (by decide) ?_
      refine r_icmp_neN (q := 40) (t := 44) (by omega) (by omega) dX2_fillRow_37 (by decide) rfl (fun h37 => absurd h37 (by omega)) (fun h37 => ?_)
      refine r_iconst (q := 41) ((-1 : Int32)) dX2_fillRow_40 rfl (by decide) ?_
      refine r_goto (q := 45) dX2_fillRow_41 (by decide) ?_
      refine r_istore (q := 47) (L' := [some (zr 2 0), some (zr 9 b), some (zi (nI l)), some (zr 0 b), some (zi (nI ((tl W 3).length))), some (zi (nI i)), some (zi (nI (ky ((tl W 3).getD i [])))), some (zi (-1 : Int32))]) dX2_fillRow_45 rfl (by decide) rfl ?_
      refine r_aload_n (q := 48) dX2_fillRow_47 rfl rfl rfl ?_
      refine r_getr (q := 51) (some (300, 0)) ck2 dX2_fillRow_48 rfl (k := 0) (by decide) wt271 rfl (hs0.e (by decide)) (hs0.r (by decide) (by decide)) ?_
      refine r_iload_n (q := 52) dX2_fillRow_51 rfl rfl rfl ?_
      refine r_aaldN (q := 53) (some (10300, l)) 18 (by decide) (by decide) (by decide) dX2_fillRow_52 rfl (hs0.e (by decide)) (hs0.n rfl (by decide)) (show l < 18 by omega) (by decide) ((hs0.r (by decide) (show l < 18 by omega)).trans (if_pos (show l < 18 by omega))) ?_
      refine r_iload (q := 55) dX2_fillRow_53 rfl rfl ?_
      refine r_iload (q := 57) dX2_fillRow_55 rfl rfl ?_
      refine r_aload_n (q := 58) dX2_fillRow_57 rfl rfl rfl ?_
      refine r_iload_n (q := 59) dX2_fillRow_58 rfl rfl rfl ?_
      refine r_iload (q := 61) dX2_fillRow_59 rfl rfl ?_
      refine r_callS (Mc := mX2_numberOf) (q := 64) (As := [zr 9 b, zi (nI l), zi (nI (ky ((tl W 3).getD i [])))]) (st := [zi (-1 : Int32), zi (nI i), zr 10300 l]) dX2_fillRow_61 rfl rfl mkX2_numberOf wt997 wt998 rfl (Nat.le_of_ble_eq_true rfl) (Nat.le_of_ble_eq_true rfl) (by decide) (by decide) (by decide) (Or.inl rfl) hs0.some (ok_numberOf hs0 hW hb4 hl hc0 h3 ht) (fun r61 S61 hp61 => ?_)
      obtain ⟨rfl, hq61⟩ := hp61
      rw [hq61]
      show Ok _ _ _ [zi (nI (nmT (lw W l).2 ((tl W 3).getD i []))), zi (-1 : Int32), zi (nI i), zr 10300 l] _ _
      refine r_imul (q := 65) dX2_fillRow_64 rfl ?_
      refine r_aload_n (q := 66) dX2_fillRow_65 rfl rfl rfl ?_
      refine r_geti (q := 69) ck9 dX2_fillRow_66 rfl (k := 0) (by decide) wt290 (Or.inl rfl) (hs0.e (show b < 4 by omega)) ?_
      refine r_topi (y := nI (wP W)) hc0.1 ?_
      refine r_callSN (Mc := mX11_rest) (q := 72) (As := [zi ((-1 : Int32) * (nI (nmT (lw W l).2 ((tl W 3).getD i [])))), zi (nI (wP W))]) (st := [zi (nI i), zr 10300 l]) dX2_fillRow_69 rfl rfl mkX11_rest wn1000 wt614 rfl (Nat.le_of_ble_eq_true rfl) (Nat.le_of_ble_eq_true rfl) (by decide) (by decide) (by decide) (Or.inl rfl) hs0.some (ok_X11_rest_i hP.1 hP.2.1) (fun r69 S69 hp69 => ?_)
      obtain ⟨rfl, hq69⟩ := hp69
      rw [hq69]
      rw [rs_neg (by omega) hnl hP.2.1, ← hev]
      show Ok _ _ _ [zi (nI (eqn W l i)), zi (nI i), zr 10300 l] _ _
      refine r_iastN (q := 73) 18 (by decide) rfl dX2_fillRow_72 rfl (hs0.e (show l < 18 by omega)) (hs0.n rfl (show l < 18 by omega)) (by omega) (by decide) ?_
      refine r_iincN (q := 76) (L' := [some (zr 2 0), some (zr 9 b), some (zi (nI l)), some (zr 0 b), some (zi (nI ((tl W 3).length))), some (zi (nI (i + 1))), some (zi (nI (ky ((tl W 3).getD i [])))), some (zi (-1 : Int32))]) 1 rfl dX2_fillRow_73 rfl rfl (by decide) rfl ?_
      refine r_goto (q := 3) dX2_fillRow_76 (by decide) ?_
      have f2 : Fr (tFw l) S0 (sI S0 10300 l i (nI (eqn W l i))) := Fr.rf.i (by simp [tFw])
      refine Ok.mono (ih (i + 1) (sI S0 10300 l i (nI (eqn W l i))) _ _ (by omega) hs0 (hc0.fr f2 (fun a k ha => by simp [tFw]; omega)) (hL0.fr f2 (fun k => ⟨by simp [tFw], by simp [tFw]⟩)) (fun c hc' => ?_)) (fun z S9 q => ⟨q.1, (f1.tr f2).tr q.2.1, q.2.2⟩)
      rw [gI_sI]
      by_cases e1 : c = i
      · rw [if_pos ⟨rfl, rfl, e1⟩, e1]
      · rw [if_neg (fun z => e1 z.2.2), hS0, gI_stR_x (by omega)]; exact hlo c (by omega)
    · have hn3 : nd (((tl W 3).getD i []).getD 1 0) ≠ 3 := by unfold nd; rw [if_neg k0]; omega
      have hn9 : nd (((tl W 3).getD i []).getD 1 0) < 3 := by unfold nd; rw [if_neg k0]; omega
      have hev : eqn W l i = nmT (lw W l).2 ((tl W 3).getD i []) % wP W := by unfold eqn; rw [if_neg k0]
      refine r_iload (q := 5) dX2_fillRow_3 rfl rfl ?_
      refine r_iload (q := 7) dX2_fillRow_5 rfl rfl ?_
      refine r_icmp_geN (q := 10) (t := 79) (by omega) (by omega) dX2_fillRow_7 (by decide) rfl (fun h7 => absurd h7 (by omega)) (fun h7 => ?_)
      refine r_aload_n (q := 11) dX2_fillRow_10 rfl rfl rfl ?_
      refine r_iconst (q := 12) (nI 3) dX2_fillRow_11 rfl (by decide) ?_
      refine r_iload (q := 14) dX2_fillRow_12 rfl rfl ?_
      refine r_callV (Mc := mX0_keyOf) (q := 17) (As := [zi (nI 3), zi (nI i)]) (st := []) ck0 dX2_fillRow_14 rfl rfl mkX0_keyOf wt995 wt793 wt794 rfl (Nat.le_of_ble_eq_true rfl) (Nat.le_of_ble_eq_true rfl) (by decide) (by decide) (by decide) (Or.inl rfl) (hs.e (show b < 4 by omega)) (ok_keyOf hs hb4 (by omega) hL hin) (fun r14 S14 hp14 => ?_)
      obtain ⟨rfl, hq14⟩ := hp14
      rw [hq14]
      show Ok _ _ _ [zi (nI (ky ((tl W 3).getD i [])))] _ _
      refine r_istore (q := 19) (L' := [some (zr 2 0), some (zr 9 b), some (zi (nI l)), some (zr 0 b), some (zi (nI ((tl W 3).length))), some (zi (nI i)), some (zi (nI (ky ((tl W 3).getD i [])))), none]) dX2_fillRow_17 rfl (by decide) rfl ?_
      refine r_iload (q := 21) dX2_fillRow_19 rfl rfl ?_
      refine r_iconst (q := 22) (nI 3) dX2_fillRow_21 rfl (by decide) ?_
      refine r_aload_n (q := 23) dX2_fillRow_22 rfl rfl rfl ?_
      refine r_getr (q := 26) (some (302, 0)) ck2 dX2_fillRow_23 rfl (k := 2) (by decide) wt273 rfl (hs.e (by decide)) (hs.r (by decide) (by decide)) ?_
      refine r_callS (Mc := mX6_open) (q := 29) (As := [zi (nI (ky ((tl W 3).getD i []))), zi (nI 3), zr 302 0]) (st := []) dX2_fillRow_26 rfl rfl mkX6_open wt996 wt746 rfl (Nat.le_of_ble_eq_true rfl) (Nat.le_of_ble_eq_true rfl) (by decide) (by decide) (by decide) (Or.inl rfl) hs.some (ok_open_302 hs hW.2.1 ht (by omega)) (fun r26 S26 hp26 => ?_)
      obtain ⟨rfl, hq26⟩ := hp26
      rw [hq26, ← hS0]
      show Ok _ _ _ [zi (nI (((tl W 3).getD i []).length))] _ _
      refine r_pop (q := 30) dX2_fillRow_29 rfl rfl ?_
      refine r_aload_n (q := 31) dX2_fillRow_30 rfl rfl rfl ?_
      refine r_getr (q := 34) (some (302, 0)) ck2 dX2_fillRow_31 rfl (k := 2) (by decide) wt273 rfl (hs0.e (by decide)) (hs0.r (by decide) (by decide)) ?_
      refine r_iconst (q := 35) (nI 1) dX2_fillRow_34 rfl (by decide) ?_
      refine r_ialdN (q := 36) 13 (by decide) rfl dX2_fillRow_35 rfl (hs0.e (by decide)) (hs0.n rfl (by decide)) (by omega) (by decide) ?_
      refine r_topi (y := nI (nd (((tl W 3).getD i []).getD 1 0))) hnd ?_
      refine r_iconst (q := 37) (nI 3) dX2_fillRow_36 rfl (by decide) ?_
      refine r_icmp_neN (q := 40) (t := 44) (by omega) (by omega) dX2_fillRow_37 (by decide) rfl (fun h37 => ?_) (fun h37 => absurd h37 (by omega))
      refine r_iconst (q := 45) (nI 1) dX2_fillRow_44 rfl (by decide) ?_
      refine r_istore (q := 47) (L' := [some (zr 2 0), some (zr 9 b), some (zi (nI l)), some (zr 0 b), some (zi (nI ((tl W 3).length))), some (zi (nI i)), some (zi (nI (ky ((tl W 3).getD i [])))), some (zi (nI 1))]) dX2_fillRow_45 rfl (by decide) rfl ?_
      refine r_aload_n (q := 48) dX2_fillRow_47 rfl rfl rfl ?_
      refine r_getr (q := 51) (some (300, 0)) ck2 dX2_fillRow_48 rfl (k := 0) (by decide) wt271 rfl (hs0.e (by decide)) (hs0.r (by decide) (by decide)) ?_
      refine r_iload_n (q := 52) dX2_fillRow_51 rfl rfl rfl ?_
      refine r_aaldN (q := 53) (some (10300, l)) 18 (by decide) (by decide) (by decide) dX2_fillRow_52 rfl (hs0.e (by decide)) (hs0.n rfl (by decide)) (show l < 18 by omega) (by decide) ((hs0.r (by decide) (show l < 18 by omega)).trans (if_pos (show l < 18 by omega))) ?_
      refine r_iload (q := 55) dX2_fillRow_53 rfl rfl ?_
      refine r_iload (q := 57) dX2_fillRow_55 rfl rfl ?_
      refine r_aload_n (q := 58) dX2_fillRow_57 rfl rfl rfl ?_
      refine r_iload_n (q := 59) dX2_fillRow_58 rfl rfl rfl ?_
      refine r_iload (q := 61) dX2_fillRow_59 rfl rfl ?_
      refine r_callS (Mc := mX2_numberOf) (q := 64) (As := [zr 9 b, zi (nI l), zi (nI (ky ((tl W 3).getD i [])))]) (st := [zi (nI 1), zi (nI i), zr 10300 l]) dX2_fillRow_61 rfl rfl mkX2_numberOf wt997 wt998 rfl (Nat.le_of_ble_eq_true rfl) (Nat.le_of_ble_eq_true rfl) (by decide) (by decide) (by decide) (Or.inl rfl) hs0.some (ok_numberOf hs0 hW hb4 hl hc0 h3 ht) (fun r61 S61 hp61 => ?_)
      obtain ⟨rfl, hq61⟩ := hp61
      rw [hq61]
      show Ok _ _ _ [zi (nI (nmT (lw W l).2 ((tl W 3).getD i []))), zi (nI 1), zi (nI i), zr 10300 l] _ _
      refine r_imulN (q := 65) dX2_fillRow_64 rfl ?_
      refine r_aload_n (q := 66) dX2_fillRow_65 rfl rfl rfl ?_
      refine r_geti (q := 69) ck9 dX2_fillRow_66 rfl (k := 0) (by decide) wt290 (Or.inl rfl) (hs0.e (show b < 4 by omega)) ?_
      refine r_topi (y := nI (wP W)) hc0.1 ?_
      refine r_callSN (Mc := mX11_rest) (q := 72) (As := [zi (nI (1 * (nmT (lw W l).2 ((tl W 3).getD i [])))), zi (nI (wP W))]) (st := [zi (nI i), zr 10300 l]) dX2_fillRow_69 rfl rfl mkX11_rest wn1000 wt614 rfl (Nat.le_of_ble_eq_true rfl) (Nat.le_of_ble_eq_true rfl) (by decide) (by decide) (by decide) (Or.inl rfl) hs0.some (ok_X11_rest (by omega) hP.1 (by omega)) (fun r69 S69 hp69 => ?_)
      obtain ⟨rfl, hq69⟩ := hp69
      rw [hq69]
      rw [Nat.one_mul, ← hev]
      show Ok _ _ _ [zi (nI (eqn W l i)), zi (nI i), zr 10300 l] _ _
      refine r_iastN (q := 73) 18 (by decide) rfl dX2_fillRow_72 rfl (hs0.e (show l < 18 by omega)) (hs0.n rfl (show l < 18 by omega)) (by omega) (by decide) ?_
      refine r_iincN (q := 76) (L' := [some (zr 2 0), some (zr 9 b), some (zi (nI l)), some (zr 0 b), some (zi (nI ((tl W 3).length))), some (zi (nI (i + 1))), some (zi (nI (ky ((tl W 3).getD i [])))), some (zi (nI 1))]) 1 rfl dX2_fillRow_73 rfl rfl (by decide) rfl ?_
      refine r_goto (q := 3) dX2_fillRow_76 (by decide) ?_
      have f2 : Fr (tFw l) S0 (sI S0 10300 l i (nI (eqn W l i))) := Fr.rf.i (by simp [tFw])
      refine Ok.mono (ih (i + 1) (sI S0 10300 l i (nI (eqn W l i))) _ _ (by omega) hs0 (hc0.fr f2 (fun a k ha => by simp [tFw]; omega)) (hL0.fr f2 (fun k => ⟨by simp [tFw], by simp [tFw]⟩)) (fun c hc' => ?_)) (fun z S9 q => ⟨q.1, (f1.tr f2).tr q.2.1, q.2.2⟩)
      rw [gI_sI]
      by_cases e1 : c = i
      · rw [if_pos ⟨rfl, rfl, e1⟩, e1]
      · rw [if_neg (fun z => e1 z.2.2), hS0, gI_stR_x (by omega)]; exact hlo c (by omega)

set_option maxRecDepth 100000 in
theorem ok_fillRow {S : zS} (hs : Sd S) {W : zWd} (hW : Wok W) {b : Nat} (hb4 : b < 4) {l : Nat} (hl : l < wL W) (h3 : (lw W l).1 = 3) (hn18 : (tl W 3).length ≤ 18) {f0 : Nat} (hc : WC S b W) (hL : Lx S b 3 f0 (tl W 3)) : Ok mX2_fillRow 0 (ent 8 [zr 2 0, zr 9 b, zi (nI l), zr 0 b, zi (nI ((tl W 3).length))]) [] S (fun z S1 => z = none ∧ Fr (tFw l) S S1 ∧ ∀ c, c < (tl W 3).length → gI S1 10300 l c = nI (eqn W l c)) := by
  show Ok mX2_fillRow 0 [some (zr 2 0), some (zr 9 b), some (zi (nI l)), some (zr 0 b), some (zi (nI ((tl W 3).length))), none, none, none] [] S _
  refine r_iconst (q := 1) (nI 0) dX2_fillRow_0 rfl (by decide) ?_
  refine r_istore (q := 3) (L' := [some (zr 2 0), some (zr 9 b), some (zi (nI l)), some (zr 0 b), some (zi (nI ((tl W 3).length))), some (zi (nI 0)), none, none]) dX2_fillRow_1 rfl (by decide) rfl ?_
  exact lp_fr3 hW hb4 hl h3 hn18 (tl W 3).length 0 S _ _ (by omega) hs hc hL (fun c hc => absurd hc (Nat.not_lt_zero c))

def tFg2 (a b _k : Nat) : Bool := a == 10300 || a == 302 && b == 0

set_option maxRecDepth 100000 in
theorem lp_fg8 {W : zWd} (hW : Wok W) {b : Nat} (hb4 : b < 4) (h3 : ∀ l, l < wL W → (lw W l).1 = 3) (hn18 : (tl W 3).length ≤ 18) {f0 : Nat} : ∀ (d l : Nat) (S : zS), l + d = wL W → Sd S → WC S b W → Lx S b 3 f0 (tl W 3) → (∀ r c, r < l → c < (tl W 3).length → gI S 10300 r c = nI (eqn W r c)) → Ok mX2_fillGrid 8 [some (zr 2 0), some (zr 0 b), some (zi (nI ((tl W 3).length))), some (zr 9 b), some (zi (nI l))] [] S (fun z S1 => z = none ∧ Fr tFg2 S S1 ∧ ∀ r c, r < wL W → c < (tl W 3).length → gI S1 10300 r c = nI (eqn W r c)) := by
  have hL18 := hW.2.2.2.1
  intro d
  induction d with
  | zero =>
    intro l S hl hs hc hL hlo
    have hwl := hc.2.2.1
    obtain rfl : l = wL W := by omega
    refine r_iload (q := 10) dX2_fillGrid_8 rfl rfl ?_
    refine r_aload_n (q := 11) dX2_fillGrid_10 rfl rfl rfl ?_
    refine r_geti (q := 14) ck9 dX2_fillGrid_11 rfl (k := 4) (by decide) wt313 (Or.inl rfl) (hs.e (show b < 4 by omega)) ?_
    refine r_topi (y := nI (wL W)) hwl ?_
    refine r_icmp_geN (q := 17) (t := 32) (by omega) (by omega) dX2_fillGrid_14 (by decide) rfl (fun h14 => ?_) (fun h14 => absurd h14 (by omega))
    refine r_return dX2_fillGrid_32 rfl ?_
    exact ⟨rfl, Fr.rf, hlo⟩
  | succ d ih =>
    intro l S hl hs hc hL hlo
    have hwl := hc.2.2.1
    have hll : l < wL W := by omega
    refine r_iload (q := 10) dX2_fillGrid_8 rfl rfl ?_
    refine r_aload_n (q := 11) dX2_fillGrid_10 rfl rfl rfl ?_
    refine r_geti (q := 14) ck9 dX2_fillGrid_11 rfl (k := 4) (by decide) wt313 (Or.inl rfl) (hs.e (show b < 4 by omega)) ?_
    refine r_topi (y := nI (wL W)) hwl ?_
    refine r_icmp_geN (q := 17) (t := 32) (by omega) (by omega) dX2_fillGrid_14 (by decide) rfl (fun h14 => absurd h14 (by omega)) (fun h14 => ?_)
    refine r_aload_n (q := 18) dX2_fillGrid_17 rfl rfl rfl ?_
    refine r_aload_n (q := 19) dX2_fillGrid_18 rfl rfl rfl ?_
    refine r_iload (q := 21) dX2_fillGrid_19 rfl rfl ?_
    refine r_aload_n (q := 22) dX2_fillGrid_21 rfl rfl rfl ?_
    refine r_iload_n (q := 23) dX2_fillGrid_22 rfl rfl rfl ?_
    refine r_callV (Mc := mX2_fillRow) (q := 26) (As := [zr 9 b, zi (nI l), zr 0 b, zi (nI ((tl W 3).length))]) (st := []) ck2 dX2_fillGrid_23 rfl rfl mkX2_fillRow wt991 wt993 wp50 rfl (Nat.le_of_ble_eq_true rfl) (Nat.le_of_ble_eq_true rfl) (by decide) (by decide) (by decide) (Or.inl rfl) (hs.e (by decide)) (ok_fillRow hs hW hb4 hll (h3 l hll) hn18 hc hL) (fun r23 S23 hp23 => ?_)
    obtain ⟨rfl, f1, hrow⟩ := hp23
    have hs1 : Sd S23 := hs.fr f1
    show Ok _ _ _ [] _ _
    refine r_iincN (q := 29) (L' := [some (zr 2 0), some (zr 0 b), some (zi (nI ((tl W 3).length))), some (zr 9 b), some (zi (nI (l + 1)))]) 1 rfl dX2_fillGrid_26 rfl rfl (by decide) rfl ?_
    refine r_goto (q := 8) dX2_fillGrid_29 (by decide) ?_
    refine Ok.mono (ih (l + 1) S23 (by omega) hs1 (hc.fr f1 (fun a k ha => by simp [tFw]; omega)) (hL.fr f1 (fun k => ⟨by simp [tFw], by simp [tFw]⟩)) (fun r c hr hc' => ?_)) (fun z S9 q => ⟨q.1, (f1.mono (fun a b k z => by simp [tFw] at z; simp [tFg2]; omega)).tr q.2.1, q.2.2⟩)
    by_cases e1 : r = l
    · rw [e1]; exact hrow c hc'
    · rw [f1.1 _ _ _ (by simp [tFw]; exact e1)]; exact hlo r c (by omega) hc'

set_option maxRecDepth 100000 in
theorem ok_fillGrid {S : zS} (hs : Sd S) {W : zWd} (hW : Wok W) {b : Nat} (hb4 : b < 4) (h3 : ∀ l, l < wL W → (lw W l).1 = 3) (hn18 : (tl W 3).length ≤ 18) {f0 : Nat} (hc : WC S b W) (hL : Lx S b 3 f0 (tl W 3)) : Ok mX2_fillGrid 0 (ent 5 [zr 2 0, zr 0 b, zi (nI ((tl W 3).length))]) [] S (fun z S1 => z = none ∧ Fr tFg2 S S1 ∧ ∀ r c, r < wL W → c < (tl W 3).length → gI S1 10300 r c = nI (eqn W r c)) := by
  show Ok mX2_fillGrid 0 [some (zr 2 0), some (zr 0 b), some (zi (nI ((tl W 3).length))), none, none] [] S _
  refine r_aload_n (q := 1) dX2_fillGrid_0 rfl rfl rfl ?_
  refine r_getr (q := 4) (some (9, b)) ck0 dX2_fillGrid_1 rfl (k := 0) (by decide) wt375 rfl (hs.e (show b < 4 by omega)) (hs.r (show b < 4 by omega) (by decide)) ?_
  refine r_astore_n (q := 5) (L' := [some (zr 2 0), some (zr 0 b), some (zi (nI ((tl W 3).length))), some (zr 9 b), none]) dX2_fillGrid_4 rfl rfl (by decide) rfl ?_
  refine r_iconst (q := 6) (nI 0) dX2_fillGrid_5 rfl (by decide) ?_
  refine r_istore (q := 8) (L' := [some (zr 2 0), some (zr 0 b), some (zi (nI ((tl W 3).length))), some (zr 9 b), some (zi (nI 0))]) dX2_fillGrid_6 rfl (by decide) rfl ?_
  exact lp_fg8 hW hb4 h3 hn18 (wL W) 0 S (by omega) hs hc hL (fun r c hr => absurd hr (Nat.not_lt_zero r))

