/-! both sides bring a sum to the same normal sum -/
theorem nat_mod {P a b : Nat} (ha : a < P) (hb : b < P) (h : (P : Int) ∣ (a : Int) - (b : Int)) : a = b := by
  obtain ⟨c, hc⟩ := h
  rcases Int.lt_trichotomy c 0 with q | q | q
  · have : (P : Int) * c ≤ (P : Int) * (-1) := Int.mul_le_mul_of_nonneg_left (by omega) (by omega)
    omega
  · rw [q] at hc; omega
  · have : (P : Int) * 1 ≤ (P : Int) * c := Int.mul_le_mul_of_nonneg_left (by omega) (by omega)
    omega
theorem LvC.ech {W : zWd} {mk : Nat → Nat → Nat} {rl : Nat → Nat → Nat → Nat} {n : Nat} : Ech (wP W) (tl W n).length (mkb (mk n)) (RC (rl n)) := fun t ht hm => ⟨by
  have : RC (rl n) t t = 1 := if_pos rfl
  rw [this]; exact dvd_rf, fun s h1 h2 => by
  have : RC (rl n) t s = 0 := (if_neg (by omega)).trans (if_neg (by omega))
  rw [this]; exact Int.dvd_zero _⟩
theorem LvC.red {W : zWd} {mk : Nat → Nat → Nat} {rl : Nat → Nat → Nat → Nat} {n : Nat} (h : LvC W mk rl n) : Red (wP W) (tl W n).length (mkb (mk n)) (RC (rl n)) := fun t s ht hs hm hms hne => by
  by_cases q : s < t
  · have e : RC (rl n) t s = -(rl n t s : Int) := (if_neg hne).trans (if_pos q)
    rw [e, (h.1 t ht (mkb_t.mp hm)).2.2 s q (mkb_t.mp hms)]
    exact Int.dvd_zero _
  · have e : RC (rl n) t s = 0 := (if_neg hne).trans (if_neg q)
    rw [e]; exact Int.dvd_zero _
/-- what is 0 by the laws and has no tree with a rule is 0 -/
theorem red_zero {W : zWd} {mk : Nat → Nat → Nat} {rl : Nat → Nat → Nat → Nat} {n : Nat} (hC : LvC W mk rl n) {u : zL} (hu : Sp (wP W) (RwC W mk rl n) u) (h0 : ∀ t, t < (tl W n).length → mk n t ≠ 0 → (wP W : Int) ∣ co u ((tl W n).getD t [])) : ∀ s, s < (tl W n).length → (wP W : Int) ∣ co u ((tl W n).getD s []) := fun s hs => by
  have := rep tl_nodup LvC.ech hC.red hu s hs
  refine dvd_of this (smz_dvd fun t ht => ?_)
  by_cases q : mkb (mk n) t = true
  · rw [if_pos q]; exact Int.dvd_mul_of_dvd_left (h0 t ht (mkb_t.mp q))
  · rw [if_neg q]; exact Int.dvd_zero _
theorem co_Vn' {T : List (List Nat)} (hT : T.Nodup) {v : Nat → Nat} {k : Nat} (hk : k < T.length) : co (Vn T v) (T.getD k []) = (v k : Int) := co_V hT hk
theorem red_eq {W : zWd} (hW : Wok W) {mk : Nat → Nat → Nat} {rl : Nat → Nat → Nat → Nat} {pv : Nat → Nat → Bool} {bs : Nat → Nat → Nat → Nat} {n : Nat} (hC : LvC W mk rl n) (hR : LvR W pv bs n) {u : zL} {v v1 v' v2 : Nat → Nat} (a1 : AccV (wP W) (tl W n) v u) (r1 : RedS (tl W n) (wP W) (mk n) (rl n) v v1) (b1 : ∀ i, i < (tl W n).length → v1 i < wP W) (a2 : AccV (wP W) (tl W n) v' u) (r2 : RedR (tl W n) (wP W) (pv n) (bs n) v' v2) (b2 : ∀ i, i < (tl W n).length → v2 i < wP W) : ∀ i, i < (tl W n).length → v1 i = v2 i := by
  have hl := lv_link hW hC hR
  have c1 : Cg (wP W) (RwC W mk rl n) (Vn (tl W n) v) (Vn (tl W n) v1) := ((r1.2 (tl W n).length (fun t x y => absurd y (by omega))).2).mono fun z hz => by
    obtain ⟨s, _, s2, s3, s4⟩ := hz
    exact ⟨s, s2, mkb_t.mpr s3, s4⟩
  have c2 : Cg (wP W) (RwC W mk rl n) (Vn (tl W n) v') (Vn (tl W n) v2) := ((r2.2 (tl W n).length (fun t x y => absurd y (by omega))).2).le fun z hz => by
    obtain ⟨s, _, s2, s3, s4⟩ := hz
    rw [s4]
    exact Sp.le (hR.1 s s2 s3).2.2.2.2 hC.2.1
  have c3 : Cg (wP W) (RwC W mk rl n) (Vn (tl W n) v) (Vn (tl W n) v') := Cg.of (li_VV tl_nodup fun k hk => dvd_tr (a1 k hk) (dvd_sy (a2 k hk)))
  have c4 : Sp (wP W) (RwC W mk rl n) (Vn (tl W n) v1 ++ scl (-1) (Vn (tl W n) v2)) := (c1.sy.tr c3).tr c2
  have hco : ∀ k, k < (tl W n).length → co (Vn (tl W n) v1 ++ scl (-1) (Vn (tl W n) v2)) ((tl W n).getD k []) = (v1 k : Int) - (v2 k : Int) := fun k hk => by
    rw [co_app, co_sc, co_Vn' tl_nodup hk, co_Vn' tl_nodup hk]; omega
  intro i hi
  refine nat_mod (b1 i hi) (b2 i hi) ?_
  rw [← hco i hi]
  refine red_zero hC c4 (fun t ht hm => ?_) i hi
  rw [hco t ht, r1.1 t ht hm, r2.1 t ht ((hl t ht).1.mpr hm)]
  exact dvd_rf
theorem dn_cong {T : List (List Nat)} {v v' : Nat → Nat} (h : ∀ i, i < T.length → v i = v' i) : ∀ {k : Nat}, k ≤ T.length → Dn T v k = Dn T v' k
  | 0, _ => rfl
  | k + 1, hk => by rw [Dn, Dn, dn_cong h (by omega), h _ (by omega)]
theorem sm_dn {W : zWd} (hW : Wok W) {n : Nat} (hn1 : 1 ≤ n) (hn7 : n ≤ 7) (h300 : (tl W n).length ≤ 300) {v : Nat → Nat} (hv : ∀ i, i < (tl W n).length → v i < wP W) : Sm W n (Dn (tl W n) v (tl W n).length) := ⟨hn1, hn7, dn_ce hW hn7 hv (Nat.le_refl _), lawU W ++ tl W n, uok_mk hW n _ (by omega), fun p hp => by
  obtain ⟨s, _, s2, s3, _⟩ := mem_Dn (Nat.le_refl _) hp
  rw [s3]
  exact List.mem_append.mpr (Or.inr (mem_gd s2))⟩
/-- a sum brought to normal trees by the reference's rows -/
def NfR (W : zWd) (n : Nat) (pv : Nat → Bool) (bs : Nat → Nat → Nat) (c c1 : List zT) : Prop := ∃ v v1, AccV (wP W) (tl W n) v (lz c) ∧ RedR (tl W n) (wP W) pv bs v v1 ∧ (∀ i, i < (tl W n).length → v1 i < wP W) ∧ c1 = Dn (tl W n) v1 (tl W n).length
theorem nf_eq {W : zWd} (hW : Wok W) {mk : Nat → Nat → Nat} {rl : Nat → Nat → Nat → Nat} {pv : Nat → Nat → Bool} {bs : Nat → Nat → Nat → Nat} {n : Nat} (hC : LvC W mk rl n) (hR : LvR W pv bs n) {c c1 c2 : List zT} (h1 : NfC W n (mk n) (rl n) c c1) (h2 : NfR W n (pv n) (bs n) c c2) : c1 = c2 := by
  obtain ⟨v, v1, a1, _, a3, a4, rfl⟩ := h1
  obtain ⟨v', v2, b1, b2, b3, rfl⟩ := h2
  exact dn_cong (red_eq hW hC hR a1 a3 a4 b1 b2 b3) (Nat.le_refl _)

set_option maxRecDepth 100000 in
theorem cm_reduce_y {S : zS} (hs : Sd S) {W : zWd} (hW : Wok W) {cc : Nat} (hcc : gI S 11 0 3 = nI cc) (hc4 : cc < 4) (hc : WC S cc W) (hT : Tcs S cc W) {n0 : Nat} {mk : Nat → Nat → Nat} {rl : Nat → Nat → Nat → Nat} (hB : CB S cc W n0 mk rl) {n : Nat} (hn1 : 1 ≤ n) (hn7 : n ≤ 7) {h q : Nat} (hP : Pst sq S W h q) (hA : SR sq S W 0 1306 1173) (hTL : TLs S) {c : List zT} (hS : Sm W n c) (l1 : gI S 8 0 0 = nI n) (hty : Ty S 0 c) (h3 : tc W n ≤ 300) : Ok mX11_reduce 0 (ent 2 [zr 11 0]) [] S (fun r S3 => ∃ n1 mk1 rl1, LvC W mk1 rl1 n ∧ ∃ c1, NfC W n (mk1 n) (rl1 n) c c1 ∧ r = some (zi (nI c1.length)) ∧ ∃ S2, Fg (tCm cc) S S2 ∧ CB S2 cc W n1 mk1 rl1 ∧ Fg tKp S2 S3 ∧ KsR S3 W h q n c1) := by
  show Ok mX11_reduce 0 [some (zr 11 0), none] [] S _
  refine r_aload_n (q := 1) dX11_reduce_0 rfl rfl rfl ?_
  refine r_callV (Mc := mX11_basisHere) (q := 4) (As := []) (st := []) ck11 dX11_reduce_1 rfl rfl mkX11_basisHere wt766 wt768 wp27 rfl (Nat.le_of_ble_eq_true rfl) (Nat.le_of_ble_eq_true rfl) (by decide) (by decide) (by decide) (Or.inl rfl) (hs.e (by decide)) (ok_basisHere hs hcc hc4) (fun r1 S1 hp1 => ?_)
  obtain ⟨rfl, hq1⟩ := hp1
  rw [hq1]
  show Ok _ _ _ [zr 0 cc] _ _
  refine r_astore_n (q := 5) (L' := [some (zr 11 0), some (zr 0 cc)]) dX11_reduce_4 rfl rfl (by decide) rfl ?_
  refine r_aload_n (q := 6) dX11_reduce_5 rfl rfl rfl ?_
  refine r_aload_n (q := 7) dX11_reduce_6 rfl rfl rfl ?_
  refine r_getr (q := 10) (some (8, 0)) ck11 dX11_reduce_7 rfl (k := 7) (by decide) wt429 rfl (hs.e (by decide)) (hs.r (by decide) (by decide)) ?_
  refine r_geti (q := 13) ck8 dX11_reduce_10 rfl (k := 0) (by decide) wt60 (Or.inl rfl) (hs.e (by decide)) ?_
  refine r_topi (y := nI n) l1 ?_
  refine r_callV (Mc := mX0_reach) (q := 16) (As := [zi (nI n)]) (st := []) ck0 dX11_reduce_13 rfl rfl mkX0_reach wt770 wt771 wt772 rfl (Nat.le_of_ble_eq_true rfl) (Nat.le_of_ble_eq_true rfl) (by decide) (by decide) (by decide) (Or.inr ⟨Nat.le_of_ble_eq_true rfl, rfl, rfl⟩) (hs.e (show cc < 4 by omega)) (ok_reach_y hs hW hc4 hn1 hn7 hc hT hB h3) (fun r13 S13 hp13 => ?_)
  obtain ⟨rfl, f1, hc1, n1, mk1, rl1, hB1, hn⟩ := hp13
  have hs1 := f1.sd
  have hTL1 : TLs S13 := hTL.fg f1 (fun j hj => Or.inl (fun k => by unfold tRe; omega))
  have hty1 : Ty S13 0 c := hty.fg f1 (fun k => by unfold tRe; omega)
  have l11 : gI S13 8 0 0 = nI n := (f1.I (by omega) (by unfold tRe; omega)).trans l1
  obtain ⟨M, e9, q1, q2, q3, q4, q5, q6⟩ := hTL1 11 (by omega)
  have hclen := hS.len
  obtain ⟨t1', t2', O, o1, o2, o3, o4, o5⟩ := id hty1
  show Ok _ _ _ [zi (nI 1)] _ _
  refine r_if_neN (q := 19) (t := 21) (by omega) dX11_reduce_16 (by decide) rfl (fun h16 => ?_) (fun h16 => absurd h16 (by omega))
  refine r_aload_n (q := 22) dX11_reduce_21 rfl rfl rfl ?_
  refine r_getr (q := 25) (some (8, 11)) ck11 dX11_reduce_22 rfl (k := 12) (by decide) wt434 rfl (hs1.e (by decide)) (hs1.r (by decide) (by decide)) ?_
  refine r_aload_n (q := 26) dX11_reduce_25 rfl rfl rfl ?_
  refine r_getr (q := 29) (some (8, 0)) ck11 dX11_reduce_26 rfl (k := 7) (by decide) wt429 rfl (hs1.e (by decide)) (hs1.r (by decide) (by decide)) ?_
  refine r_callV (Mc := mX8_copy) (q := 32) (As := [zr 8 0]) (st := []) ck8 dX11_reduce_29 rfl rfl mkX8_copy wt707 wt708 wt709 rfl (Nat.le_of_ble_eq_true rfl) (Nat.le_of_ble_eq_true rfl) (by decide) (by decide) (by decide) (Or.inr ⟨Nat.le_of_ble_eq_true rfl, rfl, rfl⟩) (hs1.e (by decide)) (ok_X8_copy hs1 (show 11 < 19 by omega) q1 q2 (by omega) q4 hclen (show 0 < 19 by omega) (by omega) hty1.1 o1 o2 o5 o4) (fun r29 S29 hp29 => ?_)
  obtain ⟨rfl, hq29⟩ := hp29
  rw [hq29]
  have f2 : Fg tMd S13 (tcp S13 11 0 c.length M) := Fg.tcp hs1 (by omega) q1 q2 (by omega) q4 hclen (fun k => ⟨fun _ => by unfold tMd; omega, by unfold tMd; omega, by unfold tMd; omega⟩)
  have hty2 : Ty (tcp S13 11 0 c.length M) 11 c := ty_copy (by omega) hty1 q1 q2 (by omega) q4 hclen
  have hlv2 : gI (tcp S13 11 0 c.length M) 8 11 0 = nI n := tcp_0.trans l11
  have hB2 : CB (tcp S13 11 0 c.length M) cc W n1 mk1 rl1 := hB1.fg f2 ⟨by unfold tMd; omega, fun x k a b => by unfold tMd; omega⟩
  have hc2 : WC (tcp S13 11 0 c.length M) cc W := hc1.fg f2 (fun a k ha => by unfold tMd; omega)
  show Ok _ _ _ [] _ _
  refine r_aload_n (q := 33) dX11_reduce_32 rfl rfl rfl ?_
  refine r_aload_n (q := 34) dX11_reduce_33 rfl rfl rfl ?_
  refine r_getr (q := 37) (some (8, 11)) ck11 dX11_reduce_34 rfl (k := 12) (by decide) wt434 rfl (f2.sd.e (by decide)) (f2.sd.r (by decide) (by decide)) ?_
  refine r_callV (Mc := mX0_normalise) (q := 40) (As := [zr 8 11]) (st := []) ck0 dX11_reduce_37 rfl rfl mkX0_normalise wt901 wt902 wt903 rfl (Nat.le_of_ble_eq_true rfl) (Nat.le_of_ble_eq_true rfl) (by decide) (by decide) (by decide) (Or.inr ⟨Nat.le_of_ble_eq_true rfl, rfl, rfl⟩) (f2.sd.e (show cc < 4 by omega)) (ok_normalise (S := tcp S13 11 0 c.length M) f2.sd hW hc4 hc2 hB2 (show 11 < 19 by omega) hn1 hn7 hn hlv2 hty2 (fun p hp => hS.2.2.1.1.2 p hp)) (fun r37 S37 hp37 => ?_)
  obtain ⟨rfl, f3, hl3, c1, hnf, hty3⟩ := hp37
  have f4 : Fg (tCm cc) S S37 := ((f1.mono fun _ _ _ z => Or.inl z).tr (f2.mono fun _ _ _ z => Or.inr z)).tr (f3.mono fun a b k z => by unfold tNm tTy at z; show tRe cc a b k ∨ tMd a b k; unfold tRe tMd; omega)
  have f5 : Fg (fun a b k => tMd a b k ∨ a = 703) S13 S37 := (f2.mono fun _ _ _ z => Or.inl z).tr (f3.mono fun a b k z => by unfold tNm tTy at z; unfold tMd; omega)
  have hTL3 : TLs S37 := tls_md hTL1 f5 (fun j k h1 h2 => by unfold tMd; omega) hty3
  have hB3 : CB S37 cc W n1 mk1 rl1 := hB2.fg f3 ⟨by unfold tNm tTy; omega, fun x k a b => by unfold tNm tTy; omega⟩
  have hSm : Sm W n c1 := by
    obtain ⟨v, v1, _, _, _, h4, rfl⟩ := hnf
    exact sm_dn hW hn1 hn7 (hB1.2.2.2.1 n hn1 hn).1.2.2.2.1 h4
  show Ok _ _ _ [] _ _
  refine r_aload_n (q := 41) dX11_reduce_40 rfl rfl rfl ?_
  refine r_callV (Mc := mX11_keepMade) (q := 44) (As := []) (st := []) ck11 dX11_reduce_41 rfl rfl mkX11_keepMade wt703 wt705 wp21 rfl (Nat.le_of_ble_eq_true rfl) (Nat.le_of_ble_eq_true rfl) (by decide) (by decide) (by decide) (Or.inr ⟨Nat.le_of_ble_eq_true rfl, rfl, rfl⟩) (f3.sd.e (by decide)) (keep4 hP hA f4 hTL3 hty3 hl3 hSm) (fun r41 S41 hp41 => ?_)
  obtain ⟨rfl, k1, k2⟩ := hp41
  show Ok _ _ _ [zi (nI c1.length)] _ _
  refine r_ireturn dX11_reduce_44 rfl ?_
  exact ⟨n1, mk1, rl1, (hB1.2.2.2.2.2.2.2.2.2 n hn1 hn).2, c1, hnf, rfl, S37, f4, hB3, k1, k2⟩

set_option maxRecDepth 100000 in
theorem cm_reduce_n {S : zS} (hs : Sd S) {W : zWd} (hW : Wok W) {cc : Nat} (hcc : gI S 11 0 3 = nI cc) (hc4 : cc < 4) (hc : WC S cc W) (hT : Tcs S cc W) {n0 : Nat} {mk : Nat → Nat → Nat} {rl : Nat → Nat → Nat → Nat} (hB : CB S cc W n0 mk rl) {n : Nat} (hn1 : 1 ≤ n) (hn7 : n ≤ 7) (l1 : gI S 8 0 0 = nI n) (h3 : ¬ tc W n ≤ 300) : Ok mX11_reduce 0 (ent 2 [zr 11 0]) [] S (fun r S1 => Fg (tRe cc) S S1 ∧ (∃ n1 mk1 rl1, CB S1 cc W n1 mk1 rl1) ∧ r = some (zi (-1))) := by
  show Ok mX11_reduce 0 [some (zr 11 0), none] [] S _
  refine r_aload_n (q := 1) dX11_reduce_0 rfl rfl rfl ?_
  refine r_callV (Mc := mX11_basisHere) (q := 4) (As := []) (st := []) ck11 dX11_reduce_1 rfl rfl mkX11_basisHere wt766 wt768 wp27 rfl (Nat.le_of_ble_eq_true rfl) (Nat.le_of_ble_eq_true rfl) (by decide) (by decide) (by decide) (Or.inl rfl) (hs.e (by decide)) (ok_basisHere hs hcc hc4) (fun r1 S1 hp1 => ?_)
  obtain ⟨rfl, hq1⟩ := hp1
  rw [hq1]
  show Ok _ _ _ [zr 0 cc] _ _
  refine r_astore_n (q := 5) (L' := [some (zr 11 0), some (zr 0 cc)]) dX11_reduce_4 rfl rfl (by decide) rfl ?_
  refine r_aload_n (q := 6) dX11_reduce_5 rfl rfl rfl ?_
  refine r_aload_n (q := 7) dX11_reduce_6 rfl rfl rfl ?_
  refine r_getr (q := 10) (some (8, 0)) ck11 dX11_reduce_7 rfl (k := 7) (by decide) wt429 rfl (hs.e (by decide)) (hs.r (by decide) (by decide)) ?_
  refine r_geti (q := 13) ck8 dX11_reduce_10 rfl (k := 0) (by decide) wt60 (Or.inl rfl) (hs.e (by decide)) ?_
  refine r_topi (y := nI n) l1 ?_
  refine r_callV (Mc := mX0_reach) (q := 16) (As := [zi (nI n)]) (st := []) ck0 dX11_reduce_13 rfl rfl mkX0_reach wt770 wt771 wt772 rfl (Nat.le_of_ble_eq_true rfl) (Nat.le_of_ble_eq_true rfl) (by decide) (by decide) (by decide) (Or.inr ⟨Nat.le_of_ble_eq_true rfl, rfl, rfl⟩) (hs.e (show cc < 4 by omega)) (ok_reach_n hs hW hc4 hn1 hn7 hc hT hB h3) (fun r13 S13 hp13 => ?_)
  obtain ⟨rfl, f1, hc1, n1, mk1, rl1, hB1⟩ := hp13
  show Ok _ _ _ [zi (nI 0)] _ _
  refine r_if_neN (q := 19) (t := 21) (by omega) dX11_reduce_16 (by decide) rfl (fun h16 => absurd h16 (by omega)) (fun h16 => ?_)
  refine r_iconst (q := 20) ((-1 : Int32)) dX11_reduce_19 rfl (by decide) ?_
  refine r_ireturn dX11_reduce_20 rfl ?_
  exact ⟨f1, ⟨n1, mk1, rl1, hB1⟩, rfl⟩

set_option maxRecDepth 100000 in
theorem lp_rd37 {W : zWd} (hW : Wok W) {n F : Nat} (hn7 : n ≤ 7) (hm3 : (tl W n).length ≤ 300) (hF4 : F + (tl W n).length ≤ 4400) {c : List zT} (hc9 : Ce (wA W) (we W) (wP W) n c) (hcl : c.length ≤ 1200) {rr : List Nat} (hrl : rr.length = (tl W n).length) {Po : Option zV → zS → Prop} : ∀ (d k : Nat) (S : zS) (v : Nat → Nat), k + d = c.length → Sd S → gI S 1325 0 (8 * 0 + n) = nI F → gI S 1324 0 (8 * 0 + n) = nI (tl W n).length → Co S F (tl W n) → SrR S F (tl W n) rr → Hr S (wP W) c → Vr S (tl W n).length (wP W) v → AccV (wP W) (tl W n) v (lz (c.take k)) → (∀ z, z < (tl W n).length → (∀ i, i < k → (tl W n).getD z [] ≠ (c.getD i zd).1) → v z = 0) → (∀ S1 v1, Fr tRv S S1 → Vr S1 (tl W n).length (wP W) v1 → AccV (wP W) (tl W n) v1 (lz c) → Ok mX12_reduce 86 [some (zr 12 0), some (zi (nI n)), some (zi (nI c.length))] [] S1 Po) → Ok mX12_reduce 37 [some (zr 12 0), some (zi (nI n)), some (zi (nI k))] [] S Po := by
  have hE := hW.2.1
  intro d
  induction d with
  | zero =>
    intro k S v hk hs h5 h4 hC hS hr hV hA hz K
    obtain rfl : k = c.length := by omega
    have t1 := hr.1
    refine r_iload_n (q := 38) dX12_reduce_37 rfl rfl rfl ?_
    refine r_aload_n (q := 39) dX12_reduce_38 rfl rfl rfl ?_
    refine r_getr (q := 42) (some (1306, 0)) ck12 dX12_reduce_39 rfl (k := 6) (by decide) wt1284 rfl (hs.e (by decide)) (hs.r (by decide) (by decide)) ?_
    refine r_sipush (q := 45) (nI 1174) dX12_reduce_42 rfl (by decide) ?_
    refine r_ialdN (q := 46) 3775 (by decide) rfl dX12_reduce_45 rfl (hs.e (by decide)) (hs.n rfl (by decide)) (by omega) (by decide) ?_
    refine r_topi (y := nI c.length) t1 ?_
    refine r_icmp_geN (q := 49) (t := 86) (by omega) (by omega) dX12_reduce_46 (by decide) rfl (fun h46 => ?_) (fun h46 => absurd h46 (by omega))
    exact K S v Fr.rf hV (by rw [List.take_length] at hA; exact hA)
  | succ d ih =>
    intro k S v hk hs h5 h4 hC hS hr hV hA hz K
    have t1 := hr.1
    have hkl : k < c.length := by omega
    obtain ⟨r1, r2⟩ := hr.2.2 k hkl
    have hq := hc9.1.2 _ (_root_.Jvm.Pilot.CLeafWorldsLaw_law_r8483_d58aac.mem_getD hkl)
    obtain ⟨i, hi, ei⟩ := mem_idx ((tl_mem hE).mpr hq.1)
    rw [← ei] at r1
    refine r_iload_n (q := 38) dX12_reduce_37 rfl rfl rfl ?_
    refine r_aload_n (q := 39) dX12_reduce_38 rfl rfl rfl ?_
    refine r_getr (q := 42) (some (1306, 0)) ck12 dX12_reduce_39 rfl (k := 6) (by decide) wt1284 rfl (hs.e (by decide)) (hs.r (by decide) (by decide)) ?_
    refine r_sipush (q := 45) (nI 1174) dX12_reduce_42 rfl (by decide) ?_
    refine r_ialdN (q := 46) 3775 (by decide) rfl dX12_reduce_45 rfl (hs.e (by decide)) (hs.n rfl (by decide)) (by omega) (by decide) ?_
    refine r_topi (y := nI c.length) t1 ?_
    refine r_icmp_geN (q := 49) (t := 86) (by omega) (by omega) dX12_reduce_46 (by decide) rfl (fun h46 => absurd h46 (by omega)) (fun h46 => ?_)
    refine r_aload_n (q := 50) dX12_reduce_49 rfl rfl rfl ?_
    refine r_getr (q := 53) (some (1341, 0)) ck12 dX12_reduce_50 rfl (k := 41) (by decide) wt1319 rfl (hs.e (by decide)) (hs.r (by decide) (by decide)) ?_
    refine r_aload_n (q := 54) dX12_reduce_53 rfl rfl rfl ?_
    refine r_iconst (q := 55) (nI 0) dX12_reduce_54 rfl (by decide) ?_
    refine r_iload_n (q := 56) dX12_reduce_55 rfl rfl rfl ?_
    refine r_aload_n (q := 57) dX12_reduce_56 rfl rfl rfl ?_
    refine r_getr (q := 60) (some (1306, 0)) ck12 dX12_reduce_57 rfl (k := 6) (by decide) wt1284 rfl (hs.e (by decide)) (hs.r (by decide) (by decide)) ?_
    refine r_sipush (q := 63) (nI 1175) dX12_reduce_60 rfl (by decide) ?_
    refine r_iload_n (q := 64) dX12_reduce_63 rfl rfl rfl ?_
    refine r_iaddN (q := 65) dX12_reduce_64 rfl ?_
    refine r_ialdN (q := 66) 3775 (by decide) rfl dX12_reduce_65 rfl (hs.e (by decide)) (hs.n rfl (by decide)) (by omega) (by decide) ?_
    refine r_topi (y := nI (cd ((tl W n).getD i []))) r1 ?_
    refine r_callV (Mc := mX12_place) (q := 69) (As := [zi (nI 0), zi (nI n), zi (nI (cd ((tl W n).getD i [])))]) (st := [zr 1341 0]) ck12 dX12_reduce_66 rfl rfl mkX12_place wt1816 wt1818 wp114 rfl (Nat.le_of_ble_eq_true rfl) (Nat.le_of_ble_eq_true rfl) (by decide) (by decide) (by decide) (Or.inl rfl) (hs.e (by decide)) (ok_place (q := 0) (by omega) hn7 hm3 hF4 hs h5 h4 hC hrl hS hi) (fun r66 S66 hp66 => ?_)
    obtain ⟨rfl, hq66⟩ := hp66
    rw [hq66]
    show Ok _ _ _ [zi (nI i), zr 1341 0] _ _
    refine r_aload_n (q := 70) dX12_reduce_69 rfl rfl rfl ?_
    refine r_getr (q := 73) (some (1306, 0)) ck12 dX12_reduce_70 rfl (k := 6) (by decide) wt1284 rfl (hs.e (by decide)) (hs.r (by decide) (by decide)) ?_
    refine r_sipush (q := 76) (nI 2475) dX12_reduce_73 rfl (by decide) ?_
    refine r_iload_n (q := 77) dX12_reduce_76 rfl rfl rfl ?_
    refine r_iaddN (q := 78) dX12_reduce_77 rfl ?_
    refine r_ialdN (q := 79) 3775 (by decide) rfl dX12_reduce_78 rfl (hs.e (by decide)) (hs.n rfl (by decide)) (by omega) (by decide) ?_
    refine r_topi (y := nI ((c.getD k zd).2)) r2 ?_
    refine r_iastN (q := 80) 300 (by decide) rfl dX12_reduce_79 rfl (hs.e (by decide)) (hs.n rfl (by decide)) (by omega) (by decide) ?_
    refine r_iincN (q := 83) (L' := [some (zr 12 0), some (zi (nI n)), some (zi (nI (k + 1)))]) 1 rfl dX12_reduce_80 rfl rfl (by decide) rfl ?_
    refine r_goto (q := 37) dX12_reduce_83 (by decide) ?_
    have f1 : Fr tRv S (sI S 1341 0 i (nI (c.getD k zd).2)) := (Fr.rf).i rfl
    have hvz : v i = 0 := hz i hi (fun z hz' e => by
      rw [ei] at e
      have := List.pairwise_iff_getElem.mp hc9.1.1 z k (by omega) hkl hz'
      rw [List.getD_eq_getElem?_getD, List.getElem?_eq_getElem hkl, List.getD_eq_getElem?_getD, List.getElem?_eq_getElem (by omega)] at e
      have e' : (c[k]).1 = (c[z]).1 := e
      rw [e'] at this
      omega)
    refine ih (k + 1) _ _ (by omega) (hs.fr f1) ((f1.1 _ _ _ rfl).trans h5) ((f1.1 _ _ _ rfl).trans h4) (hC.fr f1 (fun _ _ => rfl)) ⟨fun z hz => (f1.1 _ _ _ rfl).trans (hS.1 z hz), hS.2⟩ ⟨(f1.1 _ _ _ rfl).trans hr.1, (f1.1 _ _ _ rfl).trans hr.2.1, fun z hz => ⟨(f1.1 _ _ _ rfl).trans (hr.2.2 z hz).1, (f1.1 _ _ _ rfl).trans (hr.2.2 z hz).2⟩⟩ (hV.set hq.2) (by rw [lz_snoc hkl, ← ei]; exact acc_setN tl_nodup hA hi hvz) (fun z z1 z2 => ?_) (fun S1 v1 y1 y2 y3 => K S1 v1 (f1.tr y1) y2 y3)
    show (if z = i then (c.getD k zd).2 else v z) = 0
    rw [if_neg (fun e => z2 k (by omega) (by rw [e]; exact ei))]
    exact hz z z1 (fun j hj => z2 j (by omega))

set_option maxRecDepth 100000 in
theorem rm_reduce_y {S : zS} (hs : Sd S) {W : zWd} (hW : Wok W) {n9 : Nat → Int64} (hR : wqR W (fun k => gI S 1306 0 k) n9) (hO : Cw S) (hcr : CR S W) (hI : IvI S) {n : Nat} (hn1 : 1 ≤ n) (hn7 : n ≤ 7) (l2 : gI S 1306 0 1173 = nI n) {c c1 : List zT} (hS : Sm W n c) (hr : Hr S (wP W) c) {h q : Nat} (h3 : tc W n ≤ 300) (Ke : ∀ pvs bss c2, LvR W pvs bss n → NfR W n (pvs n) (bss n) c c2 → c2 = c1) (Kp : KsR S W h q n c1) : Ok mX12_reduce 0 (ent 3 [zr 12 0]) [] S (fun r S4 => ∃ T, Fg tDr S T ∧ Cw T ∧ CR T W ∧ IvI T ∧ r = some (zi (nI c1.length)) ∧ Fg tKs T S4 ∧ SR sq S4 W 0 1306 1173 ∧ Pst sq S4 W (min 8 (h + 1)) ((q + 1) % 8) ∧ TLs S4) := by
  have hclen := hS.len
  show Ok mX12_reduce 0 [some (zr 12 0), none, none] [] S _
  refine r_aload_n (q := 1) dX12_reduce_0 rfl rfl rfl ?_
  refine r_iconst (q := 2) (nI 0) dX12_reduce_1 rfl (by decide) ?_
  refine r_puti (q := 5) ck12 dX12_reduce_2 rfl (k := 0) (by decide) wt1278 (Or.inl rfl) rfl (hs.e (by decide)) ?_
  refine r_aload_n (q := 6) dX12_reduce_5 rfl rfl rfl ?_
  refine r_getr (q := 9) (some (1306, 0)) ck12 dX12_reduce_6 rfl (k := 6) (by decide) wt1284 rfl (hs.e (by decide)) (hs.r (by decide) (by decide)) ?_
  refine r_sipush (q := 12) (nI 1173) dX12_reduce_9 rfl (by decide) ?_
  refine r_ialdN (q := 13) 3775 (by decide) rfl dX12_reduce_12 rfl (hs.e (by decide)) (hs.n rfl (by decide)) (by omega) (by decide) ?_
  refine r_topi (y := gI S 1306 0 1173) (by simp [gI_sI, gJ_sJ, gI_sJ, gJ_sI]) ?_
  refine r_topi (y := nI n) l2 ?_
  refine r_istore_n (q := 14) (L' := [some (zr 12 0), some (zi (nI n)), none]) dX12_reduce_13 rfl rfl (by decide) rfl ?_
  refine r_aload_n (q := 15) dX12_reduce_14 rfl rfl rfl ?_
  refine r_iconst (q := 16) (nI 0) dX12_reduce_15 rfl (by decide) ?_
  refine r_iload_n (q := 17) dX12_reduce_16 rfl rfl rfl ?_
  refine r_callV (Mc := mX12_isBeyond) (q := 20) (As := [zi (nI 0), zi (nI n)]) (st := []) ck12 dX12_reduce_17 rfl rfl mkX12_isBeyond wt1751 wt1753 wp99 rfl (Nat.le_of_ble_eq_true rfl) (Nat.le_of_ble_eq_true rfl) (by decide) (by decide) (by decide) (Or.inl rfl) (hs.e (by decide)) (ok_beyond0_n (S := sI S 12 0 0 (nI 0)) hs hW hn1 hn7 (wqR_thr hW hR) (rc_thr.rc (W := W).2.1 hO) (rc_thr.rc.1 hcr) (rc_thr.rc (W := W).2.2 hI) h3) (fun r17 S17 hp17 => ?_)
  obtain ⟨f1, hon, hcw, hiv, hws, L, pvs, bss, hB, hz⟩ := hp17
  have hs1 : Sd S17 := Sd.fr (S := sI S 12 0 0 (nI 0)) hs f1
  obtain ⟨rfl, _, hnL⟩ := hz.resolve_left (fun z => absurd z.2 (by omega))
  obtain ⟨hLr, hAc, hLv⟩ := hB.2.2.2.2 n hn1 (by omega)
  have h4 : gI S17 1324 0 n = nI (tl W n).length := by have z := hLr.2.1; rw [Nat.mul_zero, Nat.zero_add] at z; exact z
  have h5 : gI S17 1325 0 n = nI (FqR 0 W n) := by have z := hLr.1; rw [Nat.mul_zero, Nat.zero_add] at z; exact z
  have hb300 := hAc.1.2.2.2.2.1
  have hF44 := hAc.1.2.2.2.2.2.1
  have e6 : ∀ k, gI S17 1306 0 k = gI S 1306 0 k := fun k => (f1.1 1306 0 k rfl).trans (by rw [gI_sI, if_neg (by omega)])
  have h0P : gI S17 1306 0 0 = nI (wP W) := (e6 0).trans hR.1
  show Ok _ _ _ [zi (nI 0)] _ _
  refine r_if_eqN (q := 23) (t := 25) (by omega) dX12_reduce_20 (by decide) rfl (fun h20 => ?_) (fun h20 => absurd h20 (by omega))
  refine r_aload_n (q := 26) dX12_reduce_25 rfl rfl rfl ?_
  refine r_aload_n (q := 27) dX12_reduce_26 rfl rfl rfl ?_
  refine r_getr (q := 30) (some (1324, 0)) ck12 dX12_reduce_27 rfl (k := 24) (by decide) wt1302 rfl (hs1.e (by decide)) (hs1.r (by decide) (by decide)) ?_
  refine r_iload_n (q := 31) dX12_reduce_30 rfl rfl rfl ?_
  refine r_ialdN (q := 32) 16 (by decide) rfl dX12_reduce_31 rfl (hs1.e (by decide)) (hs1.n rfl (by decide)) (by omega) (by decide) ?_
  refine r_topi (y := nI ((tl W n).length)) h4 ?_
  refine r_callV (Mc := mX12_clearRow) (q := 35) (As := [zi (nI ((tl W n).length))]) (st := []) ck12 dX12_reduce_32 rfl rfl mkX12_clearRow wt1812 wt1814 wp113 rfl (Nat.le_of_ble_eq_true rfl) (Nat.le_of_ble_eq_true rfl) (by decide) (by decide) (by decide) (Or.inl rfl) (hs1.e (by decide)) (ok_clearRow hs1 (show 0 < wP W from Nat.lt_of_lt_of_le (by decide) hW.1.1) hb300) (fun r32 S32 hp32 => ?_)
  obtain ⟨rfl, f2, hV2⟩ := hp32
  have hs2 := hs1.fr f2
  show Ok _ _ _ [] _ _
  refine r_iconst (q := 36) (nI 0) dX12_reduce_35 rfl (by decide) ?_
  refine r_istore_n (q := 37) (L' := [some (zr 12 0), some (zi (nI n)), some (zi (nI 0))]) dX12_reduce_36 rfl rfl (by decide) rfl ?_
  obtain ⟨rr, hrl, hSr⟩ := hLr.2.2.2
  refine lp_rd37 hW hn7 hb300 hF44 hS.2.2.1 hclen hrl c.length 0 S32 (fun _ => 0) (by omega) hs2 ((f2.1 _ _ _ rfl).trans hLr.1) ((f2.1 _ _ _ rfl).trans hLr.2.1) (hLr.2.2.1.fr f2 (fun _ _ => rfl)) ⟨fun z hz => (f2.1 _ _ _ rfl).trans (hSr.1 z hz), hSr.2⟩ ⟨(f2.1 _ _ _ rfl).trans ((e6 _).trans hr.1), (f2.1 _ _ _ rfl).trans h0P, fun k hk => ⟨(f2.1 _ _ _ rfl).trans ((e6 _).trans (hr.2.2 k hk).1), (f2.1 _ _ _ rfl).trans ((e6 _).trans (hr.2.2 k hk).2)⟩⟩ hV2 acc_nil (fun z _ _ => rfl) (fun S3 v g1 g2 g3 => ?_)
  have f3 : Fr tRv S17 S3 := f2.tr g1
  have hs3 := hs1.fr f3
  have hB3 := hAc.1.fr f3
  refine r_aload_n (q := 87) dX12_reduce_86 rfl rfl rfl ?_
  refine r_iconst (q := 88) (nI 0) dX12_reduce_87 rfl (by decide) ?_
  refine r_iload_n (q := 89) dX12_reduce_88 rfl rfl rfl ?_
  refine r_callV (Mc := mX12_lessen) (q := 92) (As := [zi (nI 0), zi (nI n)]) (st := []) ck12 dX12_reduce_89 rfl rfl mkX12_lessen wt1824 wt1826 wp116 rfl (Nat.le_of_ble_eq_true rfl) (Nat.le_of_ble_eq_true rfl) (by decide) (by decide) (by decide) (Or.inl rfl) (hs3.e (by decide)) (ok_lessen (q := 0) hs3 (by omega) hn7 tl_nodup hW.1.1 hW.1.2.1 hB3 g2) (fun r89 S89 hp89 => ?_)
  obtain ⟨rfl, f4, v1, hV4, hr4⟩ := hp89
  have f5 : Fr tRv S17 S89 := f3.tr f4
  have hs5 := hs1.fr f5
  show Ok _ _ _ [] _ _
  refine r_aload_n (q := 93) dX12_reduce_92 rfl rfl rfl ?_
  refine r_iload_n (q := 94) dX12_reduce_93 rfl rfl rfl ?_
  refine r_callV (Mc := mX12_rowSum) (q := 97) (As := [zi (nI n)]) (st := []) ck12 dX12_reduce_94 rfl rfl mkX12_rowSum wt1836 wt1838 wp119 rfl (Nat.le_of_ble_eq_true rfl) (Nat.le_of_ble_eq_true rfl) (by decide) (by decide) (by decide) (Or.inl rfl) (hs5.e (by decide)) (ok_rowSum hW hn7 hb300 hF44 hs5 ((f5.1 _ _ _ rfl).trans h4) ((f5.1 _ _ _ rfl).trans h5) (hLr.2.2.1.fr f5 (fun _ _ => rfl)) ((f5.1 _ _ _ rfl).trans h0P) (hws.1.fr f5 (fun _ => rfl)) hV4) (fun r94 S94 hp94 => ?_)
  obtain ⟨rfl, f6, h48, hr6⟩ := hp94
  have hs6 := hs5.fr f6
  have g0 : Fg tDr S S17 := ((fr_thr (S := S)).fg hs (fun a b k z => Or.inr (Or.inr (by simp at z; omega)))).tr (f1.fg (S := sI S 12 0 0 (nI 0)) hs (fun a b k z => Or.inl z))
  have g4 : Fg tDr S17 S94 := (f5.fg hs1 (fun a b k z => Or.inl (by simp [tRv] at z; simp [tBy, tSe, z.1, z.2]))).tr (f6.fg hs5 (fun a b k z => by
    simp only [Bool.or_eq_true, Bool.and_eq_true, beq_iff_eq] at z
    rcases z with z | z
    · exact Or.inr (Or.inl z)
    · exact Or.inr (Or.inr ⟨z.1.1, z.1.2, Or.inr (Or.inr (Or.inr z.2))⟩)))
  have rc1 : RcI S17 S94 := RcI.of (T := fun a b k => a = 1341 ∨ tAT a b k = true ∨ a = 12 ∧ k = 48) ((f5.fg hs1 (fun a b k z => Or.inl (by simp [tRv] at z; exact z.1))).tr (f6.fg hs5 (fun a b k z => by
    simp only [Bool.or_eq_true, Bool.and_eq_true, beq_iff_eq] at z
    rcases z with z | z
    · exact Or.inr (Or.inl z)
    · exact Or.inr (Or.inr ⟨z.1.1, z.2⟩)))) ⟨by simp [tAT, tPa], by simp [tAT, tPa], fun x k a b => by simp [tAT, tPa]; omega, fun k _ => by simp [tAT, tPa]⟩
  have hnf : NfR W n (pvs n) (bss n) c (Dn (tl W n) v1 (tl W n).length) := ⟨v, v1, g3, hr4, fun i hi => (hV4 i hi).2, rfl⟩
  have heq := Ke pvs bss _ hLv hnf
  rw [heq] at hr6
  show Ok _ _ _ [] _ _
  refine r_aload_n (q := 98) dX12_reduce_97 rfl rfl rfl ?_
  refine r_callV (Mc := mX12_keepSum) (q := 101) (As := []) (st := []) ck12 dX12_reduce_98 rfl rfl mkX12_keepSum wt1710 wt1712 wp94 rfl (Nat.le_of_ble_eq_true rfl) (Nat.le_of_ble_eq_true rfl) (by decide) (by decide) (by decide) (Or.inl rfl) (hs6.e (by decide)) (Kp S94 (g0.tr g4) hr6.rz h48) (fun r98 S98 hp98 => ?_)
  obtain ⟨rfl, k3, k4⟩ := hp98
  show Ok _ _ _ [zi (nI c1.length)] _ _
  refine r_ireturn dX12_reduce_101 rfl ?_
  exact ⟨S94, g0.tr g4, (rc1.rc (W := W)).2.1 hcw, rc1.rc.1 (fun _ => ⟨L, pvs, bss, hB⟩), (rc1.rc (W := W)).2.2 hiv, rfl, k3, k4⟩

set_option maxRecDepth 100000 in
theorem rm_reduce_n {S : zS} (hs : Sd S) {W : zWd} (hW : Wok W) {n9 : Nat → Int64} (hR : wqR W (fun k => gI S 1306 0 k) n9) (hO : Cw S) (hcr : CR S W) (hI : IvI S) {n : Nat} (hn1 : 1 ≤ n) (hn7 : n ≤ 7) (l2 : gI S 1306 0 1173 = nI n) (h3 : ¬ tc W n ≤ 300) : Ok mX12_reduce 0 (ent 3 [zr 12 0]) [] S (fun r S1 => (Fr (fun x y k => tBy x y k || x == 12 && y == 0 && k == 0) S S1 ∧ Cw S1 ∧ CR S1 W ∧ IvI S1) ∧ r = some (zi (-1))) := by
  show Ok mX12_reduce 0 [some (zr 12 0), none, none] [] S _
  refine r_aload_n (q := 1) dX12_reduce_0 rfl rfl rfl ?_
  refine r_iconst (q := 2) (nI 0) dX12_reduce_1 rfl (by decide) ?_
  refine r_puti (q := 5) ck12 dX12_reduce_2 rfl (k := 0) (by decide) wt1278 (Or.inl rfl) rfl (hs.e (by decide)) ?_
  refine r_aload_n (q := 6) dX12_reduce_5 rfl rfl rfl ?_
  refine r_getr (q := 9) (some (1306, 0)) ck12 dX12_reduce_6 rfl (k := 6) (by decide) wt1284 rfl (hs.e (by decide)) (hs.r (by decide) (by decide)) ?_
  refine r_sipush (q := 12) (nI 1173) dX12_reduce_9 rfl (by decide) ?_
  refine r_ialdN (q := 13) 3775 (by decide) rfl dX12_reduce_12 rfl (hs.e (by decide)) (hs.n rfl (by decide)) (by omega) (by decide) ?_
  refine r_topi (y := gI S 1306 0 1173) (by simp [gI_sI, gJ_sJ, gI_sJ, gJ_sI]) ?_
  refine r_topi (y := nI n) l2 ?_
  refine r_istore_n (q := 14) (L' := [some (zr 12 0), some (zi (nI n)), none]) dX12_reduce_13 rfl rfl (by decide) rfl ?_
  refine r_aload_n (q := 15) dX12_reduce_14 rfl rfl rfl ?_
  refine r_iconst (q := 16) (nI 0) dX12_reduce_15 rfl (by decide) ?_
  refine r_iload_n (q := 17) dX12_reduce_16 rfl rfl rfl ?_
  refine r_callV (Mc := mX12_isBeyond) (q := 20) (As := [zi (nI 0), zi (nI n)]) (st := []) ck12 dX12_reduce_17 rfl rfl mkX12_isBeyond wt1751 wt1753 wp99 rfl (Nat.le_of_ble_eq_true rfl) (Nat.le_of_ble_eq_true rfl) (by decide) (by decide) (by decide) (Or.inl rfl) (hs.e (by decide)) (ok_beyond0_y (S := sI S 12 0 0 (nI 0)) hs hW hn1 hn7 (wqR_thr hW hR) (rc_thr.rc (W := W).2.1 hO) (rc_thr.rc.1 hcr) (rc_thr.rc (W := W).2.2 hI) h3) (fun r17 S17 hp17 => ?_)
  obtain ⟨f1, hon, hcw, hiv, hws, L, pvs, bss, hB, hz⟩ := hp17
  have hs1 : Sd S17 := Sd.fr (S := sI S 12 0 0 (nI 0)) hs f1
  obtain ⟨rfl, _⟩ := hz.resolve_right (fun z => h3 z.2.1)
  show Ok _ _ _ [zi (nI 1)] _ _
  refine r_if_eqN (q := 23) (t := 25) (by omega) dX12_reduce_20 (by decide) rfl (fun h20 => absurd h20 (by omega)) (fun h20 => ?_)
  refine r_iconst (q := 24) ((-1 : Int32)) dX12_reduce_23 rfl (by decide) ?_
  refine r_ireturn dX12_reduce_24 rfl ?_
  exact ⟨⟨((fr_thr (S := S)).mono (fun x y k h => by simp only [Bool.or_eq_true]; exact Or.inr h)).tr (f1.mono (fun x y k h => by simp [h])), hcw, fun _ => ⟨L, pvs, bss, hB⟩, hiv⟩, rfl⟩

theorem pg_reduce {S : zS} (hs : Sd S) {W : zWd} {cc h q : Nat} (hcc : gI S 11 0 3 = nI cc) (hc4 : cc < 4) (hw : WR wq S W cc 1306 0 1308 0) (hb : BsC S cc W) (hP : Pst sq S W h q) (hA : SR sq S W 0 1306 1173) (hTL : TLs S) : Pg mX11_reduce 2 [zr 11 0] mX12_reduce 3 [zr 12 0] S (fun S2 => CacheB S S2 W cc ∨ KeptB S S2 W cc h q) := by
  obtain ⟨hW, hC, hR⟩ := hw.c
  obtain ⟨hc, hT⟩ := wq_WC hC
  have hb' := hb
  obtain ⟨⟨n0, mk, rl, hB⟩, hcr, hO, hI⟩ := hb
  obtain ⟨n, c, hS, l1, l2, l3, l4, hrow⟩ := hA.get
  have hn1 := hS.1
  have hn7 := hS.2.1
  have hty : Ty S 0 c := by
    obtain ⟨m, e, a1, a2, a3, a4, a5, a6⟩ := hTL 0 (by omega)
    have : e = c.length := (nI_eq (by omega) (by have := hS.len; omega)).mp (a5.symm.trans l3)
    exact ⟨l3, fun k hk => ⟨(hrow k hk).1, (hrow k hk).2.1⟩, m, a1, a2, a3, a4, by omega⟩
  have hr : Hr S (wP W) c := ⟨l4, hR.1, fun k hk => ⟨(hrow k hk).2.2.1, (hrow k hk).2.2.2⟩⟩
  by_cases h3 : tc W n ≤ 300
  · refine Ok.mono (cm_reduce_y hs hW hcc hc4 hc hT hB hn1 hn7 hP hA hTL hS l1 hty h3) fun r S3 z => ?_
    obtain ⟨n1, mk1, rl1, hlc, c1, hnf, rfl, S2, f2, hB2, k1, k2⟩ := z
    have rcI := rc_cm f2 k1
    have rc := rcI.rc (W := W)
    have e6 : ∀ k, gI S3 1306 0 k = gI S 1306 0 k := fun k => ((f2.mono fun a b k y => Or.inl y).tr (k1.mono fun a b k y => Or.inr y) : Fg (fun a b k => tCm cc a b k ∨ tKp a b k) S S3).I (by omega) (by unfold tCm tRe tMd tKp; omega)
    refine ⟨_, rfl, k1.sd, Ok.mono (rm_reduce_y k1.sd hW (hR.cm hW f2 k1) (rc.2.1 hO) (rc.1 hcr) (rc.2.2 hI) hn1 hn7 ((e6 _).trans l2) hS ⟨(e6 _).trans hr.1, (e6 _).trans hr.2.1, fun k hk => ⟨(e6 _).trans (hr.2.2 k hk).1, (e6 _).trans (hr.2.2 k hk).2⟩⟩ h3 (fun pvs bss c2 y1 y2 => (nf_eq hW hlc y1 hnf y2).symm) k2) fun r2 S4 x => ?_⟩
    obtain ⟨T, x1, x2, x3, x4, rfl, x5, x6⟩ := x
    exact ⟨rfl, Or.inr (kept_b ⟨n1, mk1, rl1, hB2⟩ f2 k1 x1 x2 x3 x4 x5 x6)⟩
  · refine Ok.mono (cm_reduce_n hs hW hcc hc4 hc hT hB hn1 hn7 l1 h3) fun r S1 z => ?_
    obtain ⟨f1, hB1, rfl⟩ := z
    have b1 := hb'.re f1 hB1
    refine ⟨_, rfl, f1.sd, Ok.mono (rm_reduce_n f1.sd hW (hR.re hW f1) b1.2.2.1 b1.2.1 b1.2.2.2 hn1 hn7 ((f1.I (by omega) (by unfold tRe; omega)).trans l2) h3) fun r2 S4 x => ?_⟩
    obtain ⟨x1, rfl⟩ := x
    exact ⟨rfl, Or.inl (cache_by f1 hB1 x1)⟩

