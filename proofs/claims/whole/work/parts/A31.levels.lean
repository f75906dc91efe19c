/-! levels of the reference, as far as they were settled -/
def tTq (q a b k : Nat) : Bool := a == 1335 && b == 0 || a == 1334 && b == 0 && decide (11 * q < k) && decide (k < 11 * q + 11)
theorem tTq_wy {q : Nat} (a b k : Nat) (h : tWy a b k = true) : tTq q a b k = true := by simp [tWy] at h; simp [tTq, h.1, h.2]
theorem Tw.frq {S S1 : zS} {W : zWd} {q r : Nat} (h : Tw S W q) (f : Fr (tTq r) S S1) : Tw S1 W q := ⟨(f.1 _ _ _ rfl).trans h.1, fun a ha => (f.1 _ _ _ rfl).trans (h.2 a ha)⟩

set_option maxRecDepth 100000 in
theorem lp_t1q {W : zWd} {q : Nat} (hq : q ≤ 1) (hE : Eok (wA W) (we W)) : ∀ (d n : Nat) (S : zS), n + d = 11 → 1 ≤ n → Sd S → Tw S W q → Tt S (tc W) q n → Ok mX12_totals 2 [some (zr 12 0), some (zi (nI q)), some (zi (nI n)), none, none, none] [] S (fun r S1 => r = none ∧ Fr (tTq q) S S1 ∧ Tt S1 (tc W) q 11) := by
  intro d
  induction d with
  | zero =>
    intro n S hd h1 hs hw ht
    obtain rfl : n = 11 := by omega
    refine r_iload_n (q := 3) dX12_totals_2 rfl rfl rfl ?_
    refine r_bipush (q := 5) (nI 10) dX12_totals_3 rfl (by decide) ?_
    refine r_icmp_gtN (q := 8) (t := 87) (by omega) (by omega) dX12_totals_5 (by decide) rfl (fun h5 => ?_) (fun h5 => absurd h5 (by omega))
    refine r_return dX12_totals_87 rfl ?_
    exact ⟨rfl, Fr.rf, ht⟩
  | succ d ih =>
    intro n S hd h1 hs hw ht
    refine r_iload_n (q := 3) dX12_totals_2 rfl rfl rfl ?_
    refine r_bipush (q := 5) (nI 10) dX12_totals_3 rfl (by decide) ?_
    refine r_icmp_gtN (q := 8) (t := 87) (by omega) (by omega) dX12_totals_5 (by decide) rfl (fun h5 => absurd h5 (by omega)) (fun h5 => ?_)
    refine r_iload_n (q := 9) dX12_totals_8 rfl rfl rfl ?_
    refine r_iconst (q := 10) (nI 1) dX12_totals_9 rfl (by decide) ?_
    refine r_icmp_neN (q := 13) (t := 17) (by omega) (by omega) dX12_totals_10 (by decide) rfl (fun h10 => ?_) (fun h10 => ?_)
    · skip
      refine r_lconst (q := 18) (0 : Int64) dX12_totals_17 rfl rfl ?_
      refine r_topl (y := lN 0) rfl ?_
      refine r_lstore_n (q := 19) (L' := [some (zr 12 0), some (zi (nI q)), some (zi (nI n)), some (zl (lN 0)), none, none]) dX12_totals_18 rfl rfl (by decide) rfl ?_
      refine r_iconst (q := 20) (nI 0) dX12_totals_19 rfl (by decide) ?_
      refine r_istore (q := 22) (L' := [some (zr 12 0), some (zi (nI q)), some (zi (nI n)), some (zl (lN 0)), none, some (zi (nI 0))]) dX12_totals_20 rfl (by decide) rfl ?_
      refine lp_t2 hq hE (x0 := 0) h1 (by omega) (wA W) 0 0 S (by omega) rfl hs hw ht (fun S' f => ?_)
      have hs' := hs.fr f
      refine r_aload_n (q := 70) dX12_totals_69 rfl rfl rfl ?_
      refine r_getr (q := 73) (some (1334, 0)) ck12 dX12_totals_70 rfl (k := 34) (by decide) wt1312 rfl (hs'.e (by decide)) (hs'.r (by decide) (by decide)) ?_
      refine r_bipush (q := 75) (nI 11) dX12_totals_73 rfl (by decide) ?_
      refine r_iload_n (q := 76) dX12_totals_75 rfl rfl rfl ?_
      refine r_imulN (q := 77) dX12_totals_76 rfl ?_
      refine r_iload_n (q := 78) dX12_totals_77 rfl rfl rfl ?_
      refine r_iaddN (q := 79) dX12_totals_78 rfl ?_
      refine r_topi (y := nI (11 * q + n)) rfl ?_
      refine r_lload_n (q := 80) dX12_totals_79 rfl rfl rfl ?_
      refine r_lastN (q := 81) 22 (by decide) rfl dX12_totals_80 rfl (hs'.e (by decide)) (hs'.n rfl (by decide)) (by omega) (by decide) ?_
      refine r_iincN (q := 84) (L' := [some (zr 12 0), some (zi (nI q)), some (zi (nI (n + 1))), some (zl (lN (0 + sm (fun a => foL (tc W) (we W a) n) (wA W)))), none, some (zi (nI (wA W)))]) 1 rfl dX12_totals_81 rfl rfl (by decide) rfl ?_
      refine r_goto (q := 2) dX12_totals_84 (by decide) ?_
      refine r_mask [true, true, true, false, false, false] rfl ?_
      have fj := ((f.mono (tTq_wy (q := q))).j (a := 1334) (b := 0) (k := 11 * q + n) (v := lN (0 + sm (fun a => foL (tc W) (we W a) n) (wA W))) (by simp [tTq]; omega))
      refine Ok.mono (ih (n + 1) _ (by omega) (by omega) hs' (hw.frq fj) (fun i a b => ?_)) (fun _ _ z => ⟨z.1, fj.tr z.2.1, z.2.2⟩)
      rw [gJ_sJ]
      by_cases h : i = n
      · subst h
        obtain ⟨m, rfl⟩ : ∃ m, i = m + 1 := ⟨i - 1, by omega⟩
        rw [if_pos ⟨rfl, rfl, rfl⟩, tc_succ hE, if_neg (by omega)]
      · rw [if_neg (by omega)]; exact (ht.fr f) i a (by omega)
    · skip
      refine r_lconst (q := 14) (1 : Int64) dX12_totals_13 rfl rfl ?_
      refine r_topl (y := lN 1) rfl ?_
      refine r_goto (q := 18) dX12_totals_14 (by decide) ?_
      refine r_lstore_n (q := 19) (L' := [some (zr 12 0), some (zi (nI q)), some (zi (nI n)), some (zl (lN 1)), none, none]) dX12_totals_18 rfl rfl (by decide) rfl ?_
      refine r_iconst (q := 20) (nI 0) dX12_totals_19 rfl (by decide) ?_
      refine r_istore (q := 22) (L' := [some (zr 12 0), some (zi (nI q)), some (zi (nI n)), some (zl (lN 1)), none, some (zi (nI 0))]) dX12_totals_20 rfl (by decide) rfl ?_
      refine lp_t2 hq hE (x0 := 1) h1 (by omega) (wA W) 0 1 S (by omega) rfl hs hw ht (fun S' f => ?_)
      have hs' := hs.fr f
      refine r_aload_n (q := 70) dX12_totals_69 rfl rfl rfl ?_
      refine r_getr (q := 73) (some (1334, 0)) ck12 dX12_totals_70 rfl (k := 34) (by decide) wt1312 rfl (hs'.e (by decide)) (hs'.r (by decide) (by decide)) ?_
      refine r_bipush (q := 75) (nI 11) dX12_totals_73 rfl (by decide) ?_
      refine r_iload_n (q := 76) dX12_totals_75 rfl rfl rfl ?_
      refine r_imulN (q := 77) dX12_totals_76 rfl ?_
      refine r_iload_n (q := 78) dX12_totals_77 rfl rfl rfl ?_
      refine r_iaddN (q := 79) dX12_totals_78 rfl ?_
      refine r_topi (y := nI (11 * q + n)) rfl ?_
      refine r_lload_n (q := 80) dX12_totals_79 rfl rfl rfl ?_
      refine r_lastN (q := 81) 22 (by decide) rfl dX12_totals_80 rfl (hs'.e (by decide)) (hs'.n rfl (by decide)) (by omega) (by decide) ?_
      refine r_iincN (q := 84) (L' := [some (zr 12 0), some (zi (nI q)), some (zi (nI (n + 1))), some (zl (lN (1 + sm (fun a => foL (tc W) (we W a) n) (wA W)))), none, some (zi (nI (wA W)))]) 1 rfl dX12_totals_81 rfl rfl (by decide) rfl ?_
      refine r_goto (q := 2) dX12_totals_84 (by decide) ?_
      refine r_mask [true, true, true, false, false, false] rfl ?_
      have fj := ((f.mono (tTq_wy (q := q))).j (a := 1334) (b := 0) (k := 11 * q + n) (v := lN (1 + sm (fun a => foL (tc W) (we W a) n) (wA W))) (by simp [tTq]; omega))
      refine Ok.mono (ih (n + 1) _ (by omega) (by omega) hs' (hw.frq fj) (fun i a b => ?_)) (fun _ _ z => ⟨z.1, fj.tr z.2.1, z.2.2⟩)
      rw [gJ_sJ]
      by_cases h : i = n
      · subst h
        obtain ⟨m, rfl⟩ : ∃ m, i = m + 1 := ⟨i - 1, by omega⟩
        rw [if_pos ⟨rfl, rfl, rfl⟩, tc_succ hE, if_pos (by omega)]
      · rw [if_neg (by omega)]; exact (ht.fr f) i a (by omega)

set_option maxRecDepth 100000 in
theorem ok_totals_q {S : zS} (hs : Sd S) {W : zWd} {q : Nat} (hq : q ≤ 1) (hE : Eok (wA W) (we W)) (hw : Tw S W q) : Ok mX12_totals 0 (ent 6 [zr 12 0, zi (nI q)]) [] S (fun r S1 => r = none ∧ Fr (tTq q) S S1 ∧ Tt S1 (tc W) q 11) := by
  show Ok mX12_totals 0 [some (zr 12 0), some (zi (nI q)), none, none, none, none] [] S _
  refine r_iconst (q := 1) (nI 1) dX12_totals_0 rfl (by decide) ?_
  refine r_istore_n (q := 2) (L' := [some (zr 12 0), some (zi (nI q)), some (zi (nI 1)), none, none, none]) dX12_totals_1 rfl rfl (by decide) rfl ?_
  exact lp_t1q hq hE 10 1 S (by omega) (by omega) hs hw (fun i a b => absurd a (by omega))

def upP {α : Type} (f : Nat → α) (n : Nat) (x : α) (s : Nat) : α := if s = n then x else f s
theorem upP_n {α : Type} {f : Nat → α} {n : Nat} {x : α} : upP f n x n = x := if_pos rfl
theorem upP_x {α : Type} {f : Nat → α} {n s : Nat} {x : α} (h : s ≠ n) : upP f n x s = f s := if_neg h
/-- the levels below n -/
def LowR (S : zS) (W : zWd) (q n : Nat) (pvs : Nat → Nat → Bool) (bss : Nat → Nat → Nat → Nat) : Prop := ∀ s, 1 ≤ s → s < n → LrR S W q s (FqR q W s) ∧ AcS S W q s (pvs s) (bss s) ∧ LvR W pvs bss s
theorem LowR.fr {S S1 : zS} {W : zWd} (hE : Eok (wA W) (we W)) {q n : Nat} {pvs : Nat → Nat → Bool} {bss : Nat → Nat → Nat → Nat} (h : LowR S W q n pvs bss) {U : Nat → Nat → Nat → Bool} (f : Fr U S S1) (t1 : U 1322 0 (1173 * q) = false) (t2 : ∀ s, 1 ≤ s → s < n → U 1324 0 (8 * q + s) = false ∧ U 1325 0 (8 * q + s) = false ∧ U 1326 0 (8 * q + s) = false ∧ U 1327 0 (8 * q + s) = false) (t3 : ∀ k, 2200 * q ≤ k → k < FqR q W n → U 1328 0 k = false ∧ U 1330 0 k = false ∧ U 1332 0 k = false) (t4 : ∀ k, 200000 * q ≤ k → k < RFq q W n → U 1331 0 k = false) : LowR S1 W q n pvs bss := fun s a b => by
  obtain ⟨h1, ⟨h2, h3, h4, h5⟩, h6⟩ := h s a b
  have l1 := sm_le (f := tc W) b
  have l2 : sm (fun k => tc W k * tc W k) s + tc W s * tc W s ≤ sm (fun k => tc W k * tc W k) n := sm_le (f := fun k => tc W k * tc W k) b
  have e1 : (tl W s).length = tc W s := tl_len hE
  have eFs : FqR q W s = 2200 * q + sm (tc W) s := rfl
  have eFn : FqR q W n = 2200 * q + sm (tc W) n := rfl
  have eRs : RFq q W s = 200000 * q + sm (fun k => tc W k * tc W k) s := rfl
  have eRn : RFq q W n = 200000 * q + sm (fun k => tc W k * tc W k) n := rfl
  obtain ⟨u1, u2, u3, u4⟩ := t2 s a b
  refine ⟨h1.fr f ⟨u2, u1, fun j hj => ?_⟩, ⟨h2.fr2 f ⟨t1, u1, u2, u4, fun k k1 k2 => (t3 k (by omega) (by omega)).2.2, fun k k1 k2 => t4 k (by omega) (by rw [e1] at k2; omega)⟩, h3, (f.1 _ _ _ u3).trans h4, h5⟩, h6⟩
  have := t3 (FqR q W s + j) (by omega) (by omega)
  exact ⟨this.1, this.2.1⟩
theorem LvR.cong {W : zWd} {pvs pvs' : Nat → Nat → Bool} {bss bss' : Nat → Nat → Nat → Nat} {s : Nat} (h : LvR W pvs bss s) (e1 : pvs' s = pvs s) (e2 : bss' s = bss s) : LvR W pvs' bss' s := by
  unfold LvR at h ⊢
  rw [e1, e2]; exact h
theorem LowR.up {S : zS} {W : zWd} {q n : Nat} {pvs : Nat → Nat → Bool} {bss : Nat → Nat → Nat → Nat} (h : LowR S W q n pvs bss) {pv : Nat → Bool} {bs : Nat → Nat → Nat} (h1 : LrR S W q n (FqR q W n)) (h2 : AcS S W q n pv bs) (h3 : LvR W (upP pvs n pv) (upP bss n bs) n) : LowR S W q (n + 1) (upP pvs n pv) (upP bss n bs) := fun s a b => by
  by_cases e : s = n
  · subst e
    rw [upP_n, upP_n]; exact ⟨h1, h2, h3⟩
  · obtain ⟨g1, g2, g3⟩ := h s a (by omega)
    rw [upP_x e, upP_x e]; exact ⟨g1, g2, g3.cong (upP_x e) (upP_x e)⟩
theorem LowR.cd {S : zS} {W : zWd} {q n : Nat} {pvs : Nat → Nat → Bool} {bss : Nat → Nat → Nat → Nat} (h : LowR S W q n pvs bss) : Cd S q n W (FqR q W) := fun s a b => ⟨(h s a b).1.1, (h s a b).2.1.1.2.2.2.2.2.1, fun j hj => ((h s a b).1.2.2.1 j hj).1⟩
theorem LowR.mn {S : zS} {W : zWd} {q n : Nat} {pvs : Nat → Nat → Bool} {bss : Nat → Nat → Nat → Nat} (h : LowR S W q n pvs bss) : Mn S q n (bdW W) := fun s a b => ⟨(h s a b).1.2.1, (h s a b).2.1.1.2.2.2.2.1⟩
theorem LowR.bx {S : zS} {W : zWd} {q n : Nat} {pvs : Nat → Nat → Bool} {bss : Nat → Nat → Nat → Nat} (h : LowR S W q n pvs bss) : ∀ s, 1 ≤ s → s < n → Bx S q s (FqR q W s) (RFq q W s) (tl W s).length (wP W) (pvs s) (bss s) := fun s a b => (h s a b).2.1.1
/-- the reference's cache: levels up to L -/
def RB (S : zS) (W : zWd) (q L : Nat) (pvs : Nat → Nat → Bool) (bss : Nat → Nat → Nat → Nat) : Prop := gI S 1323 0 q = nI L ∧ L ≤ 7 ∧ (∀ k, k ≤ L → tc W k ≤ 300) ∧ (0 < L → Tt S (tc W) q 11) ∧ LowR S W q (L + 1) pvs bss
/-- a world in the reference's rows, with the inverses by its prime -/
def WS (S : zS) (W : zWd) (q : Nat) : Prop := WrR S q W ∧ WL S q W ∧ gI S 1322 0 (1173 * q) = nI (wP W)
theorem WS.fr {S S1 : zS} {W : zWd} {q : Nat} (h : WS S W q) {U : Nat → Nat → Nat → Bool} (f : Fr U S S1) (t : ∀ k, U 1322 0 k = false) : WS S1 W q := ⟨h.1.fr f t, h.2.1.fr f t, (f.1 _ _ _ (t _)).trans h.2.2⟩
theorem Iv.fr {S S1 : zS} {P : Nat} (h : Iv S P) {U : Nat → Nat → Nat → Bool} (f : Fr U S S1) (t : ∀ k, U 1342 0 k = false) : Iv S1 P := fun a a1 a2 => by
  obtain ⟨b, b1, b2⟩ := h a a1 a2
  exact ⟨b, (f.1 _ _ _ (t _)).trans b1, b2⟩
/-- all that settling a level touches -/
def tLz (F RF M q n x y k : Nat) : Bool := tLf F M q n x y k || tAcR q n F RF M x y k || y == 0 && (x == 1327 && k == 8 * q + n || x == 1323 && k == q)
theorem tLz_lf {F RF M q n : Nat} (x y k : Nat) (h : tLf F M q n x y k = true) : tLz F RF M q n x y k = true := by simp [tLz, h]
theorem tLz_ac {F RF M q n : Nat} (x y k : Nat) (h : tAcR q n F RF M x y k = true) : tLz F RF M q n x y k = true := by simp [tLz, h]
theorem bfalse {b : Bool} (h : b = true → False) : b = false := by
  cases b with
  | false => rfl
  | true => exact absurd rfl h
theorem tLz_f {F RF M q n x y k : Nat} (h : x = 1322 ∨ x = 1342 ∨ x = 1334 ∨ (x = 1324 ∨ x = 1325 ∨ x = 1326 ∨ x = 1327) ∧ k ≠ 8 * q + n ∨ (x = 1328 ∨ x = 1330 ∨ x = 1332) ∧ k < F ∨ x = 1331 ∧ k < RF ∨ x = 1323 ∧ k ≠ q) : tLz F RF M q n x y k = false := bfalse fun z => by
  simp [tLz, tLf, tLiR, tPu, tPa, tPt, tSo, tAcR, tIn] at z
  omega
theorem LowR.lw {S S1 : zS} {W : zWd} (hE : Eok (wA W) (we W)) {q n M : Nat} {pvs : Nat → Nat → Bool} {bss : Nat → Nat → Nat → Nat} (h : LowR S W q n pvs bss) (f : Fr (tLz (FqR q W n) (RFq q W n) M q n) S S1) : LowR S1 W q n pvs bss := h.fr hE f (tLz_f (by omega)) (fun s a b => ⟨tLz_f (by omega), tLz_f (by omega), tLz_f (by omega), tLz_f (by omega)⟩) (fun k _ k2 => ⟨tLz_f (by omega), tLz_f (by omega), tLz_f (by omega)⟩) (fun k _ k2 => tLz_f (by omega))
def tSe (q x y k : Nat) : Bool := y == 0 && (x == 1323 && k == q || (x == 1324 || x == 1325 || x == 1326 || x == 1327) && decide (8 * q < k) && decide (k < 8 * q + 8) || (x == 1328 || x == 1330 || x == 1332) && decide (2200 * q ≤ k) && decide (k < 2200 * q + 2200) || x == 1329 && decide (15400 * q ≤ k) && decide (k < 15400 * q + 15400) || x == 1331 && decide (200000 * q ≤ k) && decide (k < 200000 * q + 200000) || x == 1341) || tTq q x y k || tPt x y k || tPa x y k || tIv x y k
theorem tSe_of {q x y k : Nat} (hy : y = 0) (h : (x = 1323 ∧ k = q) ∨ ((x = 1324 ∨ x = 1325 ∨ x = 1326 ∨ x = 1327) ∧ 8 * q < k ∧ k < 8 * q + 8) ∨ ((x = 1328 ∨ x = 1330 ∨ x = 1332) ∧ 2200 * q ≤ k ∧ k < 2200 * q + 2200) ∨ (x = 1329 ∧ 15400 * q ≤ k ∧ k < 15400 * q + 15400) ∨ (x = 1331 ∧ 200000 * q ≤ k ∧ k < 200000 * q + 200000) ∨ x = 1341) : tSe q x y k = true := by
  subst hy
  rcases h with ⟨rfl, rfl⟩ | ⟨rfl | rfl | rfl | rfl, a, b⟩ | ⟨rfl | rfl | rfl, a, b⟩ | ⟨rfl, a, b⟩ | ⟨rfl, a, b⟩ | rfl
  all_goals simp [tSe, *]
theorem tSe_lw {F RF M q n : Nat} (hF : 2200 * q ≤ F) (hFM : F + M ≤ 2200 * q + 2200) (hR : 200000 * q ≤ RF) (hRM : RF + M * M ≤ 200000 * q + 200000) (hn : 1 ≤ n) (hn7 : n ≤ 7) (x y k : Nat) (h : tLz F RF M q n x y k = true) : tSe q x y k = true := by
  have hpa : tPa x y k = true → tSe q x y k = true := fun z => by simp [tSe, z]
  have hpt : tPt x y k = true → tSe q x y k = true := fun z => by simp [tSe, z]
  unfold tLz tLf tLiR tPu tAcR at h
  simp only [Bool.or_eq_true] at h
  rcases h with ((((h | h) | h) | h) | ((h | h) | h)) | h
  · rcases h with h | h
    · exact hpa h
    · simp only [Bool.and_eq_true, Bool.or_eq_true, beq_iff_eq, decide_eq_true_eq] at h
      obtain ⟨hy, (⟨⟨hx, a⟩, b⟩ | ⟨⟨hx, a⟩, b⟩) | ⟨hx, a⟩⟩ := h
      · exact tSe_of hy (Or.inr (Or.inr (Or.inl ⟨Or.inl hx, by omega, by omega⟩)))
      · exact tSe_of hy (Or.inr (Or.inr (Or.inr (Or.inl ⟨hx, by omega, by omega⟩))))
      · exact tSe_of hy (Or.inr (Or.inl ⟨Or.inl hx, by omega, by omega⟩))
  · exact hpt h
  · simp only [tSo, Bool.and_eq_true, beq_iff_eq, decide_eq_true_eq] at h
    obtain ⟨⟨⟨hy, hx⟩, a⟩, b⟩ := h
    exact tSe_of hy (Or.inr (Or.inr (Or.inl ⟨Or.inr (Or.inl hx), by omega, by omega⟩)))
  · simp only [Bool.and_eq_true, beq_iff_eq] at h
    obtain ⟨⟨hy, hx⟩, a⟩ := h
    exact tSe_of hy (Or.inr (Or.inl ⟨Or.inr (Or.inl hx), by omega, by omega⟩))
  · simp only [tIn, Bool.and_eq_true, Bool.or_eq_true, beq_iff_eq, decide_eq_true_eq] at h
    obtain ⟨hy, ((hx | ⟨⟨hx, a⟩, b⟩) | ⟨⟨hx, a⟩, b⟩) | ⟨hx, a⟩⟩ := h
    · exact tSe_of hy (Or.inr (Or.inr (Or.inr (Or.inr (Or.inr hx)))))
    · exact tSe_of hy (Or.inr (Or.inr (Or.inr (Or.inr (Or.inl ⟨hx, by omega, by omega⟩)))))
    · exact tSe_of hy (Or.inr (Or.inr (Or.inl ⟨Or.inr (Or.inr hx), by omega, by omega⟩)))
    · exact tSe_of hy (Or.inr (Or.inl ⟨Or.inr (Or.inr (Or.inl hx)), by omega, by omega⟩))
  · exact hpt h
  · exact hpa h
  · simp only [Bool.and_eq_true, Bool.or_eq_true, beq_iff_eq] at h
    obtain ⟨hy, ⟨hx, a⟩ | ⟨hx, a⟩⟩ := h
    · exact tSe_of hy (Or.inr (Or.inl ⟨Or.inr (Or.inr (Or.inr hx)), by omega, by omega⟩))
    · exact tSe_of hy (Or.inl ⟨hx, a⟩)

