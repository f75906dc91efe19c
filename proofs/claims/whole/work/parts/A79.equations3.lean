/-! dual: equations whole -/
def tEq (a b _k : Nat) : Bool := (a == 1364 || a == 1365 || a == 1366) && b == 0
def ZL (W : zWd) (l : Nat) (x : Nat → Int) : Prop := ∀ r, r < l → Dt (wP W) (tl W 3).length (eqn W r) x
theorem ZL_succ {W : zWd} {l : Nat} {x : Nat → Int} : ZL W (l + 1) x ↔ ZL W l x ∧ Dt (wP W) (tl W 3).length (eqn W l) x := by
  constructor
  · intro h
    exact ⟨fun r hr => h r (by omega), h l (by omega)⟩
  · intro h r hr
    by_cases e : r = l
    · rw [e]; exact h.2
    · exact h.1 r (by omega)
theorem t66_q {S S1 : zS} (f : Fr t66 S S1) : Fr tEq S S1 := f.mono (fun a b k z => by simp [t66] at z; simp [tEq, z])
theorem t64_q {S S1 : zS} (f : Fr t64 S S1) : Fr tEq S S1 := f.mono (fun a b k z => by simp [t64] at z; simp [tEq, z])
theorem wqR.frq {S S1 : zS} {W : zWd} {n9 : Nat → Int64} {T : Nat → Nat → Nat → Bool} (h : wqR W (fun k => gI S 1306 0 k) n9) (f : Fr T S S1) (t : ∀ k, T 1306 0 k = false) : wqR W (fun k => gI S1 1306 0 k) n9 := by
  have e : (fun k => gI S1 1306 0 k) = fun k => gI S 1306 0 k := funext fun k => f.1 _ _ _ (t k)
  rw [e]; exact h
theorem LrR.frq {S S1 : zS} {W : zWd} {q n F : Nat} {T : Nat → Nat → Nat → Bool} (h : LrR S W q n F) (f : Fr T S S1) (t : ∀ a k, a = 1325 ∨ a = 1324 ∨ a = 1328 ∨ a = 1330 → T a 0 k = false) : LrR S1 W q n F := by
  obtain ⟨h1, h2, h3, r, h4, h5, h6⟩ := h
  exact ⟨(f.1 _ _ _ (t _ _ (by omega))).trans h1, (f.1 _ _ _ (t _ _ (by omega))).trans h2, fun j hj => ⟨(f.1 _ _ _ (t _ _ (by omega))).trans (h3 j hj).1, (h3 j hj).2⟩, r, h4, fun i hi => (f.1 _ _ _ (t _ _ (by omega))).trans (h5 i hi), h6⟩
theorem Iv.frq {S S1 : zS} {P : Nat} {T : Nat → Nat → Nat → Bool} (h : Iv S P) (f : Fr T S S1) (t : ∀ k, T 1342 0 k = false) : Iv S1 P := fun a h1 h2 => by
  obtain ⟨b, b1, b2⟩ := h a h1 h2
  exact ⟨b, (f.1 _ _ _ (t _)).trans b1, b2⟩

set_option maxRecDepth 100000 in
theorem lp_eq5 {W : zWd} (hW : Wok W) (hQ : Qd W) {n P F : Nat} (hn : n = (tl W 3).length) (hPW : P = wP W) (hn18 : n ≤ 18) (hF : F + (tl W 3).length ≤ 4400) {n9 : Nat → Int64} : ∀ (d l : Nat) (S : zS) (k : Nat) (pv : Nat → Option Nat) (g : Nat → Nat → Nat) (w5 w6 w7 w8 w9 w10 : Option zV), l + d = wL W → Sd S → k ≤ l → CI P k n (ZL W l) k n pv g → RwS S k n P g → PvS S n pv → Iv S P → wqR W (fun k => gI S 1306 0 k) n9 → LrR S W 0 3 F → Ok mX12_equations 5 [some (zr 12 0), some (zi (nI n)), some (zi (nI P)), some (zi (nI k)), some (zi (nI l)), w5, w6, w7, w8, w9, w10] [] S (fun z S1 => z = none ∧ Fr tEq S S1 ∧ ∃ k pv g, k ≤ 18 ∧ CI P k n (ZL W (wL W)) k n pv g ∧ RwS S1 k n P g ∧ PvS S1 n pv) := by
  have hL18 := hW.2.2.2.1
  have hPP := hW.1
  intro d
  induction d with
  | zero =>
    intro l S k pv g w5 w6 w7 w8 w9 w10 hl hs hkl hC hRw hPv hIv hR hLr
    obtain rfl : l = wL W := by omega
    have hwl := hR.2.2.1
    refine r_mask [true, true, true, true, true, false, false, false, false, false, false] rfl ?_
    refine r_iload (q := 7) dX12_equations_5 rfl rfl ?_
    refine r_aload_n (q := 8) dX12_equations_7 rfl rfl rfl ?_
    refine r_getr (q := 11) (some (1306, 0)) ck12 dX12_equations_8 rfl (k := 6) (by decide) wt1284 rfl (hs.e (by decide)) (hs.r (by decide) (by decide)) ?_
    refine r_iconst (q := 12) (nI 2) dX12_equations_11 rfl (by decide) ?_
    refine r_ialdN (q := 13) 3775 (by decide) rfl dX12_equations_12 rfl (hs.e (by decide)) (hs.n rfl (by decide)) (by omega) (by decide) ?_
    refine r_topi (y := nI (wL W)) hwl ?_
    refine r_icmp_geN (q := 16) (t := 442) (by omega) (by omega) dX12_equations_13 (by decide) rfl (fun h13 => ?_) (fun h13 => absurd h13 (by omega))
    refine r_return dX12_equations_442 rfl ?_
    exact ⟨rfl, Fr.rf, k, pv, g, by omega, hC, hRw, hPv⟩
  | succ d ih =>
    intro l S k pv g w5 w6 w7 w8 w9 w10 hl hs hkl hC hRw hPv hIv hR hLr
    have hwl := hR.2.2.1
    have hll : l < wL W := by omega
    have hk18 : k < 18 := by omega
    refine r_mask [true, true, true, true, true, false, false, false, false, false, false] rfl ?_
    refine r_iload (q := 7) dX12_equations_5 rfl rfl ?_
    refine r_aload_n (q := 8) dX12_equations_7 rfl rfl rfl ?_
    refine r_getr (q := 11) (some (1306, 0)) ck12 dX12_equations_8 rfl (k := 6) (by decide) wt1284 rfl (hs.e (by decide)) (hs.r (by decide) (by decide)) ?_
    refine r_iconst (q := 12) (nI 2) dX12_equations_11 rfl (by decide) ?_
    refine r_ialdN (q := 13) 3775 (by decide) rfl dX12_equations_12 rfl (hs.e (by decide)) (hs.n rfl (by decide)) (by omega) (by decide) ?_
    refine r_topi (y := nI (wL W)) hwl ?_
    refine r_icmp_geN (q := 16) (t := 442) (by omega) (by omega) dX12_equations_13 (by decide) rfl (fun h13 => absurd h13 (by omega)) (fun h13 => ?_)
    refine r_aload_n (q := 17) dX12_equations_16 rfl rfl rfl ?_
    refine r_getr (q := 20) (some (1366, 0)) ck12 dX12_equations_17 rfl (k := 66) (by decide) wt1344 rfl (hs.e (by decide)) (hs.r (by decide) (by decide)) ?_
    refine r_astore (q := 22) (L' := [some (zr 12 0), some (zi (nI n)), some (zi (nI P)), some (zi (nI k)), some (zi (nI l)), some (zr 1366 0), none, none, none, none, none]) dX12_equations_20 rfl (by decide) rfl ?_
    refine r_iconst (q := 23) (nI 0) dX12_equations_22 rfl (by decide) ?_
    refine r_istore (q := 25) (L' := [some (zr 12 0), some (zi (nI n)), some (zi (nI P)), some (zi (nI k)), some (zi (nI l)), some (zr 1366 0), some (zi (nI 0)), none, none, none, none]) dX12_equations_23 rfl (by decide) rfl ?_
    refine lp_eq25 hn18 n 0 S (by omega) hs (fun j hj => absurd hj (Nat.not_lt_zero j)) (fun S1 f1 hz1 => ?_)
    have hs1 : Sd S1 := hs.fr f1
    have hR1 := hR.frq f1 (fun _ => rfl)
    have hLr1 := hLr.frq f1 (fun a k ha => by simp [t66]; omega)
    refine r_aload_n (q := 44) dX12_equations_43 rfl rfl rfl ?_
    refine r_getr (q := 47) (some (1306, 0)) ck12 dX12_equations_44 rfl (k := 6) (by decide) wt1284 rfl (hs1.e (by decide)) (hs1.r (by decide) (by decide)) ?_
    refine r_bipush (q := 49) (nI 25) dX12_equations_47 rfl (by decide) ?_
    refine r_iload (q := 51) dX12_equations_49 rfl rfl ?_
    refine r_iaddN (q := 52) dX12_equations_51 rfl ?_
    refine r_ialdN (q := 53) 3775 (by decide) rfl dX12_equations_52 rfl (hs1.e (by decide)) (hs1.n rfl (by decide)) (by omega) (by decide) ?_
    refine r_topi (y := nI (lf W l)) (hR1.2.2.2.2.2.1 l (by omega)) ?_
    refine r_istore (q := 55) (L' := [some (zr 12 0), some (zi (nI n)), some (zi (nI P)), some (zi (nI k)), some (zi (nI l)), some (zr 1366 0), some (zi (nI (lf W l))), none, none, none, none]) dX12_equations_53 rfl (by decide) rfl ?_
    refine lp_eq55 hW hQ hn hPW hn18 hll hF (lw W l).2.length 0 S1 none none (by omega) hs1 hR1 hLr1 (fun c hc he => by obtain ⟨j, j1, _⟩ := he; exact absurd j1 (Nat.not_lt_zero j)) (fun c hc _ => hz1 c hc) (fun S2 w7 w8 f2 hrow => ?_)
    have hs2 : Sd S2 := hs1.fr f2
    have hW2 : RoS S2 n P (eqn W l) := fun j hj => ⟨hrow j hj, by rw [hPW]; exact eqn_lt hW⟩
    have hRw2 := (hRw.fr f1 (fun _ => rfl)).fr f2 (fun _ => rfl)
    have hPv2 := (hPv.fr f1 (fun _ => rfl)).fr f2 (fun _ => rfl)
    refine r_mask [true, true, true, true, true, true, true, false, false, false, false] rfl ?_
    refine r_iconst (q := 161) (nI 0) dX12_equations_160 rfl (by decide) ?_
    refine r_istore (q := 163) (L' := [some (zr 12 0), some (zi (nI n)), some (zi (nI P)), some (zi (nI k)), some (zi (nI l)), some (zr 1366 0), some (zi (nI 0)), none, none, none, none]) dX12_equations_161 rfl (by decide) rfl ?_
    refine lp_eq163 hn18 (by omega) (by omega) (by omega) hC n 0 S2 (eqn W l) none none (by omega) hs2 hRw2 hPv2 hW2 (fun d hd => absurd hd (Nat.not_lt_zero d)) (fun S3 w' w7 w8 f3 hW3 hw0 hwz => ?_)
    have hs3 : Sd S3 := hs2.fr f3
    have f03 : Fr tEq S S3 := ((t66_q f1).tr (t66_q f2)).tr (t66_q f3)
    have hRw3 := hRw2.fr f3 (fun _ => rfl)
    have hPv3 := hPv2.fr f3 (fun _ => rfl)
    have hIv3 : Iv S3 P := hIv.frq f03 (fun _ => rfl)
    refine r_mask [true, true, true, true, true, true, true, false, false, false, false] rfl ?_
    refine r_iconst (q := 254) (nI 0) dX12_equations_253 rfl (by decide) ?_
    refine r_istore (q := 256) (L' := [some (zr 12 0), some (zi (nI n)), some (zi (nI P)), some (zi (nI k)), some (zi (nI l)), some (zr 1366 0), some (zi (nI 0)), none, none, none, none]) dX12_equations_254 rfl (by decide) rfl ?_
    refine lp_eq256 hn18 (by omega) (by omega) (by omega) hs3 hW3 (fun low hl1 hl2 hl3 => ?_) n 0 (by omega) (fun i hi => absurd hi (Nat.not_lt_zero i))
    rcases hl3 with hl3 | ⟨hlow, hl4⟩
    · skip
      refine r_iload (q := 278) dX12_equations_276 rfl rfl ?_
      refine r_iload_n (q := 279) dX12_equations_278 rfl rfl rfl ?_
      refine r_icmp_neN (q := 282) (t := 285) (by omega) (by omega) dX12_equations_279 (by decide) rfl (fun h279 => absurd h279 (by omega)) (fun h279 => ?_)
      refine r_goto (q := 436) dX12_equations_282 (by decide) ?_
      refine r_iincN (q := 439) (L' := [some (zr 12 0), some (zi (nI n)), some (zi (nI P)), some (zi (nI k)), some (zi (nI (l + 1))), some (zr 1366 0), some (zi (nI low)), none, none, none, none]) 1 rfl dX12_equations_436 rfl rfl (by decide) rfl ?_
      refine r_goto (q := 5) dX12_equations_439 (by decide) ?_
      refine r_mask [true, true, true, true, true, false, false, false, false, false, false] rfl ?_
      have hZ : ∀ x, ZL W (l + 1) x ↔ ZL W l x := fun x => ZL_succ.trans ⟨fun z => z.1, fun z => ⟨z, by
        have := (hwz x ((hC.2.1 x).mp z)).mpr (Dt.zero (fun j hj => hl2 j (by omega)))
        rw [hPW, hn] at this
        exact this⟩⟩
      exact Ok.mono (ih (l + 1) S3 k pv g _ _ _ _ _ _ (by omega) hs3 (by omega) (hC.same hZ) hRw3 hPv3 hIv3 (hR.frq f03 (fun _ => rfl)) (hLr.frq f03 (fun a k ha => by simp [tEq]; omega))) (fun z S9 q => ⟨q.1, f03.tr q.2.1, q.2.2⟩)
    · obtain ⟨b, hb1, hb2, hb3⟩ := hIv3 (w' low) (by omega) (hW3 low hlow).2
      have hwl3 := (hW3 low hlow).2
      refine r_iload (q := 278) dX12_equations_276 rfl rfl ?_
      refine r_iload_n (q := 279) dX12_equations_278 rfl rfl rfl ?_
      refine r_icmp_neN (q := 282) (t := 285) (by omega) (by omega) dX12_equations_279 (by decide) rfl (fun h279 => ?_) (fun h279 => absurd h279 (by omega))
      refine r_aload_n (q := 286) dX12_equations_285 rfl rfl rfl ?_
      refine r_getr (q := 289) (some (1342, 0)) ck12 dX12_equations_286 rfl (k := 42) (by decide) wt1320 rfl (hs3.e (by decide)) (hs3.r (by decide) (by decide)) ?_
      refine r_aload (q := 291) dX12_equations_289 rfl rfl ?_
      refine r_iload (q := 293) dX12_equations_291 rfl rfl ?_
      refine r_ialdN (q := 294) 18 (by decide) rfl dX12_equations_293 rfl (hs3.e (by decide)) (hs3.n rfl (by decide)) (by omega) (by decide) ?_
      refine r_topi (y := nI (w' low)) (hW3 low hlow).1 ?_
      refine r_ialdN (q := 295) 98 (by decide) rfl dX12_equations_294 rfl (hs3.e (by decide)) (hs3.n rfl (by decide)) (by omega) (by decide) ?_
      refine r_topi (y := nI b) hb1 ?_
      refine r_istore (q := 297) (L' := [some (zr 12 0), some (zi (nI n)), some (zi (nI P)), some (zi (nI k)), some (zi (nI l)), some (zr 1366 0), some (zi (nI low)), some (zi (nI b)), none, none, none]) dX12_equations_295 rfl (by decide) rfl ?_
      refine r_iconst (q := 298) (nI 0) dX12_equations_297 rfl (by decide) ?_
      refine r_istore (q := 300) (L' := [some (zr 12 0), some (zi (nI n)), some (zi (nI P)), some (zi (nI k)), some (zi (nI l)), some (zr 1366 0), some (zi (nI low)), some (zi (nI b)), some (zi (nI 0)), none, none]) dX12_equations_298 rfl (by decide) rfl ?_
      refine lp_eq300 hn18 (by omega) (by omega) (by omega) hk18 hb2 (w := w') n 0 S3 (by omega) hs3 hW3 (fun i hi => absurd hi (Nat.not_lt_zero i)) (fun S4 f4 hy4 hu4 => ?_)
      have hs4 : Sd S4 := hs3.fr f4
      refine r_iconst (q := 335) (nI 0) dX12_equations_334 rfl (by decide) ?_
      refine r_istore (q := 337) (L' := [some (zr 12 0), some (zi (nI n)), some (zi (nI P)), some (zi (nI k)), some (zi (nI l)), some (zr 1366 0), some (zi (nI low)), some (zi (nI b)), some (zi (nI 0)), none, none]) dX12_equations_335 rfl (by decide) rfl ?_
      refine lp_eq337 hn18 (by omega) (by omega) (by omega) hk18 hlow (g := g) (u := fun j => w' j * b % P) (fun r j hr hj => (hRw r j hr hj).2) (fun j _ => Nat.mod_lt _ (by omega)) k 0 S4 none none (by omega) hs4 hu4 (fun r j hr => absurd hr (Nat.not_lt_zero r)) (fun r j _ hr hj => (hy4 r j hr hj).trans (hRw3 r j hr hj).1) (fun S5 w9 w10 f5 hu5 hr5 => ?_)
      have hs5 : Sd S5 := hs4.fr f5
      refine r_mask [true, true, true, true, true, true, true, true, true, false, false] rfl ?_
      refine r_iincN (q := 428) (L' := [some (zr 12 0), some (zi (nI n)), some (zi (nI P)), some (zi (nI (k + 1))), some (zi (nI l)), some (zr 1366 0), some (zi (nI low)), some (zi (nI b)), some (zi (nI k)), none, none]) 1 rfl dX12_equations_425 rfl rfl (by decide) rfl ?_
      refine r_aload_n (q := 429) dX12_equations_428 rfl rfl rfl ?_
      refine r_getr (q := 432) (some (1365, 0)) ck12 dX12_equations_429 rfl (k := 65) (by decide) wt1343 rfl (hs5.e (by decide)) (hs5.r (by decide) (by decide)) ?_
      refine r_iload (q := 434) dX12_equations_432 rfl rfl ?_
      refine r_iload_n (q := 435) dX12_equations_434 rfl rfl rfl ?_
      refine r_iastN (q := 436) 18 (by decide) rfl dX12_equations_435 rfl (hs5.e (by decide)) (hs5.n rfl (by decide)) (by omega) (by decide) ?_
      refine r_iincN (q := 439) (L' := [some (zr 12 0), some (zi (nI n)), some (zi (nI P)), some (zi (nI (k + 1))), some (zi (nI (l + 1))), some (zr 1366 0), some (zi (nI low)), some (zi (nI b)), some (zi (nI k)), none, none]) 1 rfl dX12_equations_436 rfl rfl (by decide) rfl ?_
      refine r_goto (q := 5) dX12_equations_439 (by decide) ?_
      refine r_mask [true, true, true, true, true, false, false, false, false, false, false] rfl ?_
      have f6 : Fr tEq S5 (sI S5 1365 0 low (nI (k + 1))) := Fr.rf.i rfl
      have f06 : Fr tEq S (sI S5 1365 0 low (nI (k + 1))) := ((f03.tr (t64_q f4)).tr (t64_q f5)).tr f6
      have hC1 : CI P (k + 1) n (ZL W (l + 1)) (k + 1) n (upv pv low (some k)) (fun r j => if r = k then w' j * b % P else rdc P (g r) (fun j => w' j * b % P) (g r low) j) := hC.add (by omega) hlow hw0 hl2 hb3 (fun x => by
        rw [ZL_succ]
        refine and_congr_right fun z => ?_
        have := hwz x ((hC.2.1 x).mp z)
        rw [hPW, hn] at this ⊢
        exact this) (fun j hj => if_pos rfl) (fun r j hr hj => by
          show (if r = k then w' j * b % P else rdc P (g r) (fun j => w' j * b % P) (g r low) j) = _
          rw [if_neg (by omega)]
          unfold rdc
          simp only [if_pos rfl, if_true])
      have hRw6 : RwS (sI S5 1365 0 low (nI (k + 1))) (k + 1) n P (fun r j => if r = k then w' j * b % P else rdc P (g r) (fun j => w' j * b % P) (g r low) j) := fun r j hr hj => by
        show gI (sI S5 1365 0 low (nI (k + 1))) 1364 0 (18 * r + j) = nI (if r = k then w' j * b % P else rdc P (g r) (fun j => w' j * b % P) (g r low) j) ∧ (if r = k then w' j * b % P else rdc P (g r) (fun j => w' j * b % P) (g r low) j) < P
        by_cases e : r = k
        · rw [if_pos e, gI_sI, if_neg (by omega), e]
          exact ⟨hu5 j hj, Nat.mod_lt _ (by omega)⟩
        · rw [if_neg e, gI_sI, if_neg (by omega)]
          exact ⟨hr5 r j (by omega) hj, Nat.mod_lt _ (by omega)⟩
      have hPv6 : PvS (sI S5 1365 0 low (nI (k + 1))) n (upv pv low (some k)) := fun c hc => by
        rw [gI_sI]
        by_cases e : c = low
        · rw [if_pos ⟨rfl, rfl, e⟩, upv, if_pos e]; rfl
        · rw [if_neg (fun z => e z.2.2), upv, if_neg e]
          exact ((f5.1 _ _ _ rfl).trans (f4.1 _ _ _ rfl)).trans (hPv3 c hc)
      exact Ok.mono (ih (l + 1) (sI S5 1365 0 low (nI (k + 1))) (k + 1) (upv pv low (some k)) _ _ _ _ _ _ _ (by omega) hs5 (by omega) hC1 hRw6 hPv6 (hIv.frq f06 (fun _ => rfl)) (hR.frq f06 (fun _ => rfl)) (hLr.frq f06 (fun a k ha => by simp [tEq]; omega))) (fun z S9 q => ⟨q.1, f06.tr q.2.1, q.2.2⟩)

set_option maxRecDepth 100000 in
theorem ok_equations {S : zS} (hs : Sd S) {W : zWd} (hW : Wok W) (hQ : Qd W) {n P F : Nat} (hn : n = (tl W 3).length) (hPW : P = wP W) (hn18 : n ≤ 18) (hF : F + (tl W 3).length ≤ 4400) {n9 : Nat → Int64} (h0 : PvS S n (fun _ => none)) (hIv : Iv S P) (hR : wqR W (fun k => gI S 1306 0 k) n9) (hLr : LrR S W 0 3 F) : Ok mX12_equations 0 (ent 11 [zr 12 0, zi (nI n), zi (nI P)]) [] S (fun z S1 => z = none ∧ Fr tEq S S1 ∧ ∃ k pv g, k ≤ 18 ∧ CI P k n (ZL W (wL W)) k n pv g ∧ RwS S1 k n P g ∧ PvS S1 n pv) := by
  show Ok mX12_equations 0 [some (zr 12 0), some (zi (nI n)), some (zi (nI P)), none, none, none, none, none, none, none, none] [] S _
  refine r_iconst (q := 1) (nI 0) dX12_equations_0 rfl (by decide) ?_
  refine r_istore_n (q := 2) (L' := [some (zr 12 0), some (zi (nI n)), some (zi (nI P)), some (zi (nI 0)), none, none, none, none, none, none, none]) dX12_equations_1 rfl rfl (by decide) rfl ?_
  refine r_iconst (q := 3) (nI 0) dX12_equations_2 rfl (by decide) ?_
  refine r_istore (q := 5) (L' := [some (zr 12 0), some (zi (nI n)), some (zi (nI P)), some (zi (nI 0)), some (zi (nI 0)), none, none, none, none, none, none]) dX12_equations_3 rfl (by decide) rfl ?_
  exact lp_eq5 hW hQ hn hPW hn18 hF (wL W) 0 S 0 (fun _ => none) (fun _ _ => 0) _ _ _ _ _ _ (by omega) hs (Nat.le_refl _) ⟨Nat.le_refl _, fun x => ⟨fun _ r hr => absurd hr (Nat.not_lt_zero r), fun _ r hr => absurd hr (Nat.not_lt_zero r)⟩, fun r j hr => absurd hr (Nat.not_lt_zero r), fun d p _ hp => absurd hp (by simp), fun p hp => absurd hp (Nat.not_lt_zero p), fun r _ hr => absurd hr (Nat.not_lt_zero r)⟩ (fun r j hr => absurd hr (Nat.not_lt_zero r)) h0 hIv hR hLr

