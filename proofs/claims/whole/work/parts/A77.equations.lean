/-! dual: the reference's rows -/
def pvJ (o : Option Nat) : Nat := match o with
  | none => 0
  | some p => p + 1
theorem Fs.two {A : Nat} {e : Nat → Nat} (h2 : ∀ a, a < A → e a = 2) : ∀ {t : List Nat} {m : Nat}, Fs A e t m → lvs t = m + acs t
  | [], m, h => by
    have h : m = 0 := h
    rw [h]
    rfl
  | k :: s, m, h => by
    obtain ⟨hm, h⟩ := h
    by_cases k0 : k = 0
    · rw [if_pos k0] at h
      have := Fs.two h2 h
      show (if k = 0 then 1 else 0) + lvs s = m + ((if k = 0 then 0 else 1) + acs s)
      rw [if_pos k0, if_pos k0]
      omega
    · rw [if_neg k0] at h
      have h3 := Fs.two h2 h.2
      rw [h2 (k - 1) (by have := h.1; omega)] at h3
      show (if k = 0 then 1 else 0) + lvs s = m + ((if k = 0 then 0 else 1) + acs s)
      rw [if_neg k0, if_neg k0]
      omega
theorem quad_5 {W : zWd} (hQ : Qd W) {t : List Nat} (ht : Tr (wA W) (we W) 3 t) : t.length = 5 := by
  have h1 := Fs.two hQ.1 ht.1
  have h2 := ht.2
  have := len_la t
  omega
theorem quad_cd {W : zWd} (hW : Wok W) (hQ : Qd W) {t : List Nat} (ht : Tr (wA W) (we W) 3 t) : cd t / 64 % 4 = t.getD 1 0 ∧ t.getD 1 0 ≤ 3 := by
  have h5 := quad_5 hQ ht
  have h3 : ∀ k, k ∈ t → k ≤ 3 := fun k hk => Nat.le_trans (ht.1.tok k hk) hW.2.1.1
  have h1 := cd_take h3 2 (by omega)
  rw [h5, cd_takeS (by omega)] at h1
  have hk := h3 _ (getD_mem1 (t := t) (i := 1) (by omega))
  have h1 : cd t / 64 = 4 * cd (t.take 1) + t.getD 1 0 := h1
  rw [h1]
  omega
theorem nmT_get : ∀ {cs : List zT}, De cs → ∀ i, i < cs.length → nmT cs (cs.getD i zd).1 = (cs.getD i zd).2
  | [], _, i, h => absurd h (Nat.not_lt_zero i)
  | p :: r, hd, 0, _ => by
    show (if p.1 = p.1 then p.2 else _) = p.2
    rw [if_pos rfl]
  | p :: r, hd, i + 1, h => by
    have h' : i < r.length := by simpa using h
    obtain ⟨h1, h2⟩ := List.pairwise_cons.mp hd
    have hm := h1 _ (mem_getD h')
    show (if p.1 = (r.getD i zd).1 then p.2 else nmT r (r.getD i zd).1) = (r.getD i zd).2
    rw [if_neg (fun z => by rw [z] at hm; exact Nat.lt_irrefl _ hm)]
    exact nmT_get h2 i h'
theorem nmT_no : ∀ {cs : List zT} {t : List Nat}, (∀ i, i < cs.length → (cs.getD i zd).1 ≠ t) → nmT cs t = 0
  | [], _, _ => rfl
  | p :: r, t, h => by
    have h0 : p.1 ≠ t := h 0 (by simp)
    rw [nmT, if_neg h0]
    exact nmT_no (fun i hi => h (i + 1) (by simpa using hi))
theorem eqn_0 {W : zWd} {l c : Nat} (h : nmT (lw W l).2 ((tl W 3).getD c []) = 0) : eqn W l c = 0 := by
  unfold eqn
  rw [h]
  split
  · rw [Nat.sub_zero, Nat.mod_self]
  · rw [Nat.zero_mod]
/-- one pivot's row taken off -/
def rdc (P : Nat) (w u : Nat → Nat) (v j : Nat) : Nat := (w j + (P - v) * u j) % P
theorem rdc_dvd {P : Nat} {w u : Nat → Nat} {v j : Nat} (hv : v < P) : (P : Int) ∣ (rdc P w u v j : Int) - ((w j : Int) - ((v * u j : Nat) : Int)) := by
  unfold rdc
  have h := mod_dvN (P := P) (a := w j + (P - v) * u j)
  refine dvd_tr h ?_
  refine ⟨(u j : Int), ?_⟩
  have e : (P - v) * u j + v * u j = P * u j := by rw [← Nat.add_mul]; congr 1; omega
  have e2 : (((P - v) * u j : Nat) : Int) + ((v * u j : Nat) : Int) = ((P * u j : Nat) : Int) := by rw [← e, Int.natCast_add]
  rw [Int.natCast_mul P (u j)] at e2
  rw [Int.natCast_add]
  omega
theorem rdc_lin {P n : Nat} {w u : Nat → Nat} {v : Nat} (hv : v < P) {x : Nat → Int} (hu : Dt P n u x) : Dt P n w x ↔ Dt P n (rdc P w u v) x := by
  constructor
  · intro hw
    refine Dt.lin (k := 1) (m := -(v : Int)) (b := w) (d := u) (fun j hj => ?_) hw hu
    rw [Int.one_mul, Int.neg_mul, ← Int.sub_eq_add_neg, ← Int.natCast_mul]
    exact rdc_dvd hv
  · intro hw
    refine Dt.lin (k := 1) (m := (v : Int)) (b := rdc P w u v) (d := u) (fun j hj => ?_) hw hu
    have := dvd_sy (rdc_dvd (w := w) (u := u) (j := j) hv)
    rw [Int.one_mul, ← Int.natCast_mul]
    rw [show (w j : Int) - ((rdc P w u v j : Int) + ((v * u j : Nat) : Int)) = (w j : Int) - ((v * u j : Nat) : Int) - (rdc P w u v j : Int) by omega]
    exact this
theorem rdc_0 {P : Nat} {w u : Nat → Nat} {v j : Nat} (hw : w j < P) (hu : u j = 0) : rdc P w u v j = w j := by
  unfold rdc
  rw [hu, Nat.mul_zero, Nat.add_zero, Nat.mod_eq_of_lt hw]
theorem rdc_1 {P : Nat} {w u : Nat → Nat} {v j : Nat} (hv : w j = v) (hvP : v < P) (hu : u j = 1) : rdc P w u v j = 0 := by
  unfold rdc
  rw [hu, Nat.mul_one, hv, show v + (P - v) = P by omega, Nat.mod_self]
/-- one equation more -/
theorem CI.add {P n : Nat} (hP : 2 ≤ P) {Z Z' : (Nat → Int) → Prop} {k : Nat} {pv : Nat → Option Nat} {g : Nat → Nat → Nat} (h : CI P k n Z k n pv g) {w : Nat → Nat} {low i : Nat} (hl : low < n) (hw0 : ∀ d, d < n → pv d ≠ none → w d = 0) (hlo : ∀ j, j < low → w j = 0) (hi : i * w low % P = 1) (hZ : ∀ x, Z' x ↔ Z x ∧ Dt P n w x) {g' : Nat → Nat → Nat} (e1 : ∀ j, j < n → g' k j = w j * i % P) (e2 : ∀ r j, r < k → j < n → g' r j = rdc P (g r) (g' k) (g r low) j) : CI P (k + 1) n Z' (k + 1) n (upv pv low (some k)) g' := by
  obtain ⟨h1, h2, h3, h4, h5, h6⟩ := h
  have hwl : w low ≠ 0 := fun z => by rw [z, Nat.mul_zero, Nat.zero_mod] at hi; cases hi
  have pl : pv low = none := by
    cases q : pv low with
    | none => rfl
    | some p => exact absurd (hw0 low hl (by rw [q]; exact fun z => nomatch z)) hwl
  have u1 : g' k low = 1 := by rw [e1 low hl, Nat.mul_comm]; exact hi
  have u0 : ∀ j, j < n → w j = 0 → g' k j = 0 := fun j hj z => by rw [e1 j hj, z, Nat.zero_mul, Nat.zero_mod]
  have r0 : ∀ r j, r < k → j < n → g' k j = 0 → g' r j = g r j := fun r j hr hj z => by rw [e2 r j hr hj]; exact rdc_0 (h3 r j hr hj) z
  have rl : ∀ r, r < k → g' r low = 0 := fun r hr => by rw [e2 r low hr hl]; exact rdc_1 rfl (h3 r low hr hl) u1
  have bd : ∀ r j, r < k + 1 → j < n → g' r j < P := fun r j hr hj => by
    by_cases e : r = k
    · rw [e, e1 j hj]; exact Nat.mod_lt _ (by omega)
    · rw [e2 r j (by omega) hj]; exact Nat.mod_lt _ (by omega)
  have uw : ∀ x, Dt P n w x ↔ Dt P n (g' k) x := fun x => by
    constructor
    · intro q
      refine Dt.lin (k := (i : Int)) (m := 0) (b := w) (d := w) (fun j hj => ?_) q q
      rw [e1 j hj, Int.zero_mul, Int.add_zero]
      have := mod_dvN (P := P) (a := w j * i)
      rw [Int.natCast_mul, Int.mul_comm (w j : Int) (i : Int)] at this
      exact this
    · intro q
      refine Dt.lin (k := (w low : Int)) (m := 0) (b := g' k) (d := g' k) (fun j hj => ?_) q q
      rw [Int.zero_mul, Int.add_zero, e1 j hj]
      have a1 : (P : Int) ∣ ((i * w low : Nat) : Int) - 1 := by
        have := mod_dvN (P := P) (a := i * w low)
        rw [hi] at this
        exact dvd_sy this
      have a2 : (P : Int) ∣ (w low : Int) * ((w j * i % P : Nat) : Int) - (w low : Int) * ((i : Int) * (w j : Int)) := dvd_mulL (by
        have := mod_dvN (P := P) (a := w j * i)
        rw [Int.natCast_mul, Int.mul_comm (w j : Int) (i : Int)] at this
        exact this)
      have a3 : (P : Int) ∣ (w low : Int) * ((i : Int) * (w j : Int)) - (w j : Int) := by
        have := dvd_mulR (k := (w j : Int)) a1
        rw [Int.one_mul, Int.natCast_mul, Int.mul_comm (i : Int) (w low : Int), Int.mul_assoc] at this
        exact this
      exact dvd_sy (dvd_tr a2 a3)
  refine ⟨Nat.le_refl _, fun x => (hZ x).trans ⟨fun q r hr => ?_, fun q => ⟨(h2 x).mpr fun r hr => ?_, (uw x).mpr (q k (by omega))⟩⟩, bd, fun d p hd hp => ?_, fun p hp => ?_, fun r hr hr2 => absurd hr2 (by omega)⟩
  · have qk := (uw x).mp q.2
    by_cases e : r = k
    · rw [e]; exact qk
    · exact (Dt.cg (fun j hj => e2 r j (by omega) hj)).mpr ((rdc_lin (h3 r low (by omega) hl) qk).mp ((h2 x).mp q.1 r (by omega)))
  · have qk := q k (by omega)
    exact (rdc_lin (h3 r low hr hl) qk).mpr ((Dt.cg (fun j hj => e2 r j hr hj)).mp (q r (by omega)))
  · by_cases e : d = low
    · rw [upv, if_pos e] at hp
      have ek : k = p := Option.some.inj hp
      rw [e, ← ek]
      exact ⟨by omega, u1, fun r hr hn => rl r (by omega), fun j hj => u0 j (by omega) (hlo j hj)⟩
    · rw [upv, if_neg e] at hp
      obtain ⟨a1, a2, a3, a4⟩ := h4 d p hd hp
      have ud : g' k d = 0 := u0 d hd (hw0 d hd (by rw [hp]; exact fun z => nomatch z))
      refine ⟨by omega, by rw [r0 p d a1 hd ud]; exact a2, fun r hr hn => ?_, fun j hj => ?_⟩
      · by_cases e3 : r = k
        · rw [e3]; exact ud
        · rw [r0 r d (by omega) hd ud]; exact a3 r (by omega) hn
      · rcases Nat.lt_or_gt_of_ne e with y | y
        · rw [r0 p j a1 (by omega) (u0 j (by omega) (hlo j (by omega)))]; exact a4 j hj
        · rw [e2 p j a1 (by omega)]
          unfold rdc
          rw [a4 low y, a4 j hj, Nat.sub_zero, Nat.zero_add, Nat.mul_mod_right]
  · by_cases e : p = k
    · exact ⟨low, hl, by rw [upv, if_pos rfl, e]⟩
    · obtain ⟨d, d1, d2⟩ := h5 p (by omega)
      exact ⟨d, d1, by rw [upv, if_neg (fun z => by rw [z, pl] at d2; cases d2)]; exact d2⟩
theorem CI.same {P n : Nat} {Z Z' : (Nat → Int) → Prop} {k : Nat} {pv : Nat → Option Nat} {g : Nat → Nat → Nat} (h : CI P k n Z k n pv g) (hZ : ∀ x, Z' x ↔ Z x) : CI P k n Z' k n pv g := ⟨h.1, fun x => (hZ x).trans (h.2.1 x), h.2.2⟩

def t66 (a b _k : Nat) : Bool := a == 1366 && b == 0
def t64 (a b _k : Nat) : Bool := a == 1364 && b == 0

set_option maxRecDepth 100000 in
theorem lp_eq25 {n P k l : Nat} (hn18 : n ≤ 18) {Po : Option zV → zS → Prop} : ∀ (d i : Nat) (S : zS), i + d = n → Sd S → (∀ j, j < i → gI S 1366 0 j = nI 0) → (∀ S1, Fr t66 S S1 → (∀ j, j < n → gI S1 1366 0 j = nI 0) → Ok mX12_equations 43 [some (zr 12 0), some (zi (nI n)), some (zi (nI P)), some (zi (nI k)), some (zi (nI l)), some (zr 1366 0), some (zi (nI n)), none, none, none, none] [] S1 Po) → Ok mX12_equations 25 [some (zr 12 0), some (zi (nI n)), some (zi (nI P)), some (zi (nI k)), some (zi (nI l)), some (zr 1366 0), some (zi (nI i)), none, none, none, none] [] S Po := by
  intro d
  induction d with
  | zero =>
    intro i S hi hs hlo K
    obtain rfl : n = i := by omega
    refine r_iload (q := 27) dX12_equations_25 rfl rfl ?_
    refine r_iload_n (q := 28) dX12_equations_27 rfl rfl rfl ?_
    refine r_icmp_geN (q := 31) (t := 43) (by omega) (by omega) dX12_equations_28 (by decide) rfl (fun h28 => ?_) (fun h28 => absurd h28 (by omega))
    exact K S Fr.rf hlo
  | succ d ih =>
    intro i S hi hs hlo K
    refine r_iload (q := 27) dX12_equations_25 rfl rfl ?_
    refine r_iload_n (q := 28) dX12_equations_27 rfl rfl rfl ?_
    refine r_icmp_geN (q := 31) (t := 43) (by omega) (by omega) dX12_equations_28 (by decide) rfl (fun h28 => absurd h28 (by omega)) (fun h28 => ?_)
    refine r_aload (q := 33) dX12_equations_31 rfl rfl ?_
    refine r_iload (q := 35) dX12_equations_33 rfl rfl ?_
    refine r_iconst (q := 36) (nI 0) dX12_equations_35 rfl (by decide) ?_
    refine r_iastN (q := 37) 18 (by decide) rfl dX12_equations_36 rfl (hs.e (by decide)) (hs.n rfl (by decide)) (by omega) (by decide) ?_
    refine r_iincN (q := 40) (L' := [some (zr 12 0), some (zi (nI n)), some (zi (nI P)), some (zi (nI k)), some (zi (nI l)), some (zr 1366 0), some (zi (nI (i + 1))), none, none, none, none]) 1 rfl dX12_equations_37 rfl rfl (by decide) rfl ?_
    refine r_goto (q := 25) dX12_equations_40 (by decide) ?_
    have f1 : Fr t66 S (sI S 1366 0 i (nI 0)) := Fr.rf.i rfl
    refine ih (i + 1) (sI S 1366 0 i (nI 0)) (by omega) hs (fun j hj => ?_) (fun S1 f2 z => K S1 (f1.tr f2) z)
    rw [gI_sI]
    by_cases e : j = i
    · rw [if_pos ⟨rfl, rfl, e⟩]
    · rw [if_neg (fun z => e z.2.2)]; exact hlo j (by omega)

set_option maxRecDepth 100000 in
theorem lp_eq55 {W : zWd} (hW : Wok W) (hQ : Qd W) {n P k l F : Nat} (hn : n = (tl W 3).length) (hPW : P = wP W) (hn18 : n ≤ 18) (hl : l < wL W) (hF : F + (tl W 3).length ≤ 4400) {n9 : Nat → Int64} {Po : Option zV → zS → Prop} : ∀ (d i : Nat) (S : zS) (w7 w8 : Option zV), i + d = (lw W l).2.length → Sd S → wqR W (fun k => gI S 1306 0 k) n9 → LrR S W 0 3 F → (∀ c, c < n → (∃ j, j < i ∧ ((lw W l).2.getD j zd).1 = (tl W 3).getD c []) → gI S 1366 0 c = nI (eqn W l c)) → (∀ c, c < n → (∀ j, j < i → ((lw W l).2.getD j zd).1 ≠ (tl W 3).getD c []) → gI S 1366 0 c = nI 0) → (∀ S1 w7 w8, Fr t66 S S1 → (∀ c, c < n → gI S1 1366 0 c = nI (eqn W l c)) → Ok mX12_equations 160 [some (zr 12 0), some (zi (nI n)), some (zi (nI P)), some (zi (nI k)), some (zi (nI l)), some (zr 1366 0), some (zi (nI (lf W l + (lw W l).2.length))), w7, w8, none, none] [] S1 Po) → Ok mX12_equations 55 [some (zr 12 0), some (zi (nI n)), some (zi (nI P)), some (zi (nI k)), some (zi (nI l)), some (zr 1366 0), some (zi (nI (lf W l + i))), w7, w8, none, none] [] S Po := by
  have hL18 := hW.2.2.2.1
  have hlf := hW.lf2 hl
  have hPP := hW.1
  have hce := (hW.2.2.2.2.2 l hl).2.2
  rw [hQ.2 l hl] at hce
  intro d
  induction d with
  | zero =>
    intro i S w7 w8 hi hs hR hLr hy hz K
    obtain rfl : i = (lw W l).2.length := by omega
    have hto : gI S 1306 0 (25 + (l + 1)) = nI (lf W l + (lw W l).2.length) := (hR.2.2.2.2.2.1 (l + 1) (by omega)).trans (by rw [lf_succ hl])
    have key : ∀ c, c < n → gI S 1366 0 c = nI (eqn W l c) := fun c hc => by
      by_cases e : ∃ j, j < (lw W l).2.length ∧ ((lw W l).2.getD j zd).1 = (tl W 3).getD c []
      · exact hy c hc e
      · rw [eqn_0 (nmT_no (fun j hj z => e ⟨j, hj, z⟩))]
        exact hz c hc (fun j hj z => e ⟨j, hj, z⟩)
    refine r_mask [true, true, true, true, true, true, true, false, false, false, false] rfl ?_
    refine r_iload (q := 57) dX12_equations_55 rfl rfl ?_
    refine r_aload_n (q := 58) dX12_equations_57 rfl rfl rfl ?_
    refine r_getr (q := 61) (some (1306, 0)) ck12 dX12_equations_58 rfl (k := 6) (by decide) wt1284 rfl (hs.e (by decide)) (hs.r (by decide) (by decide)) ?_
    refine r_bipush (q := 63) (nI 25) dX12_equations_61 rfl (by decide) ?_
    refine r_iload (q := 65) dX12_equations_63 rfl rfl ?_
    refine r_iaddN (q := 66) dX12_equations_65 rfl ?_
    refine r_iconst (q := 67) (nI 1) dX12_equations_66 rfl (by decide) ?_
    refine r_iaddN (q := 68) dX12_equations_67 rfl ?_
    refine r_topi (y := nI (25 + (l + 1))) rfl ?_
    refine r_ialdN (q := 69) 3775 (by decide) rfl dX12_equations_68 rfl (hs.e (by decide)) (hs.n rfl (by decide)) (by omega) (by decide) ?_
    refine r_topi (y := nI (lf W l + (lw W l).2.length)) hto ?_
    refine r_icmp_geN (q := 72) (t := 160) (by omega) (by omega) dX12_equations_69 (by decide) rfl (fun h69 => ?_) (fun h69 => absurd h69 (by omega))
    exact K S none none Fr.rf key
  | succ d ih =>
    intro i S w7 w8 hi hs hR hLr hy hz K
    have hil : i < (lw W l).2.length := by omega
    have hto : gI S 1306 0 (25 + (l + 1)) = nI (lf W l + (lw W l).2.length) := (hR.2.2.2.2.2.1 (l + 1) (by omega)).trans (by rw [lf_succ hl])
    obtain ⟨hk1, hk2⟩ := hR.2.2.2.2.2.2 l i hl hil
    obtain ⟨htr, hnum⟩ := hce.1.2 _ (mem_getD hil)
    obtain ⟨ix, hix, hixe⟩ := mem_idx ((tl_mem hW.2.1).mpr htr)
    obtain ⟨l1, l2, l3, r, l4, l5⟩ := id hLr
    have hpl := ok_place (q := 0) (n := 3) (by omega) (by omega) (show (tl W 3).length ≤ 300 by omega) hF hs l1 l2 l3 l4 l5 hix
    rw [hixe] at hpl
    obtain ⟨q1, q2⟩ := quad_cd hW hQ htr
    have h29 : cd ((lw W l).2.getD i zd).1 < 2 ^ 29 := cd_le (fun k hk => Nat.le_trans (htr.1.tok k hk) hW.2.1.1) (by have := quad_5 hQ htr; omega)
    have hnm : nmT (lw W l).2 ((tl W 3).getD ix []) = ((lw W l).2.getD i zd).2 := by rw [hixe]; exact nmT_get hce.1.1 i hil
    have STEP : ∀ S1, S1 = sI S 1366 0 ix (nI (eqn W l ix)) → (∀ c, c < n → (∃ j, j < i + 1 ∧ ((lw W l).2.getD j zd).1 = (tl W 3).getD c []) → gI S1 1366 0 c = nI (eqn W l c)) ∧ (∀ c, c < n → (∀ j, j < i + 1 → ((lw W l).2.getD j zd).1 ≠ (tl W 3).getD c []) → gI S1 1366 0 c = nI 0) := fun S1 e1 => by
      subst e1
      refine ⟨fun c hc he => ?_, fun c hc he => ?_⟩
      · rw [gI_sI]
        by_cases e : c = ix
        · rw [if_pos ⟨rfl, rfl, e⟩, e]
        · rw [if_neg (fun z => e z.2.2)]
          obtain ⟨j, j1, j2⟩ := he
          refine hy c hc ⟨j, ?_, j2⟩
          by_cases ej : j = i
          · rw [ej, ← hixe] at j2
            exact absurd (getD_inj tl_nodup (by omega) hix j2.symm) e
          · omega
      · have e : c ≠ ix := fun z => he i (by omega) (by rw [z]; exact hixe.symm)
        rw [gI_sI, if_neg (fun z => e z.2.2)]
        exact hz c hc (fun j hj => he j (by omega))
    refine r_mask [true, true, true, true, true, true, true, false, false, false, false] rfl ?_
    by_cases k0 : (((lw W l).2.getD i zd).1).getD 1 0 = 0
    · have hev : (P - ((lw W l).2.getD i zd).2) % P = eqn W l ix := by unfold eqn; rw [hixe, if_pos k0, ← hixe, hnm, hPW]
      refine r_iload (q := 57) dX12_equations_55 rfl rfl ?_
      refine r_aload_n (q := 58) dX12_equations_57 rfl rfl rfl ?_
      refine r_getr (q := 61) (some (1306, 0)) ck12 dX12_equations_58 rfl (k := 6) (by decide) wt1284 rfl (hs.e (by decide)) (hs.r (by decide) (by decide)) ?_
      refine r_bipush (q := 63) (nI 25) dX12_equations_61 rfl (by decide) ?_
      refine r_iload (q := 65) dX12_equations_63 rfl rfl ?_
      refine r_iaddN (q := 66) dX12_equations_65 rfl ?_
      refine r_iconst (q := 67) (nI 1) dX12_equations_66 rfl (by decide) ?_
      refine r_iaddN (q := 68) dX12_equations_67 rfl ?_
      refine r_topi (y := nI (25 + (l + 1))) rfl ?_
      refine r_ialdN (q := 69) 3775 (by decide) rfl dX12_equations_68 rfl (hs.e (by decide)) (hs.n rfl (by decide)) (by omega) (by decide) ?_
      refine r_topi (y := nI (lf W l + (lw W l).2.length)) hto ?_
      refine r_icmp_geN (q := 72) (t := 160) (by omega) (by omega) dX12_equations_69 (by decide) rfl (fun h69 => absurd h69 (by omega)) (fun h69 => ?_)
      refine r_aload_n (q := 73) dX12_equations_72 rfl rfl rfl ?_
      refine r_iconst (q := 74) (nI 0) dX12_equations_73 rfl (by decide) ?_
      refine r_iconst (q := 75) (nI 3) dX12_equations_74 rfl (by decide) ?_
      refine r_aload_n (q := 76) dX12_equations_75 rfl rfl rfl ?_
      refine r_getr (q := 79) (some (1306, 0)) ck12 dX12_equations_76 rfl (k := 6) (by decide) wt1284 rfl (hs.e (by decide)) (hs.r (by decide) (by decide)) ?_
      refine r_bipush (q := 81) (nI 44) dX12_equations_79 rfl (by decide) ?_
      refine r_iload (q := 83) dX12_equations_81 rfl rfl ?_
      refine r_iaddN (q := 84) dX12_equations_83 rfl ?_
      refine r_ialdN (q := 85) 3775 (by decide) rfl dX12_equations_84 rfl (hs.e (by decide)) (hs.n rfl (by decide)) (by omega) (by decide) ?_
      refine r_topi (y := nI (cd ((lw W l).2.getD i zd).1)) hk1 ?_
      refine r_callV (Mc := mX12_place) (q := 88) (As := [zi (nI 0), zi (nI 3), zi (nI (cd ((lw W l).2.getD i zd).1))]) (st := []) ck12 dX12_equations_85 rfl rfl mkX12_place wt1816 wt1818 wp114 rfl (Nat.le_of_ble_eq_true rfl) (Nat.le_of_ble_eq_true rfl) (by decide) (by decide) (by decide) (Or.inl rfl) (hs.e (by decide)) hpl (fun r85 S85 hp85 => ?_)
      obtain ⟨rfl, hq85⟩ := hp85
      rw [hq85]
      show Ok _ _ _ [zi (nI ix)] _ _
      refine r_istore (q := 90) (L' := [some (zr 12 0), some (zi (nI n)), some (zi (nI P)), some (zi (nI k)), some (zi (nI l)), some (zr 1366 0), some (zi (nI (lf W l + i))), some (zi (nI ix)), none, none, none]) dX12_equations_88 rfl (by decide) rfl ?_
      refine r_aload_n (q := 91) dX12_equations_90 rfl rfl rfl ?_
      refine r_getr (q := 94) (some (1306, 0)) ck12 dX12_equations_91 rfl (k := 6) (by decide) wt1284 rfl (hs.e (by decide)) (hs.r (by decide) (by decide)) ?_
      refine r_bipush (q := 96) (nI 44) dX12_equations_94 rfl (by decide) ?_
      refine r_iload (q := 98) dX12_equations_96 rfl rfl ?_
      refine r_iaddN (q := 99) dX12_equations_98 rfl ?_
      refine r_ialdN (q := 100) 3775 (by decide) rfl dX12_equations_99 rfl (hs.e (by decide)) (hs.n rfl (by decide)) (by omega) (by decide) ?_
      refine r_topi (y := nI (cd ((lw W l).2.getD i zd).1)) hk1 ?_
      refine r_bipush (q := 102) (nI 6) dX12_equations_100 rfl (by decide) ?_
      refine r_ishr (q := 103) dX12_equations_102 rfl ?_
      refine r_topi (y := nI ((cd ((lw W l).2.getD i zd).1) / 64)) (pk_shrN (show cd ((lw W l).2.getD i zd).1 < 2 ^ 31 by omega) _ 6 (by decide)) ?_
      refine r_iconst (q := 104) (nI 3) dX12_equations_103 rfl (by decide) ?_
      refine r_iand (q := 105) dX12_equations_104 rfl ?_
      refine r_topi (y := nI ((((lw W l).2.getD i zd).1).getD 1 0)) ((pk_andN (show cd ((lw W l).2.getD i zd).1 / 64 < 2 ^ 32 by omega) 2 (by decide)).trans (congrArg nI q1)) ?_
      refine r_if_leN (q := 108) (t := 112) (by omega) dX12_equations_105 (by decide) rfl (fun h105 => ?_) (fun h105 => absurd h105 (by omega))
      refine r_iconst (q := 113) (nI 0) dX12_equations_112 rfl (by decide) ?_
      refine r_istore (q := 115) (L' := [some (zr 12 0), some (zi (nI n)), some (zi (nI P)), some (zi (nI k)), some (zi (nI l)), some (zr 1366 0), some (zi (nI (lf W l + i))), some (zi (nI ix)), some (zi (nI 0)), none, none]) dX12_equations_113 rfl (by decide) rfl ?_
      refine r_aload (q := 117) dX12_equations_115 rfl rfl ?_
      refine r_iload (q := 119) dX12_equations_117 rfl rfl ?_
      refine r_iload (q := 121) dX12_equations_119 rfl rfl ?_
      refine r_if_eqN (q := 124) (t := 138) (by omega) dX12_equations_121 (by decide) rfl (fun h121 => ?_) (fun h121 => absurd h121 (by omega))
      refine r_iload_n (q := 139) dX12_equations_138 rfl rfl rfl ?_
      refine r_aload_n (q := 140) dX12_equations_139 rfl rfl rfl ?_
      refine r_getr (q := 143) (some (1306, 0)) ck12 dX12_equations_140 rfl (k := 6) (by decide) wt1284 rfl (hs.e (by decide)) (hs.r (by decide) (by decide)) ?_
      refine r_sipush (q := 146) (nI 244) dX12_equations_143 rfl (by decide) ?_
      refine r_iload (q := 148) dX12_equations_146 rfl rfl ?_
      refine r_iaddN (q := 149) dX12_equations_148 rfl ?_
      refine r_ialdN (q := 150) 3775 (by decide) rfl dX12_equations_149 rfl (hs.e (by decide)) (hs.n rfl (by decide)) (by omega) (by decide) ?_
      refine r_topi (y := nI (((lw W l).2.getD i zd).2)) hk2 ?_
      refine r_isubN (q := 151) (by omega) dX12_equations_150 rfl ?_
      refine r_iload_n (q := 152) dX12_equations_151 rfl rfl rfl ?_
      refine r_iremN (q := 153) (by omega) (by omega) (by omega) dX12_equations_152 rfl ?_
      refine r_topi (y := nI (eqn W l ix)) (congrArg nI hev) ?_
      refine r_iastN (q := 154) 18 (by decide) rfl dX12_equations_153 rfl (hs.e (by decide)) (hs.n rfl (by decide)) (by omega) (by decide) ?_
      refine r_iincN (q := 157) (L' := [some (zr 12 0), some (zi (nI n)), some (zi (nI P)), some (zi (nI k)), some (zi (nI l)), some (zr 1366 0), some (zi (nI (lf W l + i + 1))), some (zi (nI ix)), some (zi (nI 0)), none, none]) 1 rfl dX12_equations_154 rfl rfl (by decide) rfl ?_
      refine r_goto (q := 55) dX12_equations_157 (by decide) ?_
      obtain ⟨a1, a2⟩ := STEP _ rfl
      have f1 : Fr t66 S (sI S 1366 0 ix (nI (eqn W l ix))) := Fr.rf.i rfl
      refine ih (i + 1) (sI S 1366 0 ix (nI (eqn W l ix))) _ _ (by omega) hs hR ⟨l1, l2, l3, r, l4, l5⟩ a1 a2 (fun S1 w7 w8 f2 z => K S1 w7 w8 (f1.tr f2) z)
    · have hev : ((lw W l).2.getD i zd).2 = eqn W l ix := by
        unfold eqn
        rw [hixe, if_neg k0, ← hixe, hnm, Nat.mod_eq_of_lt hnum]
      refine r_iload (q := 57) dX12_equations_55 rfl rfl ?_
      refine r_aload_n (q := 58) dX12_equations_57 rfl rfl rfl ?_
      refine r_getr (q := 61) (some (1306, 0)) ck12 dX12_equations_58 rfl (k := 6) (by decide) wt1284 rfl (hs.e (by decide)) (hs.r (by decide) (by decide)) ?_
      refine r_bipush (q := 63) (nI 25) dX12_equations_61 rfl (by decide) ?_
      refine r_iload (q := 65) dX12_equations_63 rfl rfl ?_
      refine r_iaddN (q := 66) dX12_equations_65 rfl ?_
      refine r_iconst (q := 67) (nI 1) dX12_equations_66 rfl (by decide) ?_
      refine r_iaddN (q := 68) dX12_equations_67 rfl ?_
      refine r_topi (y := nI (25 + (l + 1))) rfl ?_
      refine r_ialdN (q := 69) 3775 (by decide) rfl dX12_equations_68 rfl (hs.e (by decide)) (hs.n rfl (by decide)) (by omega) (by decide) ?_
      refine r_topi (y := nI (lf W l + (lw W l).2.length)) hto ?_
      refine r_icmp_geN (q := 72) (t := 160) (by omega) (by omega) dX12_equations_69 (by decide) rfl (fun h69 => absurd h69 (by omega)) (fun h69 => ?_)
      refine r_aload_n (q := 73) dX12_equations_72 rfl rfl rfl ?_
      refine r_iconst (q := 74) (nI 0) dX12_equations_73 rfl (by decide) ?_
      refine r_iconst (q := 75) (nI 3) dX12_equations_74 rfl (by decide) ?_
      refine r_aload_n (q := 76) dX12_equations_75 rfl rfl rfl ?_
      refine r_getr (q := 79) (some (1306, 0)) ck12 dX12_equations_76 rfl (k := 6) (by decide) wt1284 rfl (hs.e (by decide)) (hs.r (by decide) (by decide)) ?_
      refine r_bipush (q := 81) (nI 44) dX12_equations_79 rfl (by decide) ?_
      refine r_iload (q := 83) dX12_equations_81 rfl rfl ?_
      refine r_iaddN (q := 84) dX12_equations_83 rfl ?_
      refine r_ialdN (q := 85) 3775 (by decide) rfl dX12_equations_84 rfl (hs.e (by decide)) (hs.n rfl (by decide)) (by omega) (by decide) ?_
      refine r_topi (y := nI (cd ((lw W l).2.getD i zd).1)) hk1 ?_
      refine r_callV (Mc := mX12_place) (q := 88) (As := [zi (nI 0), zi (nI 3), zi (nI (cd ((lw W l).2.getD i zd).1))]) (st := []) ck12 dX12_equations_85 rfl rfl mkX12_place wt1816 wt1818 wp114 rfl (Nat.le_of_ble_eq_true rfl) (Nat.le_of_ble_eq_true rfl) (by decide) (by decide) (by decide) (Or.inl rfl) (hs.e (by decide)) hpl (fun r85 S85 hp85 => ?_)
      obtain ⟨rfl, hq85⟩ := hp85
      rw [hq85]
      show Ok _ _ _ [zi (nI ix)] _ _
      refine r_istore (q := 90) (L' := [some (zr 12 0), some (zi (nI n)), some (zi (nI P)), some (zi (nI k)), some (zi (nI l)), some (zr 1366 0), some (zi (nI (lf W l + i))), some (zi (nI ix)), none, none, none]) dX12_equations_88 rfl (by decide) rfl ?_
      refine r_aload_n (q := 91) dX12_equations_90 rfl rfl rfl ?_
      refine r_getr (q := 94) (some (1306, 0)) ck12 dX12_equations_91 rfl (k := 6) (by decide) wt1284 rfl (hs.e (by decide)) (hs.r (by decide) (by decide)) ?_
      refine r_bipush (q := 96) (nI 44) dX12_equations_94 rfl (by decide) ?_
      refine r_iload (q := 98) dX12_equations_96 rfl rfl ?_
      refine r_iaddN (q := 99) dX12_equations_98 rfl ?_
      refine r_ialdN (q := 100) 3775 (by decide) rfl dX12_equations_99 rfl (hs.e (by decide)) (hs.n rfl (by decide)) (by omega) (by decide) ?_
      refine r_topi (y := nI (cd ((lw W l).2.getD i zd).1)) hk1 ?_
      refine r_bipush (q := 102) (nI 6) dX12_equations_100 rfl (by decide) ?_
      refine r_ishr (q := 103) dX12_equations_102 rfl ?_
      refine r_topi (y := nI ((cd ((lw W l).2.getD i zd).1) / 64)) (pk_shrN (show cd ((lw W l).2.getD i zd).1 < 2 ^ 31 by omega) _ 6 (by decide)) ?_
      refine r_iconst (q := 104) (nI 3) dX12_equations_103 rfl (by decide) ?_
      refine r_iand (q := 105) dX12_equations_104 rfl ?_
      refine r_topi (y := nI ((((lw W l).2.getD i zd).1).getD 1 0)) ((pk_andN (show cd ((lw W l).2.getD i zd).1 / 64 < 2 ^ 32 by omega) 2 (by decide)).trans (congrArg nI q1)) ?_
      refine r_if_leN (q := 108) (t := 112) (by omega) dX12_equations_105 (by decide) rfl (fun h105 => absurd h105 (by omega)) (fun h105 => ?_)
      refine r_iconst (q := 109) (nI 1) dX12_equations_108 rfl (by decide) ?_
      refine r_goto (q := 113) dX12_equations_109 (by decide) ?_
      refine r_istore (q := 115) (L' := [some (zr 12 0), some (zi (nI n)), some (zi (nI P)), some (zi (nI k)), some (zi (nI l)), some (zr 1366 0), some (zi (nI (lf W l + i))), some (zi (nI ix)), some (zi (nI 1)), none, none]) dX12_equations_113 rfl (by decide) rfl ?_
      refine r_aload (q := 117) dX12_equations_115 rfl rfl ?_
      refine r_iload (q := 119) dX12_equations_117 rfl rfl ?_
      refine r_iload (q := 121) dX12_equations_119 rfl rfl ?_
      refine r_if_eqN (q := 124) (t := 138) (by omega) dX12_equations_121 (by decide) rfl (fun h121 => absurd h121 (by omega)) (fun h121 => ?_)
      refine r_aload_n (q := 125) dX12_equations_124 rfl rfl rfl ?_
      refine r_getr (q := 128) (some (1306, 0)) ck12 dX12_equations_125 rfl (k := 6) (by decide) wt1284 rfl (hs.e (by decide)) (hs.r (by decide) (by decide)) ?_
      refine r_sipush (q := 131) (nI 244) dX12_equations_128 rfl (by decide) ?_
      refine r_iload (q := 133) dX12_equations_131 rfl rfl ?_
      refine r_iaddN (q := 134) dX12_equations_133 rfl ?_
      refine r_ialdN (q := 135) 3775 (by decide) rfl dX12_equations_134 rfl (hs.e (by decide)) (hs.n rfl (by decide)) (by omega) (by decide) ?_
      refine r_topi (y := nI (((lw W l).2.getD i zd).2)) hk2 ?_
      refine r_goto (q := 153) dX12_equations_135 (by decide) ?_
      refine r_topi (y := nI (eqn W l ix)) (congrArg nI hev) ?_
      refine r_iastN (q := 154) 18 (by decide) rfl dX12_equations_153 rfl (hs.e (by decide)) (hs.n rfl (by decide)) (by omega) (by decide) ?_
      refine r_iincN (q := 157) (L' := [some (zr 12 0), some (zi (nI n)), some (zi (nI P)), some (zi (nI k)), some (zi (nI l)), some (zr 1366 0), some (zi (nI (lf W l + i + 1))), some (zi (nI ix)), some (zi (nI 1)), none, none]) 1 rfl dX12_equations_154 rfl rfl (by decide) rfl ?_
      refine r_goto (q := 55) dX12_equations_157 (by decide) ?_
      obtain ⟨a1, a2⟩ := STEP _ rfl
      have f1 : Fr t66 S (sI S 1366 0 ix (nI (eqn W l ix))) := Fr.rf.i rfl
      refine ih (i + 1) (sI S 1366 0 ix (nI (eqn W l ix))) _ _ (by omega) hs hR ⟨l1, l2, l3, r, l4, l5⟩ a1 a2 (fun S1 w7 w8 f2 z => K S1 w7 w8 (f1.tr f2) z)

