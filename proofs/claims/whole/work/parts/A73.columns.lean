/-! dual: the class's columns, all of them -/
def pvI (o : Option Nat) : Int32 := match o with
  | none => -1
  | some p => nI p
/-- c columns are done, k of them have pivots -/
def CI (P L n : Nat) (Z : (Nat → Int) → Prop) (k c : Nat) (pv : Nat → Option Nat) (g : Nat → Nat → Nat) : Prop := k ≤ L ∧ (∀ x, Z x ↔ ∀ r, r < L → Dt P n (g r) x) ∧ (∀ r j, r < L → j < n → g r j < P) ∧ (∀ d p, d < c → pv d = some p → p < k ∧ g p d = 1 ∧ (∀ r, r < L → r ≠ p → g r d = 0) ∧ ∀ j, j < d → g p j = 0) ∧ (∀ p, p < k → ∃ d, d < c ∧ pv d = some p) ∧ ∀ r, k ≤ r → r < L → ∀ j, j < c → g r j = 0
def upv (pv : Nat → Option Nat) (c : Nat) (o : Option Nat) (d : Nat) : Option Nat := if d = c then o else pv d
theorem CI.non {P L n : Nat} {Z : (Nat → Int) → Prop} {k c : Nat} {pv : Nat → Option Nat} {g : Nat → Nat → Nat} (h : CI P L n Z k c pv g) (hz : ∀ r, k ≤ r → r < L → g r c = 0) : CI P L n Z k (c + 1) (upv pv c none) g := by
  obtain ⟨h1, h2, h3, h4, h5, h6⟩ := h
  refine ⟨h1, h2, h3, fun d p hd hp => ?_, fun p hp => ?_, fun r hr hrL j hj => ?_⟩
  · by_cases e : d = c
    · rw [upv, if_pos e] at hp; cases hp
    · rw [upv, if_neg e] at hp
      exact h4 d p (by omega) hp
  · obtain ⟨d, d1, d2⟩ := h5 p hp
    exact ⟨d, by omega, by rw [upv, if_neg (by omega)]; exact d2⟩
  · by_cases e : j = c
    · rw [e]; exact hz r hr hrL
    · exact h6 r hr hrL j (by omega)
theorem CI.swap {P L n : Nat} {Z : (Nat → Int) → Prop} {k c : Nat} {pv : Nat → Option Nat} {g : Nat → Nat → Nat} (h : CI P L n Z k c pv g) {f : Nat} (hkf : k ≤ f) (hf : f < L) {g1 : Nat → Nat → Nat} (hg : ∀ r j, r < L → j < n → g1 r j = if r = f then g k j else if r = k then g f j else g r j) (hcn : c ≤ n) : CI P L n Z k c pv g1 := by
  obtain ⟨h1, h2, h3, h4, h5, h6⟩ := h
  have hrow : ∀ r j, r < L → j < n → ∃ r', r' < L ∧ (r < k → r' = r) ∧ (k ≤ r → k ≤ r') ∧ g1 r j = g r' j := fun r j hr hj => by
    rw [hg r j hr hj]
    by_cases e : r = f
    · exact ⟨k, by omega, by omega, by omega, if_pos e⟩
    · rw [if_neg e]
      by_cases e2 : r = k
      · exact ⟨f, hf, by omega, by omega, if_pos e2⟩
      · exact ⟨r, hr, fun _ => rfl, fun z => z, if_neg e2⟩
  refine ⟨h1, fun x => (h2 x).trans ⟨fun q r hr => ?_, fun q r hr => ?_⟩, fun r j hr hj => ?_, fun d p hd hp => ?_, h5, fun r hr hrL j hj => ?_⟩
  · by_cases e : r = f
    · exact (Dt.cg (fun j hj => by rw [hg r j hr hj, if_pos e])).mpr (q k (by omega))
    · by_cases e2 : r = k
      · exact (Dt.cg (fun j hj => by rw [hg r j hr hj, if_neg e, if_pos e2])).mpr (q f hf)
      · exact (Dt.cg (fun j hj => by rw [hg r j hr hj, if_neg e, if_neg e2])).mpr (q r hr)
  · by_cases e : r = f
    · refine (Dt.cg (fun j hj => ?_)).mpr (q k (by omega))
      rw [hg k j (by omega) hj]
      by_cases e3 : k = f
      · rw [if_pos e3, e, ← e3]
      · rw [if_neg e3, if_pos rfl, e]
    · by_cases e2 : r = k
      · exact (Dt.cg (fun j hj => by rw [hg f j hf hj, if_pos rfl, e2])).mpr (q f hf)
      · exact (Dt.cg (fun j hj => by rw [hg r j hr hj, if_neg e, if_neg e2])).mpr (q r hr)
  · obtain ⟨r', r1, -, -, e⟩ := hrow r j hr hj
    rw [e]; exact h3 r' j r1 hj
  · obtain ⟨a1, a2, a3, a4⟩ := h4 d p hd hp
    have ep : ∀ j, j < n → g1 p j = g p j := fun j hj => by
      obtain ⟨r', r1, r2, -, e⟩ := hrow p j (by omega) hj
      rw [e, r2 a1]
    refine ⟨a1, by rw [ep d (by omega)]; exact a2, fun r hr hrp => ?_, fun j hj => by rw [ep j (by omega)]; exact a4 j hj⟩
    obtain ⟨r', r1, r2, r3, e⟩ := hrow r d hr (by omega)
    rw [e]
    refine a3 r' r1 (fun z => ?_)
    by_cases q : r < k
    · exact hrp ((r2 q).symm.trans z)
    · have := r3 (by omega)
      omega
  · obtain ⟨r', r1, -, r3, e⟩ := hrow r j hrL (by omega)
    rw [e]; exact h6 r' (r3 hr) r1 j hj
theorem dvd_0 {P a : Nat} (ha : a < P) (h : (P : Int) ∣ (a : Int)) : a = 0 := by
  refine dvd_eqN (b := 0) ha (by omega) ?_
  rw [show (a : Int) - ((0 : Nat) : Int) = (a : Int) by omega]
  exact h
theorem mod_dvN {P a : Nat} : (P : Int) ∣ ((a % P : Nat) : Int) - (a : Int) := by
  have := Nat.mod_add_div a P
  exact ⟨-((a / P : Nat) : Int), by rw [Int.mul_neg, ← Int.natCast_mul]; omega⟩
theorem CI.clear {P L n : Nat} (hP : 2 ≤ P) {Z : (Nat → Int) → Prop} {k c : Nat} {pv : Nat → Option Nat} {g : Nat → Nat → Nat} (h : CI P L n Z k c pv g) (hk : k < L) (hcn : c < n) {i : Nat} {g' : Nat → Nat → Nat} (hi : i * g k c % P = 1) (hb : ∀ r j, r < L → j < n → g' r j < P) (hr0 : ∀ j, j < n → g' k j = g k j * i % P) (hr1 : ∀ r j, r < L → j < n → r ≠ k → (P : Int) ∣ (g' r j : Int) - ((g r j : Int) - (g r c * g' k j : Nat))) : CI P L n Z (k + 1) (c + 1) (upv pv c (some k)) g' := by
  obtain ⟨h1, h2, h3, h4, h5, h6⟩ := h
  have kc : g' k c = 1 := by rw [hr0 c hcn, Nat.mul_comm]; exact hi
  have kj : ∀ j, j < c → g' k j = 0 := fun j hj => by rw [hr0 j (by omega), h6 k (Nat.le_refl _) hk j hj, Nat.zero_mul, Nat.zero_mod]
  have rj : ∀ r j, r < L → j < c → r ≠ k → g' r j = g r j := fun r j hr hj hn => by
    have := hr1 r j hr (by omega) hn
    rw [kj j hj, Nat.mul_zero] at this
    exact dvd_eqN (hb r j hr (by omega)) (h3 r j hr (by omega)) (by rw [show (g' r j : Int) - (g r j : Int) = (g' r j : Int) - ((g r j : Int) - ((0 : Nat) : Int)) by omega]; exact this)
  have rc : ∀ r, r < L → r ≠ k → g' r c = 0 := fun r hr hn => by
    have := hr1 r c hr hcn hn
    rw [kc, Nat.mul_one] at this
    exact dvd_0 (hb r c hr hcn) (by rw [show (g' r c : Int) = (g' r c : Int) - ((g r c : Int) - (g r c : Int)) by omega]; exact this)
  have hck : ∀ j, j < n → (P : Int) ∣ (g' k j : Int) - ((i : Int) * (g k j : Int) + 0 * (g k j : Int)) := fun j hj => by
    rw [hr0 j hj]
    have := mod_dvN (P := P) (a := g k j * i)
    rw [Int.natCast_mul, Int.mul_comm (g k j : Int) (i : Int)] at this
    rw [Int.zero_mul, Int.add_zero]
    exact this
  have hkc : ∀ j, j < n → (P : Int) ∣ (g k j : Int) - ((g k c : Int) * (g' k j : Int) + 0 * (g' k j : Int)) := fun j hj => by
    rw [Int.zero_mul, Int.add_zero]
    have e1 : (P : Int) ∣ ((i * g k c : Nat) : Int) - 1 := by
      have := mod_dvN (P := P) (a := i * g k c)
      rw [hi] at this
      exact dvd_sy this
    have e2 : (P : Int) ∣ (g k c : Int) * (g' k j : Int) - (g k c : Int) * ((i : Int) * (g k j : Int)) := dvd_mulL (by
      have := hck j hj
      rw [Int.zero_mul, Int.add_zero] at this
      exact this)
    have e3 : (P : Int) ∣ (g k c : Int) * ((i : Int) * (g k j : Int)) - (g k j : Int) := by
      have := dvd_mulR (k := (g k j : Int)) e1
      rw [Int.one_mul, Int.natCast_mul, Int.mul_comm (i : Int) (g k c : Int), Int.mul_assoc] at this
      exact this
    exact dvd_sy (dvd_tr e2 e3)
  refine ⟨hk, fun x => (h2 x).trans ⟨fun q r hr => ?_, fun q r hr => ?_⟩, hb, fun d p hd hp => ?_, fun p hp => ?_, fun r hr hrL j hj => ?_⟩
  · have qk : Dt P n (g' k) x := Dt.lin hck (q k hk) (q k hk)
    by_cases e : r = k
    · rw [e]; exact qk
    · refine Dt.lin (k := 1) (m := -(g r c : Int)) (b := g r) (d := g' k) (fun j hj => ?_) (q r hr) qk
      rw [Int.one_mul, Int.neg_mul, ← Int.sub_eq_add_neg, ← Int.natCast_mul]
      exact hr1 r j hr hj e
  · have qk : Dt P n (g k) x := Dt.lin hkc (q k hk) (q k hk)
    by_cases e : r = k
    · rw [e]; exact qk
    · refine Dt.lin (k := 1) (m := (g r c : Int)) (b := g' r) (d := g' k) (fun j hj => ?_) (q r hr) (q k hk)
      have := dvd_sy (hr1 r j hr hj e)
      rw [Int.one_mul, ← Int.natCast_mul]
      rw [show (g r j : Int) - ((g' r j : Int) + ((g r c * g' k j : Nat) : Int)) = (g r j : Int) - ((g r c * g' k j : Nat) : Int) - (g' r j : Int) by omega]
      exact this
  · by_cases e : d = c
    · rw [upv, if_pos e] at hp
      have e2 : k = p := Option.some.inj hp
      rw [e, ← e2]
      exact ⟨by omega, kc, fun r hr hn => rc r hr hn, kj⟩
    · rw [upv, if_neg e] at hp
      obtain ⟨a1, a2, a3, a4⟩ := h4 d p (by omega) hp
      refine ⟨by omega, by rw [rj p d (by omega) (by omega) (by omega)]; exact a2, fun r hr hn => ?_, fun j hj => by rw [rj p j (by omega) (by omega) (by omega)]; exact a4 j hj⟩
      by_cases e3 : r = k
      · rw [e3]; exact kj d (by omega)
      · rw [rj r d hr (by omega) e3]; exact a3 r hr hn
  · by_cases e : p = k
    · exact ⟨c, by omega, by rw [upv, if_pos rfl, e]⟩
    · obtain ⟨d, d1, d2⟩ := h5 p (by omega)
      exact ⟨d, by omega, by rw [upv, if_neg (by omega)]; exact d2⟩
  · by_cases e : j = c
    · rw [e]; exact rc r hrL (by omega)
    · rw [rj r j hrL (by omega) (by omega)]; exact h6 r (by omega) hrL j (by omega)
theorem CI.done {P L n : Nat} {Z : (Nat → Int) → Prop} {k : Nat} {pv : Nat → Option Nat} {g : Nat → Nat → Nat} (h : CI P L n Z k n pv g) : RRe P n (fun c => (pv c).isSome) (fun c => g ((pv c).getD 0)) Z := by
  obtain ⟨h1, h2, h3, h4, h5, h6⟩ := h
  have key : ∀ c, (pv c).isSome = true → ∃ p, pv c = some p ∧ (pv c).getD 0 = p := fun c hc => by
    cases q : pv c with
    | none => rw [q] at hc; cases hc
    | some p => exact ⟨p, rfl, rfl⟩
  refine ⟨fun c hc hm => ?_, fun c d hc hd hm hm' hcd => ?_, fun x => (h2 x).trans ⟨fun q c hc hm => ?_, fun q r hr => ?_⟩⟩
  · obtain ⟨p, p1, p2⟩ := key c hm
    obtain ⟨a1, a2, a3, a4⟩ := h4 c p hc p1
    show g ((pv c).getD 0) c = 1 ∧ (∀ j, j < c → g ((pv c).getD 0) j = 0) ∧ ∀ j, j < n → g ((pv c).getD 0) j < P
    rw [p2]
    exact ⟨a2, a4, fun j hj => h3 p j (by omega) hj⟩
  · obtain ⟨p, p1, p2⟩ := key c hm
    obtain ⟨q, q1, q2⟩ := key d hm'
    obtain ⟨a1, a2, a3, a4⟩ := h4 c p hc p1
    obtain ⟨b1, b2, b3, b4⟩ := h4 d q hd q1
    show g ((pv c).getD 0) d = 0
    rw [p2]
    refine b3 p (by omega) (fun z => ?_)
    rw [← z] at b2 b4
    rcases Nat.lt_or_gt_of_ne hcd with y | y
    · have := b4 c y; omega
    · have := a4 d y; omega
  · obtain ⟨p, p1, p2⟩ := key c hm
    obtain ⟨a1, -⟩ := h4 c p hc p1
    show Dt P n (g ((pv c).getD 0)) x
    rw [p2]
    exact q p (by omega)
  · by_cases e : r < k
    · obtain ⟨d, d1, d2⟩ := h5 r e
      have := q d d1 (by show (pv d).isSome = true; rw [d2]; rfl)
      have this : Dt P n (g ((pv d).getD 0)) x := this
      rw [d2] at this
      exact this
    · exact Dt.zero (fun j hj => h6 r (by omega) hr j hj)

set_option maxRecDepth 100000 in
theorem lp_fd24 {S : zS} (hs : Sd S) {L n P k c : Nat} (hL18 : L ≤ 18) (hn18 : n ≤ 18) (hcn : c < n) (hP : P ≤ 97) {g : Nat → Nat → Nat} (hG : Gd S L n P g) {Po : Option zV → zS → Prop} : ∀ (d f : Nat), f + d = L → k ≤ f → (∀ r, k ≤ r → r < f → g r c = 0) → (∀ f, k ≤ f → f ≤ L → (∀ r, k ≤ r → r < f → g r c = 0) → (f = L ∨ f < L ∧ g f c ≠ 0) → Ok mX2_clearColumns 49 [some (zr 2 0), some (zi (nI L)), some (zi (nI n)), some (zi (nI P)), some (zi (nI k)), some (zi (nI c)), some (zi (nI f))] [] S Po) → Ok mX2_clearColumns 24 [some (zr 2 0), some (zi (nI L)), some (zi (nI n)), some (zi (nI P)), some (zi (nI k)), some (zi (nI c)), some (zi (nI f))] [] S Po := by
  intro d
  induction d with
  | zero =>
    intro f hf hkf hz K
    obtain rfl : L = f := by omega
    refine r_iload (q := 26) dX2_clearColumns_24 rfl rfl ?_
    refine r_iload_n (q := 27) dX2_clearColumns_26 rfl rfl rfl ?_
    refine r_icmp_geN (q := 30) (t := 49) (by omega) (by omega) dX2_clearColumns_27 (by decide) rfl (fun h27 => ?_) (fun h27 => absurd h27 (by omega))
    exact K L hkf (Nat.le_refl _) hz (Or.inl rfl)
  | succ d ih =>
    intro f hf hkf hz K
    have hfL : f < L := by omega
    obtain ⟨hgf, hgP⟩ := hG f c hfL hcn
    by_cases z0 : g f c = 0
    · skip
      refine r_iload (q := 26) dX2_clearColumns_24 rfl rfl ?_
      refine r_iload_n (q := 27) dX2_clearColumns_26 rfl rfl rfl ?_
      refine r_icmp_geN (q := 30) (t := 49) (by omega) (by omega) dX2_clearColumns_27 (by decide) rfl (fun h27 => absurd h27 (by omega)) (fun h27 => ?_)
      refine r_aload_n (q := 31) dX2_clearColumns_30 rfl rfl rfl ?_
      refine r_getr (q := 34) (some (300, 0)) ck2 dX2_clearColumns_31 rfl (k := 0) (by decide) wt271 rfl (hs.e (by decide)) (hs.r (by decide) (by decide)) ?_
      refine r_iload (q := 36) dX2_clearColumns_34 rfl rfl ?_
      refine r_aaldN (q := 37) (some (10300, f)) 18 (by decide) (by decide) (by decide) dX2_clearColumns_36 rfl (hs.e (by decide)) (hs.n rfl (by decide)) (show f < 18 by omega) (by decide) ((hs.r (by decide) (show f < 18 by omega)).trans (if_pos (show f < 18 by omega))) ?_
      refine r_iload (q := 39) dX2_clearColumns_37 rfl rfl ?_
      refine r_ialdN (q := 40) 18 (by decide) rfl dX2_clearColumns_39 rfl (hs.e (show f < 18 by omega)) (hs.n rfl (show f < 18 by omega)) (by omega) (by decide) ?_
      refine r_topi (y := nI (g f c)) hgf ?_
      refine r_if_neN (q := 43) (t := 49) (by omega) dX2_clearColumns_40 (by decide) rfl (fun h40 => absurd h40 (by omega)) (fun h40 => ?_)
      refine r_iincN (q := 46) (L' := [some (zr 2 0), some (zi (nI L)), some (zi (nI n)), some (zi (nI P)), some (zi (nI k)), some (zi (nI c)), some (zi (nI (f + 1)))]) 1 rfl dX2_clearColumns_43 rfl rfl (by decide) rfl ?_
      refine r_goto (q := 24) dX2_clearColumns_46 (by decide) ?_
      exact ih (f + 1) (by omega) (by omega) (fun r h1 h2 => by by_cases e : r = f; (rw [e]; exact z0); exact hz r h1 (by omega)) K
    · skip
      refine r_iload (q := 26) dX2_clearColumns_24 rfl rfl ?_
      refine r_iload_n (q := 27) dX2_clearColumns_26 rfl rfl rfl ?_
      refine r_icmp_geN (q := 30) (t := 49) (by omega) (by omega) dX2_clearColumns_27 (by decide) rfl (fun h27 => absurd h27 (by omega)) (fun h27 => ?_)
      refine r_aload_n (q := 31) dX2_clearColumns_30 rfl rfl rfl ?_
      refine r_getr (q := 34) (some (300, 0)) ck2 dX2_clearColumns_31 rfl (k := 0) (by decide) wt271 rfl (hs.e (by decide)) (hs.r (by decide) (by decide)) ?_
      refine r_iload (q := 36) dX2_clearColumns_34 rfl rfl ?_
      refine r_aaldN (q := 37) (some (10300, f)) 18 (by decide) (by decide) (by decide) dX2_clearColumns_36 rfl (hs.e (by decide)) (hs.n rfl (by decide)) (show f < 18 by omega) (by decide) ((hs.r (by decide) (show f < 18 by omega)).trans (if_pos (show f < 18 by omega))) ?_
      refine r_iload (q := 39) dX2_clearColumns_37 rfl rfl ?_
      refine r_ialdN (q := 40) 18 (by decide) rfl dX2_clearColumns_39 rfl (hs.e (show f < 18 by omega)) (hs.n rfl (show f < 18 by omega)) (by omega) (by decide) ?_
      refine r_topi (y := nI (g f c)) hgf ?_
      refine r_if_neN (q := 43) (t := 49) (by omega) dX2_clearColumns_40 (by decide) rfl (fun h40 => ?_) (fun h40 => absurd h40 (by omega))
      exact K f hkf (by omega) hz (Or.inr ⟨hfL, z0⟩)

def tCs (a b _k : Nat) : Bool := a == 10300 || a == 301 && b == 0

set_option maxRecDepth 100000 in
theorem lp_cs6 {L n P : Nat} (hL18 : L ≤ 18) (hn18 : n ≤ 18) (h2 : 2 ≤ P) (hP : P ≤ 97) (hpr : ∀ d, 2 ≤ d → d < P → P % d ≠ 0) {Z : (Nat → Int) → Prop} : ∀ (d c : Nat) (S : zS) (k : Nat) (pv : Nat → Option Nat) (g : Nat → Nat → Nat), c + d = n → Sd S → Gd S L n P g → CI P L n Z k c pv g → (∀ d, d < c → gI S 301 0 d = pvI (pv d)) → Ok mX2_clearColumns 6 [some (zr 2 0), some (zi (nI L)), some (zi (nI n)), some (zi (nI P)), some (zi (nI k)), some (zi (nI c)), none] [] S (fun z S1 => z = none ∧ Fr tCs S S1 ∧ ∃ k pv g, Gd S1 L n P g ∧ CI P L n Z k n pv g ∧ ∀ c, c < n → gI S1 301 0 c = pvI (pv c)) := by
  intro d
  induction d with
  | zero =>
    intro c S k pv g hc hs hG hC hV
    obtain rfl : n = c := by omega
    have hkL := hC.1
    refine r_iload (q := 8) dX2_clearColumns_6 rfl rfl ?_
    refine r_iload_n (q := 9) dX2_clearColumns_8 rfl rfl rfl ?_
    refine r_icmp_geN (q := 12) (t := 92) (by omega) (by omega) dX2_clearColumns_9 (by decide) rfl (fun h9 => ?_) (fun h9 => absurd h9 (by omega))
    refine r_return dX2_clearColumns_92 rfl ?_
    exact ⟨rfl, Fr.rf, k, pv, g, hG, hC, hV⟩
  | succ d ih =>
    intro c S k pv g hc hs hG hC hV
    have hcn : c < n := by omega
    have hkL := hC.1
    have f0 : Fr tCs S (sI S 301 0 c (-1)) := Fr.rf.i rfl
    have hG0 : Gd (sI S 301 0 c (-1)) L n P g := fun r j hr hj => ⟨by rw [gI_sI, if_neg (by omega)]; exact (hG r j hr hj).1, (hG r j hr hj).2⟩
    have hs0 : Sd (sI S 301 0 c (-1)) := hs
    have hV0 : ∀ d, d < c → gI (sI S 301 0 c (-1)) 301 0 d = pvI (pv d) := fun d hd => by rw [gI_sI, if_neg (by omega)]; exact hV d hd
    have hc0 : gI (sI S 301 0 c (-1)) 301 0 c = -1 := by rw [gI_sI, if_pos ⟨rfl, rfl, rfl⟩]
    obtain ⟨S0, hS0⟩ : ∃ S0, S0 = sI S 301 0 c (-1) := ⟨_, rfl⟩
    rw [← hS0] at f0 hG0 hs0 hV0 hc0
    refine r_iload (q := 8) dX2_clearColumns_6 rfl rfl ?_
    refine r_iload_n (q := 9) dX2_clearColumns_8 rfl rfl rfl ?_
    refine r_icmp_geN (q := 12) (t := 92) (by omega) (by omega) dX2_clearColumns_9 (by decide) rfl (fun h9 => absurd h9 (by omega)) (fun h9 => ?_)
    refine r_aload_n (q := 13) dX2_clearColumns_12 rfl rfl rfl ?_
    refine r_getr (q := 16) (some (301, 0)) ck2 dX2_clearColumns_13 rfl (k := 1) (by decide) wt272 rfl (hs.e (by decide)) (hs.r (by decide) (by decide)) ?_
    refine r_iload (q := 18) dX2_clearColumns_16 rfl rfl ?_
    refine r_iconst (q := 19) ((-1 : Int32)) dX2_clearColumns_18 rfl (by decide) ?_
    refine r_iastN (q := 20) 18 (by decide) rfl dX2_clearColumns_19 rfl (hs.e (by decide)) (hs.n rfl (by decide)) (by omega) (by decide) ?_
    refine r_iload (q := 22) dX2_clearColumns_20 rfl rfl ?_
    refine r_istore (q := 24) (L' := [some (zr 2 0), some (zi (nI L)), some (zi (nI n)), some (zi (nI P)), some (zi (nI k)), some (zi (nI c)), some (zi (nI k))]) dX2_clearColumns_22 rfl (by decide) rfl ?_
    show Ok _ _ _ _ (sI S 301 0 c (-1)) _
    rw [← hS0]
    refine lp_fd24 hs0 hL18 hn18 hcn hP hG0 (L - k) k (by omega) (Nat.le_refl _) (fun r a b => absurd a (by omega)) (fun f f1 f2 f3 f4 => ?_)
    rcases f4 with f4 | ⟨f4, f5⟩
    · skip
      refine r_iload (q := 51) dX2_clearColumns_49 rfl rfl ?_
      refine r_iload_n (q := 52) dX2_clearColumns_51 rfl rfl rfl ?_
      refine r_icmp_geN (q := 55) (t := 86) (by omega) (by omega) dX2_clearColumns_52 (by decide) rfl (fun h52 => ?_) (fun h52 => absurd h52 (by omega))
      refine r_iincN (q := 89) (L' := [some (zr 2 0), some (zi (nI L)), some (zi (nI n)), some (zi (nI P)), some (zi (nI k)), some (zi (nI (c + 1))), some (zi (nI f))]) 1 rfl dX2_clearColumns_86 rfl rfl (by decide) rfl ?_
      refine r_goto (q := 6) dX2_clearColumns_89 (by decide) ?_
      refine r_mask [true, true, true, true, true, true, false] rfl ?_
      refine Ok.mono (ih (c + 1) S0 k (upv pv c none) g (by omega) hs0 hG0 (hC.non (fun r a b => f3 r a (by omega))) (fun d hd => ?_)) (fun z S9 q => ⟨q.1, f0.tr q.2.1, q.2.2⟩)
      by_cases e : d = c
      · rw [e, upv, if_pos rfl]; exact hc0
      · rw [upv, if_neg e]; exact hV0 d (by omega)
    · skip
      refine r_iload (q := 51) dX2_clearColumns_49 rfl rfl ?_
      refine r_iload_n (q := 52) dX2_clearColumns_51 rfl rfl rfl ?_
      refine r_icmp_geN (q := 55) (t := 86) (by omega) (by omega) dX2_clearColumns_52 (by decide) rfl (fun h52 => absurd h52 (by omega)) (fun h52 => ?_)
      refine r_aload_n (q := 56) dX2_clearColumns_55 rfl rfl rfl ?_
      refine r_iload (q := 58) dX2_clearColumns_56 rfl rfl ?_
      refine r_iload (q := 60) dX2_clearColumns_58 rfl rfl ?_
      refine r_callV (Mc := mX2_swapRows) (q := 63) (As := [zi (nI f), zi (nI k)]) (st := []) ck2 dX2_clearColumns_60 rfl rfl mkX2_swapRows wt1005 wt1007 wp52 rfl (Nat.le_of_ble_eq_true rfl) (Nat.le_of_ble_eq_true rfl) (by decide) (by decide) (by decide) (Or.inl rfl) (hs0.e (by decide)) (ok_swapRows hs0 (one := f) (other := k) (by omega) (by omega)) (fun r60 S60 hp60 => ?_)
      obtain ⟨rfl, g1f, hsw⟩ := hp60
      have hs1 : Sd S60 := hs0.fr g1f
      have hgv : ∀ r j, r < L → j < n → gI S60 10300 r j = nI (if r = f then g k j else if r = k then g f j else g r j) := fun r j hr hj => by
        rw [hsw r j (by omega)]
        by_cases e : r = f
        · rw [if_pos e, if_pos e]; exact (hG0 k j (by omega) hj).1
        · rw [if_neg e, if_neg e]
          by_cases e2 : r = k
          · rw [if_pos e2, if_pos e2]; exact (hG0 f j f4 hj).1
          · rw [if_neg e2, if_neg e2]; exact (hG0 r j hr hj).1
      have hC1 := hC.swap f1 f4 (g1 := fun r j => if r = f then g k j else if r = k then g f j else g r j) (fun _ _ _ _ => rfl) (by omega)
      have hG1 : Gd S60 L n P (fun r j => if r = f then g k j else if r = k then g f j else g r j) := fun r j hr hj => ⟨hgv r j hr hj, hC1.2.2.1 r j hr hj⟩
      have h0 : (fun r j => if r = f then g k j else if r = k then g f j else g r j) k c ≠ 0 := by
        show (if k = f then g k c else if k = k then g f c else g k c) ≠ 0
        by_cases e : k = f
        · rw [if_pos e, e]; exact f5
        · rw [if_neg e, if_pos rfl]; exact f5
      show Ok _ _ _ [] _ _
      refine r_aload_n (q := 64) dX2_clearColumns_63 rfl rfl rfl ?_
      refine r_iload (q := 66) dX2_clearColumns_64 rfl rfl ?_
      refine r_iload (q := 68) dX2_clearColumns_66 rfl rfl ?_
      refine r_iload_n (q := 69) dX2_clearColumns_68 rfl rfl rfl ?_
      refine r_iload_n (q := 70) dX2_clearColumns_69 rfl rfl rfl ?_
      refine r_iload_n (q := 71) dX2_clearColumns_70 rfl rfl rfl ?_
      refine r_callV (Mc := mX2_clearColumn) (q := 74) (As := [zi (nI k), zi (nI c), zi (nI L), zi (nI n), zi (nI P)]) (st := []) ck2 dX2_clearColumns_71 rfl rfl mkX2_clearColumn wt1009 wt1011 wp53 rfl (Nat.le_of_ble_eq_true rfl) (Nat.le_of_ble_eq_true rfl) (by decide) (by decide) (by decide) (Or.inl rfl) (hs1.e (by decide)) (ok_clearColumn hs1 (show k < L by omega) hL18 hn18 hcn h2 hP hpr hG1 h0) (fun r71 S71 hp71 => ?_)
      obtain ⟨rfl, g2f, i, g', i1, hG2, q1, q2⟩ := hp71
      have hs2 : Sd S71 := hs1.fr g2f
      have hC2 := hC1.clear h2 (show k < L by omega) hcn i1 (fun r j hr hj => (hG2 r j hr hj).2) q1 q2
      show Ok _ _ _ [] _ _
      refine r_aload_n (q := 75) dX2_clearColumns_74 rfl rfl rfl ?_
      refine r_getr (q := 78) (some (301, 0)) ck2 dX2_clearColumns_75 rfl (k := 1) (by decide) wt272 rfl (hs2.e (by decide)) (hs2.r (by decide) (by decide)) ?_
      refine r_iload (q := 80) dX2_clearColumns_78 rfl rfl ?_
      refine r_iload (q := 82) dX2_clearColumns_80 rfl rfl ?_
      refine r_iastN (q := 83) 18 (by decide) rfl dX2_clearColumns_82 rfl (hs2.e (by decide)) (hs2.n rfl (by decide)) (by omega) (by decide) ?_
      refine r_iincN (q := 86) (L' := [some (zr 2 0), some (zi (nI L)), some (zi (nI n)), some (zi (nI P)), some (zi (nI (k + 1))), some (zi (nI c)), some (zi (nI f))]) 1 rfl dX2_clearColumns_83 rfl rfl (by decide) rfl ?_
      refine r_iincN (q := 89) (L' := [some (zr 2 0), some (zi (nI L)), some (zi (nI n)), some (zi (nI P)), some (zi (nI (k + 1))), some (zi (nI (c + 1))), some (zi (nI f))]) 1 rfl dX2_clearColumns_86 rfl rfl (by decide) rfl ?_
      refine r_goto (q := 6) dX2_clearColumns_89 (by decide) ?_
      refine r_mask [true, true, true, true, true, true, false] rfl ?_
      have f3' : Fr tCs S71 (sI S71 301 0 c (nI k)) := Fr.rf.i rfl
      refine Ok.mono (ih (c + 1) (sI S71 301 0 c (nI k)) (k + 1) (upv pv c (some k)) g' (by omega) hs2 (fun r j hr hj => ⟨by rw [gI_sI, if_neg (by omega)]; exact (hG2 r j hr hj).1, (hG2 r j hr hj).2⟩) hC2 (fun d hd => ?_)) (fun z S9 q => ⟨q.1, (((f0.tr (g1f.mono (fun a b k z => by simp [tGr] at z; simp [tCs, z]))).tr (g2f.mono (fun a b k z => by simp [tGr] at z; simp [tCs, z]))).tr f3').tr q.2.1, q.2.2⟩)
      rw [gI_sI]
      by_cases e : d = c
      · rw [e, if_pos ⟨rfl, rfl, rfl⟩, upv, if_pos rfl]; rfl
      · rw [if_neg (fun z => e z.2.2), upv, if_neg e, g2f.1 _ _ _ rfl, g1f.1 _ _ _ rfl]; exact hV0 d (by omega)

set_option maxRecDepth 100000 in
theorem ok_clearColumns {S : zS} (hs : Sd S) {L n P : Nat} (hL18 : L ≤ 18) (hn18 : n ≤ 18) (h2 : 2 ≤ P) (hP : P ≤ 97) (hpr : ∀ d, 2 ≤ d → d < P → P % d ≠ 0) {Z : (Nat → Int) → Prop} {g : Nat → Nat → Nat} (hG : Gd S L n P g) (hZ : ∀ x, Z x ↔ ∀ r, r < L → Dt P n (g r) x) : Ok mX2_clearColumns 0 (ent 7 [zr 2 0, zi (nI L), zi (nI n), zi (nI P)]) [] S (fun z S1 => z = none ∧ Fr tCs S S1 ∧ ∃ k pv g, Gd S1 L n P g ∧ CI P L n Z k n pv g ∧ ∀ c, c < n → gI S1 301 0 c = pvI (pv c)) := by
  show Ok mX2_clearColumns 0 [some (zr 2 0), some (zi (nI L)), some (zi (nI n)), some (zi (nI P)), none, none, none] [] S _
  refine r_iconst (q := 1) (nI 0) dX2_clearColumns_0 rfl (by decide) ?_
  refine r_istore (q := 3) (L' := [some (zr 2 0), some (zi (nI L)), some (zi (nI n)), some (zi (nI P)), some (zi (nI 0)), none, none]) dX2_clearColumns_1 rfl (by decide) rfl ?_
  refine r_iconst (q := 4) (nI 0) dX2_clearColumns_3 rfl (by decide) ?_
  refine r_istore (q := 6) (L' := [some (zr 2 0), some (zi (nI L)), some (zi (nI n)), some (zi (nI P)), some (zi (nI 0)), some (zi (nI 0)), none]) dX2_clearColumns_4 rfl (by decide) rfl ?_
  exact lp_cs6 hL18 hn18 h2 hP hpr n 0 S 0 (fun _ => none) g (by omega) hs hG ⟨Nat.zero_le _, hZ, fun r j hr hj => (hG r j hr hj).2, fun d p hd => absurd hd (Nat.not_lt_zero d), fun p hp => absurd hp (Nat.not_lt_zero p), fun r _ _ j hj => absurd hj (Nat.not_lt_zero j)⟩ (fun d hd => absurd hd (Nat.not_lt_zero d))

