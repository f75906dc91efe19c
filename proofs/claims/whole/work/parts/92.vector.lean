/-! the vector of a basis: cleared, added to, lessened by rules -/
def tVe (b x y _k : Nat) : Bool := x == 703 && y == b
def tRl (b f t x y k : Nat) : Bool := x == 107 && y == b && decide (f ≤ k) && decide (k < f + t)
def Vn (T : List (List Nat)) (v : Nat → Nat) : zL := V T (fun j => (v j : Int))
theorem cg_row {P : Nat} {T : List (List Nat)} (hT : T.Nodup) {G : zL → Prop} {R : Nat → Int} (hG : G (V T R)) {v v1 : Nat → Int} {c : Int} (h : ∀ j, j < T.length → (P : Int) ∣ v1 j - (v j - c * R j)) : Cg P G (V T v) (V T v1) := by
  have h1 : Sp P G (scl c (V T R)) := (Sp.gen hG).sc c
  refine h1.li (li_T (T := T) (by rw [V_sc]; exact V_mem) (fun p hp => ?_) fun k hk => ?_)
  · rcases List.mem_append.mp hp with q | q
    · exact V_mem p q
    · rw [V_sc] at q; exact V_mem p q
  · rw [co_app, co_sc, co_sc, co_V hT hk, co_V hT hk, co_V hT hk]
    have := h k hk
    rw [show c * R k - (v k + -1 * v1 k) = v1 k - (v k - c * R k) by omega]; exact this
def RwK (T : List (List Nat)) (mk : Nat → Nat) (rl : Nat → Nat → Nat) (K : Nat) (r : zL) : Prop := ∃ s, s < K ∧ s < T.length ∧ mk s ≠ 0 ∧ r = V T (RC rl s)
/-- a vector lessened by the rules -/
def RedS (T : List (List Nat)) (P : Nat) (mk : Nat → Nat) (rl : Nat → Nat → Nat) (v v' : Nat → Nat) : Prop := (∀ t, t < T.length → mk t ≠ 0 → v' t = 0) ∧ ∀ K, (∀ t, K ≤ t → t < T.length → v t = 0) → (∀ t, K ≤ t → t < T.length → v' t = 0) ∧ Cg P (RwK T mk rl K) (Vn T v) (Vn T v')
theorem mod_dvd (a P : Nat) : (P : Int) ∣ ((a % P : Nat) : Int) - (a : Int) := by
  rw [Int.natCast_emod]
  have h := Int.emod_add_mul_ediv (a : Int) P
  refine ⟨-((a : Int) / P), ?_⟩
  rw [Int.mul_neg]; omega
theorem red_step {T : List (List Nat)} (hT : T.Nodup) {P : Nat} {mk : Nat → Nat} {rl : Nat → Nat → Nat} {t : Nat} (ht : t < T.length) (hm : mk t ≠ 0) {v v1 v' : Nat → Nat} (hv : v t ≠ 0) (hlt : ∀ j, j < t → v1 j = (v j + v t * rl t j) % P) (heq : v1 t = 0) (hgt : ∀ j, t < j → j < T.length → v1 j = v j) (h : RedS T P mk rl v1 v') : RedS T P mk rl v v' := by
  refine ⟨h.1, fun K hK => ?_⟩
  have htK : t < K := by
    apply Classical.byContradiction
    intro z
    exact hv (hK t (by omega) ht)
  have h1 := h.2 K (fun s hs hs2 => by rw [hgt s (by omega) hs2]; exact hK s hs hs2)
  refine ⟨h1.1, Cg.tr (cg_row hT (c := (v t : Int)) (R := RC rl t) (⟨t, htK, ht, hm, rfl⟩) fun j hj => ?_) h1.2⟩
  unfold RC
  rcases Nat.lt_trichotomy j t with q | q | q
  · rw [if_neg (by omega), if_pos q, hlt j q]
    have := mod_dvd (v j + v t * rl t j) P
    rw [Int.natCast_add, Int.natCast_mul] at this
    rw [show (v j : Int) - (v t : Int) * -(rl t j : Int) = (v j : Int) + (v t : Int) * (rl t j : Int) by rw [Int.mul_neg]; omega]
    exact this
  · rw [if_pos q, q, heq]
    rw [show ((0 : Nat) : Int) - ((v t : Int) - (v t : Int) * 1) = 0 by omega]; exact Int.dvd_zero _
  · rw [if_neg (by omega), if_neg (by omega), hgt j q hj]
    rw [show (v j : Int) - ((v j : Int) - (v t : Int) * 0) = 0 by omega]; exact Int.dvd_zero _
theorem RedS.end {T : List (List Nat)} {P : Nat} {mk : Nat → Nat} {rl : Nat → Nat → Nat} {v : Nat → Nat} (h : ∀ t, t < T.length → mk t ≠ 0 → v t = 0) : RedS T P mk rl v v := ⟨h, fun K hK => ⟨hK, Cg.rf⟩⟩
theorem Lx.fr {S S1 : zS} {b n f0 : Nat} {T : List (List Nat)} {U : Nat → Nat → Nat → Bool} (h : Lx S b n f0 T) (f : Fr U S S1) (t : ∀ k, U 103 b k = false ∧ U 104 b k = false) : Lx S1 b n f0 T := ⟨(f.1 _ _ _ (t _).1).trans h.1, (f.1 _ _ _ (t _).1).trans h.2.1, h.2.2.1, h.2.2.2.1, fun i hi => (f.1 _ _ _ (t _).2).trans (h.2.2.2.2 i hi)⟩
theorem Mx.fr {S S1 : zS} {b f0 m : Nat} {mk : Nat → Nat} {U : Nat → Nat → Nat → Bool} (h : Mx S b f0 m mk) (f : Fr U S S1) (t : ∀ k, U 105 b k = false) : Mx S1 b f0 m mk := fun i hi => ⟨(f.1 _ _ _ (t _)).trans (h i hi).1, (h i hi).2⟩
theorem Ux.fr {S S1 : zS} {b n rf m P : Nat} {mk : Nat → Nat} {rl : Nat → Nat → Nat} {U : Nat → Nat → Nat → Bool} (h : Ux S b n rf m P mk rl) (f : Fr U S S1) (t : ∀ k, U 106 b k = false ∧ U 107 b k = false) : Ux S1 b n rf m P mk rl := ⟨(f.1 _ _ _ (t _).1).trans h.1, by rw [gN_22 f.2.2]; exact h.2.1, by rw [gN_22 f.2.2]; exact h.2.2.1, fun s hs hm j hj => ⟨(f.1 _ _ _ (t _).2).trans (h.2.2.2 s hs hm j hj).1, (h.2.2.2 s hs hm j hj).2⟩⟩
theorem Vx.fr {S S1 : zS} {b m P : Nat} {v : Nat → Nat} {U : Nat → Nat → Nat → Bool} (h : Vx S b m P v) (f : Fr U S S1) (t : ∀ k, U 703 b k = false) : Vx S1 b m P v := fun j hj => ⟨(f.1 _ _ _ (t _)).trans (h j hj).1, (h j hj).2⟩
theorem fr_ve {S : zS} {b k : Nat} {x : Int32} : Fr (tVe b) S (sI S 703 b k x) := (Fr.rf).i (by simp [tVe])
theorem Vx.set {S : zS} {b m P : Nat} {v : Nat → Nat} (h : Vx S b m P v) {k x : Nat} (hx : x < P) : Vx (sI S 703 b k (nI x)) b m P (fun j => if j = k then x else v j) := fun j hj => by
  show gI (sI S 703 b k (nI x)) 703 b j = nI (if j = k then x else v j) ∧ (if j = k then x else v j) < P
  by_cases e : j = k
  · rw [if_pos e, gI_sI, if_pos ⟨rfl, rfl, e⟩]; exact ⟨rfl, hx⟩
  · rw [if_neg e, gI_sI, if_neg (fun z => e z.2.2)]; exact h j hj

theorem nI_prd (t : Nat) : nI (t + 1) - 1 = nI t := by
  rw [← nI_add, show (1 : Int32) = nI 1 from rfl, Int32.add_sub_cancel]

set_option maxRecDepth 100000 in
theorem ok_clearVector {S : zS} (hs : Sd S) {b n f0 : Nat} (hb4 : b < 4) (hn7 : n ≤ 7) {T : List (List Nat)} (hL : Lx S b n f0 T) : Ok mX0_clearVector 0 (ent 2 [zr 0 b, zi (nI n)]) [] S (fun r S1 => r = none ∧ S1 = flS S 703 b 0 T.length (nI 0)) := by
  obtain ⟨l1, l2, l3, l4, l5⟩ := hL
  have hL : Lx S b n f0 T := ⟨l1, l2, l3, l4, l5⟩
  show Ok mX0_clearVector 0 [some (zr 0 b), some (zi (nI n))] [] S _
  refine r_aload_n (q := 1) dX0_clearVector_0 rfl rfl rfl ?_
  refine r_getr (q := 4) (some (6, b)) ck0 dX0_clearVector_1 rfl (k := 1) (by decide) wt378 rfl (hs.e (show b < 4 by omega)) (hs.r (show b < 4 by omega) (by decide)) ?_
  refine r_getr (q := 7) (some (703, b)) ck6 dX0_clearVector_4 rfl (k := 3) (by decide) wt103 rfl (hs.e (show b < 5 by omega)) (hs.r (show b < 5 by omega) (by decide)) ?_
  refine r_iconst (q := 8) (nI 0) dX0_clearVector_7 rfl (by decide) ?_
  refine r_aload_n (q := 9) dX0_clearVector_8 rfl rfl rfl ?_
  refine r_iload_n (q := 10) dX0_clearVector_9 rfl rfl rfl ?_
  refine r_callV (Mc := mX0_treesOf) (q := 13) (As := [zi (nI n)]) (st := [zi (nI 0), zr 703 b]) ck0 dX0_clearVector_10 rfl rfl mkX0_treesOf wt788 wt789 wt790 rfl (Nat.le_of_ble_eq_true rfl) (Nat.le_of_ble_eq_true rfl) (by decide) (by decide) (by decide) (Or.inl rfl) (hs.e (show b < 4 by omega)) (ok_treesOf hs hb4 hn7 hL) (fun r10 S10 hp10 => ?_)
  obtain ⟨rfl, hq10⟩ := hp10
  rw [hq10]
  show Ok _ _ _ [zi (nI T.length), zi (nI 0), zr 703 b] _ _
  refine r_iconst (q := 14) (nI 0) dX0_clearVector_13 rfl (by decide) ?_
  refine r_callS (Mc := mJ7_fill_fda19) (q := 17) (As := [zr 703 b, zi (nI 0), zi (nI T.length), zi (nI 0)]) (st := []) dX0_clearVector_14 rfl rfl mkJ7_fill_fda19 wt822 wt823 rfl (Nat.le_of_ble_eq_true rfl) (Nat.le_of_ble_eq_true rfl) (by decide) (by decide) (by decide) (Or.inl rfl) hs.some (ok_fill4 (n := 300) (by decide) rfl (hs.e (show b < 5 by omega)) (hs.n rfl (show b < 5 by omega)) (by omega) (by omega) (by decide)) (fun r14 S14 hp14 => ?_)
  obtain ⟨rfl, hq14⟩ := hp14
  rw [hq14]
  show Ok _ _ _ [] _ _
  refine r_return dX0_clearVector_17 rfl ?_
  exact ⟨rfl, rfl⟩

theorem vx_clear {S : zS} {b m P : Nat} (hP : 0 < P) : Vx (flS S 703 b 0 m (nI 0)) b m P (fun _ => 0) ∧ Fr (tVe b) S (flS S 703 b 0 m (nI 0)) := by
  refine ⟨fun j hj => ⟨by rw [gI_fl, if_pos ⟨rfl, rfl, by omega, hj⟩], hP⟩, fun x y k hz => ?_, fun _ _ _ _ => rfl, rfl⟩
  rw [gI_fl, if_neg (fun z => by unfold tVe at hz; simp [z.1, z.2.1] at hz)]

set_option maxRecDepth 100000 in
theorem ok_addToVector {S : zS} (hs : Sd S) {b n f0 : Nat} (hb4 : b < 4) (hn7 : n ≤ 7) {T : List (List Nat)} (hL : Lx S b n f0 T) (hT : T.Pairwise (fun a b => ky a < ky b)) (hB : ∀ t, t ∈ T → ky t < 2 ^ 30) {P : Nat} (h2 : 2 ≤ P) (hP : P ≤ 97) (hp : gI S 9 b 0 = nI P) {v : Nat → Nat} (hV : Vx S b T.length P v) {i : Nat} (hi : i < T.length) (x : Int32) : Ok mX0_addToVector 0 (ent 5 [zr 0 b, zi (nI n), zi (nI (ky (T.getD i []))), zi x]) [] S (fun r S1 => r = none ∧ S1 = sI S 703 b i (nI (rsN (nI (v i) + x) P))) := by
  obtain ⟨l1, l2, l3, l4, l5⟩ := hL
  have hL : Lx S b n f0 T := ⟨l1, l2, l3, l4, l5⟩
  have hkb := hB _ (mem_gd hi)
  show Ok mX0_addToVector 0 [some (zr 0 b), some (zi (nI n)), some (zi (nI (ky (T.getD i [])))), some (zi x), none] [] S _
  refine r_aload_n (q := 1) dX0_addToVector_0 rfl rfl rfl ?_
  refine r_iload_n (q := 2) dX0_addToVector_1 rfl rfl rfl ?_
  refine r_iload_n (q := 3) dX0_addToVector_2 rfl rfl rfl ?_
  refine r_callV (Mc := mX0_placeOf) (q := 6) (As := [zi (nI n), zi (nI (ky (T.getD i [])))]) (st := []) ck0 dX0_addToVector_3 rfl rfl mkX0_placeOf wt783 wt785 wp30 rfl (Nat.le_of_ble_eq_true rfl) (Nat.le_of_ble_eq_true rfl) (by decide) (by decide) (by decide) (Or.inl rfl) (hs.e (show b < 4 by omega)) (ok_bplace_in hs hb4 hn7 hL hT hB hi) (fun r3 S3 hp3 => ?_)
  obtain ⟨rfl, hq3⟩ := hp3
  rw [hq3]
  show Ok _ _ _ [zi (nI (f0 + i))] _ _
  refine r_aload_n (q := 7) dX0_addToVector_6 rfl rfl rfl ?_
  refine r_getr (q := 10) (some (103, b)) ck0 dX0_addToVector_7 rfl (k := 3) (by decide) wt380 rfl (hs.e (show b < 4 by omega)) (hs.r (show b < 4 by omega) (by decide)) ?_
  refine r_iload_n (q := 11) dX0_addToVector_10 rfl rfl rfl ?_
  refine r_ialdN (q := 12) 9 (by decide) rfl dX0_addToVector_11 rfl (hs.e (show b < 4 by omega)) (hs.n rfl (show b < 4 by omega)) (by omega) (by decide) ?_
  refine r_topi (y := nI f0) l1 ?_
  refine r_isubN (q := 13) (by omega) dX0_addToVector_12 rfl ?_
  refine r_topi (y := nI i) (congrArg nI (by omega)) ?_
  refine r_istore (q := 15) (L' := [some (zr 0 b), some (zi (nI n)), some (zi (nI (ky (T.getD i [])))), some (zi x), some (zi (nI i))]) dX0_addToVector_13 rfl (by decide) rfl ?_
  refine r_iload (q := 17) dX0_addToVector_15 rfl rfl ?_
  refine r_if_ltN (q := 20) (t := 73) (by omega) dX0_addToVector_17 (by decide) rfl ?_
  refine r_iload (q := 22) dX0_addToVector_20 rfl rfl ?_
  refine r_aload_n (q := 23) dX0_addToVector_22 rfl rfl rfl ?_
  refine r_iload_n (q := 24) dX0_addToVector_23 rfl rfl rfl ?_
  refine r_callV (Mc := mX0_treesOf) (q := 27) (As := [zi (nI n)]) (st := [zi (nI i)]) ck0 dX0_addToVector_24 rfl rfl mkX0_treesOf wt788 wt789 wt790 rfl (Nat.le_of_ble_eq_true rfl) (Nat.le_of_ble_eq_true rfl) (by decide) (by decide) (by decide) (Or.inl rfl) (hs.e (show b < 4 by omega)) (ok_treesOf hs hb4 hn7 hL) (fun r24 S24 hp24 => ?_)
  obtain ⟨rfl, hq24⟩ := hp24
  rw [hq24]
  show Ok _ _ _ [zi (nI T.length), zi (nI i)] _ _
  refine r_icmp_geN (q := 30) (t := 73) (by omega) (by omega) dX0_addToVector_27 (by decide) rfl (fun h27 => absurd h27 (by omega)) (fun h27 => ?_)
  refine r_aload_n (q := 31) dX0_addToVector_30 rfl rfl rfl ?_
  refine r_iload_n (q := 32) dX0_addToVector_31 rfl rfl rfl ?_
  refine r_iload (q := 34) dX0_addToVector_32 rfl rfl ?_
  refine r_callV (Mc := mX0_keyOf) (q := 37) (As := [zi (nI n), zi (nI i)]) (st := []) ck0 dX0_addToVector_34 rfl rfl mkX0_keyOf wt792 wt793 wt794 rfl (Nat.le_of_ble_eq_true rfl) (Nat.le_of_ble_eq_true rfl) (by decide) (by decide) (by decide) (Or.inl rfl) (hs.e (show b < 4 by omega)) (ok_keyOf hs hb4 hn7 hL hi) (fun r34 S34 hp34 => ?_)
  obtain ⟨rfl, hq34⟩ := hp34
  rw [hq34]
  show Ok _ _ _ [zi (nI (ky (T.getD i [])))] _ _
  refine r_iload_n (q := 38) dX0_addToVector_37 rfl rfl rfl ?_
  refine r_icmp_neN (q := 41) (t := 73) (by omega) (by omega) dX0_addToVector_38 (by decide) rfl (fun h38 => absurd h38 (fun z => z rfl)) (fun h38 => ?_)
  refine r_aload_n (q := 42) dX0_addToVector_41 rfl rfl rfl ?_
  refine r_getr (q := 45) (some (6, b)) ck0 dX0_addToVector_42 rfl (k := 1) (by decide) wt378 rfl (hs.e (show b < 4 by omega)) (hs.r (show b < 4 by omega) (by decide)) ?_
  refine r_getr (q := 48) (some (703, b)) ck6 dX0_addToVector_45 rfl (k := 3) (by decide) wt103 rfl (hs.e (show b < 5 by omega)) (hs.r (show b < 5 by omega) (by decide)) ?_
  refine r_iload (q := 50) dX0_addToVector_48 rfl rfl ?_
  refine r_aload_n (q := 51) dX0_addToVector_50 rfl rfl rfl ?_
  refine r_getr (q := 54) (some (6, b)) ck0 dX0_addToVector_51 rfl (k := 1) (by decide) wt378 rfl (hs.e (show b < 4 by omega)) (hs.r (show b < 4 by omega) (by decide)) ?_
  refine r_getr (q := 57) (some (703, b)) ck6 dX0_addToVector_54 rfl (k := 3) (by decide) wt103 rfl (hs.e (show b < 5 by omega)) (hs.r (show b < 5 by omega) (by decide)) ?_
  refine r_iload (q := 59) dX0_addToVector_57 rfl rfl ?_
  refine r_ialdN (q := 60) 300 (by decide) rfl dX0_addToVector_59 rfl (hs.e (show b < 5 by omega)) (hs.n rfl (show b < 5 by omega)) (by omega) (by decide) ?_
  refine r_topi (y := nI (v i)) (hV i hi).1 ?_
  refine r_iload_n (q := 61) dX0_addToVector_60 rfl rfl rfl ?_
  refine r_iadd (q := 62) dX0_addToVector_61 rfl ?_
  refine r_aload_n (q := 63) dX0_addToVector_62 rfl rfl rfl ?_
  refine r_getr (q := 66) (some (9, b)) ck0 dX0_addToVector_63 rfl (k := 0) (by decide) wt374 rfl (hs.e (show b < 4 by omega)) (hs.r (show b < 4 by omega) (by decide)) ?_
  refine r_geti (q := 69) ck9 dX0_addToVector_66 rfl (k := 0) (by decide) wt294 (Or.inl rfl) (hs.e (show b < 4 by omega)) ?_
  refine r_topi (y := nI P) hp ?_
  refine r_callSN (Mc := mX11_rest) (q := 72) (As := [zi ((nI (v i)) + x), zi (nI P)]) (st := [zi (nI i), zr 703 b]) dX0_addToVector_69 rfl rfl mkX11_rest wn864 wt614 rfl (Nat.le_of_ble_eq_true rfl) (Nat.le_of_ble_eq_true rfl) (by decide) (by decide) (by decide) (Or.inl rfl) hs.some (ok_X11_rest_i h2 hP) (fun r69 S69 hp69 => ?_)
  obtain ⟨rfl, hq69⟩ := hp69
  rw [hq69]
  show Ok _ _ _ [zi (nI (rsN (nI (v i) + x) P)), zi (nI i), zr 703 b] _ _
  refine r_iastN (q := 73) 300 (by decide) rfl dX0_addToVector_72 rfl (hs.e (show b < 5 by omega)) (hs.n rfl (show b < 5 by omega)) (by omega) (by decide) ?_
  refine r_return dX0_addToVector_73 rfl ?_
  exact ⟨rfl, rfl⟩

set_option maxRecDepth 100000 in
theorem lp_redI {b n m P t c rf len : Nat} (hb4 : b < 4) (h2 : 2 ≤ P) (hP : P ≤ 97) (hm300 : m ≤ 300) (htm : t < m) (hc : c < P) {rl : Nat → Nat → Nat} (hlen : rf + tri t + t ≤ len) (hl16 : len ≤ 160000) {Po : Option zV → zS → Prop} : ∀ (d j : Nat) (S : zS) (v : Nat → Nat), j + d = t → Sd S → gN S 107 b = len → gI S 9 b 0 = nI P → (∀ j, j < t → gI S 107 b (rf + tri t + j) = nI (rl t j) ∧ rl t j < P) → Vx S b m P v → (∀ S1 v1, Fr (tVe b) S S1 → Vx S1 b m P v1 → (∀ i, i < m → v1 i = if j ≤ i ∧ i < t then (v i + c * rl t i) % P else v i) → Ok mX0_reduceVector 111 [some (zr 0 b), some (zi (nI n)), some (zr 703 b), some (zi (nI t)), some (zi (nI c)), some (zi (nI (rf + tri t))), some (zi (nI t))] [] S1 Po) → Ok mX0_reduceVector 54 [some (zr 0 b), some (zi (nI n)), some (zr 703 b), some (zi (nI t)), some (zi (nI c)), some (zi (nI (rf + tri t))), some (zi (nI j))] [] S Po := by
  intro d
  induction d with
  | zero =>
    intro j S v hj hs hl hp hr hV K
    obtain rfl : j = t := by omega
    refine r_iload (q := 56) dX0_reduceVector_54 rfl rfl ?_
    refine r_iload_n (q := 57) dX0_reduceVector_56 rfl rfl rfl ?_
    refine r_icmp_geN (q := 60) (t := 111) (by omega) (by omega) dX0_reduceVector_57 (by decide) rfl (fun h57 => ?_) (fun h57 => absurd h57 (by omega))
    exact K S v Fr.rf hV (fun i hi => (if_neg (by omega)).symm)
  | succ d ih =>
    intro j S v hj hs hl hp hr hV K
    have hjt : j < t := by omega
    obtain ⟨r1, r2⟩ := hr j hjt
    obtain ⟨w1, w2⟩ := hV j (by omega)
    have hcr : c * rl t j < 97 * 97 := Nat.lt_of_le_of_lt (Nat.mul_le_mul_left c (show rl t j ≤ 97 by omega)) (by have : c * 97 ≤ 96 * 97 := Nat.mul_le_mul_right _ (by omega); omega)
    by_cases hz : rl t j = 0
    · skip
      refine r_iload (q := 56) dX0_reduceVector_54 rfl rfl ?_
      refine r_iload_n (q := 57) dX0_reduceVector_56 rfl rfl rfl ?_
      refine r_icmp_geN (q := 60) (t := 111) (by omega) (by omega) dX0_reduceVector_57 (by decide) rfl (fun h57 => absurd h57 (by omega)) (fun h57 => ?_)
      refine r_aload_n (q := 61) dX0_reduceVector_60 rfl rfl rfl ?_
      refine r_getr (q := 64) (some (107, b)) ck0 dX0_reduceVector_61 rfl (k := 7) (by decide) wt384 rfl (hs.e (show b < 4 by omega)) (hs.r (show b < 4 by omega) (by decide)) ?_
      refine r_iload (q := 66) dX0_reduceVector_64 rfl rfl ?_
      refine r_iload (q := 68) dX0_reduceVector_66 rfl rfl ?_
      refine r_iaddN (q := 69) dX0_reduceVector_68 rfl ?_
      refine r_ialdN (q := 70) len (by decide) rfl dX0_reduceVector_69 rfl (hs.e (show b < 4 by omega)) hl (by omega) (by omega) ?_
      refine r_topi (y := nI (rl t j)) r1 ?_
      refine r_if_eqN (q := 73) (t := 105) (by omega) dX0_reduceVector_70 (by decide) rfl (fun h70 => ?_) (fun h70 => absurd h70 (by omega))
      refine r_iincN (q := 108) (L' := [some (zr 0 b), some (zi (nI n)), some (zr 703 b), some (zi (nI t)), some (zi (nI c)), some (zi (nI (rf + tri t))), some (zi (nI (j + 1)))]) 1 rfl dX0_reduceVector_105 rfl rfl (by decide) rfl ?_
      refine r_goto (q := 54) dX0_reduceVector_108 (by decide) ?_
      exact ih (j + 1) S v (by omega) hs hl hp hr hV (fun S1 v1 f1 hV1 h1 => K S1 v1 f1 hV1 (fun i hi => by
        rw [h1 i hi]
        by_cases e : i = j
        · rw [e, if_neg (by omega), if_pos (by omega), hz, Nat.mul_zero, Nat.add_zero, Nat.mod_eq_of_lt w2]
        · by_cases q : j + 1 ≤ i ∧ i < t
          · rw [if_pos q, if_pos (by omega)]
          · rw [if_neg q, if_neg (by omega)]))
    · skip
      refine r_iload (q := 56) dX0_reduceVector_54 rfl rfl ?_
      refine r_iload_n (q := 57) dX0_reduceVector_56 rfl rfl rfl ?_
      refine r_icmp_geN (q := 60) (t := 111) (by omega) (by omega) dX0_reduceVector_57 (by decide) rfl (fun h57 => absurd h57 (by omega)) (fun h57 => ?_)
      refine r_aload_n (q := 61) dX0_reduceVector_60 rfl rfl rfl ?_
      refine r_getr (q := 64) (some (107, b)) ck0 dX0_reduceVector_61 rfl (k := 7) (by decide) wt384 rfl (hs.e (show b < 4 by omega)) (hs.r (show b < 4 by omega) (by decide)) ?_
      refine r_iload (q := 66) dX0_reduceVector_64 rfl rfl ?_
      refine r_iload (q := 68) dX0_reduceVector_66 rfl rfl ?_
      refine r_iaddN (q := 69) dX0_reduceVector_68 rfl ?_
      refine r_ialdN (q := 70) len (by decide) rfl dX0_reduceVector_69 rfl (hs.e (show b < 4 by omega)) hl (by omega) (by omega) ?_
      refine r_topi (y := nI (rl t j)) r1 ?_
      refine r_if_eqN (q := 73) (t := 105) (by omega) dX0_reduceVector_70 (by decide) rfl (fun h70 => absurd h70 (by omega)) (fun h70 => ?_)
      refine r_aload_n (q := 74) dX0_reduceVector_73 rfl rfl rfl ?_
      refine r_iload (q := 76) dX0_reduceVector_74 rfl rfl ?_
      refine r_aload_n (q := 77) dX0_reduceVector_76 rfl rfl rfl ?_
      refine r_iload (q := 79) dX0_reduceVector_77 rfl rfl ?_
      refine r_ialdN (q := 80) 300 (by decide) rfl dX0_reduceVector_79 rfl (hs.e (show b < 5 by omega)) (hs.n rfl (show b < 5 by omega)) (by omega) (by decide) ?_
      refine r_topi (y := nI (v j)) w1 ?_
      refine r_iload (q := 82) dX0_reduceVector_80 rfl rfl ?_
      refine r_aload_n (q := 83) dX0_reduceVector_82 rfl rfl rfl ?_
      refine r_getr (q := 86) (some (107, b)) ck0 dX0_reduceVector_83 rfl (k := 7) (by decide) wt384 rfl (hs.e (show b < 4 by omega)) (hs.r (show b < 4 by omega) (by decide)) ?_
      refine r_iload (q := 88) dX0_reduceVector_86 rfl rfl ?_
      refine r_iload (q := 90) dX0_reduceVector_88 rfl rfl ?_
      refine r_iaddN (q := 91) dX0_reduceVector_90 rfl ?_
      refine r_ialdN (q := 92) len (by decide) rfl dX0_reduceVector_91 rfl (hs.e (show b < 4 by omega)) hl (by omega) (by omega) ?_
      refine r_topi (y := nI (rl t j)) r1 ?_
      refine r_imulN (q := 93) dX0_reduceVector_92 rfl ?_
      refine r_iaddN (q := 94) dX0_reduceVector_93 rfl ?_
      refine r_aload_n (q := 95) dX0_reduceVector_94 rfl rfl rfl ?_
      refine r_getr (q := 98) (some (9, b)) ck0 dX0_reduceVector_95 rfl (k := 0) (by decide) wt374 rfl (hs.e (show b < 4 by omega)) (hs.r (show b < 4 by omega) (by decide)) ?_
      refine r_geti (q := 101) ck9 dX0_reduceVector_98 rfl (k := 0) (by decide) wt294 (Or.inl rfl) (hs.e (show b < 4 by omega)) ?_
      refine r_topi (y := nI P) hp ?_
      refine r_callSN (Mc := mX11_rest) (q := 104) (As := [zi (nI ((v j) + (c * (rl t j)))), zi (nI P)]) (st := [zi (nI j), zr 703 b]) dX0_reduceVector_101 rfl rfl mkX11_rest wn864 wt614 rfl (Nat.le_of_ble_eq_true rfl) (Nat.le_of_ble_eq_true rfl) (by decide) (by decide) (by decide) (Or.inl rfl) hs.some (ok_X11_rest_i h2 hP) (fun r101 S101 hp101 => ?_)
      obtain ⟨rfl, hq101⟩ := hp101
      rw [hq101]
      rw [rsN_nI (by omega) (by omega)]
      show Ok _ _ _ [zi (nI ((v j + c * rl t j) % P)), zi (nI j), zr 703 b] _ _
      refine r_iastN (q := 105) 300 (by decide) rfl dX0_reduceVector_104 rfl (hs.e (show b < 5 by omega)) (hs.n rfl (show b < 5 by omega)) (by omega) (by decide) ?_
      refine r_iincN (q := 108) (L' := [some (zr 0 b), some (zi (nI n)), some (zr 703 b), some (zi (nI t)), some (zi (nI c)), some (zi (nI (rf + tri t))), some (zi (nI (j + 1)))]) 1 rfl dX0_reduceVector_105 rfl rfl (by decide) rfl ?_
      refine r_goto (q := 54) dX0_reduceVector_108 (by decide) ?_
      exact ih (j + 1) _ _ (by omega) hs hl (by rw [gI_sI, if_neg (by omega)]; exact hp) (fun i hi => by rw [gI_sI, if_neg (by omega)]; exact hr i hi) (hV.set (Nat.mod_lt _ (by omega))) (fun S1 v1 f1 hV1 h1 => K S1 v1 (fr_ve.tr f1) hV1 (fun i hi => by
        rw [h1 i hi]
        by_cases e : i = j
        · rw [if_neg (by omega), if_pos e, if_pos (by omega), e]
        · rw [if_neg e]
          by_cases q : j + 1 ≤ i ∧ i < t
          · rw [if_pos q, if_pos (by omega)]
          · rw [if_neg q, if_neg (by omega)]))

set_option maxRecDepth 100000 in
theorem lp_red {b n f0 rf P : Nat} (hb4 : b < 4) (hn7 : n ≤ 7) {T : List (List Nat)} (hT : T.Nodup) (h2 : 2 ≤ P) (hP : P ≤ 97) {mk : Nat → Nat} {rl : Nat → Nat → Nat} : ∀ (d : Nat) (x : Int32) (S : zS) (v : Nat → Nat) (w4 w5 w6 : Option zV), x = nI d - 1 → d ≤ T.length → Sd S → Lx S b n f0 T → Mx S b f0 T.length mk → Ux S b n rf T.length P mk rl → gI S 9 b 0 = nI P → Vx S b T.length P v → (∀ t, d ≤ t → t < T.length → mk t ≠ 0 → v t = 0) → Ok mX0_reduceVector 16 [some (zr 0 b), some (zi (nI n)), some (zr 703 b), some (zi x), w4, w5, w6] [] S (fun r S1 => r = none ∧ Fr (tVe b) S S1 ∧ ∃ v1, Vx S1 b T.length P v1 ∧ RedS T P mk rl v v1) := by
  intro d
  induction d with
  | zero =>
    intro x S v w4 w5 w6 hx hd hs hL hM hU hp hV hz
    obtain rfl : x = -1 := hx.trans (by decide)
    refine r_mask [true, true, true, true, false, false, false] rfl ?_
    refine r_iload_n (q := 17) dX0_reduceVector_16 rfl rfl rfl ?_
    refine r_if_lt (q := 20) (t := 117) dX0_reduceVector_17 (by decide) rfl (fun h17 => ?_) (fun h17 => absurd h17 (by decide))
    refine r_return dX0_reduceVector_117 rfl ?_
    exact ⟨rfl, Fr.rf, v, hV, RedS.end (fun t ht hm => hz t (by omega) ht hm)⟩
  | succ t ih =>
    intro x S v w4 w5 w6 hx hd hs hL hM hU hp hV hz
    obtain rfl : x = nI t := hx.trans (nI_prd t)
    obtain ⟨l1, l2, l3, l4, l5⟩ := hL
    have hL : Lx S b n f0 T := ⟨l1, l2, l3, l4, l5⟩
    obtain ⟨u1, u2, u3, u4⟩ := hU
    have hU : Ux S b n rf T.length P mk rl := ⟨u1, u2, u3, u4⟩
    obtain ⟨w1, w2⟩ := hV t (by omega)
    have htri := tri_le (t := t) (m := T.length) (by omega)
    refine r_mask [true, true, true, true, false, false, false] rfl ?_
    by_cases hv0 : v t = 0
    · skip
      refine r_iload_n (q := 17) dX0_reduceVector_16 rfl rfl rfl ?_
      refine r_if_ltN (q := 20) (t := 117) (by omega) dX0_reduceVector_17 (by decide) rfl ?_
      refine r_aload_n (q := 21) dX0_reduceVector_20 rfl rfl rfl ?_
      refine r_iload_n (q := 22) dX0_reduceVector_21 rfl rfl rfl ?_
      refine r_ialdN (q := 23) 300 (by decide) rfl dX0_reduceVector_22 rfl (hs.e (show b < 5 by omega)) (hs.n rfl (show b < 5 by omega)) (by omega) (by decide) ?_
      refine r_topi (y := nI (v t)) w1 ?_
      refine r_istore (q := 25) (L' := [some (zr 0 b), some (zi (nI n)), some (zr 703 b), some (zi (nI t)), some (zi (nI (v t))), none, none]) dX0_reduceVector_23 rfl (by decide) rfl ?_
      refine r_iload (q := 27) dX0_reduceVector_25 rfl rfl ?_
      refine r_if_eqN (q := 30) (t := 111) (by omega) dX0_reduceVector_27 (by decide) rfl (fun h27 => ?_) (fun h27 => absurd h27 (by omega))
      refine r_iinc (q := 114) (L' := [some (zr 0 b), some (zi (nI n)), some (zr 703 b), some (zi ((nI t) + (-1))), some (zi (nI (v t))), none, none]) ((nI t) + (-1)) dX0_reduceVector_111 rfl rfl (by decide) rfl rfl ?_
      refine r_goto (q := 16) dX0_reduceVector_114 (by decide) ?_
      exact ih _ S v _ _ _ (Int32.sub_eq_add_neg _ _).symm (by omega) hs hL hM hU hp hV (fun s h1 h3 h4 => if e : s = t then by rw [e]; exact hv0 else hz s (by omega) h3 h4)
    by_cases hm0 : mk t = 0
    · skip
      refine r_iload_n (q := 17) dX0_reduceVector_16 rfl rfl rfl ?_
      refine r_if_ltN (q := 20) (t := 117) (by omega) dX0_reduceVector_17 (by decide) rfl ?_
      refine r_aload_n (q := 21) dX0_reduceVector_20 rfl rfl rfl ?_
      refine r_iload_n (q := 22) dX0_reduceVector_21 rfl rfl rfl ?_
      refine r_ialdN (q := 23) 300 (by decide) rfl dX0_reduceVector_22 rfl (hs.e (show b < 5 by omega)) (hs.n rfl (show b < 5 by omega)) (by omega) (by decide) ?_
      refine r_topi (y := nI (v t)) w1 ?_
      refine r_istore (q := 25) (L' := [some (zr 0 b), some (zi (nI n)), some (zr 703 b), some (zi (nI t)), some (zi (nI (v t))), none, none]) dX0_reduceVector_23 rfl (by decide) rfl ?_
      refine r_iload (q := 27) dX0_reduceVector_25 rfl rfl ?_
      refine r_if_eqN (q := 30) (t := 111) (by omega) dX0_reduceVector_27 (by decide) rfl (fun h27 => absurd h27 (by omega)) (fun h27 => ?_)
      refine r_aload_n (q := 31) dX0_reduceVector_30 rfl rfl rfl ?_
      refine r_iload_n (q := 32) dX0_reduceVector_31 rfl rfl rfl ?_
      refine r_iload_n (q := 33) dX0_reduceVector_32 rfl rfl rfl ?_
      refine r_callV (Mc := mX0_isNormal) (q := 36) (As := [zi (nI n), zi (nI t)]) (st := []) ck0 dX0_reduceVector_33 rfl rfl mkX0_isNormal wt844 wt845 wt846 rfl (Nat.le_of_ble_eq_true rfl) (Nat.le_of_ble_eq_true rfl) (by decide) (by decide) (by decide) (Or.inl rfl) (hs.e (show b < 4 by omega)) (ok_isNormal hs hb4 hn7 hL hM (by omega)) (fun r33 S33 hp33 => ?_)
      obtain ⟨rfl, hq33⟩ := hp33
      rw [hq33]
      rw [if_pos hm0]
      show Ok _ _ _ [zi (nI 1)] _ _
      refine r_if_neN (q := 39) (t := 111) (by omega) dX0_reduceVector_36 (by decide) rfl (fun h36 => ?_) (fun h36 => absurd h36 (by omega))
      refine r_iinc (q := 114) (L' := [some (zr 0 b), some (zi (nI n)), some (zr 703 b), some (zi ((nI t) + (-1))), some (zi (nI (v t))), none, none]) ((nI t) + (-1)) dX0_reduceVector_111 rfl rfl (by decide) rfl rfl ?_
      refine r_goto (q := 16) dX0_reduceVector_114 (by decide) ?_
      exact ih _ S v _ _ _ (Int32.sub_eq_add_neg _ _).symm (by omega) hs hL hM hU hp hV (fun s h1 h3 h4 => if e : s = t then absurd hm0 (by rw [← e]; exact h4) else hz s (by omega) h3 h4)
    refine r_iload_n (q := 17) dX0_reduceVector_16 rfl rfl rfl ?_
    refine r_if_ltN (q := 20) (t := 117) (by omega) dX0_reduceVector_17 (by decide) rfl ?_
    refine r_aload_n (q := 21) dX0_reduceVector_20 rfl rfl rfl ?_
    refine r_iload_n (q := 22) dX0_reduceVector_21 rfl rfl rfl ?_
    refine r_ialdN (q := 23) 300 (by decide) rfl dX0_reduceVector_22 rfl (hs.e (show b < 5 by omega)) (hs.n rfl (show b < 5 by omega)) (by omega) (by decide) ?_
    refine r_topi (y := nI (v t)) w1 ?_
    refine r_istore (q := 25) (L' := [some (zr 0 b), some (zi (nI n)), some (zr 703 b), some (zi (nI t)), some (zi (nI (v t))), none, none]) dX0_reduceVector_23 rfl (by decide) rfl ?_
    refine r_iload (q := 27) dX0_reduceVector_25 rfl rfl ?_
    refine r_if_eqN (q := 30) (t := 111) (by omega) dX0_reduceVector_27 (by decide) rfl (fun h27 => absurd h27 (by omega)) (fun h27 => ?_)
    refine r_aload_n (q := 31) dX0_reduceVector_30 rfl rfl rfl ?_
    refine r_iload_n (q := 32) dX0_reduceVector_31 rfl rfl rfl ?_
    refine r_iload_n (q := 33) dX0_reduceVector_32 rfl rfl rfl ?_
    refine r_callV (Mc := mX0_isNormal) (q := 36) (As := [zi (nI n), zi (nI t)]) (st := []) ck0 dX0_reduceVector_33 rfl rfl mkX0_isNormal wt844 wt845 wt846 rfl (Nat.le_of_ble_eq_true rfl) (Nat.le_of_ble_eq_true rfl) (by decide) (by decide) (by decide) (Or.inl rfl) (hs.e (show b < 4 by omega)) (ok_isNormal hs hb4 hn7 hL hM (by omega)) (fun r33 S33 hp33 => ?_)
    obtain ⟨rfl, hq33⟩ := hp33
    rw [hq33]
    rw [if_neg hm0]
    show Ok _ _ _ [zi (nI 0)] _ _
    refine r_if_neN (q := 39) (t := 111) (by omega) dX0_reduceVector_36 (by decide) rfl (fun h36 => absurd h36 (by omega)) (fun h36 => ?_)
    refine r_aload_n (q := 40) dX0_reduceVector_39 rfl rfl rfl ?_
    refine r_iload_n (q := 41) dX0_reduceVector_40 rfl rfl rfl ?_
    refine r_iconst (q := 42) (nI 0) dX0_reduceVector_41 rfl (by decide) ?_
    refine r_iastN (q := 43) 300 (by decide) rfl dX0_reduceVector_42 rfl (hs.e (show b < 5 by omega)) (hs.n rfl (show b < 5 by omega)) (by omega) (by decide) ?_
    refine r_aload_n (q := 44) dX0_reduceVector_43 rfl rfl rfl ?_
    refine r_iload_n (q := 45) dX0_reduceVector_44 rfl rfl rfl ?_
    refine r_iload_n (q := 46) dX0_reduceVector_45 rfl rfl rfl ?_
    refine r_callV (Mc := mX0_ruleOf) (q := 49) (As := [zi (nI n), zi (nI t)]) (st := []) ck0 dX0_reduceVector_46 rfl rfl mkX0_ruleOf wt852 wt854 wp37 rfl (Nat.le_of_ble_eq_true rfl) (Nat.le_of_ble_eq_true rfl) (by decide) (by decide) (by decide) (Or.inl rfl) (hs.e (show b < 4 by omega)) (ok_ruleOf (S := sI S 703 b t (nI 0)) hs hb4 hn7 (by rw [gI_sI, if_neg (by omega)]; exact u1) (by omega)) (fun r46 S46 hp46 => ?_)
    obtain ⟨rfl, hq46⟩ := hp46
    rw [hq46]
    show Ok _ _ _ [zi (nI (rf + tri t))] _ _
    refine r_istore (q := 51) (L' := [some (zr 0 b), some (zi (nI n)), some (zr 703 b), some (zi (nI t)), some (zi (nI (v t))), some (zi (nI (rf + tri t))), none]) dX0_reduceVector_49 rfl (by decide) rfl ?_
    refine r_iconst (q := 52) (nI 0) dX0_reduceVector_51 rfl (by decide) ?_
    refine r_istore (q := 54) (L' := [some (zr 0 b), some (zi (nI n)), some (zr 703 b), some (zi (nI t)), some (zi (nI (v t))), some (zi (nI (rf + tri t))), some (zi (nI 0))]) dX0_reduceVector_52 rfl (by decide) rfl ?_
    refine lp_redI hb4 h2 hP l4 (by omega) w2 (rl := rl) (len := gN S 107 b) (by omega) u3 t 0 (sI S 703 b t (nI 0)) (fun j => if j = t then 0 else v j) (by omega) hs rfl (by rw [gI_sI, if_neg (by omega)]; exact hp) (fun j hj => by rw [gI_sI, if_neg (by omega)]; exact u4 t (by omega) hm0 j hj) (hV.set (by omega)) (fun S1 v1 f1 hV1 h1 => ?_)
    have f2 : Fr (tVe b) S S1 := fr_ve.tr f1
    refine r_iinc (q := 114) (L' := [some (zr 0 b), some (zi (nI n)), some (zr 703 b), some (zi ((nI t) + (-1))), some (zi (nI (v t))), some (zi (nI (rf + tri t))), some (zi (nI t))]) ((nI t) + (-1)) dX0_reduceVector_111 rfl rfl (by decide) rfl rfl ?_
    refine r_goto (q := 16) dX0_reduceVector_114 (by decide) ?_
    refine Ok.mono (ih _ S1 v1 _ _ _ (Int32.sub_eq_add_neg _ _).symm (by omega) (hs.fr f2) (hL.fr f2 (fun k => ⟨rfl, rfl⟩)) (hM.fr f2 (fun k => rfl)) (hU.fr f2 (fun k => ⟨rfl, rfl⟩)) ((f2.1 _ _ _ rfl).trans hp) hV1 (fun s h3 h4 h5 => ?_)) fun r S2 z => ?_
    · rw [h1 s h4, if_neg (by omega)]
      show (if s = t then 0 else v s) = 0
      by_cases e : s = t
      · rw [if_pos e]
      · rw [if_neg e]; exact hz s (by omega) h4 h5
    · obtain ⟨z1, z2, v2, z3, z4⟩ := z
      refine ⟨z1, f2.tr z2, v2, z3, red_step hT (by omega) hm0 hv0 (fun j hj => ?_) ?_ (fun j hj hj2 => ?_) z4⟩
      · rw [h1 j (by omega), if_pos ⟨by omega, hj⟩]
        show ((if j = t then 0 else v j) + _) % P = _
        rw [if_neg (by omega)]
      · rw [h1 t (by omega), if_neg (by omega)]
        exact if_pos rfl
      · rw [h1 j hj2, if_neg (by omega)]
        exact if_neg (by omega)

set_option maxRecDepth 100000 in
theorem ok_reduceVector {S : zS} (hs : Sd S) {b n f0 : Nat} (hb4 : b < 4) (hn7 : n ≤ 7) {T : List (List Nat)} (hL : Lx S b n f0 T) (hTn : T.Nodup) {P rf : Nat} (h2 : 2 ≤ P) (hP : P ≤ 97) (hp : gI S 9 b 0 = nI P) {v : Nat → Nat} (hV : Vx S b T.length P v) {mk : Nat → Nat} {rl : Nat → Nat → Nat} (hM : Mx S b f0 T.length mk) (hU : Ux S b n rf T.length P mk rl) : Ok mX0_reduceVector 0 (ent 7 [zr 0 b, zi (nI n)]) [] S (fun r S1 => r = none ∧ Fr (tVe b) S S1 ∧ ∃ v1, Vx S1 b T.length P v1 ∧ RedS T P mk rl v v1) := by
  show Ok mX0_reduceVector 0 [some (zr 0 b), some (zi (nI n)), none, none, none, none, none] [] S _
  refine r_aload_n (q := 1) dX0_reduceVector_0 rfl rfl rfl ?_
  refine r_getr (q := 4) (some (6, b)) ck0 dX0_reduceVector_1 rfl (k := 1) (by decide) wt378 rfl (hs.e (show b < 4 by omega)) (hs.r (show b < 4 by omega) (by decide)) ?_
  refine r_getr (q := 7) (some (703, b)) ck6 dX0_reduceVector_4 rfl (k := 3) (by decide) wt103 rfl (hs.e (show b < 5 by omega)) (hs.r (show b < 5 by omega) (by decide)) ?_
  refine r_astore_n (q := 8) (L' := [some (zr 0 b), some (zi (nI n)), some (zr 703 b), none, none, none, none]) dX0_reduceVector_7 rfl rfl (by decide) rfl ?_
  refine r_aload_n (q := 9) dX0_reduceVector_8 rfl rfl rfl ?_
  refine r_iload_n (q := 10) dX0_reduceVector_9 rfl rfl rfl ?_
  refine r_callV (Mc := mX0_treesOf) (q := 13) (As := [zi (nI n)]) (st := []) ck0 dX0_reduceVector_10 rfl rfl mkX0_treesOf wt788 wt789 wt790 rfl (Nat.le_of_ble_eq_true rfl) (Nat.le_of_ble_eq_true rfl) (by decide) (by decide) (by decide) (Or.inl rfl) (hs.e (show b < 4 by omega)) (ok_treesOf hs hb4 hn7 hL) (fun r10 S10 hp10 => ?_)
  obtain ⟨rfl, hq10⟩ := hp10
  rw [hq10]
  show Ok _ _ _ [zi (nI T.length)] _ _
  refine r_iconst (q := 14) (nI 1) dX0_reduceVector_13 rfl (by decide) ?_
  refine r_isub (q := 15) dX0_reduceVector_14 rfl ?_
  refine r_istore_n (q := 16) (L' := [some (zr 0 b), some (zi (nI n)), some (zr 703 b), some (zi ((nI T.length) - (nI 1))), none, none, none]) dX0_reduceVector_15 rfl rfl (by decide) rfl ?_
  exact lp_red hb4 hn7 hTn h2 hP T.length _ S v _ _ _ rfl (Nat.le_refl _) hs hL hM hU hp hV (fun t h1 h3 _ => absurd h1 (by omega))

