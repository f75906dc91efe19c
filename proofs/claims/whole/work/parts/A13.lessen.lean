/-! the reference's row, lessened -/
def tRv (x y _k : Nat) : Bool := x == 1341 && y == 0
/-- a level's rows in the reference -/
def Bx (S : zS) (q n F RF m P : Nat) (pv : Nat → Bool) (bs : Nat → Nat → Nat) : Prop := gI S 1322 0 (1173 * q) = nI P ∧ gI S 1324 0 (8 * q + n) = nI m ∧ gI S 1325 0 (8 * q + n) = nI F ∧ gI S 1327 0 (8 * q + n) = nI RF ∧ m ≤ 300 ∧ F + m ≤ 4400 ∧ RF + m * m ≤ 400000 ∧ (∀ t, t < m → gI S 1332 0 (F + t) = nI (b01 (pv t))) ∧ ∀ t, t < m → pv t = true → (∀ j, j < m → gI S 1331 0 (RF + t * m + j) = nI (bs t j) ∧ bs t j < P) ∧ bs t t = 1 ∧ ∀ j, t < j → j < m → bs t j = 0
def Vr (S : zS) (m P : Nat) (v : Nat → Nat) : Prop := ∀ j, j < m → gI S 1341 0 j = nI (v j) ∧ v j < P
theorem Bx.fr {S S1 : zS} {q n F RF m P : Nat} {pv : Nat → Bool} {bs : Nat → Nat → Nat} (h : Bx S q n F RF m P pv bs) (f : Fr tRv S S1) : Bx S1 q n F RF m P pv bs := by
  obtain ⟨h1, h2, h3, h4, h5, h6, h7, h8, h9⟩ := h
  exact ⟨(f.1 _ _ _ rfl).trans h1, (f.1 _ _ _ rfl).trans h2, (f.1 _ _ _ rfl).trans h3, (f.1 _ _ _ rfl).trans h4, h5, h6, h7, fun t ht => (f.1 _ _ _ rfl).trans (h8 t ht), fun t ht hp => ⟨fun j hj => ⟨(f.1 _ _ _ rfl).trans ((h9 t ht hp).1 j hj).1, ((h9 t ht hp).1 j hj).2⟩, (h9 t ht hp).2⟩⟩
theorem Vr.set {S : zS} {m P : Nat} {v : Nat → Nat} (h : Vr S m P v) {k x : Nat} (hx : x < P) : Vr (sI S 1341 0 k (nI x)) m P (fun j => if j = k then x else v j) := fun j hj => by
  show gI (sI S 1341 0 k (nI x)) 1341 0 j = nI (if j = k then x else v j) ∧ (if j = k then x else v j) < P
  by_cases e : j = k
  · rw [if_pos e, gI_sI, if_pos ⟨rfl, rfl, e⟩]; exact ⟨rfl, hx⟩
  · rw [if_neg e, gI_sI, if_neg (fun z => e z.2.2)]; exact h j hj
def RwKr (T : List (List Nat)) (pv : Nat → Bool) (bs : Nat → Nat → Nat) (K : Nat) (r : zL) : Prop := ∃ s, s < K ∧ s < T.length ∧ pv s = true ∧ r = V T (RR bs s)
def RedR (T : List (List Nat)) (P : Nat) (pv : Nat → Bool) (bs : Nat → Nat → Nat) (v v' : Nat → Nat) : Prop := (∀ t, t < T.length → pv t = true → v' t = 0) ∧ ∀ K, (∀ t, K ≤ t → t < T.length → v t = 0) → (∀ t, K ≤ t → t < T.length → v' t = 0) ∧ Cg P (RwKr T pv bs K) (Vn T v) (Vn T v')
theorem redR_step {T : List (List Nat)} (hT : T.Nodup) {P : Nat} {pv : Nat → Bool} {bs : Nat → Nat → Nat} {t : Nat} (ht : t < T.length) (hm : pv t = true) (hz : ∀ j, t < j → j < T.length → bs t j = 0) {v v1 v' : Nat → Nat} (hvP : v t < P) (hv : v t ≠ 0) (hle : ∀ j, j ≤ t → v1 j = (v j + (P - v t) * bs t j) % P) (hgt : ∀ j, t < j → j < T.length → v1 j = v j) (h : RedR T P pv bs v1 v') : RedR T P pv bs v v' := by
  refine ⟨h.1, fun K hK => ?_⟩
  have htK : t < K := by
    apply Classical.byContradiction
    intro z
    exact hv (hK t (by omega) ht)
  have h1 := h.2 K (fun s hs hs2 => by rw [hgt s (by omega) hs2]; exact hK s hs hs2)
  refine ⟨h1.1, Cg.tr (cg_row hT (c := (v t : Int)) (R := RR bs t) (⟨t, htK, ht, hm, rfl⟩) fun j hj => ?_) h1.2⟩
  unfold RR
  by_cases q : j ≤ t
  · rw [hle j q]
    have h3 := mod_dvd (v j + (P - v t) * bs t j) P
    rw [Int.natCast_add, Int.natCast_mul, Int.natCast_sub (by omega), Int.sub_mul] at h3
    have h4 : (P : Int) ∣ (P : Int) * (bs t j : Int) := Int.dvd_mul_right _ _
    have h5 := Int.dvd_add h3 h4
    rw [show ((v j + (P - v t) * bs t j) % P : Nat) - ((v j : Int) + ((P : Int) * (bs t j : Int) - (v t : Int) * (bs t j : Int))) + (P : Int) * (bs t j : Int) = ((v j + (P - v t) * bs t j) % P : Nat) - ((v j : Int) - (v t : Int) * (bs t j : Int)) by omega] at h5
    exact h5
  · rw [hgt j (by omega) hj, hz j (by omega) hj]
    rw [show (v j : Int) - ((v j : Int) - (v t : Int) * ((0 : Nat) : Int)) = 0 by simp]; exact Int.dvd_zero _
theorem RedR.end {T : List (List Nat)} {P : Nat} {pv : Nat → Bool} {bs : Nat → Nat → Nat} {v : Nat → Nat} (h : ∀ t, t < T.length → pv t = true → v t = 0) : RedR T P pv bs v v := ⟨h, fun K hK => ⟨hK, Cg.rf⟩⟩
theorem mulle {t m : Nat} (h : t < m) : t * m + m ≤ m * m := by
  have : (t + 1) * m ≤ m * m := Nat.mul_le_mul_right m h
  rw [Nat.add_mul, Nat.one_mul] at this; exact this

set_option maxRecDepth 100000 in
theorem ok_rowAt {S : zS} (hs : Sd S) {q n RF m c : Nat} (hq : q ≤ 1) (hn7 : n ≤ 7) (h2 : gI S 1324 0 (8 * q + n) = nI m) (h4 : gI S 1327 0 (8 * q + n) = nI RF) : Ok mX12_rowAt 0 (ent 4 [zr 12 0, zi (nI q), zi (nI n), zi (nI c)]) [] S (fun r S1 => r = some (zi (nI (RF + c * m))) ∧ S1 = S) := by
  show Ok mX12_rowAt 0 [some (zr 12 0), some (zi (nI q)), some (zi (nI n)), some (zi (nI c))] [] S _
  refine r_aload_n (q := 1) dX12_rowAt_0 rfl rfl rfl ?_
  refine r_getr (q := 4) (some (1327, 0)) ck12 dX12_rowAt_1 rfl (k := 27) (by decide) wt1305 rfl (hs.e (by decide)) (hs.r (by decide) (by decide)) ?_
  refine r_bipush (q := 6) (nI 8) dX12_rowAt_4 rfl (by decide) ?_
  refine r_iload_n (q := 7) dX12_rowAt_6 rfl rfl rfl ?_
  refine r_imulN (q := 8) dX12_rowAt_7 rfl ?_
  refine r_iload_n (q := 9) dX12_rowAt_8 rfl rfl rfl ?_
  refine r_iaddN (q := 10) dX12_rowAt_9 rfl ?_
  refine r_ialdN (q := 11) 16 (by decide) rfl dX12_rowAt_10 rfl (hs.e (by decide)) (hs.n rfl (by decide)) (by omega) (by decide) ?_
  refine r_topi (y := nI RF) h4 ?_
  refine r_iload_n (q := 12) dX12_rowAt_11 rfl rfl rfl ?_
  refine r_aload_n (q := 13) dX12_rowAt_12 rfl rfl rfl ?_
  refine r_getr (q := 16) (some (1324, 0)) ck12 dX12_rowAt_13 rfl (k := 24) (by decide) wt1302 rfl (hs.e (by decide)) (hs.r (by decide) (by decide)) ?_
  refine r_bipush (q := 18) (nI 8) dX12_rowAt_16 rfl (by decide) ?_
  refine r_iload_n (q := 19) dX12_rowAt_18 rfl rfl rfl ?_
  refine r_imulN (q := 20) dX12_rowAt_19 rfl ?_
  refine r_iload_n (q := 21) dX12_rowAt_20 rfl rfl rfl ?_
  refine r_iaddN (q := 22) dX12_rowAt_21 rfl ?_
  refine r_ialdN (q := 23) 16 (by decide) rfl dX12_rowAt_22 rfl (hs.e (by decide)) (hs.n rfl (by decide)) (by omega) (by decide) ?_
  refine r_topi (y := nI m) h2 ?_
  refine r_imulN (q := 24) dX12_rowAt_23 rfl ?_
  refine r_iaddN (q := 25) dX12_rowAt_24 rfl ?_
  refine r_ireturn dX12_rowAt_25 rfl ?_
  exact ⟨rfl, rfl⟩

set_option maxRecDepth 100000 in
theorem lp_lesI {q n m P F RF c vc : Nat} (h2 : 2 ≤ P) (hP : P ≤ 97) (hm3 : m ≤ 300) (hcm : c < m) (hvc : vc < P) (hRF : RF + m * m ≤ 400000) {b : Nat → Nat} {Po : Option zV → zS → Prop} : ∀ (d k : Nat) (S : zS) (v : Nat → Nat), k + d = c + 1 → Sd S → (∀ j, j < m → gI S 1331 0 (RF + c * m + j) = nI (b j) ∧ b j < P) → Vr S m P v → (∀ S1 v1, Fr tRv S S1 → Vr S1 m P v1 → (∀ j, j < m → v1 j = if k ≤ j ∧ j ≤ c then (v j + (P - vc) * b j) % P else v j) → Ok mX12_lessen 138 [some (zr 12 0), some (zi (nI q)), some (zi (nI n)), some (zi (nI P)), some (zi (nI m)), some (zi (nI F)), some (zi (nI c)), some (zi (nI vc)), some (zi (nI (RF + c * m))), some (zi (nI (c + 1)))] [] S1 Po) → Ok mX12_lessen 93 [some (zr 12 0), some (zi (nI q)), some (zi (nI n)), some (zi (nI P)), some (zi (nI m)), some (zi (nI F)), some (zi (nI c)), some (zi (nI vc)), some (zi (nI (RF + c * m))), some (zi (nI k))] [] S Po := by
  have hml := mulle hcm
  intro d
  induction d with
  | zero =>
    intro k S v hk hs hb hV K
    obtain rfl : k = c + 1 := by omega
    refine r_iload (q := 95) dX12_lessen_93 rfl rfl ?_
    refine r_iload (q := 97) dX12_lessen_95 rfl rfl ?_
    refine r_icmp_gtN (q := 100) (t := 138) (by omega) (by omega) dX12_lessen_97 (by decide) rfl (fun h97 => ?_) (fun h97 => absurd h97 (by omega))
    exact K S v Fr.rf hV (fun j hj => (if_neg (by omega)).symm)
  | succ d ih =>
    intro k S v hk hs hb hV K
    obtain ⟨r1, r2⟩ := hb k (by omega)
    obtain ⟨w1, w2⟩ := hV k (by omega)
    have hpr : (P - vc) * b k ≤ 97 * 97 := Nat.mul_le_mul (by omega) (by omega)
    refine r_iload (q := 95) dX12_lessen_93 rfl rfl ?_
    refine r_iload (q := 97) dX12_lessen_95 rfl rfl ?_
    refine r_icmp_gtN (q := 100) (t := 138) (by omega) (by omega) dX12_lessen_97 (by decide) rfl (fun h97 => absurd h97 (by omega)) (fun h97 => ?_)
    refine r_aload_n (q := 101) dX12_lessen_100 rfl rfl rfl ?_
    refine r_getr (q := 104) (some (1341, 0)) ck12 dX12_lessen_101 rfl (k := 41) (by decide) wt1319 rfl (hs.e (by decide)) (hs.r (by decide) (by decide)) ?_
    refine r_iload (q := 106) dX12_lessen_104 rfl rfl ?_
    refine r_aload_n (q := 107) dX12_lessen_106 rfl rfl rfl ?_
    refine r_getr (q := 110) (some (1341, 0)) ck12 dX12_lessen_107 rfl (k := 41) (by decide) wt1319 rfl (hs.e (by decide)) (hs.r (by decide) (by decide)) ?_
    refine r_iload (q := 112) dX12_lessen_110 rfl rfl ?_
    refine r_ialdN (q := 113) 300 (by decide) rfl dX12_lessen_112 rfl (hs.e (by decide)) (hs.n rfl (by decide)) (by omega) (by decide) ?_
    refine r_topi (y := nI (v k)) w1 ?_
    refine r_iload_n (q := 114) dX12_lessen_113 rfl rfl rfl ?_
    refine r_iload (q := 116) dX12_lessen_114 rfl rfl ?_
    refine r_isubN (q := 117) (by omega) dX12_lessen_116 rfl ?_
    refine r_aload_n (q := 118) dX12_lessen_117 rfl rfl rfl ?_
    refine r_getr (q := 121) (some (1331, 0)) ck12 dX12_lessen_118 rfl (k := 31) (by decide) wt1309 rfl (hs.e (by decide)) (hs.r (by decide) (by decide)) ?_
    refine r_iload (q := 123) dX12_lessen_121 rfl rfl ?_
    refine r_iload (q := 125) dX12_lessen_123 rfl rfl ?_
    refine r_iaddN (q := 126) dX12_lessen_125 rfl ?_
    refine r_ialdN (q := 127) 400000 (by decide) rfl dX12_lessen_126 rfl (hs.e (by decide)) (hs.n rfl (by decide)) (by omega) (by decide) ?_
    refine r_topi (y := nI (b k)) r1 ?_
    refine r_imulN (q := 128) dX12_lessen_127 rfl ?_
    refine r_iaddN (q := 129) dX12_lessen_128 rfl ?_
    refine r_iload_n (q := 130) dX12_lessen_129 rfl rfl rfl ?_
    refine r_iremN (q := 131) (by omega) (by omega) (by omega) dX12_lessen_130 rfl ?_
    refine r_iastN (q := 132) 300 (by decide) rfl dX12_lessen_131 rfl (hs.e (by decide)) (hs.n rfl (by decide)) (by omega) (by decide) ?_
    refine r_iincN (q := 135) (L' := [some (zr 12 0), some (zi (nI q)), some (zi (nI n)), some (zi (nI P)), some (zi (nI m)), some (zi (nI F)), some (zi (nI c)), some (zi (nI vc)), some (zi (nI (RF + c * m))), some (zi (nI (k + 1)))]) 1 rfl dX12_lessen_132 rfl rfl (by decide) rfl ?_
    refine r_goto (q := 93) dX12_lessen_135 (by decide) ?_
    have f1 : Fr tRv S (sI S 1341 0 k (nI ((v k + (P - vc) * b k) % P))) := (Fr.rf).i rfl
    refine ih (k + 1) _ _ (by omega) hs (fun j hj => by rw [gI_sI, if_neg (by omega)]; exact hb j hj) (hV.set (Nat.mod_lt _ (by omega))) (fun S1 v1 g1 g2 g3 => K S1 v1 (f1.tr g1) g2 (fun j hj => ?_))
    rw [g3 j hj]
    by_cases e : j = k
    · rw [if_neg (by omega), if_pos e, if_pos (by omega), e]
    · rw [if_neg e]
      by_cases q : k + 1 ≤ j ∧ j ≤ c
      · rw [if_pos q, if_pos (by omega)]
      · rw [if_neg q, if_neg (by omega)]

set_option maxRecDepth 100000 in
theorem lp_les {q n F RF P : Nat} (hq : q ≤ 1) (hn7 : n ≤ 7) {T : List (List Nat)} (hT : T.Nodup) (h2 : 2 ≤ P) (hP : P ≤ 97) {pv : Nat → Bool} {bs : Nat → Nat → Nat} : ∀ (d : Nat) (x : Int32) (S : zS) (v : Nat → Nat) (w7 w8 w9 : Option zV), x = nI d - 1 → d ≤ T.length → Sd S → Bx S q n F RF T.length P pv bs → Vr S T.length P v → (∀ t, d ≤ t → t < T.length → pv t = true → v t = 0) → Ok mX12_lessen 45 [some (zr 12 0), some (zi (nI q)), some (zi (nI n)), some (zi (nI P)), some (zi (nI T.length)), some (zi (nI F)), some (zi x), w7, w8, w9] [] S (fun r S1 => r = none ∧ Fr tRv S S1 ∧ ∃ v1, Vr S1 T.length P v1 ∧ RedR T P pv bs v v1) := by
  intro d
  induction d with
  | zero =>
    intro x S v w7 w8 w9 hx hd hs hB hV hz
    obtain rfl : x = -1 := hx.trans (by decide)
    refine r_mask [true, true, true, true, true, true, true, false, false, false] rfl ?_
    refine r_iload (q := 47) dX12_lessen_45 rfl rfl ?_
    refine r_if_lt (q := 50) (t := 144) dX12_lessen_47 (by decide) rfl (fun h47 => ?_) (fun h47 => absurd h47 (by decide))
    refine r_return dX12_lessen_144 rfl ?_
    exact ⟨rfl, Fr.rf, v, hV, RedR.end (fun t ht hm => hz t (by omega) ht hm)⟩
  | succ t ih =>
    intro x S v w7 w8 w9 hx hd hs hB hV hz
    obtain rfl : x = nI t := hx.trans (nI_prd t)
    obtain ⟨b1, b2, b3, b4, b5, b6, b7, b8, b9⟩ := hB
    have hB : Bx S q n F RF T.length P pv bs := ⟨b1, b2, b3, b4, b5, b6, b7, b8, b9⟩
    obtain ⟨w1, w2⟩ := hV t (by omega)
    have p1 := b8 t (by omega)
    have hml := mulle (show t < T.length by omega)
    refine r_mask [true, true, true, true, true, true, true, false, false, false] rfl ?_
    by_cases hv0 : v t = 0
    · skip
      refine r_iload (q := 47) dX12_lessen_45 rfl rfl ?_
      refine r_if_ltN (q := 50) (t := 144) (by omega) dX12_lessen_47 (by decide) rfl ?_
      refine r_aload_n (q := 51) dX12_lessen_50 rfl rfl rfl ?_
      refine r_getr (q := 54) (some (1341, 0)) ck12 dX12_lessen_51 rfl (k := 41) (by decide) wt1319 rfl (hs.e (by decide)) (hs.r (by decide) (by decide)) ?_
      refine r_iload (q := 56) dX12_lessen_54 rfl rfl ?_
      refine r_ialdN (q := 57) 300 (by decide) rfl dX12_lessen_56 rfl (hs.e (by decide)) (hs.n rfl (by decide)) (by omega) (by decide) ?_
      refine r_topi (y := nI (v t)) w1 ?_
      refine r_istore (q := 59) (L' := [some (zr 12 0), some (zi (nI q)), some (zi (nI n)), some (zi (nI P)), some (zi (nI T.length)), some (zi (nI F)), some (zi (nI t)), some (zi (nI (v t))), none, none]) dX12_lessen_57 rfl (by decide) rfl ?_
      refine r_iload (q := 61) dX12_lessen_59 rfl rfl ?_
      refine r_if_eqN (q := 64) (t := 138) (by omega) dX12_lessen_61 (by decide) rfl (fun h61 => ?_) (fun h61 => absurd h61 (by omega))
      refine r_iinc (q := 141) (L' := [some (zr 12 0), some (zi (nI q)), some (zi (nI n)), some (zi (nI P)), some (zi (nI T.length)), some (zi (nI F)), some (zi ((nI t) + (-1))), some (zi (nI (v t))), none, none]) ((nI t) + (-1)) dX12_lessen_138 rfl rfl (by decide) rfl rfl ?_
      refine r_goto (q := 45) dX12_lessen_141 (by decide) ?_
      exact ih _ S v _ _ _ (Int32.sub_eq_add_neg _ _).symm (by omega) hs hB hV (fun s h1 h3 h4 => if e : s = t then by rw [e]; exact hv0 else hz s (by omega) h3 h4)
    cases hpv : pv t with
    | false =>
      rw [hpv] at p1
      have p1 : gI S 1332 0 (F + t) = nI 0 := p1
      refine r_iload (q := 47) dX12_lessen_45 rfl rfl ?_
      refine r_if_ltN (q := 50) (t := 144) (by omega) dX12_lessen_47 (by decide) rfl ?_
      refine r_aload_n (q := 51) dX12_lessen_50 rfl rfl rfl ?_
      refine r_getr (q := 54) (some (1341, 0)) ck12 dX12_lessen_51 rfl (k := 41) (by decide) wt1319 rfl (hs.e (by decide)) (hs.r (by decide) (by decide)) ?_
      refine r_iload (q := 56) dX12_lessen_54 rfl rfl ?_
      refine r_ialdN (q := 57) 300 (by decide) rfl dX12_lessen_56 rfl (hs.e (by decide)) (hs.n rfl (by decide)) (by omega) (by decide) ?_
      refine r_topi (y := nI (v t)) w1 ?_
      refine r_istore (q := 59) (L' := [some (zr 12 0), some (zi (nI q)), some (zi (nI n)), some (zi (nI P)), some (zi (nI T.length)), some (zi (nI F)), some (zi (nI t)), some (zi (nI (v t))), none, none]) dX12_lessen_57 rfl (by decide) rfl ?_
      refine r_iload (q := 61) dX12_lessen_59 rfl rfl ?_
      refine r_if_eqN (q := 64) (t := 138) (by omega) dX12_lessen_61 (by decide) rfl (fun h61 => absurd h61 (by omega)) (fun h61 => ?_)
      refine r_aload_n (q := 65) dX12_lessen_64 rfl rfl rfl ?_
      refine r_getr (q := 68) (some (1332, 0)) ck12 dX12_lessen_65 rfl (k := 32) (by decide) wt1310 rfl (hs.e (by decide)) (hs.r (by decide) (by decide)) ?_
      refine r_iload (q := 70) dX12_lessen_68 rfl rfl ?_
      refine r_iload (q := 72) dX12_lessen_70 rfl rfl ?_
      refine r_iaddN (q := 73) dX12_lessen_72 rfl ?_
      refine r_zaldN (q := 74) 4400 (by decide) rfl dX12_lessen_73 rfl (hs.e (by decide)) (hs.n rfl (by decide)) (by omega) (by decide) ?_
      refine r_topi (y := nI 0) p1 ?_
      refine r_if_neN (q := 77) (t := 80) (by omega) dX12_lessen_74 (by decide) rfl (fun h74 => absurd h74 (by omega)) (fun h74 => ?_)
      refine r_goto (q := 138) dX12_lessen_77 (by decide) ?_
      refine r_iinc (q := 141) (L' := [some (zr 12 0), some (zi (nI q)), some (zi (nI n)), some (zi (nI P)), some (zi (nI T.length)), some (zi (nI F)), some (zi ((nI t) + (-1))), some (zi (nI (v t))), none, none]) ((nI t) + (-1)) dX12_lessen_138 rfl rfl (by decide) rfl rfl ?_
      refine r_goto (q := 45) dX12_lessen_141 (by decide) ?_
      exact ih _ S v _ _ _ (Int32.sub_eq_add_neg _ _).symm (by omega) hs hB hV (fun s h1 h3 h4 => if e : s = t then by (rw [e, hpv] at h4; cases h4) else hz s (by omega) h3 h4)
    | true =>
      rw [hpv] at p1
      have p1 : gI S 1332 0 (F + t) = nI 1 := p1
      obtain ⟨c1, c2, c3⟩ := b9 t (by omega) hpv
      refine r_iload (q := 47) dX12_lessen_45 rfl rfl ?_
      refine r_if_ltN (q := 50) (t := 144) (by omega) dX12_lessen_47 (by decide) rfl ?_
      refine r_aload_n (q := 51) dX12_lessen_50 rfl rfl rfl ?_
      refine r_getr (q := 54) (some (1341, 0)) ck12 dX12_lessen_51 rfl (k := 41) (by decide) wt1319 rfl (hs.e (by decide)) (hs.r (by decide) (by decide)) ?_
      refine r_iload (q := 56) dX12_lessen_54 rfl rfl ?_
      refine r_ialdN (q := 57) 300 (by decide) rfl dX12_lessen_56 rfl (hs.e (by decide)) (hs.n rfl (by decide)) (by omega) (by decide) ?_
      refine r_topi (y := nI (v t)) w1 ?_
      refine r_istore (q := 59) (L' := [some (zr 12 0), some (zi (nI q)), some (zi (nI n)), some (zi (nI P)), some (zi (nI T.length)), some (zi (nI F)), some (zi (nI t)), some (zi (nI (v t))), none, none]) dX12_lessen_57 rfl (by decide) rfl ?_
      refine r_iload (q := 61) dX12_lessen_59 rfl rfl ?_
      refine r_if_eqN (q := 64) (t := 138) (by omega) dX12_lessen_61 (by decide) rfl (fun h61 => absurd h61 (by omega)) (fun h61 => ?_)
      refine r_aload_n (q := 65) dX12_lessen_64 rfl rfl rfl ?_
      refine r_getr (q := 68) (some (1332, 0)) ck12 dX12_lessen_65 rfl (k := 32) (by decide) wt1310 rfl (hs.e (by decide)) (hs.r (by decide) (by decide)) ?_
      refine r_iload (q := 70) dX12_lessen_68 rfl rfl ?_
      refine r_iload (q := 72) dX12_lessen_70 rfl rfl ?_
      refine r_iaddN (q := 73) dX12_lessen_72 rfl ?_
      refine r_zaldN (q := 74) 4400 (by decide) rfl dX12_lessen_73 rfl (hs.e (by decide)) (hs.n rfl (by decide)) (by omega) (by decide) ?_
      refine r_topi (y := nI 1) p1 ?_
      refine r_if_neN (q := 77) (t := 80) (by omega) dX12_lessen_74 (by decide) rfl (fun h74 => ?_) (fun h74 => absurd h74 (by omega))
      refine r_aload_n (q := 81) dX12_lessen_80 rfl rfl rfl ?_
      refine r_iload_n (q := 82) dX12_lessen_81 rfl rfl rfl ?_
      refine r_iload_n (q := 83) dX12_lessen_82 rfl rfl rfl ?_
      refine r_iload (q := 85) dX12_lessen_83 rfl rfl ?_
      refine r_callV (Mc := mX12_rowAt) (q := 88) (As := [zi (nI q), zi (nI n), zi (nI t)]) (st := []) ck12 dX12_lessen_85 rfl rfl mkX12_rowAt wt1808 wt1810 wp112 rfl (Nat.le_of_ble_eq_true rfl) (Nat.le_of_ble_eq_true rfl) (by decide) (by decide) (by decide) (Or.inl rfl) (hs.e (by decide)) (ok_rowAt hs hq hn7 b2 b4) (fun r85 S85 hp85 => ?_)
      obtain ⟨rfl, hq85⟩ := hp85
      rw [hq85]
      show Ok _ _ _ [zi (nI (RF + t * T.length))] _ _
      refine r_istore (q := 90) (L' := [some (zr 12 0), some (zi (nI q)), some (zi (nI n)), some (zi (nI P)), some (zi (nI T.length)), some (zi (nI F)), some (zi (nI t)), some (zi (nI (v t))), some (zi (nI (RF + t * T.length))), none]) dX12_lessen_88 rfl (by decide) rfl ?_
      refine r_iconst (q := 91) (nI 0) dX12_lessen_90 rfl (by decide) ?_
      refine r_istore (q := 93) (L' := [some (zr 12 0), some (zi (nI q)), some (zi (nI n)), some (zi (nI P)), some (zi (nI T.length)), some (zi (nI F)), some (zi (nI t)), some (zi (nI (v t))), some (zi (nI (RF + t * T.length))), some (zi (nI 0))]) dX12_lessen_91 rfl (by decide) rfl ?_
      refine lp_lesI h2 hP b5 (by omega) w2 b7 (b := bs t) (t + 1) 0 S v (by omega) hs c1 hV (fun S1 v1 f1 hV1 h1 => ?_)
      refine r_iinc (q := 141) (L' := [some (zr 12 0), some (zi (nI q)), some (zi (nI n)), some (zi (nI P)), some (zi (nI T.length)), some (zi (nI F)), some (zi ((nI t) + (-1))), some (zi (nI (v t))), some (zi (nI (RF + t * T.length))), some (zi (nI (t + 1)))]) ((nI t) + (-1)) dX12_lessen_138 rfl rfl (by decide) rfl rfl ?_
      refine r_goto (q := 45) dX12_lessen_141 (by decide) ?_
      refine Ok.mono (ih _ S1 v1 _ _ _ (Int32.sub_eq_add_neg _ _).symm (by omega) (hs.fr f1) (hB.fr f1) hV1 (fun s h3 h4 h5 => ?_)) fun r S2 z => ?_
      · rw [h1 s h4]
        by_cases e : s = t
        · rw [if_pos (by omega), e, c2, Nat.mul_one, show v t + (P - v t) = P by omega, Nat.mod_self]
        · rw [if_neg (by omega)]; exact hz s (by omega) h4 h5
      · obtain ⟨z1, z2, v2, z3, z4⟩ := z
        exact ⟨z1, f1.tr z2, v2, z3, redR_step hT (by omega) hpv c3 w2 hv0 (fun j hj => by rw [h1 j (by omega), if_pos ⟨by omega, hj⟩]) (fun j hj hj2 => by rw [h1 j hj2, if_neg (by omega)]) z4⟩

set_option maxRecDepth 100000 in
theorem ok_lessen {S : zS} (hs : Sd S) {q n F RF P : Nat} (hq : q ≤ 1) (hn7 : n ≤ 7) {T : List (List Nat)} (hT : T.Nodup) (h2 : 2 ≤ P) (hP : P ≤ 97) {pv : Nat → Bool} {bs : Nat → Nat → Nat} (hB : Bx S q n F RF T.length P pv bs) {v : Nat → Nat} (hV : Vr S T.length P v) : Ok mX12_lessen 0 (ent 10 [zr 12 0, zi (nI q), zi (nI n)]) [] S (fun r S1 => r = none ∧ Fr tRv S S1 ∧ ∃ v1, Vr S1 T.length P v1 ∧ RedR T P pv bs v v1) := by
  show Ok mX12_lessen 0 [some (zr 12 0), some (zi (nI q)), some (zi (nI n)), none, none, none, none, none, none, none] [] S _
  refine r_aload_n (q := 1) dX12_lessen_0 rfl rfl rfl ?_
  refine r_getr (q := 4) (some (1322, 0)) ck12 dX12_lessen_1 rfl (k := 22) (by decide) wt1300 rfl (hs.e (by decide)) (hs.r (by decide) (by decide)) ?_
  refine r_iconst (q := 5) (nI 0) dX12_lessen_4 rfl (by decide) ?_
  refine r_sipush (q := 8) (nI 1173) dX12_lessen_5 rfl (by decide) ?_
  refine r_iload_n (q := 9) dX12_lessen_8 rfl rfl rfl ?_
  refine r_imulN (q := 10) dX12_lessen_9 rfl ?_
  refine r_iaddN (q := 11) dX12_lessen_10 rfl ?_
  refine r_ialdN (q := 12) 2346 (by decide) rfl dX12_lessen_11 rfl (hs.e (by decide)) (hs.n rfl (by decide)) (by omega) (by decide) ?_
  refine r_topi (y := nI P) ((by rw [Nat.zero_add]; exact hB.1) : gI S 1322 0 (0 + (1173 * q)) = nI P) ?_
  refine r_istore_n (q := 13) (L' := [some (zr 12 0), some (zi (nI q)), some (zi (nI n)), some (zi (nI P)), none, none, none, none, none, none]) dX12_lessen_12 rfl rfl (by decide) rfl ?_
  refine r_aload_n (q := 14) dX12_lessen_13 rfl rfl rfl ?_
  refine r_getr (q := 17) (some (1324, 0)) ck12 dX12_lessen_14 rfl (k := 24) (by decide) wt1302 rfl (hs.e (by decide)) (hs.r (by decide) (by decide)) ?_
  refine r_bipush (q := 19) (nI 8) dX12_lessen_17 rfl (by decide) ?_
  refine r_iload_n (q := 20) dX12_lessen_19 rfl rfl rfl ?_
  refine r_imulN (q := 21) dX12_lessen_20 rfl ?_
  refine r_iload_n (q := 22) dX12_lessen_21 rfl rfl rfl ?_
  refine r_iaddN (q := 23) dX12_lessen_22 rfl ?_
  refine r_ialdN (q := 24) 16 (by decide) rfl dX12_lessen_23 rfl (hs.e (by decide)) (hs.n rfl (by decide)) (by omega) (by decide) ?_
  refine r_topi (y := nI T.length) hB.2.1 ?_
  refine r_istore (q := 26) (L' := [some (zr 12 0), some (zi (nI q)), some (zi (nI n)), some (zi (nI P)), some (zi (nI T.length)), none, none, none, none, none]) dX12_lessen_24 rfl (by decide) rfl ?_
  refine r_aload_n (q := 27) dX12_lessen_26 rfl rfl rfl ?_
  refine r_getr (q := 30) (some (1325, 0)) ck12 dX12_lessen_27 rfl (k := 25) (by decide) wt1303 rfl (hs.e (by decide)) (hs.r (by decide) (by decide)) ?_
  refine r_bipush (q := 32) (nI 8) dX12_lessen_30 rfl (by decide) ?_
  refine r_iload_n (q := 33) dX12_lessen_32 rfl rfl rfl ?_
  refine r_imulN (q := 34) dX12_lessen_33 rfl ?_
  refine r_iload_n (q := 35) dX12_lessen_34 rfl rfl rfl ?_
  refine r_iaddN (q := 36) dX12_lessen_35 rfl ?_
  refine r_ialdN (q := 37) 16 (by decide) rfl dX12_lessen_36 rfl (hs.e (by decide)) (hs.n rfl (by decide)) (by omega) (by decide) ?_
  refine r_topi (y := nI F) hB.2.2.1 ?_
  refine r_istore (q := 39) (L' := [some (zr 12 0), some (zi (nI q)), some (zi (nI n)), some (zi (nI P)), some (zi (nI T.length)), some (zi (nI F)), none, none, none, none]) dX12_lessen_37 rfl (by decide) rfl ?_
  refine r_iload (q := 41) dX12_lessen_39 rfl rfl ?_
  refine r_iconst (q := 42) (nI 1) dX12_lessen_41 rfl (by decide) ?_
  refine r_isub (q := 43) dX12_lessen_42 rfl ?_
  refine r_istore (q := 45) (L' := [some (zr 12 0), some (zi (nI q)), some (zi (nI n)), some (zi (nI P)), some (zi (nI T.length)), some (zi (nI F)), some (zi ((nI T.length) - (nI 1))), none, none, none]) dX12_lessen_43 rfl (by decide) rfl ?_
  exact lp_les hq hn7 hT h2 hP T.length _ S v _ _ _ rfl (Nat.le_refl _) hs hB hV (fun t a b => absurd a (by omega))

