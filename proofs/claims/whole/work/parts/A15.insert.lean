/-! the reference's insert, its loops -/
def tBs (x y _k : Nat) : Bool := x == 1331 && y == 0
theorem row_apart {t s m j i : Nat} (h : t < s) (hj : j < m) : t * m + j < s * m + i := by
  have : (t + 1) * m ≤ s * m := Nat.mul_le_mul_right m h
  rw [Nat.add_mul, Nat.one_mul] at this; omega
theorem row_in {t m j : Nat} (h : t < m) (hj : j < m) : t * m + j < m * m := by
  have := mulle h; omega
/-- rows t with pv t, with the numbers f -/
def Bas (S : zS) (RF m P : Nat) (pv : Nat → Bool) (f : Nat → Nat → Nat) : Prop := ∀ t, t < m → pv t = true → ∀ j, j < m → gI S 1331 0 (RF + t * m + j) = nI (f t j) ∧ f t j < P
def cbs (P : Nat) (bs : Nat → Nat → Nat) (t0 : Nat) (r : Nat → Nat) (c t j : Nat) : Nat := if t < c then nbs P bs t0 r t j else bs t j

set_option maxRecDepth 100000 in
theorem lp_in2 {q n m P F RF tp by' : Nat} (h2 : 2 ≤ P) (hP : P ≤ 97) (hm3 : m ≤ 300) (htp : tp < m) (hRF : RF + m * m ≤ 400000) (hby : by' < P) {v : Nat → Nat} {Po : Option zV → zS → Prop} : ∀ (d k : Nat) (S : zS), k + d = m → Sd S → Vr S m P v → (∀ S1, Fr tBs S S1 → (∀ x y z, gJ S1 x y z = gJ S x y z) → (∀ z, gI S1 1331 0 z = if RF + tp * m + k ≤ z ∧ z < RF + tp * m + m then nI (v (z - (RF + tp * m)) * by' % P) else gI S 1331 0 z) → Ok mX12_insert 140 [some (zr 12 0), some (zi (nI q)), some (zi (nI n)), some (zi (nI P)), some (zi (nI m)), some (zi (nI F)), some (zi (nI tp)), some (zi (nI by')), some (zi (nI (RF + tp * m))), some (zi (nI m)), none, none, none] [] S1 Po) → Ok mX12_insert 105 [some (zr 12 0), some (zi (nI q)), some (zi (nI n)), some (zi (nI P)), some (zi (nI m)), some (zi (nI F)), some (zi (nI tp)), some (zi (nI by')), some (zi (nI (RF + tp * m))), some (zi (nI k)), none, none, none] [] S Po := by
  have hml := mulle htp
  intro d
  induction d with
  | zero =>
    intro k S hk hs hV K
    obtain rfl : k = m := by omega
    refine r_iload (q := 107) dX12_insert_105 rfl rfl ?_
    refine r_iload (q := 109) dX12_insert_107 rfl rfl ?_
    refine r_icmp_geN (q := 112) (t := 140) (by omega) (by omega) dX12_insert_109 (by decide) rfl (fun h109 => ?_) (fun h109 => absurd h109 (by omega))
    exact K S Fr.rf (fun _ _ _ => rfl) (fun z => (if_neg (by omega)).symm)
  | succ d ih =>
    intro k S hk hs hV K
    obtain ⟨w1, w2⟩ := hV k (by omega)
    have hpr : v k * by' ≤ 97 * 97 := Nat.mul_le_mul (by omega) (by omega)
    refine r_iload (q := 107) dX12_insert_105 rfl rfl ?_
    refine r_iload (q := 109) dX12_insert_107 rfl rfl ?_
    refine r_icmp_geN (q := 112) (t := 140) (by omega) (by omega) dX12_insert_109 (by decide) rfl (fun h109 => absurd h109 (by omega)) (fun h109 => ?_)
    refine r_aload_n (q := 113) dX12_insert_112 rfl rfl rfl ?_
    refine r_getr (q := 116) (some (1331, 0)) ck12 dX12_insert_113 rfl (k := 31) (by decide) wt1309 rfl (hs.e (by decide)) (hs.r (by decide) (by decide)) ?_
    refine r_iload (q := 118) dX12_insert_116 rfl rfl ?_
    refine r_iload (q := 120) dX12_insert_118 rfl rfl ?_
    refine r_iaddN (q := 121) dX12_insert_120 rfl ?_
    refine r_aload_n (q := 122) dX12_insert_121 rfl rfl rfl ?_
    refine r_getr (q := 125) (some (1341, 0)) ck12 dX12_insert_122 rfl (k := 41) (by decide) wt1319 rfl (hs.e (by decide)) (hs.r (by decide) (by decide)) ?_
    refine r_iload (q := 127) dX12_insert_125 rfl rfl ?_
    refine r_ialdN (q := 128) 300 (by decide) rfl dX12_insert_127 rfl (hs.e (by decide)) (hs.n rfl (by decide)) (by omega) (by decide) ?_
    refine r_topi (y := nI (v k)) w1 ?_
    refine r_iload (q := 130) dX12_insert_128 rfl rfl ?_
    refine r_imulN (q := 131) dX12_insert_130 rfl ?_
    refine r_iload_n (q := 132) dX12_insert_131 rfl rfl rfl ?_
    refine r_iremN (q := 133) (by omega) (by omega) (by omega) dX12_insert_132 rfl ?_
    refine r_iastN (q := 134) 400000 (by decide) rfl dX12_insert_133 rfl (hs.e (by decide)) (hs.n rfl (by decide)) (by omega) (by decide) ?_
    refine r_iincN (q := 137) (L' := [some (zr 12 0), some (zi (nI q)), some (zi (nI n)), some (zi (nI P)), some (zi (nI m)), some (zi (nI F)), some (zi (nI tp)), some (zi (nI by')), some (zi (nI (RF + tp * m))), some (zi (nI (k + 1))), none, none, none]) 1 rfl dX12_insert_134 rfl rfl (by decide) rfl ?_
    refine r_goto (q := 105) dX12_insert_137 (by decide) ?_
    have f1 : Fr tBs S (sI S 1331 0 (RF + tp * m + k) (nI (v k * by' % P))) := (Fr.rf).i rfl
    refine ih (k + 1) _ (by omega) hs (fun j hj => by rw [gI_sI, if_neg (by omega)]; exact hV j hj) (fun S1 g1 gj g2 => K S1 (f1.tr g1) gj (fun z => ?_))
    rw [g2 z, gI_sI]
    by_cases a : RF + tp * m + (k + 1) ≤ z ∧ z < RF + tp * m + m
    · rw [if_pos a, if_pos (by omega)]
    · rw [if_neg a]
      by_cases b : z = RF + tp * m + k
      · rw [if_pos ⟨rfl, rfl, b⟩, if_pos (by omega), b, show RF + tp * m + k - (RF + tp * m) = k by omega]
      · rw [if_neg (fun y => b y.2.2), if_neg (by omega)]

set_option maxRecDepth 100000 in
theorem lp_in3 {q n m P F RF tp by' : Nat} (h2 : 2 ≤ P) (hP : P ≤ 97) (hm3 : m ≤ 300) (htp : tp < m) (hRF : RF + m * m ≤ 400000) {c vv : Nat} (htc : tp < c) (hcm : c < m) (hvv : vv < P) (hv0 : 0 < vv) {b r : Nat → Nat} (hbP : ∀ j, j < m → b j < P) (hrP : ∀ j, j < m → r j < P) {Po : Option zV → zS → Prop} : ∀ (d k : Nat) (S : zS), k + d = tp + 1 → Sd S → (∀ j, k ≤ j → j < m → gI S 1331 0 (RF + c * m + j) = nI (b j)) → (∀ j, j < m → gI S 1331 0 (RF + tp * m + j) = nI (r j)) → (∀ S1, Fr tBs S S1 → (∀ x y z, gJ S1 x y z = gJ S x y z) → (∀ z, gI S1 1331 0 z = if RF + c * m + k ≤ z ∧ z ≤ RF + c * m + tp then nI ((b (z - (RF + c * m)) + (P - vv) * r (z - (RF + c * m))) % P) else gI S 1331 0 z) → Ok mX12_insert 250 [some (zr 12 0), some (zi (nI q)), some (zi (nI n)), some (zi (nI P)), some (zi (nI m)), some (zi (nI F)), some (zi (nI tp)), some (zi (nI by')), some (zi (nI (RF + tp * m))), some (zi (nI c)), some (zi (nI (RF + c * m))), some (zi (nI vv)), some (zi (nI (tp + 1)))] [] S1 Po) → Ok mX12_insert 194 [some (zr 12 0), some (zi (nI q)), some (zi (nI n)), some (zi (nI P)), some (zi (nI m)), some (zi (nI F)), some (zi (nI tp)), some (zi (nI by')), some (zi (nI (RF + tp * m))), some (zi (nI c)), some (zi (nI (RF + c * m))), some (zi (nI vv)), some (zi (nI k))] [] S Po := by
  have hml := mulle hcm
  have hml2 := mulle htp
  have hap : ∀ j, j < m → tp * m + j < c * m := fun j hj => by have := row_apart (i := 0) htc hj; omega
  intro d
  induction d with
  | zero =>
    intro k S hk hs hb hr K
    obtain rfl : k = tp + 1 := by omega
    refine r_iload (q := 196) dX12_insert_194 rfl rfl ?_
    refine r_iload (q := 198) dX12_insert_196 rfl rfl ?_
    refine r_icmp_gtN (q := 201) (t := 250) (by omega) (by omega) dX12_insert_198 (by decide) rfl (fun h198 => ?_) (fun h198 => absurd h198 (by omega))
    exact K S Fr.rf (fun _ _ _ => rfl) (fun z => (if_neg (by omega)).symm)
  | succ d ih =>
    intro k S hk hs hb hr K
    have r1 := hb k (Nat.le_refl _) (by omega)
    have r2 := hr k (by omega)
    have a1 := hbP k (by omega)
    have a2 := hrP k (by omega)
    have a3 := hap k (by omega)
    have hpr : (P - vv) * r k ≤ 97 * 97 := Nat.mul_le_mul (by omega) (by omega)
    refine r_iload (q := 196) dX12_insert_194 rfl rfl ?_
    refine r_iload (q := 198) dX12_insert_196 rfl rfl ?_
    refine r_icmp_gtN (q := 201) (t := 250) (by omega) (by omega) dX12_insert_198 (by decide) rfl (fun h198 => absurd h198 (by omega)) (fun h198 => ?_)
    refine r_iload (q := 203) dX12_insert_201 rfl rfl ?_
    refine r_if_leN (q := 206) (t := 250) (by omega) dX12_insert_203 (by decide) rfl (fun h203 => absurd h203 (by omega)) (fun h203 => ?_)
    refine r_aload_n (q := 207) dX12_insert_206 rfl rfl rfl ?_
    refine r_getr (q := 210) (some (1331, 0)) ck12 dX12_insert_207 rfl (k := 31) (by decide) wt1309 rfl (hs.e (by decide)) (hs.r (by decide) (by decide)) ?_
    refine r_iload (q := 212) dX12_insert_210 rfl rfl ?_
    refine r_iload (q := 214) dX12_insert_212 rfl rfl ?_
    refine r_iaddN (q := 215) dX12_insert_214 rfl ?_
    refine r_aload_n (q := 216) dX12_insert_215 rfl rfl rfl ?_
    refine r_getr (q := 219) (some (1331, 0)) ck12 dX12_insert_216 rfl (k := 31) (by decide) wt1309 rfl (hs.e (by decide)) (hs.r (by decide) (by decide)) ?_
    refine r_iload (q := 221) dX12_insert_219 rfl rfl ?_
    refine r_iload (q := 223) dX12_insert_221 rfl rfl ?_
    refine r_iaddN (q := 224) dX12_insert_223 rfl ?_
    refine r_ialdN (q := 225) 400000 (by decide) rfl dX12_insert_224 rfl (hs.e (by decide)) (hs.n rfl (by decide)) (by omega) (by decide) ?_
    refine r_topi (y := nI (b k)) r1 ?_
    refine r_iload_n (q := 226) dX12_insert_225 rfl rfl rfl ?_
    refine r_iload (q := 228) dX12_insert_226 rfl rfl ?_
    refine r_isubN (q := 229) (by omega) dX12_insert_228 rfl ?_
    refine r_aload_n (q := 230) dX12_insert_229 rfl rfl rfl ?_
    refine r_getr (q := 233) (some (1331, 0)) ck12 dX12_insert_230 rfl (k := 31) (by decide) wt1309 rfl (hs.e (by decide)) (hs.r (by decide) (by decide)) ?_
    refine r_iload (q := 235) dX12_insert_233 rfl rfl ?_
    refine r_iload (q := 237) dX12_insert_235 rfl rfl ?_
    refine r_iaddN (q := 238) dX12_insert_237 rfl ?_
    refine r_ialdN (q := 239) 400000 (by decide) rfl dX12_insert_238 rfl (hs.e (by decide)) (hs.n rfl (by decide)) (by omega) (by decide) ?_
    refine r_topi (y := nI (r k)) r2 ?_
    refine r_imulN (q := 240) dX12_insert_239 rfl ?_
    refine r_iaddN (q := 241) dX12_insert_240 rfl ?_
    refine r_iload_n (q := 242) dX12_insert_241 rfl rfl rfl ?_
    refine r_iremN (q := 243) (by omega) (by omega) (by omega) dX12_insert_242 rfl ?_
    refine r_iastN (q := 244) 400000 (by decide) rfl dX12_insert_243 rfl (hs.e (by decide)) (hs.n rfl (by decide)) (by omega) (by decide) ?_
    refine r_iincN (q := 247) (L' := [some (zr 12 0), some (zi (nI q)), some (zi (nI n)), some (zi (nI P)), some (zi (nI m)), some (zi (nI F)), some (zi (nI tp)), some (zi (nI by')), some (zi (nI (RF + tp * m))), some (zi (nI c)), some (zi (nI (RF + c * m))), some (zi (nI vv)), some (zi (nI (k + 1)))]) 1 rfl dX12_insert_244 rfl rfl (by decide) rfl ?_
    refine r_goto (q := 194) dX12_insert_247 (by decide) ?_
    have f1 : Fr tBs S (sI S 1331 0 (RF + c * m + k) (nI ((b k + (P - vv) * r k) % P))) := (Fr.rf).i rfl
    refine ih (k + 1) _ (by omega) hs (fun j a bb => by rw [gI_sI, if_neg (by omega)]; exact hb j (by omega) bb) (fun j hj => by have := hap j hj; rw [gI_sI, if_neg (by omega)]; exact hr j hj) (fun S1 g1 gj g2 => K S1 (f1.tr g1) gj (fun z => ?_))
    rw [g2 z, gI_sI]
    by_cases a : RF + c * m + (k + 1) ≤ z ∧ z ≤ RF + c * m + tp
    · rw [if_pos a, if_pos (by omega)]
    · rw [if_neg a]
      by_cases bb : z = RF + c * m + k
      · rw [if_pos ⟨rfl, rfl, bb⟩, if_pos (by omega), bb, show RF + c * m + k - (RF + c * m) = k by omega]
      · rw [if_neg (fun y => bb y.2.2), if_neg (by omega)]

