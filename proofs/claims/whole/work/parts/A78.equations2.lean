/-! dual: the reference's rows, all of them -/
def RwS (S : zS) (k n P : Nat) (g : Nat → Nat → Nat) : Prop := ∀ r j, r < k → j < n → gI S 1364 0 (18 * r + j) = nI (g r j) ∧ g r j < P
def PvS (S : zS) (n : Nat) (pv : Nat → Option Nat) : Prop := ∀ c, c < n → gI S 1365 0 c = nI (pvJ (pv c))
def RoS (S : zS) (n P : Nat) (w : Nat → Nat) : Prop := ∀ j, j < n → gI S 1366 0 j = nI (w j) ∧ w j < P
theorem RwS.fr {S S1 : zS} {k n P : Nat} {g : Nat → Nat → Nat} {T : Nat → Nat → Nat → Bool} (h : RwS S k n P g) (f : Fr T S S1) (t : ∀ k, T 1364 0 k = false) : RwS S1 k n P g := fun r j a b => ⟨(f.1 _ _ _ (t _)).trans (h r j a b).1, (h r j a b).2⟩
theorem PvS.fr {S S1 : zS} {n : Nat} {pv : Nat → Option Nat} {T : Nat → Nat → Nat → Bool} (h : PvS S n pv) (f : Fr T S S1) (t : ∀ k, T 1365 0 k = false) : PvS S1 n pv := fun c a => (f.1 _ _ _ (t _)).trans (h c a)

set_option maxRecDepth 100000 in
theorem lp_eq197 {n P k l : Nat} (hn18 : n ≤ 18) (h2 : 2 ≤ P) (hP : P ≤ 97) (hk18 : k ≤ 18) {c p v : Nat} (hc : c < n) (hp : p < k) (hv : v < P) {w u : Nat → Nat} (hw : ∀ j, j < n → w j < P) (hu : ∀ j, j < n → u j < P) {Po : Option zV → zS → Prop} : ∀ (d j : Nat) (S : zS), j + d = n → Sd S → gI S 1365 0 c = nI (p + 1) → (∀ j, j < n → gI S 1364 0 (18 * p + j) = nI (u j)) → (∀ i, i < j → gI S 1366 0 i = nI (rdc P w u v i)) → (∀ i, j ≤ i → i < n → gI S 1366 0 i = nI (w i)) → (∀ S1, Fr t66 S S1 → (∀ i, i < n → gI S1 1366 0 i = nI (rdc P w u v i)) → Ok mX12_equations 247 [some (zr 12 0), some (zi (nI n)), some (zi (nI P)), some (zi (nI k)), some (zi (nI l)), some (zr 1366 0), some (zi (nI c)), some (zi (nI v)), some (zi (nI n)), none, none] [] S1 Po) → Ok mX12_equations 197 [some (zr 12 0), some (zi (nI n)), some (zi (nI P)), some (zi (nI k)), some (zi (nI l)), some (zr 1366 0), some (zi (nI c)), some (zi (nI v)), some (zi (nI j)), none, none] [] S Po := by
  intro d
  induction d with
  | zero =>
    intro j S hj hs hpv hru hlo hhi K
    obtain rfl : n = j := by omega
    refine r_iload (q := 199) dX12_equations_197 rfl rfl ?_
    refine r_iload_n (q := 200) dX12_equations_199 rfl rfl rfl ?_
    refine r_icmp_geN (q := 203) (t := 247) (by omega) (by omega) dX12_equations_200 (by decide) rfl (fun h200 => ?_) (fun h200 => absurd h200 (by omega))
    exact K S Fr.rf hlo
  | succ d ih =>
    intro j S hj hs hpv hru hlo hhi K
    have hjn : j < n := by omega
    have hwj := hhi j (Nat.le_refl _) hjn
    have hw97 := hw j hjn
    have hu97 := hu j hjn
    have hruj := hru j hjn
    have hm : (P - v) * u j ≤ 97 * 97 := Nat.mul_le_mul (by omega) (by omega)
    refine r_iload (q := 199) dX12_equations_197 rfl rfl ?_
    refine r_iload_n (q := 200) dX12_equations_199 rfl rfl rfl ?_
    refine r_icmp_geN (q := 203) (t := 247) (by omega) (by omega) dX12_equations_200 (by decide) rfl (fun h200 => absurd h200 (by omega)) (fun h200 => ?_)
    refine r_aload (q := 205) dX12_equations_203 rfl rfl ?_
    refine r_iload (q := 207) dX12_equations_205 rfl rfl ?_
    refine r_aload (q := 209) dX12_equations_207 rfl rfl ?_
    refine r_iload (q := 211) dX12_equations_209 rfl rfl ?_
    refine r_ialdN (q := 212) 18 (by decide) rfl dX12_equations_211 rfl (hs.e (by decide)) (hs.n rfl (by decide)) (by omega) (by decide) ?_
    refine r_topi (y := nI (w j)) hwj ?_
    refine r_iload_n (q := 213) dX12_equations_212 rfl rfl rfl ?_
    refine r_iload (q := 215) dX12_equations_213 rfl rfl ?_
    refine r_isubN (q := 216) (by omega) dX12_equations_215 rfl ?_
    refine r_aload_n (q := 217) dX12_equations_216 rfl rfl rfl ?_
    refine r_getr (q := 220) (some (1364, 0)) ck12 dX12_equations_217 rfl (k := 64) (by decide) wt1342 rfl (hs.e (by decide)) (hs.r (by decide) (by decide)) ?_
    refine r_bipush (q := 222) (nI 18) dX12_equations_220 rfl (by decide) ?_
    refine r_aload_n (q := 223) dX12_equations_222 rfl rfl rfl ?_
    refine r_getr (q := 226) (some (1365, 0)) ck12 dX12_equations_223 rfl (k := 65) (by decide) wt1343 rfl (hs.e (by decide)) (hs.r (by decide) (by decide)) ?_
    refine r_iload (q := 228) dX12_equations_226 rfl rfl ?_
    refine r_ialdN (q := 229) 18 (by decide) rfl dX12_equations_228 rfl (hs.e (by decide)) (hs.n rfl (by decide)) (by omega) (by decide) ?_
    refine r_topi (y := nI (p + 1)) hpv ?_
    refine r_iconst (q := 230) (nI 1) dX12_equations_229 rfl (by decide) ?_
    refine r_isubN (q := 231) (by omega) dX12_equations_230 rfl ?_
    refine r_topi (y := nI p) (congrArg nI (Nat.add_sub_cancel p 1)) ?_
    refine r_imulN (q := 232) dX12_equations_231 rfl ?_
    refine r_iload (q := 234) dX12_equations_232 rfl rfl ?_
    refine r_iaddN (q := 235) dX12_equations_234 rfl ?_
    refine r_topi (y := nI (18 * p + j)) rfl ?_
    refine r_ialdN (q := 236) 324 (by decide) rfl dX12_equations_235 rfl (hs.e (by decide)) (hs.n rfl (by decide)) (by omega) (by decide) ?_
    refine r_topi (y := nI (u j)) hruj ?_
    refine r_imulN (q := 237) dX12_equations_236 rfl ?_
    refine r_iaddN (q := 238) dX12_equations_237 rfl ?_
    refine r_iload_n (q := 239) dX12_equations_238 rfl rfl rfl ?_
    refine r_iremN (q := 240) (by omega) (by omega) (by omega) dX12_equations_239 rfl ?_
    refine r_topi (y := nI (rdc P w u v j)) rfl ?_
    refine r_iastN (q := 241) 18 (by decide) rfl dX12_equations_240 rfl (hs.e (by decide)) (hs.n rfl (by decide)) (by omega) (by decide) ?_
    refine r_iincN (q := 244) (L' := [some (zr 12 0), some (zi (nI n)), some (zi (nI P)), some (zi (nI k)), some (zi (nI l)), some (zr 1366 0), some (zi (nI c)), some (zi (nI v)), some (zi (nI (j + 1))), none, none]) 1 rfl dX12_equations_241 rfl rfl (by decide) rfl ?_
    refine r_goto (q := 197) dX12_equations_244 (by decide) ?_
    have f1 : Fr t66 S (sI S 1366 0 j (nI (rdc P w u v j))) := Fr.rf.i rfl
    refine ih (j + 1) (sI S 1366 0 j (nI (rdc P w u v j))) (by omega) hs hpv hru (fun i hi => ?_) (fun i a b => by rw [gI_sI, if_neg (by omega)]; exact hhi i (by omega) b) (fun S1 f2 z => K S1 (f1.tr f2) z)
    rw [gI_sI]
    by_cases e : i = j
    · rw [if_pos ⟨rfl, rfl, e⟩, e]
    · rw [if_neg (fun z => e z.2.2)]; exact hlo i (by omega)

set_option maxRecDepth 100000 in
theorem lp_eq163 {n P k l : Nat} (hn18 : n ≤ 18) (h2 : 2 ≤ P) (hP : P ≤ 97) (hk18 : k ≤ 18) {Z : (Nat → Int) → Prop} {pv : Nat → Option Nat} {g : Nat → Nat → Nat} (hC : CI P k n Z k n pv g) {Po : Option zV → zS → Prop} : ∀ (d c : Nat) (S : zS) (w : Nat → Nat) (w7 w8 : Option zV), c + d = n → Sd S → RwS S k n P g → PvS S n pv → RoS S n P w → (∀ d, d < c → pv d ≠ none → w d = 0) → (∀ S1 w' w7 w8, Fr t66 S S1 → RoS S1 n P w' → (∀ d, d < n → pv d ≠ none → w' d = 0) → (∀ x, (∀ r, r < k → Dt P n (g r) x) → (Dt P n w x ↔ Dt P n w' x)) → Ok mX12_equations 253 [some (zr 12 0), some (zi (nI n)), some (zi (nI P)), some (zi (nI k)), some (zi (nI l)), some (zr 1366 0), some (zi (nI (n))), w7, w8, none, none] [] S1 Po) → Ok mX12_equations 163 [some (zr 12 0), some (zi (nI n)), some (zi (nI P)), some (zi (nI k)), some (zi (nI l)), some (zr 1366 0), some (zi (nI (c))), w7, w8, none, none] [] S Po := by
  intro d
  induction d with
  | zero =>
    intro c S w w7 w8 hc hs hR hV hW h0 K
    obtain rfl : n = c := by omega
    refine r_mask [true, true, true, true, true, true, true, false, false, false, false] rfl ?_
    refine r_iload (q := 165) dX12_equations_163 rfl rfl ?_
    refine r_iload_n (q := 166) dX12_equations_165 rfl rfl rfl ?_
    refine r_icmp_geN (q := 169) (t := 253) (by omega) (by omega) dX12_equations_166 (by decide) rfl (fun h166 => ?_) (fun h166 => absurd h166 (by omega))
    exact K S w none none Fr.rf hW h0 (fun _ _ => Iff.rfl)
  | succ d ih =>
    intro c S w w7 w8 hc hs hR hV hW h0 K
    have hcn : c < n := by omega
    obtain ⟨hwc, hwP⟩ := hW c hcn
    have hpc := hV c hcn
    refine r_mask [true, true, true, true, true, true, true, false, false, false, false] rfl ?_
    by_cases z0 : w c = 0
    · skip
      refine r_iload (q := 165) dX12_equations_163 rfl rfl ?_
      refine r_iload_n (q := 166) dX12_equations_165 rfl rfl rfl ?_
      refine r_icmp_geN (q := 169) (t := 253) (by omega) (by omega) dX12_equations_166 (by decide) rfl (fun h166 => absurd h166 (by omega)) (fun h166 => ?_)
      refine r_aload (q := 171) dX12_equations_169 rfl rfl ?_
      refine r_iload (q := 173) dX12_equations_171 rfl rfl ?_
      refine r_ialdN (q := 174) 18 (by decide) rfl dX12_equations_173 rfl (hs.e (by decide)) (hs.n rfl (by decide)) (by omega) (by decide) ?_
      refine r_topi (y := nI (w c)) hwc ?_
      refine r_istore (q := 176) (L' := [some (zr 12 0), some (zi (nI n)), some (zi (nI P)), some (zi (nI k)), some (zi (nI l)), some (zr 1366 0), some (zi (nI c)), some (zi (nI (w c))), none, none, none]) dX12_equations_174 rfl (by decide) rfl ?_
      refine r_iload (q := 178) dX12_equations_176 rfl rfl ?_
      refine r_if_eqN (q := 181) (t := 247) (by omega) dX12_equations_178 (by decide) rfl (fun h178 => ?_) (fun h178 => absurd h178 (by omega))
      refine r_iincN (q := 250) (L' := [some (zr 12 0), some (zi (nI n)), some (zi (nI P)), some (zi (nI k)), some (zi (nI l)), some (zr 1366 0), some (zi (nI (c + 1))), some (zi (nI (w c))), none, none, none]) 1 rfl dX12_equations_247 rfl rfl (by decide) rfl ?_
      refine r_goto (q := 163) dX12_equations_250 (by decide) ?_
      exact ih (c + 1) S w _ _ (by omega) hs hR hV hW (fun d hd hp => by by_cases e : d = c; (rw [e]; exact z0); exact h0 d (by omega) hp) K
    · cases hpv : pv c with
      | none =>
        rw [hpv] at hpc
        have hpc : gI S 1365 0 c = nI 0 := hpc
        refine r_iload (q := 165) dX12_equations_163 rfl rfl ?_
        refine r_iload_n (q := 166) dX12_equations_165 rfl rfl rfl ?_
        refine r_icmp_geN (q := 169) (t := 253) (by omega) (by omega) dX12_equations_166 (by decide) rfl (fun h166 => absurd h166 (by omega)) (fun h166 => ?_)
        refine r_aload (q := 171) dX12_equations_169 rfl rfl ?_
        refine r_iload (q := 173) dX12_equations_171 rfl rfl ?_
        refine r_ialdN (q := 174) 18 (by decide) rfl dX12_equations_173 rfl (hs.e (by decide)) (hs.n rfl (by decide)) (by omega) (by decide) ?_
        refine r_topi (y := nI (w c)) hwc ?_
        refine r_istore (q := 176) (L' := [some (zr 12 0), some (zi (nI n)), some (zi (nI P)), some (zi (nI k)), some (zi (nI l)), some (zr 1366 0), some (zi (nI c)), some (zi (nI (w c))), none, none, none]) dX12_equations_174 rfl (by decide) rfl ?_
        refine r_iload (q := 178) dX12_equations_176 rfl rfl ?_
        refine r_if_eqN (q := 181) (t := 247) (by omega) dX12_equations_178 (by decide) rfl (fun h178 => absurd h178 (by omega)) (fun h178 => ?_)
        refine r_aload_n (q := 182) dX12_equations_181 rfl rfl rfl ?_
        refine r_getr (q := 185) (some (1365, 0)) ck12 dX12_equations_182 rfl (k := 65) (by decide) wt1343 rfl (hs.e (by decide)) (hs.r (by decide) (by decide)) ?_
        refine r_iload (q := 187) dX12_equations_185 rfl rfl ?_
        refine r_ialdN (q := 188) 18 (by decide) rfl dX12_equations_187 rfl (hs.e (by decide)) (hs.n rfl (by decide)) (by omega) (by decide) ?_
        refine r_topi (y := nI 0) hpc ?_
        refine r_if_neN (q := 191) (t := 194) (by omega) dX12_equations_188 (by decide) rfl (fun h188 => absurd h188 (by omega)) (fun h188 => ?_)
        refine r_goto (q := 247) dX12_equations_191 (by decide) ?_
        refine r_iincN (q := 250) (L' := [some (zr 12 0), some (zi (nI n)), some (zi (nI P)), some (zi (nI k)), some (zi (nI l)), some (zr 1366 0), some (zi (nI (c + 1))), some (zi (nI (w c))), none, none, none]) 1 rfl dX12_equations_247 rfl rfl (by decide) rfl ?_
        refine r_goto (q := 163) dX12_equations_250 (by decide) ?_
        exact ih (c + 1) S w _ _ (by omega) hs hR hV hW (fun d hd hp => by by_cases e : d = c; (rw [e, hpv] at hp; exact absurd rfl hp); exact h0 d (by omega) hp) K
      | some p =>
        rw [hpv] at hpc
        have hpc : gI S 1365 0 c = nI (p + 1) := hpc
        obtain ⟨a1, a2, a3, a4⟩ := hC.2.2.2.1 c p hcn hpv
        refine r_iload (q := 165) dX12_equations_163 rfl rfl ?_
        refine r_iload_n (q := 166) dX12_equations_165 rfl rfl rfl ?_
        refine r_icmp_geN (q := 169) (t := 253) (by omega) (by omega) dX12_equations_166 (by decide) rfl (fun h166 => absurd h166 (by omega)) (fun h166 => ?_)
        refine r_aload (q := 171) dX12_equations_169 rfl rfl ?_
        refine r_iload (q := 173) dX12_equations_171 rfl rfl ?_
        refine r_ialdN (q := 174) 18 (by decide) rfl dX12_equations_173 rfl (hs.e (by decide)) (hs.n rfl (by decide)) (by omega) (by decide) ?_
        refine r_topi (y := nI (w c)) hwc ?_
        refine r_istore (q := 176) (L' := [some (zr 12 0), some (zi (nI n)), some (zi (nI P)), some (zi (nI k)), some (zi (nI l)), some (zr 1366 0), some (zi (nI c)), some (zi (nI (w c))), none, none, none]) dX12_equations_174 rfl (by decide) rfl ?_
        refine r_iload (q := 178) dX12_equations_176 rfl rfl ?_
        refine r_if_eqN (q := 181) (t := 247) (by omega) dX12_equations_178 (by decide) rfl (fun h178 => absurd h178 (by omega)) (fun h178 => ?_)
        refine r_aload_n (q := 182) dX12_equations_181 rfl rfl rfl ?_
        refine r_getr (q := 185) (some (1365, 0)) ck12 dX12_equations_182 rfl (k := 65) (by decide) wt1343 rfl (hs.e (by decide)) (hs.r (by decide) (by decide)) ?_
        refine r_iload (q := 187) dX12_equations_185 rfl rfl ?_
        refine r_ialdN (q := 188) 18 (by decide) rfl dX12_equations_187 rfl (hs.e (by decide)) (hs.n rfl (by decide)) (by omega) (by decide) ?_
        refine r_topi (y := nI (p + 1)) hpc ?_
        refine r_if_neN (q := 191) (t := 194) (by omega) dX12_equations_188 (by decide) rfl (fun h188 => ?_) (fun h188 => absurd h188 (by omega))
        refine r_iconst (q := 195) (nI 0) dX12_equations_194 rfl (by decide) ?_
        refine r_istore (q := 197) (L' := [some (zr 12 0), some (zi (nI n)), some (zi (nI P)), some (zi (nI k)), some (zi (nI l)), some (zr 1366 0), some (zi (nI c)), some (zi (nI (w c))), some (zi (nI 0)), none, none]) dX12_equations_195 rfl (by decide) rfl ?_
        refine lp_eq197 hn18 h2 hP hk18 hcn a1 hwP (w := w) (u := g p) (fun j hj => (hW j hj).2) (fun j hj => (hR p j a1 hj).2) n 0 S (by omega) hs hpc (fun j hj => (hR p j a1 hj).1) (fun i hi => absurd hi (Nat.not_lt_zero i)) (fun i _ hi => (hW i hi).1) (fun S1 f1 hq => ?_)
        have hs1 : Sd S1 := hs.fr f1
        have hW1 : RoS S1 n P (rdc P w (g p) (w c)) := fun j hj => ⟨hq j hj, Nat.mod_lt _ (by omega)⟩
        refine r_iincN (q := 250) (L' := [some (zr 12 0), some (zi (nI n)), some (zi (nI P)), some (zi (nI k)), some (zi (nI l)), some (zr 1366 0), some (zi (nI (c + 1))), some (zi (nI (w c))), some (zi (nI n)), none, none]) 1 rfl dX12_equations_247 rfl rfl (by decide) rfl ?_
        refine r_goto (q := 163) dX12_equations_250 (by decide) ?_
        refine ih (c + 1) S1 (rdc P w (g p) (w c)) _ _ (by omega) hs1 (hR.fr f1 (fun _ => rfl)) (hV.fr f1 (fun _ => rfl)) hW1 (fun d hd hp => ?_) (fun S2 w' w7 w8 f2 b1 b2 b3 => K S2 w' w7 w8 (f1.tr f2) b1 b2 (fun x hx => (rdc_lin hwP (hx p a1)).trans (b3 x hx)))
        by_cases e : d = c
        · rw [e]; exact rdc_1 rfl hwP a2
        · have hd0 := h0 d (by omega) hp
          cases hq2 : pv d with
          | none => exact absurd hq2 hp
          | some q =>
            obtain ⟨b1, b2, b3, b4⟩ := hC.2.2.2.1 d q (by omega) hq2
            have hpq : p ≠ q := fun z => by
              rw [← z] at b2
              have := a4 d (by omega)
              omega
            rw [rdc_0 (hW d (by omega)).2 (b3 p a1 hpq)]
            exact hd0

set_option maxRecDepth 100000 in
theorem lp_eq256 {n P k l : Nat} (hn18 : n ≤ 18) (h2 : 2 ≤ P) (hP : P ≤ 97) (hk18 : k ≤ 18) {S : zS} (hs : Sd S) {w : Nat → Nat} (hW : RoS S n P w) {Po : Option zV → zS → Prop} (K : ∀ low, low ≤ n → (∀ j, j < low → w j = 0) → (low = n ∨ low < n ∧ w low ≠ 0) → Ok mX12_equations 276 [some (zr 12 0), some (zi (nI n)), some (zi (nI P)), some (zi (nI k)), some (zi (nI l)), some (zr 1366 0), some (zi (nI low)), none, none, none, none] [] S Po) : ∀ (d j : Nat), j + d = n → (∀ i, i < j → w i = 0) → Ok mX12_equations 256 [some (zr 12 0), some (zi (nI n)), some (zi (nI P)), some (zi (nI k)), some (zi (nI l)), some (zr 1366 0), some (zi (nI j)), none, none, none, none] [] S Po := by
  intro d
  induction d with
  | zero =>
    intro j hj hz
    obtain rfl : n = j := by omega
    refine r_iload (q := 258) dX12_equations_256 rfl rfl ?_
    refine r_iload_n (q := 259) dX12_equations_258 rfl rfl rfl ?_
    refine r_icmp_geN (q := 262) (t := 276) (by omega) (by omega) dX12_equations_259 (by decide) rfl (fun h259 => ?_) (fun h259 => absurd h259 (by omega))
    exact K n (Nat.le_refl _) hz (Or.inl rfl)
  | succ d ih =>
    intro j hj hz
    have hjn : j < n := by omega
    obtain ⟨hwj, hwP⟩ := hW j hjn
    by_cases z0 : w j = 0
    · skip
      refine r_iload (q := 258) dX12_equations_256 rfl rfl ?_
      refine r_iload_n (q := 259) dX12_equations_258 rfl rfl rfl ?_
      refine r_icmp_geN (q := 262) (t := 276) (by omega) (by omega) dX12_equations_259 (by decide) rfl (fun h259 => absurd h259 (by omega)) (fun h259 => ?_)
      refine r_aload (q := 264) dX12_equations_262 rfl rfl ?_
      refine r_iload (q := 266) dX12_equations_264 rfl rfl ?_
      refine r_ialdN (q := 267) 18 (by decide) rfl dX12_equations_266 rfl (hs.e (by decide)) (hs.n rfl (by decide)) (by omega) (by decide) ?_
      refine r_topi (y := nI (w j)) hwj ?_
      refine r_if_neN (q := 270) (t := 276) (by omega) dX12_equations_267 (by decide) rfl (fun h267 => absurd h267 (by omega)) (fun h267 => ?_)
      refine r_iincN (q := 273) (L' := [some (zr 12 0), some (zi (nI n)), some (zi (nI P)), some (zi (nI k)), some (zi (nI l)), some (zr 1366 0), some (zi (nI (j + 1))), none, none, none, none]) 1 rfl dX12_equations_270 rfl rfl (by decide) rfl ?_
      refine r_goto (q := 256) dX12_equations_273 (by decide) ?_
      exact ih (j + 1) (by omega) (fun i hi => by by_cases e : i = j; (rw [e]; exact z0); exact hz i (by omega))
    · skip
      refine r_iload (q := 258) dX12_equations_256 rfl rfl ?_
      refine r_iload_n (q := 259) dX12_equations_258 rfl rfl rfl ?_
      refine r_icmp_geN (q := 262) (t := 276) (by omega) (by omega) dX12_equations_259 (by decide) rfl (fun h259 => absurd h259 (by omega)) (fun h259 => ?_)
      refine r_aload (q := 264) dX12_equations_262 rfl rfl ?_
      refine r_iload (q := 266) dX12_equations_264 rfl rfl ?_
      refine r_ialdN (q := 267) 18 (by decide) rfl dX12_equations_266 rfl (hs.e (by decide)) (hs.n rfl (by decide)) (by omega) (by decide) ?_
      refine r_topi (y := nI (w j)) hwj ?_
      refine r_if_neN (q := 270) (t := 276) (by omega) dX12_equations_267 (by decide) rfl (fun h267 => ?_) (fun h267 => absurd h267 (by omega))
      exact K j (by omega) hz (Or.inr ⟨hjn, z0⟩)

set_option maxRecDepth 100000 in
theorem lp_eq300 {n P k l : Nat} (hn18 : n ≤ 18) (h2 : 2 ≤ P) (hP : P ≤ 97) (hk18 : k ≤ 18) (hk : k < 18) {low b : Nat} (hb : b < P) {w : Nat → Nat} {Po : Option zV → zS → Prop} : ∀ (d j : Nat) (S : zS), j + d = n → Sd S → RoS S n P w → (∀ i, i < j → gI S 1364 0 (18 * k + i) = nI (w i * b % P)) → (∀ S1, Fr t64 S S1 → (∀ r j, r < k → j < n → gI S1 1364 0 (18 * r + j) = gI S 1364 0 (18 * r + j)) → (∀ i, i < n → gI S1 1364 0 (18 * k + i) = nI (w i * b % P)) → Ok mX12_equations 334 [some (zr 12 0), some (zi (nI n)), some (zi (nI P)), some (zi (nI k)), some (zi (nI l)), some (zr 1366 0), some (zi (nI low)), some (zi (nI b)), some (zi (nI n)), none, none] [] S1 Po) → Ok mX12_equations 300 [some (zr 12 0), some (zi (nI n)), some (zi (nI P)), some (zi (nI k)), some (zi (nI l)), some (zr 1366 0), some (zi (nI low)), some (zi (nI b)), some (zi (nI j)), none, none] [] S Po := by
  intro d
  induction d with
  | zero =>
    intro j S hj hs hW hlo K
    obtain rfl : n = j := by omega
    refine r_iload (q := 302) dX12_equations_300 rfl rfl ?_
    refine r_iload_n (q := 303) dX12_equations_302 rfl rfl rfl ?_
    refine r_icmp_geN (q := 306) (t := 334) (by omega) (by omega) dX12_equations_303 (by decide) rfl (fun h303 => ?_) (fun h303 => absurd h303 (by omega))
    exact K S Fr.rf (fun _ _ _ _ => rfl) hlo
  | succ d ih =>
    intro j S hj hs hW hlo K
    have hjn : j < n := by omega
    obtain ⟨hwj, hwP⟩ := hW j hjn
    have hm : w j * b ≤ 97 * 97 := Nat.mul_le_mul (by omega) (by omega)
    refine r_iload (q := 302) dX12_equations_300 rfl rfl ?_
    refine r_iload_n (q := 303) dX12_equations_302 rfl rfl rfl ?_
    refine r_icmp_geN (q := 306) (t := 334) (by omega) (by omega) dX12_equations_303 (by decide) rfl (fun h303 => absurd h303 (by omega)) (fun h303 => ?_)
    refine r_aload_n (q := 307) dX12_equations_306 rfl rfl rfl ?_
    refine r_getr (q := 310) (some (1364, 0)) ck12 dX12_equations_307 rfl (k := 64) (by decide) wt1342 rfl (hs.e (by decide)) (hs.r (by decide) (by decide)) ?_
    refine r_bipush (q := 312) (nI 18) dX12_equations_310 rfl (by decide) ?_
    refine r_iload_n (q := 313) dX12_equations_312 rfl rfl rfl ?_
    refine r_imulN (q := 314) dX12_equations_313 rfl ?_
    refine r_iload (q := 316) dX12_equations_314 rfl rfl ?_
    refine r_iaddN (q := 317) dX12_equations_316 rfl ?_
    refine r_topi (y := nI (18 * k + j)) rfl ?_
    refine r_aload (q := 319) dX12_equations_317 rfl rfl ?_
    refine r_iload (q := 321) dX12_equations_319 rfl rfl ?_
    refine r_ialdN (q := 322) 18 (by decide) rfl dX12_equations_321 rfl (hs.e (by decide)) (hs.n rfl (by decide)) (by omega) (by decide) ?_
    refine r_topi (y := nI (w j)) hwj ?_
    refine r_iload (q := 324) dX12_equations_322 rfl rfl ?_
    refine r_imulN (q := 325) dX12_equations_324 rfl ?_
    refine r_iload_n (q := 326) dX12_equations_325 rfl rfl rfl ?_
    refine r_iremN (q := 327) (by omega) (by omega) (by omega) dX12_equations_326 rfl ?_
    refine r_topi (y := nI (w j * b % P)) rfl ?_
    refine r_iastN (q := 328) 324 (by decide) rfl dX12_equations_327 rfl (hs.e (by decide)) (hs.n rfl (by decide)) (by omega) (by decide) ?_
    refine r_iincN (q := 331) (L' := [some (zr 12 0), some (zi (nI n)), some (zi (nI P)), some (zi (nI k)), some (zi (nI l)), some (zr 1366 0), some (zi (nI low)), some (zi (nI b)), some (zi (nI (j + 1))), none, none]) 1 rfl dX12_equations_328 rfl rfl (by decide) rfl ?_
    refine r_goto (q := 300) dX12_equations_331 (by decide) ?_
    have f1 : Fr t64 S (sI S 1364 0 (18 * k + j) (nI (w j * b % P))) := Fr.rf.i rfl
    refine ih (j + 1) (sI S 1364 0 (18 * k + j) (nI (w j * b % P))) (by omega) hs hW (fun i hi => ?_) (fun S1 f2 y z => K S1 (f1.tr f2) (fun r i hr hi => (y r i hr hi).trans (by rw [gI_sI, if_neg (by omega)])) z)
    rw [gI_sI]
    by_cases e : i = j
    · rw [if_pos ⟨rfl, rfl, by rw [e]⟩, e]
    · rw [if_neg (fun z => e (by omega))]; exact hlo i (by omega)

set_option maxRecDepth 100000 in
theorem lp_eq361 {n P k l : Nat} (hn18 : n ≤ 18) (h2 : 2 ≤ P) (hP : P ≤ 97) (hk18 : k ≤ 18) (hk : k < 18) {low b r v : Nat} (hr : r < k) (hv : v < P) {w u : Nat → Nat} (hw : ∀ j, j < n → w j < P) (hu : ∀ j, j < n → u j < P) {Po : Option zV → zS → Prop} : ∀ (d j : Nat) (S : zS), j + d = n → Sd S → (∀ i, i < n → gI S 1364 0 (18 * k + i) = nI (u i)) → (∀ i, i < j → gI S 1364 0 (18 * r + i) = nI (rdc P w u v i)) → (∀ i, j ≤ i → i < n → gI S 1364 0 (18 * r + i) = nI (w i)) → (∀ S1, Fr t64 S S1 → (∀ r' j, r' ≤ k → r' ≠ r → j < n → gI S1 1364 0 (18 * r' + j) = gI S 1364 0 (18 * r' + j)) → (∀ i, i < n → gI S1 1364 0 (18 * r + i) = nI (rdc P w u v i)) → Ok mX12_equations 419 [some (zr 12 0), some (zi (nI n)), some (zi (nI P)), some (zi (nI k)), some (zi (nI l)), some (zr 1366 0), some (zi (nI low)), some (zi (nI b)), some (zi (nI r)), some (zi (nI v)), some (zi (nI n))] [] S1 Po) → Ok mX12_equations 361 [some (zr 12 0), some (zi (nI n)), some (zi (nI P)), some (zi (nI k)), some (zi (nI l)), some (zr 1366 0), some (zi (nI low)), some (zi (nI b)), some (zi (nI r)), some (zi (nI v)), some (zi (nI j))] [] S Po := by
  intro d
  induction d with
  | zero =>
    intro j S hj hs hku hlo hhi K
    obtain rfl : n = j := by omega
    refine r_iload (q := 363) dX12_equations_361 rfl rfl ?_
    refine r_iload_n (q := 364) dX12_equations_363 rfl rfl rfl ?_
    refine r_icmp_geN (q := 367) (t := 419) (by omega) (by omega) dX12_equations_364 (by decide) rfl (fun h364 => ?_) (fun h364 => absurd h364 (by omega))
    exact K S Fr.rf (fun _ _ _ _ _ => rfl) hlo
  | succ d ih =>
    intro j S hj hs hku hlo hhi K
    have hjn : j < n := by omega
    have hwj := hhi j (Nat.le_refl _) hjn
    have hw97 := hw j hjn
    have hu97 := hu j hjn
    have hkuj := hku j hjn
    have hm : (P - v) * u j ≤ 97 * 97 := Nat.mul_le_mul (by omega) (by omega)
    refine r_iload (q := 363) dX12_equations_361 rfl rfl ?_
    refine r_iload_n (q := 364) dX12_equations_363 rfl rfl rfl ?_
    refine r_icmp_geN (q := 367) (t := 419) (by omega) (by omega) dX12_equations_364 (by decide) rfl (fun h364 => absurd h364 (by omega)) (fun h364 => ?_)
    refine r_aload_n (q := 368) dX12_equations_367 rfl rfl rfl ?_
    refine r_getr (q := 371) (some (1364, 0)) ck12 dX12_equations_368 rfl (k := 64) (by decide) wt1342 rfl (hs.e (by decide)) (hs.r (by decide) (by decide)) ?_
    refine r_bipush (q := 373) (nI 18) dX12_equations_371 rfl (by decide) ?_
    refine r_iload (q := 375) dX12_equations_373 rfl rfl ?_
    refine r_imulN (q := 376) dX12_equations_375 rfl ?_
    refine r_iload (q := 378) dX12_equations_376 rfl rfl ?_
    refine r_iaddN (q := 379) dX12_equations_378 rfl ?_
    refine r_topi (y := nI (18 * r + j)) rfl ?_
    refine r_aload_n (q := 380) dX12_equations_379 rfl rfl rfl ?_
    refine r_getr (q := 383) (some (1364, 0)) ck12 dX12_equations_380 rfl (k := 64) (by decide) wt1342 rfl (hs.e (by decide)) (hs.r (by decide) (by decide)) ?_
    refine r_bipush (q := 385) (nI 18) dX12_equations_383 rfl (by decide) ?_
    refine r_iload (q := 387) dX12_equations_385 rfl rfl ?_
    refine r_imulN (q := 388) dX12_equations_387 rfl ?_
    refine r_iload (q := 390) dX12_equations_388 rfl rfl ?_
    refine r_iaddN (q := 391) dX12_equations_390 rfl ?_
    refine r_topi (y := nI (18 * r + j)) rfl ?_
    refine r_ialdN (q := 392) 324 (by decide) rfl dX12_equations_391 rfl (hs.e (by decide)) (hs.n rfl (by decide)) (by omega) (by decide) ?_
    refine r_topi (y := nI (w j)) hwj ?_
    refine r_iload_n (q := 393) dX12_equations_392 rfl rfl rfl ?_
    refine r_iload (q := 395) dX12_equations_393 rfl rfl ?_
    refine r_isubN (q := 396) (by omega) dX12_equations_395 rfl ?_
    refine r_aload_n (q := 397) dX12_equations_396 rfl rfl rfl ?_
    refine r_getr (q := 400) (some (1364, 0)) ck12 dX12_equations_397 rfl (k := 64) (by decide) wt1342 rfl (hs.e (by decide)) (hs.r (by decide) (by decide)) ?_
    refine r_bipush (q := 402) (nI 18) dX12_equations_400 rfl (by decide) ?_
    refine r_iload_n (q := 403) dX12_equations_402 rfl rfl rfl ?_
    refine r_imulN (q := 404) dX12_equations_403 rfl ?_
    refine r_iload (q := 406) dX12_equations_404 rfl rfl ?_
    refine r_iaddN (q := 407) dX12_equations_406 rfl ?_
    refine r_topi (y := nI (18 * k + j)) rfl ?_
    refine r_ialdN (q := 408) 324 (by decide) rfl dX12_equations_407 rfl (hs.e (by decide)) (hs.n rfl (by decide)) (by omega) (by decide) ?_
    refine r_topi (y := nI (u j)) hkuj ?_
    refine r_imulN (q := 409) dX12_equations_408 rfl ?_
    refine r_iaddN (q := 410) dX12_equations_409 rfl ?_
    refine r_iload_n (q := 411) dX12_equations_410 rfl rfl rfl ?_
    refine r_iremN (q := 412) (by omega) (by omega) (by omega) dX12_equations_411 rfl ?_
    refine r_topi (y := nI (rdc P w u v j)) rfl ?_
    refine r_iastN (q := 413) 324 (by decide) rfl dX12_equations_412 rfl (hs.e (by decide)) (hs.n rfl (by decide)) (by omega) (by decide) ?_
    refine r_iincN (q := 416) (L' := [some (zr 12 0), some (zi (nI n)), some (zi (nI P)), some (zi (nI k)), some (zi (nI l)), some (zr 1366 0), some (zi (nI low)), some (zi (nI b)), some (zi (nI r)), some (zi (nI v)), some (zi (nI (j + 1)))]) 1 rfl dX12_equations_413 rfl rfl (by decide) rfl ?_
    refine r_goto (q := 361) dX12_equations_416 (by decide) ?_
    have f1 : Fr t64 S (sI S 1364 0 (18 * r + j) (nI (rdc P w u v j))) := Fr.rf.i rfl
    refine ih (j + 1) (sI S 1364 0 (18 * r + j) (nI (rdc P w u v j))) (by omega) hs (fun i hi => by rw [gI_sI, if_neg (by omega)]; exact hku i hi) (fun i hi => ?_) (fun i a b => by rw [gI_sI, if_neg (by omega)]; exact hhi i (by omega) b) (fun S1 f2 y z => K S1 (f1.tr f2) (fun r' i a b c => (y r' i a b c).trans (by rw [gI_sI, if_neg (by omega)])) z)
    rw [gI_sI]
    by_cases e : i = j
    · rw [if_pos ⟨rfl, rfl, by rw [e]⟩, e]
    · rw [if_neg (fun z => e (by omega))]; exact hlo i (by omega)

set_option maxRecDepth 100000 in
theorem lp_eq337 {n P k l : Nat} (hn18 : n ≤ 18) (h2 : 2 ≤ P) (hP : P ≤ 97) (hk18 : k ≤ 18) (hk : k < 18) {low b : Nat} (hlow : low < n) {g : Nat → Nat → Nat} {u : Nat → Nat} (hg : ∀ r j, r < k → j < n → g r j < P) (hu : ∀ j, j < n → u j < P) {Po : Option zV → zS → Prop} : ∀ (d i : Nat) (S : zS) (w9 w10 : Option zV), i + d = k → Sd S → (∀ j, j < n → gI S 1364 0 (18 * k + j) = nI (u j)) → (∀ r j, r < i → j < n → gI S 1364 0 (18 * r + j) = nI (rdc P (g r) u (g r low) j)) → (∀ r j, i ≤ r → r < k → j < n → gI S 1364 0 (18 * r + j) = nI (g r j)) → (∀ S1 w9 w10, Fr t64 S S1 → (∀ j, j < n → gI S1 1364 0 (18 * k + j) = nI (u j)) → (∀ r j, r < k → j < n → gI S1 1364 0 (18 * r + j) = nI (rdc P (g r) u (g r low) j)) → Ok mX12_equations 425 [some (zr 12 0), some (zi (nI n)), some (zi (nI P)), some (zi (nI k)), some (zi (nI l)), some (zr 1366 0), some (zi (nI low)), some (zi (nI b)), some (zi (nI (k))), w9, w10] [] S1 Po) → Ok mX12_equations 337 [some (zr 12 0), some (zi (nI n)), some (zi (nI P)), some (zi (nI k)), some (zi (nI l)), some (zr 1366 0), some (zi (nI low)), some (zi (nI b)), some (zi (nI (i))), w9, w10] [] S Po := by
  intro d
  induction d with
  | zero =>
    intro i S w9 w10 hi hs hku hlo hhi K
    obtain rfl : k = i := by omega
    refine r_mask [true, true, true, true, true, true, true, true, true, false, false] rfl ?_
    refine r_iload (q := 339) dX12_equations_337 rfl rfl ?_
    refine r_iload_n (q := 340) dX12_equations_339 rfl rfl rfl ?_
    refine r_icmp_geN (q := 343) (t := 425) (by omega) (by omega) dX12_equations_340 (by decide) rfl (fun h340 => ?_) (fun h340 => absurd h340 (by omega))
    exact K S none none Fr.rf hku hlo
  | succ d ih =>
    intro i S w9 w10 hi hs hku hlo hhi K
    have hik : i < k := by omega
    have hil := hhi i low (Nat.le_refl _) hik hlow
    refine r_mask [true, true, true, true, true, true, true, true, true, false, false] rfl ?_
    refine r_iload (q := 339) dX12_equations_337 rfl rfl ?_
    refine r_iload_n (q := 340) dX12_equations_339 rfl rfl rfl ?_
    refine r_icmp_geN (q := 343) (t := 425) (by omega) (by omega) dX12_equations_340 (by decide) rfl (fun h340 => absurd h340 (by omega)) (fun h340 => ?_)
    refine r_aload_n (q := 344) dX12_equations_343 rfl rfl rfl ?_
    refine r_getr (q := 347) (some (1364, 0)) ck12 dX12_equations_344 rfl (k := 64) (by decide) wt1342 rfl (hs.e (by decide)) (hs.r (by decide) (by decide)) ?_
    refine r_bipush (q := 349) (nI 18) dX12_equations_347 rfl (by decide) ?_
    refine r_iload (q := 351) dX12_equations_349 rfl rfl ?_
    refine r_imulN (q := 352) dX12_equations_351 rfl ?_
    refine r_iload (q := 354) dX12_equations_352 rfl rfl ?_
    refine r_iaddN (q := 355) dX12_equations_354 rfl ?_
    refine r_topi (y := nI (18 * i + low)) rfl ?_
    refine r_ialdN (q := 356) 324 (by decide) rfl dX12_equations_355 rfl (hs.e (by decide)) (hs.n rfl (by decide)) (by omega) (by decide) ?_
    refine r_topi (y := nI (g i low)) hil ?_
    refine r_istore (q := 358) (L' := [some (zr 12 0), some (zi (nI n)), some (zi (nI P)), some (zi (nI k)), some (zi (nI l)), some (zr 1366 0), some (zi (nI low)), some (zi (nI b)), some (zi (nI i)), some (zi (nI (g i low))), none]) dX12_equations_356 rfl (by decide) rfl ?_
    refine r_iconst (q := 359) (nI 0) dX12_equations_358 rfl (by decide) ?_
    refine r_istore (q := 361) (L' := [some (zr 12 0), some (zi (nI n)), some (zi (nI P)), some (zi (nI k)), some (zi (nI l)), some (zr 1366 0), some (zi (nI low)), some (zi (nI b)), some (zi (nI i)), some (zi (nI (g i low))), some (zi (nI 0))]) dX12_equations_359 rfl (by decide) rfl ?_
    refine lp_eq361 hn18 h2 hP hk18 hk hik (hg i low hik hlow) (w := g i) (u := u) (fun j hj => hg i j hik hj) hu n 0 S (by omega) hs hku (fun j hj => absurd hj (Nat.not_lt_zero j)) (fun j _ hj => hhi i j (Nat.le_refl _) hik hj) (fun S1 f1 y z => ?_)
    have hs1 : Sd S1 := hs.fr f1
    refine r_iincN (q := 422) (L' := [some (zr 12 0), some (zi (nI n)), some (zi (nI P)), some (zi (nI k)), some (zi (nI l)), some (zr 1366 0), some (zi (nI low)), some (zi (nI b)), some (zi (nI (i + 1))), some (zi (nI (g i low))), some (zi (nI n))]) 1 rfl dX12_equations_419 rfl rfl (by decide) rfl ?_
    refine r_goto (q := 337) dX12_equations_422 (by decide) ?_
    refine ih (i + 1) S1 _ _ (by omega) hs1 (fun j hj => (y k j (by omega) (by omega) hj).trans (hku j hj)) (fun r j hr hj => ?_) (fun r j a c hj => (y r j (by omega) (by omega) hj).trans (hhi r j (by omega) c hj)) (fun S2 w9 w10 f2 a c => K S2 w9 w10 (f1.tr f2) a c)
    by_cases e : r = i
    · rw [e]; exact z j hj
    · exact (y r j (by omega) e hj).trans (hlo r j (by omega) hj)

