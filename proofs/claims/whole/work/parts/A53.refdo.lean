/-! doing, the reference -/
def RSt (S : zS) (w P : Nat) (v : Nat → Nat → Nat) (sz : Nat) : Prop := ∀ p j, p < sz → j < w → gI S 1385 0 (3 * p + j) = nI (v p j) ∧ v p j < P
def tRou (x y _k : Nat) : Bool := x == 1386 && y == 0
def TbR (S : zS) (a P : Nat) (tb : Nat → Nat) : Prop := ∀ i, i < 243 → gI S 1306 0 (444 + 243 * a + i) = nI (tb i) ∧ tb i < P
theorem RSt.fr {S S1 : zS} {w P sz : Nat} {v : Nat → Nat → Nat} (h : RSt S w P v sz) {U : Nat → Nat → Nat → Bool} (f : Fr U S S1) (t : ∀ k, U 1385 0 k = false) : RSt S1 w P v sz := fun p j a b => ⟨(f.1 _ _ _ (t _)).trans (h p j a b).1, (h p j a b).2⟩
theorem TbR.fr {S S1 : zS} {a P : Nat} {tb : Nat → Nat} (h : TbR S a P tb) {U : Nat → Nat → Nat → Bool} (f : Fr U S S1) (t : ∀ k, U 1306 0 k = false) : TbR S1 a P tb := fun i hi => ⟨(f.1 _ _ _ (t _)).trans (h i hi).1, (h i hi).2⟩

set_option maxRecDepth 100000 in
theorem lp_rd210 {a sz w e P : Nat} (ha3 : a < 3) (hsz : sz ≤ 8) (hesz : e ≤ sz) (he4 : e ≤ 4) (h1 : 1 ≤ w) (h3 : w ≤ 3) (hP2 : 2 ≤ P) (hP97 : P ≤ 97) {v : Nat → Nat → Nat} {cd0 num lf i0 : Int32} {S : zS} (hs : Sd S) (hp0 : gI S 1306 0 0 = nI P) (hv : RSt S w P v sz) {T : Nat} {Po : Option zV → zS → Prop} (K : Ok mX12_doTree 258 [some (zr 12 0), some (zi cd0), some (zi num), some (zi (nI w)), some (zi (nI sz)), some (zi lf), some (zi i0), some (zi (nI a)), some (zi (nI e)), some (zi (nI (w ^ e))), some (zi (nI T)), some (zi (nI (cfP w P v sz e T 1))), none, none] [] S Po) : ∀ (k t x : Nat) (z : Int32), z = nI k - 1 → k ≤ e → t < 81 → x < P → cfP w P v sz k t x = cfP w P v sz e T 1 → Ok mX12_doTree 210 [some (zr 12 0), some (zi cd0), some (zi num), some (zi (nI w)), some (zi (nI sz)), some (zi lf), some (zi i0), some (zi (nI a)), some (zi (nI e)), some (zi (nI (w ^ e))), some (zi (nI T)), some (zi (nI x)), some (zi (nI t)), some (zi z)] [] S Po := by
  have hwe : w ^ e ≤ 81 := pw_le h1 h3 he4
  intro k
  induction k with
  | zero =>
    intro t x z hz hk ht hx hr
    have hze : z = -1 := hz
    subst hze
    obtain rfl : x = cfP w P v sz e T 1 := hr
    refine r_iload (q := 212) dX12_doTree_210 rfl rfl ?_
    refine r_if_lt (q := 215) (t := 258) dX12_doTree_212 (by decide) rfl (fun h212 => ?_) (fun h212 => absurd h212 (by decide))
    refine r_mask [true, true, true, true, true, true, true, true, true, true, true, true, false, false] rfl ?_
    exact K
  | succ k ih =>
    intro t x z hz hk ht hx hr
    rw [nI_pred] at hz
    subst hz
    have hm : t % w < w := Nat.mod_lt _ h1
    obtain ⟨z1, z2⟩ := hv (sz - (k + 1)) (t % w) (by omega) hm
    rw [show sz - (k + 1) = sz - 1 - k by omega] at z1
    have z3 : v (sz - 1 - k) (t % w) < P := by rw [show sz - 1 - k = sz - (k + 1) by omega]; exact z2
    have hdl : t / w ≤ t := Nat.div_le_self _ _
    have hmul : x * v (sz - 1 - k) (t % w) ≤ 97 * 97 := Nat.mul_le_mul (by omega) (by omega)
    refine r_iload (q := 212) dX12_doTree_210 rfl rfl ?_
    refine r_if_ltN (q := 215) (t := 258) (by omega) dX12_doTree_212 (by decide) rfl ?_
    refine r_iload (q := 217) dX12_doTree_215 rfl rfl ?_
    refine r_aload_n (q := 218) dX12_doTree_217 rfl rfl rfl ?_
    refine r_getr (q := 221) (some (1385, 0)) ck12 dX12_doTree_218 rfl (k := 85) (by decide) wt1363 rfl (hs.e (by decide)) (hs.r (by decide) (by decide)) ?_
    refine r_iconst (q := 222) (nI 3) dX12_doTree_221 rfl (by decide) ?_
    refine r_iload (q := 224) dX12_doTree_222 rfl rfl ?_
    refine r_iconst (q := 225) (nI 1) dX12_doTree_224 rfl (by decide) ?_
    refine r_isubN (q := 226) (by omega) dX12_doTree_225 rfl ?_
    refine r_iload (q := 228) dX12_doTree_226 rfl rfl ?_
    refine r_isubN (q := 229) (by omega) dX12_doTree_228 rfl ?_
    refine r_imulN (q := 230) dX12_doTree_229 rfl ?_
    refine r_iload (q := 232) dX12_doTree_230 rfl rfl ?_
    refine r_iload_n (q := 233) dX12_doTree_232 rfl rfl rfl ?_
    refine r_iremN (q := 234) (by omega) (by omega) (by omega) dX12_doTree_233 rfl ?_
    refine r_iaddN (q := 235) dX12_doTree_234 rfl ?_
    refine r_ialdN (q := 236) 24 (by decide) rfl dX12_doTree_235 rfl (hs.e (by decide)) (hs.n rfl (by decide)) (by omega) (by decide) ?_
    refine r_topi (y := nI (v (sz - 1 - k) (t % w))) z1 ?_
    refine r_imulN (q := 237) dX12_doTree_236 rfl ?_
    refine r_aload_n (q := 238) dX12_doTree_237 rfl rfl rfl ?_
    refine r_getr (q := 241) (some (1306, 0)) ck12 dX12_doTree_238 rfl (k := 6) (by decide) wt1284 rfl (hs.e (by decide)) (hs.r (by decide) (by decide)) ?_
    refine r_iconst (q := 242) (nI 0) dX12_doTree_241 rfl (by decide) ?_
    refine r_ialdN (q := 243) 3775 (by decide) rfl dX12_doTree_242 rfl (hs.e (by decide)) (hs.n rfl (by decide)) (by omega) (by decide) ?_
    refine r_topi (y := nI P) hp0 ?_
    refine r_iremN (q := 244) (by omega) (by omega) (by omega) dX12_doTree_243 rfl ?_
    refine r_istore (q := 246) (L' := [some (zr 12 0), some (zi cd0), some (zi num), some (zi (nI w)), some (zi (nI sz)), some (zi lf), some (zi i0), some (zi (nI a)), some (zi (nI e)), some (zi (nI (w ^ e))), some (zi (nI T)), some (zi (nI ((x * (v (sz - 1 - k) (t % w))) % P))), some (zi (nI t)), some (zi (nI k))]) dX12_doTree_244 rfl (by decide) rfl ?_
    refine r_iload (q := 248) dX12_doTree_246 rfl rfl ?_
    refine r_iload_n (q := 249) dX12_doTree_248 rfl rfl rfl ?_
    refine r_idivN (q := 250) (by omega) (by omega) (by omega) dX12_doTree_249 rfl ?_
    refine r_istore (q := 252) (L' := [some (zr 12 0), some (zi cd0), some (zi num), some (zi (nI w)), some (zi (nI sz)), some (zi lf), some (zi i0), some (zi (nI a)), some (zi (nI e)), some (zi (nI (w ^ e))), some (zi (nI T)), some (zi (nI ((x * (v (sz - 1 - k) (t % w))) % P))), some (zi (nI (t / w))), some (zi (nI k))]) dX12_doTree_250 rfl (by decide) rfl ?_
    refine r_iinc (q := 255) (L' := [some (zr 12 0), some (zi cd0), some (zi num), some (zi (nI w)), some (zi (nI sz)), some (zi lf), some (zi i0), some (zi (nI a)), some (zi (nI e)), some (zi (nI (w ^ e))), some (zi (nI T)), some (zi (nI ((x * (v (sz - 1 - k) (t % w))) % P))), some (zi (nI (t / w))), some (zi ((nI k) + (-1)))]) ((nI k) + (-1)) dX12_doTree_252 rfl rfl (by decide) rfl rfl ?_
    refine r_goto (q := 210) dX12_doTree_255 (by decide) ?_
    rw [cfP, show sz - (k + 1) = sz - 1 - k by omega] at hr
    exact ih (t / w) _ _ (Int32.sub_eq_add_neg _ _).symm (by omega) (by omega) (Nat.mod_lt _ (by omega)) hr

set_option maxRecDepth 100000 in
theorem lp_rd261 {a sz w e P : Nat} (ha3 : a < 3) (hsz : sz ≤ 8) (hesz : e ≤ sz) (he4 : e ≤ 4) (h1 : 1 ≤ w) (h3 : w ≤ 3) (hP2 : 2 ≤ P) (hP97 : P ≤ 97) {v : Nat → Nat → Nat} {cd0 num lf i0 : Int32} {tb : Nat → Nat} {T x : Nat} (hT : T < w ^ e) (hx : x = cfP w P v sz e T 1) {Po : Option zV → zS → Prop} : ∀ (d j : Nat) (S : zS), j + d = w → Sd S → gI S 1306 0 0 = nI P → TbR S a P tb → (∀ i, i < j → gI S 1386 0 i = nI (oaP w P v sz e tb (T + 1) i)) → (∀ i, j ≤ i → i < w → gI S 1386 0 i = nI (oaP w P v sz e tb T i)) → (∀ S1, Fr tRou S S1 → (∀ i, i < w → gI S1 1386 0 i = nI (oaP w P v sz e tb (T + 1) i)) → Ok mX12_doTree 326 [some (zr 12 0), some (zi cd0), some (zi num), some (zi (nI w)), some (zi (nI sz)), some (zi lf), some (zi i0), some (zi (nI a)), some (zi (nI e)), some (zi (nI (w ^ e))), some (zi (nI T)), some (zi (nI x)), none, none] [] S1 Po) → Ok mX12_doTree 261 [some (zr 12 0), some (zi cd0), some (zi num), some (zi (nI w)), some (zi (nI sz)), some (zi lf), some (zi i0), some (zi (nI a)), some (zi (nI e)), some (zi (nI (w ^ e))), some (zi (nI T)), some (zi (nI x)), none, some (zi (nI j))] [] S Po := by
  have hwe : w ^ e ≤ 81 := pw_le h1 h3 he4
  have hxP : x < P := by rw [hx]; exact cfP_lt (by omega) _ _ _ (by omega)
  intro d
  induction d with
  | zero =>
    intro j S hj hs hp0 hT1 hlo hhi K
    obtain rfl : w = j := by omega
    refine r_iload (q := 263) dX12_doTree_261 rfl rfl ?_
    refine r_iload_n (q := 264) dX12_doTree_263 rfl rfl rfl ?_
    refine r_icmp_geN (q := 267) (t := 326) (by omega) (by omega) dX12_doTree_264 (by decide) rfl (fun h264 => ?_) (fun h264 => absurd h264 (by omega))
    refine r_mask [true, true, true, true, true, true, true, true, true, true, true, true, true, false] rfl ?_
    exact K S Fr.rf hlo
  | succ d ih =>
    intro j S hj hs hp0 hT1 hlo hhi K
    by_cases hx0 : x = 0
    · subst hx0
      refine r_iload (q := 263) dX12_doTree_261 rfl rfl ?_
      refine r_iload_n (q := 264) dX12_doTree_263 rfl rfl rfl ?_
      refine r_icmp_geN (q := 267) (t := 326) (by omega) (by omega) dX12_doTree_264 (by decide) rfl (fun h264 => absurd h264 (by omega)) (fun h264 => ?_)
      refine r_iload (q := 269) dX12_doTree_267 rfl rfl ?_
      refine r_if_leN (q := 272) (t := 326) (by omega) dX12_doTree_269 (by decide) rfl (fun h269 => ?_) (fun h269 => absurd h269 (by omega))
      refine r_mask [true, true, true, true, true, true, true, true, true, true, true, true, true, false] rfl ?_
      exact K S Fr.rf (fun i hi => (Nat.lt_or_ge i j).elim (hlo i) (fun z => by rw [oaP_skip (by omega) hx.symm]; exact hhi i z hi))
    · have htw := tw_lt h1 h3 he4 hT (show j < w by omega)
      have eTw : w * T = T * w := Nat.mul_comm _ _
      obtain ⟨tb1, tb2⟩ := hT1 (T * w + j) htw
      have tb1 : gI S 1306 0 (444 + 243 * a + w * T + j) = nI (tb (T * w + j)) := by rw [show 444 + 243 * a + w * T + j = 444 + 243 * a + (T * w + j) by omega]; exact tb1
      have hr := hhi j (Nat.le_refl _) (by omega)
      have hro := oaP_lt (w := w) (P := P) (v := v) (sz := sz) (e := e) (tb := tb) (by omega) T j
      have hmul : x * tb (T * w + j) ≤ 97 * 97 := Nat.mul_le_mul (by omega) (by omega)
      have f1 : Fr tRou S (sI S 1386 0 j (nI ((oaP w P v sz e tb T j + x * tb (T * w + j)) % P))) := (Fr.rf).i rfl
      refine r_iload (q := 263) dX12_doTree_261 rfl rfl ?_
      refine r_iload_n (q := 264) dX12_doTree_263 rfl rfl rfl ?_
      refine r_icmp_geN (q := 267) (t := 326) (by omega) (by omega) dX12_doTree_264 (by decide) rfl (fun h264 => absurd h264 (by omega)) (fun h264 => ?_)
      refine r_iload (q := 269) dX12_doTree_267 rfl rfl ?_
      refine r_if_leN (q := 272) (t := 326) (by omega) dX12_doTree_269 (by decide) rfl (fun h269 => absurd h269 (by omega)) (fun h269 => ?_)
      refine r_aload_n (q := 273) dX12_doTree_272 rfl rfl rfl ?_
      refine r_getr (q := 276) (some (1386, 0)) ck12 dX12_doTree_273 rfl (k := 86) (by decide) wt1364 rfl (hs.e (by decide)) (hs.r (by decide) (by decide)) ?_
      refine r_iload (q := 278) dX12_doTree_276 rfl rfl ?_
      refine r_aload_n (q := 279) dX12_doTree_278 rfl rfl rfl ?_
      refine r_getr (q := 282) (some (1386, 0)) ck12 dX12_doTree_279 rfl (k := 86) (by decide) wt1364 rfl (hs.e (by decide)) (hs.r (by decide) (by decide)) ?_
      refine r_iload (q := 284) dX12_doTree_282 rfl rfl ?_
      refine r_ialdN (q := 285) 3 (by decide) rfl dX12_doTree_284 rfl (hs.e (by decide)) (hs.n rfl (by decide)) (by omega) (by decide) ?_
      refine r_topi (y := nI (oaP w P v sz e tb T j)) hr ?_
      refine r_iload (q := 287) dX12_doTree_285 rfl rfl ?_
      refine r_aload_n (q := 288) dX12_doTree_287 rfl rfl rfl ?_
      refine r_getr (q := 291) (some (1306, 0)) ck12 dX12_doTree_288 rfl (k := 6) (by decide) wt1284 rfl (hs.e (by decide)) (hs.r (by decide) (by decide)) ?_
      refine r_sipush (q := 294) (nI 444) dX12_doTree_291 rfl (by decide) ?_
      refine r_sipush (q := 297) (nI 243) dX12_doTree_294 rfl (by decide) ?_
      refine r_iload (q := 299) dX12_doTree_297 rfl rfl ?_
      refine r_imulN (q := 300) dX12_doTree_299 rfl ?_
      refine r_iaddN (q := 301) dX12_doTree_300 rfl ?_
      refine r_iload_n (q := 302) dX12_doTree_301 rfl rfl rfl ?_
      refine r_iload (q := 304) dX12_doTree_302 rfl rfl ?_
      refine r_imulN (q := 305) dX12_doTree_304 rfl ?_
      refine r_iaddN (q := 306) dX12_doTree_305 rfl ?_
      refine r_iload (q := 308) dX12_doTree_306 rfl rfl ?_
      refine r_iaddN (q := 309) dX12_doTree_308 rfl ?_
      refine r_ialdN (q := 310) 3775 (by decide) rfl dX12_doTree_309 rfl (hs.e (by decide)) (hs.n rfl (by decide)) (by omega) (by decide) ?_
      refine r_topi (y := nI (tb (T * w + j))) tb1 ?_
      refine r_imulN (q := 311) dX12_doTree_310 rfl ?_
      refine r_iaddN (q := 312) dX12_doTree_311 rfl ?_
      refine r_aload_n (q := 313) dX12_doTree_312 rfl rfl rfl ?_
      refine r_getr (q := 316) (some (1306, 0)) ck12 dX12_doTree_313 rfl (k := 6) (by decide) wt1284 rfl (hs.e (by decide)) (hs.r (by decide) (by decide)) ?_
      refine r_iconst (q := 317) (nI 0) dX12_doTree_316 rfl (by decide) ?_
      refine r_ialdN (q := 318) 3775 (by decide) rfl dX12_doTree_317 rfl (hs.e (by decide)) (hs.n rfl (by decide)) (by omega) (by decide) ?_
      refine r_topi (y := nI P) hp0 ?_
      refine r_iremN (q := 319) (by omega) (by omega) (by omega) dX12_doTree_318 rfl ?_
      refine r_iastN (q := 320) 3 (by decide) rfl dX12_doTree_319 rfl (hs.e (by decide)) (hs.n rfl (by decide)) (by omega) (by decide) ?_
      refine r_iincN (q := 323) (L' := [some (zr 12 0), some (zi cd0), some (zi num), some (zi (nI w)), some (zi (nI sz)), some (zi lf), some (zi i0), some (zi (nI a)), some (zi (nI e)), some (zi (nI (w ^ e))), some (zi (nI T)), some (zi (nI x)), none, some (zi (nI (j + 1)))]) 1 rfl dX12_doTree_320 rfl rfl (by decide) rfl ?_
      refine r_goto (q := 261) dX12_doTree_323 (by decide) ?_
      refine ih (j + 1) (sI S 1386 0 j (nI ((oaP w P v sz e tb T j + x * tb (T * w + j)) % P))) (by omega) (hs.fr f1) hp0 (hT1.fr f1 (fun _ => rfl)) (fun i hi => ?_) (fun i a b => ?_) (fun S1 g h => K S1 (f1.tr g) h)
      · rw [gI_sI]
        by_cases e1 : i = j
        · rw [if_pos ⟨rfl, rfl, e1⟩, e1, oaP, ← hx]
        · rw [if_neg (by omega)]; exact hlo i (by omega)
      · rw [gI_sI, if_neg (by omega)]; exact hhi i (by omega) b

set_option maxRecDepth 100000 in
theorem lp_rd190 {a sz w e P : Nat} (ha3 : a < 3) (hsz : sz ≤ 8) (hesz : e ≤ sz) (he1 : 1 ≤ e) (he4 : e ≤ 4) (h1 : 1 ≤ w) (h3 : w ≤ 3) (hP2 : 2 ≤ P) (hP97 : P ≤ 97) {v : Nat → Nat → Nat} {cd0 num lf i0 : Int32} {tb : Nat → Nat} {Po : Option zV → zS → Prop} : ∀ (d T : Nat) (S : zS), T + d = w ^ e → Sd S → gI S 1306 0 0 = nI P → RSt S w P v sz → TbR S a P tb → (∀ i, i < w → gI S 1386 0 i = nI (oaP w P v sz e tb T i)) → (∀ S1, Fr tRou S S1 → (∀ i, i < w → gI S1 1386 0 i = nI (oaP w P v sz e tb (w ^ e) i)) → Ok mX12_doTree 332 [some (zr 12 0), some (zi cd0), some (zi num), some (zi (nI w)), some (zi (nI sz)), some (zi lf), some (zi i0), some (zi (nI a)), some (zi (nI e)), some (zi (nI (w ^ e))), none, none, none, none] [] S1 Po) → Ok mX12_doTree 190 [some (zr 12 0), some (zi cd0), some (zi num), some (zi (nI w)), some (zi (nI sz)), some (zi lf), some (zi i0), some (zi (nI a)), some (zi (nI e)), some (zi (nI (w ^ e))), some (zi (nI T)), none, none, none] [] S Po := by
  have hwe : w ^ e ≤ 81 := pw_le h1 h3 he4
  intro d
  induction d with
  | zero =>
    intro T S hT hs hp0 hv hT1 hr K
    have eT : T = w ^ e := by omega
    refine r_iload (q := 192) dX12_doTree_190 rfl rfl ?_
    refine r_iload (q := 194) dX12_doTree_192 rfl rfl ?_
    refine r_icmp_geN (q := 197) (t := 332) (by omega) (by omega) dX12_doTree_194 (by decide) rfl (fun h194 => ?_) (fun h194 => absurd h194 (by omega))
    refine r_mask [true, true, true, true, true, true, true, true, true, true, false, true, true, true] rfl ?_
    exact K S Fr.rf (by rw [← eT]; exact hr)
  | succ d ih =>
    intro T S hT hs hp0 hv hT1 hr K
    refine r_iload (q := 192) dX12_doTree_190 rfl rfl ?_
    refine r_iload (q := 194) dX12_doTree_192 rfl rfl ?_
    refine r_icmp_geN (q := 197) (t := 332) (by omega) (by omega) dX12_doTree_194 (by decide) rfl (fun h194 => absurd h194 (by omega)) (fun h194 => ?_)
    refine r_iconst (q := 198) (nI 1) dX12_doTree_197 rfl (by decide) ?_
    refine r_istore (q := 200) (L' := [some (zr 12 0), some (zi cd0), some (zi num), some (zi (nI w)), some (zi (nI sz)), some (zi lf), some (zi i0), some (zi (nI a)), some (zi (nI e)), some (zi (nI (w ^ e))), some (zi (nI T)), some (zi (nI 1)), none, none]) dX12_doTree_198 rfl (by decide) rfl ?_
    refine r_iload (q := 202) dX12_doTree_200 rfl rfl ?_
    refine r_istore (q := 204) (L' := [some (zr 12 0), some (zi cd0), some (zi num), some (zi (nI w)), some (zi (nI sz)), some (zi lf), some (zi i0), some (zi (nI a)), some (zi (nI e)), some (zi (nI (w ^ e))), some (zi (nI T)), some (zi (nI 1)), some (zi (nI T)), none]) dX12_doTree_202 rfl (by decide) rfl ?_
    refine r_iload (q := 206) dX12_doTree_204 rfl rfl ?_
    refine r_iconst (q := 207) (nI 1) dX12_doTree_206 rfl (by decide) ?_
    refine r_isubN (q := 208) (by omega) dX12_doTree_207 rfl ?_
    refine r_istore (q := 210) (L' := [some (zr 12 0), some (zi cd0), some (zi num), some (zi (nI w)), some (zi (nI sz)), some (zi lf), some (zi i0), some (zi (nI a)), some (zi (nI e)), some (zi (nI (w ^ e))), some (zi (nI T)), some (zi (nI 1)), some (zi (nI T)), some (zi (nI (e - 1)))]) dX12_doTree_208 rfl (by decide) rfl ?_
    refine lp_rd210 ha3 hsz hesz he4 h1 h3 hP2 hP97 hs hp0 hv ?_ e T 1 _ (by obtain ⟨q, hq⟩ : ∃ q, e = q + 1 := ⟨e - 1, by omega⟩; rw [hq, nI_pred, Nat.add_sub_cancel]) (Nat.le_refl _) (by omega) (by omega) rfl
    refine r_iconst (q := 259) (nI 0) dX12_doTree_258 rfl (by decide) ?_
    refine r_istore (q := 261) (L' := [some (zr 12 0), some (zi cd0), some (zi num), some (zi (nI w)), some (zi (nI sz)), some (zi lf), some (zi i0), some (zi (nI a)), some (zi (nI e)), some (zi (nI (w ^ e))), some (zi (nI T)), some (zi (nI (cfP w P v sz e T 1))), none, some (zi (nI 0))]) dX12_doTree_259 rfl (Nat.le_of_ble_eq_true rfl) rfl ?_
    refine lp_rd261 ha3 hsz hesz he4 h1 h3 hP2 hP97 (show T < w ^ e by omega) rfl w 0 S (by omega) hs hp0 hT1 (fun i hi => absurd hi (by omega)) (fun i _ hi => hr i hi) (fun S1 g h => ?_)
    refine r_iincN (q := 329) (L' := [some (zr 12 0), some (zi cd0), some (zi num), some (zi (nI w)), some (zi (nI sz)), some (zi lf), some (zi i0), some (zi (nI a)), some (zi (nI e)), some (zi (nI (w ^ e))), some (zi (nI (T + 1))), some (zi (nI (cfP w P v sz e T 1))), none, none]) 1 rfl dX12_doTree_326 rfl rfl (Nat.le_of_ble_eq_true rfl) rfl ?_
    refine r_goto (q := 190) dX12_doTree_329 (by decide) ?_
    refine r_mask [true, true, true, true, true, true, true, true, true, true, true, false, true, true] rfl ?_
    exact ih (T + 1) S1 (by omega) (hs.fr g) ((g.1 _ _ _ rfl).trans hp0) (hv.fr g (fun _ => rfl)) (hT1.fr g (fun _ => rfl)) h (fun S2 g2 h2 => K S2 (g.tr g2) h2)

set_option maxRecDepth 100000 in
theorem lp_rd167 {a sz w e P : Nat} (ha3 : a < 3) (hsz : sz ≤ 8) (hesz : e ≤ sz) (he4 : e ≤ 4) (h1 : 1 ≤ w) (h3 : w ≤ 3) (hP2 : 2 ≤ P) (hP97 : P ≤ 97) {v : Nat → Nat → Nat} {cd0 num lf i0 : Int32} {Po : Option zV → zS → Prop} : ∀ (d j : Nat) (S : zS), j + d = w → Sd S → (∀ S1, Fr tRou S S1 → (∀ i, j ≤ i → i < w → gI S1 1386 0 i = nI 0) → (∀ i, i < j → gI S1 1386 0 i = gI S 1386 0 i) → Ok mX12_doTree 187 [some (zr 12 0), some (zi cd0), some (zi num), some (zi (nI w)), some (zi (nI sz)), some (zi lf), some (zi i0), some (zi (nI a)), some (zi (nI e)), some (zi (nI (w ^ e))), none, none, none, none] [] S1 Po) → Ok mX12_doTree 167 [some (zr 12 0), some (zi cd0), some (zi num), some (zi (nI w)), some (zi (nI sz)), some (zi lf), some (zi i0), some (zi (nI a)), some (zi (nI e)), some (zi (nI (w ^ e))), some (zi (nI j)), none, none, none] [] S Po := by
  have hwe : w ^ e ≤ 81 := pw_le h1 h3 he4
  intro d
  induction d with
  | zero =>
    intro j S hj hs K
    obtain rfl : w = j := by omega
    refine r_iload (q := 169) dX12_doTree_167 rfl rfl ?_
    refine r_iload_n (q := 170) dX12_doTree_169 rfl rfl rfl ?_
    refine r_icmp_geN (q := 173) (t := 187) (by omega) (by omega) dX12_doTree_170 (by decide) rfl (fun h170 => ?_) (fun h170 => absurd h170 (by omega))
    refine r_mask [true, true, true, true, true, true, true, true, true, true, false, true, true, true] rfl ?_
    exact K S Fr.rf (fun i a b => absurd a (by omega)) (fun _ _ => rfl)
  | succ d ih =>
    intro j S hj hs K
    have f1 : Fr tRou S (sI S 1386 0 j (nI 0)) := (Fr.rf).i rfl
    refine r_iload (q := 169) dX12_doTree_167 rfl rfl ?_
    refine r_iload_n (q := 170) dX12_doTree_169 rfl rfl rfl ?_
    refine r_icmp_geN (q := 173) (t := 187) (by omega) (by omega) dX12_doTree_170 (by decide) rfl (fun h170 => absurd h170 (by omega)) (fun h170 => ?_)
    refine r_aload_n (q := 174) dX12_doTree_173 rfl rfl rfl ?_
    refine r_getr (q := 177) (some (1386, 0)) ck12 dX12_doTree_174 rfl (k := 86) (by decide) wt1364 rfl (hs.e (by decide)) (hs.r (by decide) (by decide)) ?_
    refine r_iload (q := 179) dX12_doTree_177 rfl rfl ?_
    refine r_iconst (q := 180) (nI 0) dX12_doTree_179 rfl (by decide) ?_
    refine r_iastN (q := 181) 3 (by decide) rfl dX12_doTree_180 rfl (hs.e (by decide)) (hs.n rfl (by decide)) (by omega) (by decide) ?_
    refine r_iincN (q := 184) (L' := [some (zr 12 0), some (zi cd0), some (zi num), some (zi (nI w)), some (zi (nI sz)), some (zi lf), some (zi i0), some (zi (nI a)), some (zi (nI e)), some (zi (nI (w ^ e))), some (zi (nI (j + 1))), none, none, none]) 1 rfl dX12_doTree_181 rfl rfl (by decide) rfl ?_
    refine r_goto (q := 167) dX12_doTree_184 (by decide) ?_
    refine ih (j + 1) (sI S 1386 0 j (nI 0)) (by omega) (hs.fr f1) (fun S1 g h1' h2' => K S1 (f1.tr g) (fun i a b => ?_) (fun i hi => ?_))
    · by_cases e1 : i = j
      · rw [h2' i (by omega), gI_sI, if_pos ⟨rfl, rfl, e1⟩]
      · exact h1' i (by omega) b
    · rw [h2' i (by omega), gI_sI, if_neg (by omega)]

