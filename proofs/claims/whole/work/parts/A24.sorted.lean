/-! the places of the trees by their codes -/
theorem pw_ins {α : Type} {R : α → α → Prop} {r : List α} (h : r.Pairwise R) {x : α} {k : Nat} (h1 : ∀ a, a ∈ r.take k → R a x) (h2 : ∀ b, b ∈ r.drop k → R x b) : (r.take k ++ x :: r.drop k).Pairwise R := by
  have h' : (r.take k ++ r.drop k).Pairwise R := by rw [List.take_append_drop]; exact h
  obtain ⟨p1, p2, p3⟩ := List.pairwise_append.mp h'
  refine List.pairwise_append.mpr ⟨p1, List.pairwise_cons.mpr ⟨h2, p2⟩, fun a ha b hb => ?_⟩
  rcases List.mem_cons.mp hb with rfl | hb
  · exact h1 a ha
  · exact p3 a ha b hb
theorem mem_takeN {r : List Nat} {k a : Nat} (h : a ∈ r.take k) : ∃ z, z < k ∧ z < r.length ∧ a = r.getD z 0 := by
  obtain ⟨z, hz, e⟩ := List.mem_iff_getElem.mp h
  rw [List.length_take] at hz
  refine ⟨z, by omega, by omega, ?_⟩
  rw [List.getD_eq_getElem?_getD, List.getElem?_eq_getElem (by omega), ← e, List.getElem_take]; rfl
theorem mem_dropN {r : List Nat} {k a : Nat} (h : a ∈ r.drop k) : ∃ z, k ≤ z ∧ z < r.length ∧ a = r.getD z 0 := by
  obtain ⟨z, hz, e⟩ := List.mem_iff_getElem.mp h
  rw [List.length_drop] at hz
  refine ⟨k + z, by omega, by omega, ?_⟩
  rw [List.getD_eq_getElem?_getD, List.getElem?_eq_getElem (by omega), ← e, List.getElem_drop]; rfl
theorem pw_get {r : List Nat} {f : Nat → Nat} (h : r.Pairwise (fun a b => f a < f b)) {i j : Nat} (hij : i < j) (hj : j < r.length) : f (r.getD i 0) < f (r.getD j 0) := by
  rw [List.getD_eq_getElem?_getD, List.getElem?_eq_getElem (by omega), List.getD_eq_getElem?_getD, List.getElem?_eq_getElem hj]
  exact List.pairwise_iff_getElem.mp h i j (by omega) hj hij
def SrR (S : zS) (F : Nat) (T : List (List Nat)) (r : List Nat) : Prop := (∀ i, i < r.length → gI S 1330 0 (F + i) = nI (r.getD i 0)) ∧ (∀ j, j ∈ r ↔ j < r.length) ∧ r.Pairwise (fun a b => cd (T.getD a []) < cd (T.getD b []))
def tSo (F M x y k : Nat) : Bool := y == 0 && x == 1330 && decide (F ≤ k) && decide (k < F + M)
def Co (S : zS) (F : Nat) (T : List (List Nat)) : Prop := ∀ j, j < T.length → gI S 1328 0 (F + j) = nI (cd (T.getD j [])) ∧ cd (T.getD j []) < 2 ^ 29
theorem Co.of {S : zS} {W : zWd} (hE : Eok (wA W) (we W)) {n F : Nat} (hn7 : n ≤ 7) (h : ∀ i, i < (tl W n).length → Rr1 (we W) S (F + i) ((tl W n).getD i [])) : Co S F (tl W n) := fun j hj => ⟨(h j hj).1, by
  have ht := tl_tr hE hj
  have := (ht.len hE).1
  exact cd_le (ht.tok hE) (by omega)⟩
theorem Co.fr {S S1 : zS} {F : Nat} {T : List (List Nat)} {U : Nat → Nat → Nat → Bool} (h : Co S F T) (f : Fr U S S1) (t : ∀ j, j < T.length → U 1328 0 (F + j) = false) : Co S1 F T := fun j hj => ⟨(f.1 _ _ _ (t j hj)).trans (h j hj).1, (h j hj).2⟩

set_option maxRecDepth 100000 in
theorem lp_so301 {T : List (List Nat)} {q n : Int32} {to F : Nat} (hto : to < 16) (hTl : T.length ≤ 300) (hF4 : F + T.length ≤ 4400) (hinj : ∀ i j, i < T.length → j < T.length → cd (T.getD i []) = cd (T.getD j []) → i = j) {r : List Nat} {k : Nat} {S : zS} (hrT : r.length < T.length) (hk : k ≤ r.length) (hs : Sd S) (h5 : gI S 1325 0 to = nI F) (hm : ∀ j, j ∈ r ↔ j < r.length) (hpw : r.Pairwise (fun a b => cd (T.getD a []) < cd (T.getD b []))) (hlo : ∀ z, z < k → gI S 1330 0 (F + z) = nI (r.getD z 0) ∧ cd (T.getD (r.getD z 0) []) < cd (T.getD r.length [])) (hhi : ∀ z, k ≤ z → z < r.length → gI S 1330 0 (F + z + 1) = nI (r.getD z 0) ∧ cd (T.getD r.length []) < cd (T.getD (r.getD z 0) [])) {Po : Option zV → zS → Prop} (K : ∀ S1 r1 w5, Fr (tSo F T.length) S S1 → r1.length = r.length + 1 → SrR S1 F T r1 → Ok mX12_list 200 [some (zr 12 0), some (zi q), some (zi n), some (zi (nI to)), some (zi (nI (r.length + 1))), w5, none, none, none] [] S1 Po) : Ok mX12_list 301 [some (zr 12 0), some (zi q), some (zi n), some (zi (nI to)), some (zi (nI r.length)), some (zi (nI k)), none, none, none] [] S Po := by
  refine r_aload_n (q := 302) dX12_list_301 rfl rfl rfl ?_
  refine r_getr (q := 305) (some (1330, 0)) ck12 dX12_list_302 rfl (k := 30) (by decide) wt1308 rfl (hs.e (by decide)) (hs.r (by decide) (by decide)) ?_
  refine r_aload_n (q := 306) dX12_list_305 rfl rfl rfl ?_
  refine r_getr (q := 309) (some (1325, 0)) ck12 dX12_list_306 rfl (k := 25) (by decide) wt1303 rfl (hs.e (by decide)) (hs.r (by decide) (by decide)) ?_
  refine r_iload_n (q := 310) dX12_list_309 rfl rfl rfl ?_
  refine r_ialdN (q := 311) 16 (by decide) rfl dX12_list_310 rfl (hs.e (by decide)) (hs.n rfl (by decide)) (by omega) (by decide) ?_
  refine r_topi (y := nI F) h5 ?_
  refine r_iload (q := 313) dX12_list_311 rfl rfl ?_
  refine r_iaddN (q := 314) dX12_list_313 rfl ?_
  refine r_iload (q := 316) dX12_list_314 rfl rfl ?_
  refine r_iastN (q := 317) 4400 (by decide) rfl dX12_list_316 rfl (hs.e (by decide)) (hs.n rfl (by decide)) (by omega) (by decide) ?_
  refine r_iincN (q := 320) (L' := [some (zr 12 0), some (zi q), some (zi n), some (zi (nI to)), some (zi (nI (r.length + 1))), some (zi (nI k)), none, none, none]) 1 rfl dX12_list_317 rfl rfl (by decide) rfl ?_
  refine r_goto (q := 200) dX12_list_320 (by decide) ?_
  refine K _ (r.take k ++ r.length :: r.drop k) _ ((Fr.rf).i (by simp [tSo]; omega)) (by simp; omega) ⟨fun i hi => ?_, fun j => ?_, pw_ins hpw (fun a ha => ?_) (fun b hb => ?_)⟩
  · have hi : i < r.length + 1 := by simp at hi; omega
    rw [gI_sI, getD_insG hk]
    by_cases h1 : i < k
    · rw [if_neg (by omega), if_pos h1]; exact (hlo i h1).1
    · by_cases h2 : i = k
      · rw [if_pos ⟨rfl, rfl, by omega⟩, if_neg h1, if_pos h2]
      · rw [if_neg (by omega), if_neg h1, if_neg h2]
        have := (hhi (i - 1) (by omega) (by omega)).1
        rw [show F + (i - 1) + 1 = F + i by omega] at this
        exact this
  · rw [mem_insG, hm, show (r.take k ++ r.length :: r.drop k).length = r.length + 1 by simp; omega]
    omega
  · obtain ⟨z, z1, z2, rfl⟩ := mem_takeN ha
    exact (hlo z z1).2
  · obtain ⟨z, z1, z2, rfl⟩ := mem_dropN hb
    exact (hhi z z1 z2).2

set_option maxRecDepth 100000 in
theorem lp_so215 {T : List (List Nat)} {q n : Int32} {to F : Nat} (hto : to < 16) (hTl : T.length ≤ 300) (hF4 : F + T.length ≤ 4400) (hinj : ∀ i j, i < T.length → j < T.length → cd (T.getD i []) = cd (T.getD j []) → i = j) {r : List Nat} (hrT : r.length < T.length) (hm : ∀ j, j ∈ r ↔ j < r.length) (hpw : r.Pairwise (fun a b => cd (T.getD a []) < cd (T.getD b []))) {Po : Option zV → zS → Prop} : ∀ (k : Nat) (S : zS), k ≤ r.length → Sd S → gI S 1325 0 to = nI F → Co S F T → (∀ z, z < k → gI S 1330 0 (F + z) = nI (r.getD z 0)) → (∀ z, k ≤ z → z < r.length → gI S 1330 0 (F + z + 1) = nI (r.getD z 0) ∧ cd (T.getD r.length []) < cd (T.getD (r.getD z 0) [])) → (∀ S1 r1 w5, Fr (tSo F T.length) S S1 → r1.length = r.length + 1 → SrR S1 F T r1 → Ok mX12_list 200 [some (zr 12 0), some (zi q), some (zi n), some (zi (nI to)), some (zi (nI (r.length + 1))), w5, none, none, none] [] S1 Po) → Ok mX12_list 215 [some (zr 12 0), some (zi q), some (zi n), some (zi (nI to)), some (zi (nI r.length)), some (zi (nI k)), none, none, none] [] S Po := by
  intro k
  induction k with
  | zero =>
    intro S hk hs h5 hC hlo hhi K
    refine r_iload (q := 217) dX12_list_215 rfl rfl ?_
    refine r_if_leN (q := 220) (t := 301) (by omega) dX12_list_217 (by decide) rfl (fun h217 => ?_) (fun h217 => absurd h217 (by omega))
    exact lp_so301 hto hTl hF4 hinj hrT hk hs h5 hm hpw (fun z hz => absurd hz (by omega)) hhi K
  | succ k ih =>
    intro S hk hs h5 hC hlo hhi K
    have s1 := hlo k (by omega)
    have hrk : r.getD k 0 < T.length := by
      have := (hm (r.getD k 0)).mp (getD_mem (by omega))
      omega
    obtain ⟨c1, c2⟩ := hC _ hrk
    obtain ⟨d1, d2⟩ := hC _ hrT
    by_cases hlt : cd (T.getD r.length []) < cd (T.getD (r.getD k 0) [])
    · skip
      refine r_iload (q := 217) dX12_list_215 rfl rfl ?_
      refine r_if_leN (q := 220) (t := 301) (by omega) dX12_list_217 (by decide) rfl (fun h217 => absurd h217 (by omega)) (fun h217 => ?_)
      refine r_aload_n (q := 221) dX12_list_220 rfl rfl rfl ?_
      refine r_getr (q := 224) (some (1328, 0)) ck12 dX12_list_221 rfl (k := 28) (by decide) wt1306 rfl (hs.e (by decide)) (hs.r (by decide) (by decide)) ?_
      refine r_aload_n (q := 225) dX12_list_224 rfl rfl rfl ?_
      refine r_getr (q := 228) (some (1325, 0)) ck12 dX12_list_225 rfl (k := 25) (by decide) wt1303 rfl (hs.e (by decide)) (hs.r (by decide) (by decide)) ?_
      refine r_iload_n (q := 229) dX12_list_228 rfl rfl rfl ?_
      refine r_ialdN (q := 230) 16 (by decide) rfl dX12_list_229 rfl (hs.e (by decide)) (hs.n rfl (by decide)) (by omega) (by decide) ?_
      refine r_topi (y := nI F) h5 ?_
      refine r_aload_n (q := 231) dX12_list_230 rfl rfl rfl ?_
      refine r_getr (q := 234) (some (1330, 0)) ck12 dX12_list_231 rfl (k := 30) (by decide) wt1308 rfl (hs.e (by decide)) (hs.r (by decide) (by decide)) ?_
      refine r_aload_n (q := 235) dX12_list_234 rfl rfl rfl ?_
      refine r_getr (q := 238) (some (1325, 0)) ck12 dX12_list_235 rfl (k := 25) (by decide) wt1303 rfl (hs.e (by decide)) (hs.r (by decide) (by decide)) ?_
      refine r_iload_n (q := 239) dX12_list_238 rfl rfl rfl ?_
      refine r_ialdN (q := 240) 16 (by decide) rfl dX12_list_239 rfl (hs.e (by decide)) (hs.n rfl (by decide)) (by omega) (by decide) ?_
      refine r_topi (y := nI F) h5 ?_
      refine r_iload (q := 242) dX12_list_240 rfl rfl ?_
      refine r_iaddN (q := 243) dX12_list_242 rfl ?_
      refine r_iconst (q := 244) (nI 1) dX12_list_243 rfl (by decide) ?_
      refine r_isubN (q := 245) (by omega) dX12_list_244 rfl ?_
      refine r_topi (y := nI (F + k)) (congrArg nI (by omega)) ?_
      refine r_ialdN (q := 246) 4400 (by decide) rfl dX12_list_245 rfl (hs.e (by decide)) (hs.n rfl (by decide)) (by omega) (by decide) ?_
      refine r_topi (y := nI (r.getD k 0)) s1 ?_
      refine r_iaddN (q := 247) dX12_list_246 rfl ?_
      refine r_ialdN (q := 248) 4400 (by decide) rfl dX12_list_247 rfl (hs.e (by decide)) (hs.n rfl (by decide)) (by omega) (by decide) ?_
      refine r_topi (y := nI (cd (T.getD (r.getD k 0) []))) c1 ?_
      refine r_aload_n (q := 249) dX12_list_248 rfl rfl rfl ?_
      refine r_getr (q := 252) (some (1328, 0)) ck12 dX12_list_249 rfl (k := 28) (by decide) wt1306 rfl (hs.e (by decide)) (hs.r (by decide) (by decide)) ?_
      refine r_aload_n (q := 253) dX12_list_252 rfl rfl rfl ?_
      refine r_getr (q := 256) (some (1325, 0)) ck12 dX12_list_253 rfl (k := 25) (by decide) wt1303 rfl (hs.e (by decide)) (hs.r (by decide) (by decide)) ?_
      refine r_iload_n (q := 257) dX12_list_256 rfl rfl rfl ?_
      refine r_ialdN (q := 258) 16 (by decide) rfl dX12_list_257 rfl (hs.e (by decide)) (hs.n rfl (by decide)) (by omega) (by decide) ?_
      refine r_topi (y := nI F) h5 ?_
      refine r_iload (q := 260) dX12_list_258 rfl rfl ?_
      refine r_iaddN (q := 261) dX12_list_260 rfl ?_
      refine r_ialdN (q := 262) 4400 (by decide) rfl dX12_list_261 rfl (hs.e (by decide)) (hs.n rfl (by decide)) (by omega) (by decide) ?_
      refine r_topi (y := nI (cd (T.getD r.length []))) d1 ?_
      refine r_icmp_leN (q := 265) (t := 301) (by omega) (by omega) dX12_list_262 (by decide) rfl (fun h262 => absurd h262 (by omega)) (fun h262 => ?_)
      refine r_aload_n (q := 266) dX12_list_265 rfl rfl rfl ?_
      refine r_getr (q := 269) (some (1330, 0)) ck12 dX12_list_266 rfl (k := 30) (by decide) wt1308 rfl (hs.e (by decide)) (hs.r (by decide) (by decide)) ?_
      refine r_aload_n (q := 270) dX12_list_269 rfl rfl rfl ?_
      refine r_getr (q := 273) (some (1325, 0)) ck12 dX12_list_270 rfl (k := 25) (by decide) wt1303 rfl (hs.e (by decide)) (hs.r (by decide) (by decide)) ?_
      refine r_iload_n (q := 274) dX12_list_273 rfl rfl rfl ?_
      refine r_ialdN (q := 275) 16 (by decide) rfl dX12_list_274 rfl (hs.e (by decide)) (hs.n rfl (by decide)) (by omega) (by decide) ?_
      refine r_topi (y := nI F) h5 ?_
      refine r_iload (q := 277) dX12_list_275 rfl rfl ?_
      refine r_iaddN (q := 278) dX12_list_277 rfl ?_
      refine r_aload_n (q := 279) dX12_list_278 rfl rfl rfl ?_
      refine r_getr (q := 282) (some (1330, 0)) ck12 dX12_list_279 rfl (k := 30) (by decide) wt1308 rfl (hs.e (by decide)) (hs.r (by decide) (by decide)) ?_
      refine r_aload_n (q := 283) dX12_list_282 rfl rfl rfl ?_
      refine r_getr (q := 286) (some (1325, 0)) ck12 dX12_list_283 rfl (k := 25) (by decide) wt1303 rfl (hs.e (by decide)) (hs.r (by decide) (by decide)) ?_
      refine r_iload_n (q := 287) dX12_list_286 rfl rfl rfl ?_
      refine r_ialdN (q := 288) 16 (by decide) rfl dX12_list_287 rfl (hs.e (by decide)) (hs.n rfl (by decide)) (by omega) (by decide) ?_
      refine r_topi (y := nI F) h5 ?_
      refine r_iload (q := 290) dX12_list_288 rfl rfl ?_
      refine r_iaddN (q := 291) dX12_list_290 rfl ?_
      refine r_iconst (q := 292) (nI 1) dX12_list_291 rfl (by decide) ?_
      refine r_isubN (q := 293) (by omega) dX12_list_292 rfl ?_
      refine r_topi (y := nI (F + k)) (congrArg nI (by omega)) ?_
      refine r_ialdN (q := 294) 4400 (by decide) rfl dX12_list_293 rfl (hs.e (by decide)) (hs.n rfl (by decide)) (by omega) (by decide) ?_
      refine r_topi (y := nI (r.getD k 0)) s1 ?_
      refine r_iastN (q := 295) 4400 (by decide) rfl dX12_list_294 rfl (hs.e (by decide)) (hs.n rfl (by decide)) (by omega) (by decide) ?_
      refine r_idecN (q := 298) (L' := [some (zr 12 0), some (zi q), some (zi n), some (zi (nI to)), some (zi (nI r.length)), some (zi (nI (k + 1 - 1))), none, none, none]) 1 (by omega) rfl dX12_list_295 rfl rfl (by decide) rfl ?_
      refine r_goto (q := 215) dX12_list_298 (by decide) ?_
      have f1 : Fr (tSo F T.length) S (sI S 1330 0 (F + (k + 1)) (nI (r.getD k 0))) := (Fr.rf).i (by simp [tSo]; omega)
      refine ih _ (by omega) (hs.fr f1) (by rw [gI_sI, if_neg (by omega)]; exact h5) (fun j hj => ⟨by rw [gI_sI, if_neg (by omega)]; exact (hC j hj).1, (hC j hj).2⟩) (fun z hz => by rw [gI_sI, if_neg (by omega)]; exact hlo z (by omega)) (fun z z1 z2 => ?_) (fun S1 r1 w5 y1 y2 y3 => K S1 r1 w5 (f1.tr y1) y2 y3)
      by_cases e : z = k
      · subst e
        exact ⟨by rw [gI_sI, if_pos ⟨rfl, rfl, by omega⟩], hlt⟩
      · rw [gI_sI, if_neg (by omega)]; exact hhi z (by omega) z2
    · skip
      refine r_iload (q := 217) dX12_list_215 rfl rfl ?_
      refine r_if_leN (q := 220) (t := 301) (by omega) dX12_list_217 (by decide) rfl (fun h217 => absurd h217 (by omega)) (fun h217 => ?_)
      refine r_aload_n (q := 221) dX12_list_220 rfl rfl rfl ?_
      refine r_getr (q := 224) (some (1328, 0)) ck12 dX12_list_221 rfl (k := 28) (by decide) wt1306 rfl (hs.e (by decide)) (hs.r (by decide) (by decide)) ?_
      refine r_aload_n (q := 225) dX12_list_224 rfl rfl rfl ?_
      refine r_getr (q := 228) (some (1325, 0)) ck12 dX12_list_225 rfl (k := 25) (by decide) wt1303 rfl (hs.e (by decide)) (hs.r (by decide) (by decide)) ?_
      refine r_iload_n (q := 229) dX12_list_228 rfl rfl rfl ?_
      refine r_ialdN (q := 230) 16 (by decide) rfl dX12_list_229 rfl (hs.e (by decide)) (hs.n rfl (by decide)) (by omega) (by decide) ?_
      refine r_topi (y := nI F) h5 ?_
      refine r_aload_n (q := 231) dX12_list_230 rfl rfl rfl ?_
      refine r_getr (q := 234) (some (1330, 0)) ck12 dX12_list_231 rfl (k := 30) (by decide) wt1308 rfl (hs.e (by decide)) (hs.r (by decide) (by decide)) ?_
      refine r_aload_n (q := 235) dX12_list_234 rfl rfl rfl ?_
      refine r_getr (q := 238) (some (1325, 0)) ck12 dX12_list_235 rfl (k := 25) (by decide) wt1303 rfl (hs.e (by decide)) (hs.r (by decide) (by decide)) ?_
      refine r_iload_n (q := 239) dX12_list_238 rfl rfl rfl ?_
      refine r_ialdN (q := 240) 16 (by decide) rfl dX12_list_239 rfl (hs.e (by decide)) (hs.n rfl (by decide)) (by omega) (by decide) ?_
      refine r_topi (y := nI F) h5 ?_
      refine r_iload (q := 242) dX12_list_240 rfl rfl ?_
      refine r_iaddN (q := 243) dX12_list_242 rfl ?_
      refine r_iconst (q := 244) (nI 1) dX12_list_243 rfl (by decide) ?_
      refine r_isubN (q := 245) (by omega) dX12_list_244 rfl ?_
      refine r_topi (y := nI (F + k)) (congrArg nI (by omega)) ?_
      refine r_ialdN (q := 246) 4400 (by decide) rfl dX12_list_245 rfl (hs.e (by decide)) (hs.n rfl (by decide)) (by omega) (by decide) ?_
      refine r_topi (y := nI (r.getD k 0)) s1 ?_
      refine r_iaddN (q := 247) dX12_list_246 rfl ?_
      refine r_ialdN (q := 248) 4400 (by decide) rfl dX12_list_247 rfl (hs.e (by decide)) (hs.n rfl (by decide)) (by omega) (by decide) ?_
      refine r_topi (y := nI (cd (T.getD (r.getD k 0) []))) c1 ?_
      refine r_aload_n (q := 249) dX12_list_248 rfl rfl rfl ?_
      refine r_getr (q := 252) (some (1328, 0)) ck12 dX12_list_249 rfl (k := 28) (by decide) wt1306 rfl (hs.e (by decide)) (hs.r (by decide) (by decide)) ?_
      refine r_aload_n (q := 253) dX12_list_252 rfl rfl rfl ?_
      refine r_getr (q := 256) (some (1325, 0)) ck12 dX12_list_253 rfl (k := 25) (by decide) wt1303 rfl (hs.e (by decide)) (hs.r (by decide) (by decide)) ?_
      refine r_iload_n (q := 257) dX12_list_256 rfl rfl rfl ?_
      refine r_ialdN (q := 258) 16 (by decide) rfl dX12_list_257 rfl (hs.e (by decide)) (hs.n rfl (by decide)) (by omega) (by decide) ?_
      refine r_topi (y := nI F) h5 ?_
      refine r_iload (q := 260) dX12_list_258 rfl rfl ?_
      refine r_iaddN (q := 261) dX12_list_260 rfl ?_
      refine r_ialdN (q := 262) 4400 (by decide) rfl dX12_list_261 rfl (hs.e (by decide)) (hs.n rfl (by decide)) (by omega) (by decide) ?_
      refine r_topi (y := nI (cd (T.getD r.length []))) d1 ?_
      refine r_icmp_leN (q := 265) (t := 301) (by omega) (by omega) dX12_list_262 (by decide) rfl (fun h262 => ?_) (fun h262 => absurd h262 (by omega))
      have hne : cd (T.getD (r.getD k 0) []) ≠ cd (T.getD r.length []) := fun z => by
        have e1 := hinj _ _ hrk hrT z
        have := (hm (r.getD k 0)).mp (getD_mem (by omega))
        omega
      exact lp_so301 hto hTl hF4 hinj hrT hk hs h5 hm hpw (fun z hz => ⟨hlo z hz, by
        by_cases e : z = k
        · subst e; omega
        · have := pw_get (f := fun a => cd (T.getD a [])) hpw (i := z) (j := k) (by omega) (by omega)
          omega⟩) hhi K

set_option maxRecDepth 100000 in
theorem lp_so200 {T : List (List Nat)} {q n : Int32} {to F : Nat} (hto : to < 16) (hTl : T.length ≤ 300) (hF4 : F + T.length ≤ 4400) (hinj : ∀ i j, i < T.length → j < T.length → cd (T.getD i []) = cd (T.getD j []) → i = j) {Po : Option zV → zS → Prop} : ∀ (d : Nat) (r : List Nat) (S : zS) (w5 : Option zV), r.length + d = T.length → Sd S → gI S 1325 0 to = nI F → gI S 1324 0 to = nI T.length → Co S F T → SrR S F T r → (∀ S1 r1, Fr (tSo F T.length) S S1 → r1.length = T.length → SrR S1 F T r1 → Po none S1) → Ok mX12_list 200 [some (zr 12 0), some (zi q), some (zi n), some (zi (nI to)), some (zi (nI r.length)), w5, none, none, none] [] S Po := by
  intro d
  induction d with
  | zero =>
    intro r S w5 hr hs h5 h4 hC hS K
    refine r_mask [true, true, true, true, true, false, false, false, false] rfl ?_
    refine r_iload (q := 202) dX12_list_200 rfl rfl ?_
    refine r_aload_n (q := 203) dX12_list_202 rfl rfl rfl ?_
    refine r_getr (q := 206) (some (1324, 0)) ck12 dX12_list_203 rfl (k := 24) (by decide) wt1302 rfl (hs.e (by decide)) (hs.r (by decide) (by decide)) ?_
    refine r_iload_n (q := 207) dX12_list_206 rfl rfl rfl ?_
    refine r_ialdN (q := 208) 16 (by decide) rfl dX12_list_207 rfl (hs.e (by decide)) (hs.n rfl (by decide)) (by omega) (by decide) ?_
    refine r_topi (y := nI T.length) h4 ?_
    refine r_icmp_geN (q := 211) (t := 323) (by omega) (by omega) dX12_list_208 (by decide) rfl (fun h208 => ?_) (fun h208 => absurd h208 (by omega))
    refine r_return dX12_list_323 rfl ?_
    exact K S r Fr.rf (by omega) hS
  | succ d ih =>
    intro r S w5 hr hs h5 h4 hC hS K
    refine r_mask [true, true, true, true, true, false, false, false, false] rfl ?_
    refine r_iload (q := 202) dX12_list_200 rfl rfl ?_
    refine r_aload_n (q := 203) dX12_list_202 rfl rfl rfl ?_
    refine r_getr (q := 206) (some (1324, 0)) ck12 dX12_list_203 rfl (k := 24) (by decide) wt1302 rfl (hs.e (by decide)) (hs.r (by decide) (by decide)) ?_
    refine r_iload_n (q := 207) dX12_list_206 rfl rfl rfl ?_
    refine r_ialdN (q := 208) 16 (by decide) rfl dX12_list_207 rfl (hs.e (by decide)) (hs.n rfl (by decide)) (by omega) (by decide) ?_
    refine r_topi (y := nI T.length) h4 ?_
    refine r_icmp_geN (q := 211) (t := 323) (by omega) (by omega) dX12_list_208 (by decide) rfl (fun h208 => absurd h208 (by omega)) (fun h208 => ?_)
    refine r_iload (q := 213) dX12_list_211 rfl rfl ?_
    refine r_istore (q := 215) (L' := [some (zr 12 0), some (zi q), some (zi n), some (zi (nI to)), some (zi (nI r.length)), some (zi (nI r.length)), none, none, none]) dX12_list_213 rfl (by decide) rfl ?_
    refine lp_so215 hto hTl hF4 hinj (by omega) hS.2.1 hS.2.2 r.length S (Nat.le_refl _) hs h5 hC hS.1 (fun z z1 z2 => absurd z2 (by omega)) (fun S1 r1 w5 y1 y2 y3 => ?_)
    rw [← y2]
    exact ih r1 S1 w5 (by omega) (hs.fr y1) ((y1.1 _ _ _ rfl).trans h5) ((y1.1 _ _ _ rfl).trans h4) (hC.fr y1 (fun _ _ => rfl)) y3 (fun S2 r2 z1 z2 z3 => K S2 r2 (y1.tr z1) z2 z3)

set_option maxRecDepth 100000 in
theorem lp_place {T : List (List Nat)} {q n : Int32} {to F : Nat} (hto : to < 16) (hTl : T.length ≤ 300) (hF4 : F + T.length ≤ 4400) {S : zS} (hs : Sd S) (h5 : gI S 1325 0 to = nI F) (hC : Co S F T) {r : List Nat} (hrl : r.length = T.length) (hS : SrR S F T r) {j z0 : Nat} (hj : j < T.length) (hz0 : z0 < r.length) (hzj : r.getD z0 0 = j) : ∀ (d lo hi : Nat) (w7 : Option zV), hi ≤ lo + d → lo ≤ z0 → z0 ≤ hi → hi < T.length → Ok mX12_place 22 [some (zr 12 0), some (zi q), some (zi n), some (zi (nI (cd (T.getD j [])))), some (zi (nI to)), some (zi (nI lo)), some (zi (nI hi)), w7] [] S (fun x S1 => x = some (zi (nI j)) ∧ S1 = S) := by
  intro d
  induction d with
  | zero =>
    intro lo hi w7 hd h1 h2 h3
    obtain rfl : lo = z0 := by omega
    obtain rfl : hi = lo := by omega
    have s1 := hS.1 hi hz0
    rw [hzj] at s1
    refine r_mask [true, true, true, true, true, true, true, false] rfl ?_
    refine r_iload (q := 24) dX12_place_22 rfl rfl ?_
    refine r_iload (q := 26) dX12_place_24 rfl rfl ?_
    refine r_icmp_geN (q := 29) (t := 86) (by omega) (by omega) dX12_place_26 (by decide) rfl (fun h26 => ?_) (fun h26 => absurd h26 (by omega))
    refine r_aload_n (q := 87) dX12_place_86 rfl rfl rfl ?_
    refine r_getr (q := 90) (some (1330, 0)) ck12 dX12_place_87 rfl (k := 30) (by decide) wt1308 rfl (hs.e (by decide)) (hs.r (by decide) (by decide)) ?_
    refine r_aload_n (q := 91) dX12_place_90 rfl rfl rfl ?_
    refine r_getr (q := 94) (some (1325, 0)) ck12 dX12_place_91 rfl (k := 25) (by decide) wt1303 rfl (hs.e (by decide)) (hs.r (by decide) (by decide)) ?_
    refine r_iload (q := 96) dX12_place_94 rfl rfl ?_
    refine r_ialdN (q := 97) 16 (by decide) rfl dX12_place_96 rfl (hs.e (by decide)) (hs.n rfl (by decide)) (by omega) (by decide) ?_
    refine r_topi (y := nI F) h5 ?_
    refine r_iload (q := 99) dX12_place_97 rfl rfl ?_
    refine r_iaddN (q := 100) dX12_place_99 rfl ?_
    refine r_ialdN (q := 101) 4400 (by decide) rfl dX12_place_100 rfl (hs.e (by decide)) (hs.n rfl (by decide)) (by omega) (by decide) ?_
    refine r_topi (y := nI j) s1 ?_
    refine r_ireturn dX12_place_101 rfl ?_
    exact ⟨rfl, rfl⟩
  | succ d ih =>
    intro lo hi w7 hd h1 h2 h3
    refine r_mask [true, true, true, true, true, true, true, false] rfl ?_
    by_cases hlh : lo < hi
    · have hmid : (lo + hi) / 2 < T.length := by omega
      have s1 := hS.1 ((lo + hi) / 2) (by omega)
      have hrm : r.getD ((lo + hi) / 2) 0 < T.length := by
        have := (hS.2.1 (r.getD ((lo + hi) / 2) 0)).mp (getD_mem (by omega))
        omega
      obtain ⟨c1, c2⟩ := hC _ hrm
      obtain ⟨e1, e2⟩ := hC j hj
      by_cases hlt : cd (T.getD (r.getD ((lo + hi) / 2) 0) []) < cd (T.getD j [])
      · skip
        refine r_iload (q := 24) dX12_place_22 rfl rfl ?_
        refine r_iload (q := 26) dX12_place_24 rfl rfl ?_
        refine r_icmp_geN (q := 29) (t := 86) (by omega) (by omega) dX12_place_26 (by decide) rfl (fun h26 => absurd h26 (by omega)) (fun h26 => ?_)
        refine r_iload (q := 31) dX12_place_29 rfl rfl ?_
        refine r_iload (q := 33) dX12_place_31 rfl rfl ?_
        refine r_iaddN (q := 34) dX12_place_33 rfl ?_
        refine r_iconst (q := 35) (nI 2) dX12_place_34 rfl (by decide) ?_
        refine r_idivN (q := 36) (by omega) (by omega) (by omega) dX12_place_35 rfl ?_
        refine r_istore (q := 38) (L' := [some (zr 12 0), some (zi q), some (zi n), some (zi (nI (cd (T.getD j [])))), some (zi (nI to)), some (zi (nI lo)), some (zi (nI hi)), some (zi (nI ((lo + hi) / 2)))]) dX12_place_36 rfl (by decide) rfl ?_
        refine r_aload_n (q := 39) dX12_place_38 rfl rfl rfl ?_
        refine r_getr (q := 42) (some (1328, 0)) ck12 dX12_place_39 rfl (k := 28) (by decide) wt1306 rfl (hs.e (by decide)) (hs.r (by decide) (by decide)) ?_
        refine r_aload_n (q := 43) dX12_place_42 rfl rfl rfl ?_
        refine r_getr (q := 46) (some (1325, 0)) ck12 dX12_place_43 rfl (k := 25) (by decide) wt1303 rfl (hs.e (by decide)) (hs.r (by decide) (by decide)) ?_
        refine r_iload (q := 48) dX12_place_46 rfl rfl ?_
        refine r_ialdN (q := 49) 16 (by decide) rfl dX12_place_48 rfl (hs.e (by decide)) (hs.n rfl (by decide)) (by omega) (by decide) ?_
        refine r_topi (y := nI F) h5 ?_
        refine r_aload_n (q := 50) dX12_place_49 rfl rfl rfl ?_
        refine r_getr (q := 53) (some (1330, 0)) ck12 dX12_place_50 rfl (k := 30) (by decide) wt1308 rfl (hs.e (by decide)) (hs.r (by decide) (by decide)) ?_
        refine r_aload_n (q := 54) dX12_place_53 rfl rfl rfl ?_
        refine r_getr (q := 57) (some (1325, 0)) ck12 dX12_place_54 rfl (k := 25) (by decide) wt1303 rfl (hs.e (by decide)) (hs.r (by decide) (by decide)) ?_
        refine r_iload (q := 59) dX12_place_57 rfl rfl ?_
        refine r_ialdN (q := 60) 16 (by decide) rfl dX12_place_59 rfl (hs.e (by decide)) (hs.n rfl (by decide)) (by omega) (by decide) ?_
        refine r_topi (y := nI F) h5 ?_
        refine r_iload (q := 62) dX12_place_60 rfl rfl ?_
        refine r_iaddN (q := 63) dX12_place_62 rfl ?_
        refine r_ialdN (q := 64) 4400 (by decide) rfl dX12_place_63 rfl (hs.e (by decide)) (hs.n rfl (by decide)) (by omega) (by decide) ?_
        refine r_topi (y := nI (r.getD ((lo + hi) / 2) 0)) s1 ?_
        refine r_iaddN (q := 65) dX12_place_64 rfl ?_
        refine r_ialdN (q := 66) 4400 (by decide) rfl dX12_place_65 rfl (hs.e (by decide)) (hs.n rfl (by decide)) (by omega) (by decide) ?_
        refine r_topi (y := nI (cd (T.getD (r.getD ((lo + hi) / 2) 0) []))) c1 ?_
        refine r_iload_n (q := 67) dX12_place_66 rfl rfl rfl ?_
        refine r_icmp_geN (q := 70) (t := 79) (by omega) (by omega) dX12_place_67 (by decide) rfl (fun h67 => absurd h67 (by omega)) (fun h67 => ?_)
        refine r_iload (q := 72) dX12_place_70 rfl rfl ?_
        refine r_iconst (q := 73) (nI 1) dX12_place_72 rfl (by decide) ?_
        refine r_iaddN (q := 74) dX12_place_73 rfl ?_
        refine r_istore (q := 76) (L' := [some (zr 12 0), some (zi q), some (zi n), some (zi (nI (cd (T.getD j [])))), some (zi (nI to)), some (zi (nI (((lo + hi) / 2) + 1))), some (zi (nI hi)), some (zi (nI ((lo + hi) / 2)))]) dX12_place_74 rfl (by decide) rfl ?_
        refine r_goto (q := 83) dX12_place_76 (by decide) ?_
        refine r_goto (q := 22) dX12_place_83 (by decide) ?_
        have hlt2 : (lo + hi) / 2 < z0 := by
          rcases Nat.lt_trichotomy ((lo + hi) / 2) z0 with y | y | y
          · exact y
          · rw [y, hzj] at hlt; omega
          · have := pw_get (f := fun a => cd (T.getD a [])) hS.2.2 (i := z0) (j := (lo + hi) / 2) y (by omega)
            rw [hzj] at this; omega
        exact ih _ _ _ (by omega) (by omega) (by omega) (by omega)
      · skip
        refine r_iload (q := 24) dX12_place_22 rfl rfl ?_
        refine r_iload (q := 26) dX12_place_24 rfl rfl ?_
        refine r_icmp_geN (q := 29) (t := 86) (by omega) (by omega) dX12_place_26 (by decide) rfl (fun h26 => absurd h26 (by omega)) (fun h26 => ?_)
        refine r_iload (q := 31) dX12_place_29 rfl rfl ?_
        refine r_iload (q := 33) dX12_place_31 rfl rfl ?_
        refine r_iaddN (q := 34) dX12_place_33 rfl ?_
        refine r_iconst (q := 35) (nI 2) dX12_place_34 rfl (by decide) ?_
        refine r_idivN (q := 36) (by omega) (by omega) (by omega) dX12_place_35 rfl ?_
        refine r_istore (q := 38) (L' := [some (zr 12 0), some (zi q), some (zi n), some (zi (nI (cd (T.getD j [])))), some (zi (nI to)), some (zi (nI lo)), some (zi (nI hi)), some (zi (nI ((lo + hi) / 2)))]) dX12_place_36 rfl (by decide) rfl ?_
        refine r_aload_n (q := 39) dX12_place_38 rfl rfl rfl ?_
        refine r_getr (q := 42) (some (1328, 0)) ck12 dX12_place_39 rfl (k := 28) (by decide) wt1306 rfl (hs.e (by decide)) (hs.r (by decide) (by decide)) ?_
        refine r_aload_n (q := 43) dX12_place_42 rfl rfl rfl ?_
        refine r_getr (q := 46) (some (1325, 0)) ck12 dX12_place_43 rfl (k := 25) (by decide) wt1303 rfl (hs.e (by decide)) (hs.r (by decide) (by decide)) ?_
        refine r_iload (q := 48) dX12_place_46 rfl rfl ?_
        refine r_ialdN (q := 49) 16 (by decide) rfl dX12_place_48 rfl (hs.e (by decide)) (hs.n rfl (by decide)) (by omega) (by decide) ?_
        refine r_topi (y := nI F) h5 ?_
        refine r_aload_n (q := 50) dX12_place_49 rfl rfl rfl ?_
        refine r_getr (q := 53) (some (1330, 0)) ck12 dX12_place_50 rfl (k := 30) (by decide) wt1308 rfl (hs.e (by decide)) (hs.r (by decide) (by decide)) ?_
        refine r_aload_n (q := 54) dX12_place_53 rfl rfl rfl ?_
        refine r_getr (q := 57) (some (1325, 0)) ck12 dX12_place_54 rfl (k := 25) (by decide) wt1303 rfl (hs.e (by decide)) (hs.r (by decide) (by decide)) ?_
        refine r_iload (q := 59) dX12_place_57 rfl rfl ?_
        refine r_ialdN (q := 60) 16 (by decide) rfl dX12_place_59 rfl (hs.e (by decide)) (hs.n rfl (by decide)) (by omega) (by decide) ?_
        refine r_topi (y := nI F) h5 ?_
        refine r_iload (q := 62) dX12_place_60 rfl rfl ?_
        refine r_iaddN (q := 63) dX12_place_62 rfl ?_
        refine r_ialdN (q := 64) 4400 (by decide) rfl dX12_place_63 rfl (hs.e (by decide)) (hs.n rfl (by decide)) (by omega) (by decide) ?_
        refine r_topi (y := nI (r.getD ((lo + hi) / 2) 0)) s1 ?_
        refine r_iaddN (q := 65) dX12_place_64 rfl ?_
        refine r_ialdN (q := 66) 4400 (by decide) rfl dX12_place_65 rfl (hs.e (by decide)) (hs.n rfl (by decide)) (by omega) (by decide) ?_
        refine r_topi (y := nI (cd (T.getD (r.getD ((lo + hi) / 2) 0) []))) c1 ?_
        refine r_iload_n (q := 67) dX12_place_66 rfl rfl rfl ?_
        refine r_icmp_geN (q := 70) (t := 79) (by omega) (by omega) dX12_place_67 (by decide) rfl (fun h67 => ?_) (fun h67 => absurd h67 (by omega))
        refine r_iload (q := 81) dX12_place_79 rfl rfl ?_
        refine r_istore (q := 83) (L' := [some (zr 12 0), some (zi q), some (zi n), some (zi (nI (cd (T.getD j [])))), some (zi (nI to)), some (zi (nI lo)), some (zi (nI ((lo + hi) / 2))), some (zi (nI ((lo + hi) / 2)))]) dX12_place_81 rfl (by decide) rfl ?_
        refine r_goto (q := 22) dX12_place_83 (by decide) ?_
        have hle2 : z0 ≤ (lo + hi) / 2 := by
          rcases Nat.lt_or_ge ((lo + hi) / 2) z0 with y | y
          · have := pw_get (f := fun a => cd (T.getD a [])) hS.2.2 (i := (lo + hi) / 2) (j := z0) y (by omega)
            rw [hzj] at this; omega
          · exact y
        exact ih _ _ _ (by omega) (by omega) (by omega) (by omega)
    · obtain rfl : lo = z0 := by omega
      obtain rfl : hi = lo := by omega
      have s1 := hS.1 hi hz0
      rw [hzj] at s1
      refine r_iload (q := 24) dX12_place_22 rfl rfl ?_
      refine r_iload (q := 26) dX12_place_24 rfl rfl ?_
      refine r_icmp_geN (q := 29) (t := 86) (by omega) (by omega) dX12_place_26 (by decide) rfl (fun h26 => ?_) (fun h26 => absurd h26 (by omega))
      refine r_aload_n (q := 87) dX12_place_86 rfl rfl rfl ?_
      refine r_getr (q := 90) (some (1330, 0)) ck12 dX12_place_87 rfl (k := 30) (by decide) wt1308 rfl (hs.e (by decide)) (hs.r (by decide) (by decide)) ?_
      refine r_aload_n (q := 91) dX12_place_90 rfl rfl rfl ?_
      refine r_getr (q := 94) (some (1325, 0)) ck12 dX12_place_91 rfl (k := 25) (by decide) wt1303 rfl (hs.e (by decide)) (hs.r (by decide) (by decide)) ?_
      refine r_iload (q := 96) dX12_place_94 rfl rfl ?_
      refine r_ialdN (q := 97) 16 (by decide) rfl dX12_place_96 rfl (hs.e (by decide)) (hs.n rfl (by decide)) (by omega) (by decide) ?_
      refine r_topi (y := nI F) h5 ?_
      refine r_iload (q := 99) dX12_place_97 rfl rfl ?_
      refine r_iaddN (q := 100) dX12_place_99 rfl ?_
      refine r_ialdN (q := 101) 4400 (by decide) rfl dX12_place_100 rfl (hs.e (by decide)) (hs.n rfl (by decide)) (by omega) (by decide) ?_
      refine r_topi (y := nI j) s1 ?_
      refine r_ireturn dX12_place_101 rfl ?_
      exact ⟨rfl, rfl⟩

set_option maxRecDepth 100000 in
theorem ok_place {T : List (List Nat)} {q n F : Nat} (hq : q ≤ 1) (hn7 : n ≤ 7) (hTl : T.length ≤ 300) (hF4 : F + T.length ≤ 4400) {S : zS} (hs : Sd S) (h5 : gI S 1325 0 (8 * q + n) = nI F) (h4 : gI S 1324 0 (8 * q + n) = nI T.length) (hC : Co S F T) {r : List Nat} (hrl : r.length = T.length) (hS : SrR S F T r) {j : Nat} (hj : j < T.length) : Ok mX12_place 0 (ent 8 [zr 12 0, zi (nI q), zi (nI n), zi (nI (cd (T.getD j [])))]) [] S (fun x S1 => x = some (zi (nI j)) ∧ S1 = S) := by
  show Ok mX12_place 0 [some (zr 12 0), some (zi (nI q)), some (zi (nI n)), some (zi (nI (cd (T.getD j [])))), none, none, none, none] [] S _
  refine r_bipush (q := 2) (nI 8) dX12_place_0 rfl (by decide) ?_
  refine r_iload_n (q := 3) dX12_place_2 rfl rfl rfl ?_
  refine r_imulN (q := 4) dX12_place_3 rfl ?_
  refine r_iload_n (q := 5) dX12_place_4 rfl rfl rfl ?_
  refine r_iaddN (q := 6) dX12_place_5 rfl ?_
  refine r_istore (q := 8) (L' := [some (zr 12 0), some (zi (nI q)), some (zi (nI n)), some (zi (nI (cd (T.getD j [])))), some (zi (nI ((8 * q) + n))), none, none, none]) dX12_place_6 rfl (by decide) rfl ?_
  refine r_iconst (q := 9) (nI 0) dX12_place_8 rfl (by decide) ?_
  refine r_istore (q := 11) (L' := [some (zr 12 0), some (zi (nI q)), some (zi (nI n)), some (zi (nI (cd (T.getD j [])))), some (zi (nI ((8 * q) + n))), some (zi (nI 0)), none, none]) dX12_place_9 rfl (by decide) rfl ?_
  refine r_aload_n (q := 12) dX12_place_11 rfl rfl rfl ?_
  refine r_getr (q := 15) (some (1324, 0)) ck12 dX12_place_12 rfl (k := 24) (by decide) wt1302 rfl (hs.e (by decide)) (hs.r (by decide) (by decide)) ?_
  refine r_iload (q := 17) dX12_place_15 rfl rfl ?_
  refine r_ialdN (q := 18) 16 (by decide) rfl dX12_place_17 rfl (hs.e (by decide)) (hs.n rfl (by decide)) (by omega) (by decide) ?_
  refine r_topi (y := nI T.length) h4 ?_
  refine r_iconst (q := 19) (nI 1) dX12_place_18 rfl (by decide) ?_
  refine r_isubN (q := 20) (by omega) dX12_place_19 rfl ?_
  refine r_istore (q := 22) (L' := [some (zr 12 0), some (zi (nI q)), some (zi (nI n)), some (zi (nI (cd (T.getD j [])))), some (zi (nI ((8 * q) + n))), some (zi (nI 0)), some (zi (nI (T.length - 1))), none]) dX12_place_20 rfl (by decide) rfl ?_
  obtain ⟨z0, z1, z2⟩ := List.mem_iff_getElem.mp ((hS.2.1 j).mpr (by omega))
  exact lp_place (show 8 * q + n < 16 by omega) hTl hF4 hs h5 hC hrl hS hj z1 (by rw [List.getD_eq_getElem?_getD, List.getElem?_eq_getElem z1]; exact z2) T.length 0 (T.length - 1) none (by omega) (by omega) (by omega) (by omega)

