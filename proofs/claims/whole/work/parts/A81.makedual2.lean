/-! dual: makeDual whole -/

set_option maxRecDepth 100000 in
theorem lp_md105 {W : zWd} (hW : Wok W) {n P k F : Nat} (hn : n = (tl W 3).length) (hPW : P = wP W) (hn18 : n ≤ 18) (hk18 : k ≤ 18) (hF : F + (tl W 3).length ≤ 4400) {pv : Nat → Option Nat} {g : Nat → Nat → Nat} {Z : (Nat → Int) → Prop} (hC : CI P k n Z k n pv g) {mk : Nat → Bool} {R : Nat → Nat → Nat} (hmk : ∀ c, mk c = (pv c).isSome) (hR : ∀ c, R c = g ((pv c).getD 0)) (hWd : Wok (dW W mk R)) {n9 : Nat → Int64} : ∀ (m : Nat) (S : zS) (ls : List (Nat × List zT)) (w4 w5 w6 w7 : Option zV), m ≤ n → ls ++ dls mk R P (tl W 3) m = dls mk R P (tl W 3) (tl W 3).length → MdI S W n P k F pv g → wqR (mkWs W ls) (fun k => gI S 1307 0 k) n9 → Ok mX12_makeDual 105 [some (zr 12 0), some (zi (nI P)), some (zi (nI n)), some (zi (nI m - 1)), w4, w5, w6, w7] [] S (fun r S1 => r = none ∧ Fr t07 S S1 ∧ wqR (dW W mk R) (fun k => gI S1 1307 0 k) n9 ∧ ∀ k, k = 3 ∨ 444 ≤ k → gI S1 1307 0 k = gI S 1307 0 k) := by
  have hPP := hW.1
  intro m
  induction m with
  | zero =>
    intro S ls w4 w5 w6 w7 hm hls hI hw
    have hs := hI.1
    have e : dW W mk R = mkWs W ls := by
      unfold dW mkWs
      rw [← hPW, ← hls]
      exact congrArg (fun z => (W.1, W.2.1, W.2.2.1, z)) (List.append_nil ls)
    refine r_mask [true, true, true, true, false, false, false, false] rfl ?_
    refine r_locs (L1 := [some (zr 12 0), some (zi (nI P)), some (zi (nI n)), some (zi (-1 : Int32)), none, none, none, none]) rfl ?_
    refine r_iload_n (q := 106) dX12_makeDual_105 rfl rfl rfl ?_
    refine r_if_lt (q := 109) (t := 293) dX12_makeDual_106 (by decide) rfl (fun h106 => ?_) (fun h106 => absurd h106 ((by decide)))
    refine r_return dX12_makeDual_293 rfl ?_
    exact ⟨rfl, Fr.rf, by rw [e]; exact hw, fun _ _ => rfl⟩
  | succ m ih =>
    intro S ls w4 w5 w6 w7 hm hls hI hw
    rw [Int32.sub_eq_add_neg] at ih
    obtain ⟨hs, hV, hRw, hCo, hFr⟩ := id hI
    have hmn : m < n := by omega
    have hpm := hV m hmn
    have hco := hCo m (by omega)
    refine r_mask [true, true, true, true, false, false, false, false] rfl ?_
    refine r_locs (L1 := [some (zr 12 0), some (zi (nI P)), some (zi (nI n)), some (zi (nI m)), none, none, none, none]) (by rw [nI_pred]; rfl) ?_
    cases hpv : pv m with
    | some p =>
      rw [hpv] at hpm
      have hpm : gI S 1365 0 m = nI (p + 1) := hpm
      have hpk := (hC.2.2.2.1 m p hmn hpv).1
      have hmm : mk m = true := by rw [hmk, hpv]; rfl
      refine r_iload_n (q := 106) dX12_makeDual_105 rfl rfl rfl ?_
      refine r_if_ltN (q := 109) (t := 293) (by omega) dX12_makeDual_106 (by decide) rfl ?_
      refine r_aload_n (q := 110) dX12_makeDual_109 rfl rfl rfl ?_
      refine r_getr (q := 113) (some (1365, 0)) ck12 dX12_makeDual_110 rfl (k := 65) (by decide) wt1343 rfl (hs.e (by decide)) (hs.r (by decide) (by decide)) ?_
      refine r_iload_n (q := 114) dX12_makeDual_113 rfl rfl rfl ?_
      refine r_ialdN (q := 115) 18 (by decide) rfl dX12_makeDual_114 rfl (hs.e (by decide)) (hs.n rfl (by decide)) (by omega) (by decide) ?_
      refine r_topi (y := nI (p + 1)) hpm ?_
      refine r_if_leN (q := 118) (t := 121) (by omega) dX12_makeDual_115 (by decide) rfl (fun h115 => absurd h115 (by omega)) (fun h115 => ?_)
      refine r_goto (q := 287) dX12_makeDual_118 (by decide) ?_
      refine r_iinc (q := 290) (L' := [some (zr 12 0), some (zi (nI P)), some (zi (nI n)), some (zi ((nI m) + (-1))), none, none, none, none]) ((nI m) + (-1)) dX12_makeDual_287 rfl rfl (by decide) rfl rfl ?_
      refine r_goto (q := 105) dX12_makeDual_290 (by decide) ?_
      exact ih S ls _ _ _ _ (by omega) (by rw [← hls, dls, if_pos hmm]) hI hw
    | none =>
      rw [hpv] at hpm
      have hpm : gI S 1365 0 m = nI 0 := hpm
      have hmm : mk m = false := by rw [hmk, hpv]; rfl
      obtain ⟨w1, w2, w3⟩ := mkWs_fit hWd (ls := ls) (f := m) (by rw [← hPW]; exact hls) hmm
      rw [← hPW] at w2 w3
      obtain ⟨to, hto⟩ : ∃ to, to = lfs ls ls.length := ⟨_, rfl⟩
      have hto2 : lf (mkWs W ls) (wL (mkWs W ls)) = to := hto.symm
      rw [hto2] at w2
      have w1 : ls.length < 18 := w1
      have hL2 : gI S 1307 0 2 = nI ls.length := hw.2.2.1
      have hL25 : gI S 1307 0 (25 + ls.length) = nI to := by rw [hto]; exact hw.2.2.2.2.2.1 ls.length (Nat.le_refl _)
      have hdl : 1 ≤ (dlw mk R P (tl W 3) m).length := by show 1 ≤ _ + 1; omega
      obtain ⟨S1, hS1⟩ : ∃ S1, S1 = sI S 1307 0 (7 + ls.length) (nI 3) := ⟨_, rfl⟩
      have f1 : Fr t07 S S1 := by rw [hS1]; exact Fr.rf.i rfl
      have hs1 : Sd S1 := hs.fr f1
      have hI1 := hI.fr f1
      have e1 : ∀ k, k ≠ 7 + ls.length → gI S1 1307 0 k = gI S 1307 0 k := fun k hk => by rw [hS1, gI_sI, if_neg (by omega)]
      have hL25' : gI S1 1307 0 (25 + ls.length) = nI to := (e1 _ (by omega)).trans hL25
      refine r_iload_n (q := 106) dX12_makeDual_105 rfl rfl rfl ?_
      refine r_if_ltN (q := 109) (t := 293) (by omega) dX12_makeDual_106 (by decide) rfl ?_
      refine r_aload_n (q := 110) dX12_makeDual_109 rfl rfl rfl ?_
      refine r_getr (q := 113) (some (1365, 0)) ck12 dX12_makeDual_110 rfl (k := 65) (by decide) wt1343 rfl (hs.e (by decide)) (hs.r (by decide) (by decide)) ?_
      refine r_iload_n (q := 114) dX12_makeDual_113 rfl rfl rfl ?_
      refine r_ialdN (q := 115) 18 (by decide) rfl dX12_makeDual_114 rfl (hs.e (by decide)) (hs.n rfl (by decide)) (by omega) (by decide) ?_
      refine r_topi (y := nI 0) hpm ?_
      refine r_if_leN (q := 118) (t := 121) (by omega) dX12_makeDual_115 (by decide) rfl (fun h115 => ?_) (fun h115 => absurd h115 (by omega))
      refine r_aload_n (q := 122) dX12_makeDual_121 rfl rfl rfl ?_
      refine r_getr (q := 125) (some (1307, 0)) ck12 dX12_makeDual_122 rfl (k := 7) (by decide) wt1285 rfl (hs.e (by decide)) (hs.r (by decide) (by decide)) ?_
      refine r_iconst (q := 126) (nI 2) dX12_makeDual_125 rfl (by decide) ?_
      refine r_ialdN (q := 127) 1173 (by decide) rfl dX12_makeDual_126 rfl (hs.e (by decide)) (hs.n rfl (by decide)) (by omega) (by decide) ?_
      refine r_topi (y := nI ls.length) hL2 ?_
      refine r_istore (q := 129) (L' := [some (zr 12 0), some (zi (nI P)), some (zi (nI n)), some (zi (nI m)), some (zi (nI ls.length)), none, none, none]) dX12_makeDual_127 rfl (by decide) rfl ?_
      refine r_aload_n (q := 130) dX12_makeDual_129 rfl rfl rfl ?_
      refine r_getr (q := 133) (some (1307, 0)) ck12 dX12_makeDual_130 rfl (k := 7) (by decide) wt1285 rfl (hs.e (by decide)) (hs.r (by decide) (by decide)) ?_
      refine r_bipush (q := 135) (nI 7) dX12_makeDual_133 rfl (by decide) ?_
      refine r_iload (q := 137) dX12_makeDual_135 rfl rfl ?_
      refine r_iaddN (q := 138) dX12_makeDual_137 rfl ?_
      refine r_iconst (q := 139) (nI 3) dX12_makeDual_138 rfl (by decide) ?_
      refine r_iastN (q := 140) 1173 (by decide) rfl dX12_makeDual_139 rfl (hs.e (by decide)) (hs.n rfl (by decide)) (by omega) (by decide) ?_
      rw [← hS1]
      refine r_aload_n (q := 141) dX12_makeDual_140 rfl rfl rfl ?_
      refine r_getr (q := 144) (some (1307, 0)) ck12 dX12_makeDual_141 rfl (k := 7) (by decide) wt1285 rfl (hs1.e (by decide)) (hs1.r (by decide) (by decide)) ?_
      refine r_bipush (q := 146) (nI 25) dX12_makeDual_144 rfl (by decide) ?_
      refine r_iload (q := 148) dX12_makeDual_146 rfl rfl ?_
      refine r_iaddN (q := 149) dX12_makeDual_148 rfl ?_
      refine r_ialdN (q := 150) 1173 (by decide) rfl dX12_makeDual_149 rfl (hs1.e (by decide)) (hs1.n rfl (by decide)) (by omega) (by decide) ?_
      refine r_topi (y := nI to) hL25' ?_
      refine r_istore (q := 152) (L' := [some (zr 12 0), some (zi (nI P)), some (zi (nI n)), some (zi (nI m)), some (zi (nI ls.length)), some (zi (nI to)), none, none]) dX12_makeDual_150 rfl (by decide) rfl ?_
      refine r_iload_n (q := 153) dX12_makeDual_152 rfl rfl rfl ?_
      refine r_istore (q := 155) (L' := [some (zr 12 0), some (zi (nI P)), some (zi (nI n)), some (zi (nI m)), some (zi (nI ls.length)), some (zi (nI to)), some (zi (nI m)), none]) dX12_makeDual_153 rfl (by decide) rfl ?_
      refine r_iload (q := 157) dX12_makeDual_155 rfl rfl ?_
      refine r_if_ltN (q := 160) (t := 263) (by omega) dX12_makeDual_157 (by decide) rfl ?_
      refine r_iload (q := 162) dX12_makeDual_160 rfl rfl ?_
      refine r_iload_n (q := 163) dX12_makeDual_162 rfl rfl rfl ?_
      refine r_icmp_neN (q := 166) (t := 170) (by omega) (by omega) dX12_makeDual_163 (by decide) rfl (fun h163 => absurd h163 (by omega)) (fun h163 => ?_)
      refine r_iconst (q := 167) (nI 1) dX12_makeDual_166 rfl (by decide) ?_
      refine r_goto (q := 207) dX12_makeDual_167 (by decide) ?_
      refine r_istore (q := 209) (L' := [some (zr 12 0), some (zi (nI P)), some (zi (nI n)), some (zi (nI m)), some (zi (nI ls.length)), some (zi (nI to)), some (zi (nI m)), some (zi (nI 1))]) dX12_makeDual_207 rfl (by decide) rfl ?_
      refine r_iload (q := 211) dX12_makeDual_209 rfl rfl ?_
      refine r_if_neN (q := 214) (t := 217) (by omega) dX12_makeDual_211 (by decide) rfl (fun h211 => ?_) (fun h211 => absurd h211 (by omega))
      refine r_aload_n (q := 218) dX12_makeDual_217 rfl rfl rfl ?_
      refine r_getr (q := 221) (some (1307, 0)) ck12 dX12_makeDual_218 rfl (k := 7) (by decide) wt1285 rfl (hs1.e (by decide)) (hs1.r (by decide) (by decide)) ?_
      refine r_bipush (q := 223) (nI 44) dX12_makeDual_221 rfl (by decide) ?_
      refine r_iload (q := 225) dX12_makeDual_223 rfl rfl ?_
      refine r_iaddN (q := 226) dX12_makeDual_225 rfl ?_
      refine r_aload_n (q := 227) dX12_makeDual_226 rfl rfl rfl ?_
      refine r_getr (q := 230) (some (1328, 0)) ck12 dX12_makeDual_227 rfl (k := 28) (by decide) wt1306 rfl (hs1.e (by decide)) (hs1.r (by decide) (by decide)) ?_
      refine r_aload_n (q := 231) dX12_makeDual_230 rfl rfl rfl ?_
      refine r_getr (q := 234) (some (1325, 0)) ck12 dX12_makeDual_231 rfl (k := 25) (by decide) wt1303 rfl (hs1.e (by decide)) (hs1.r (by decide) (by decide)) ?_
      refine r_iconst (q := 235) (nI 3) dX12_makeDual_234 rfl (by decide) ?_
      refine r_ialdN (q := 236) 16 (by decide) rfl dX12_makeDual_235 rfl (hs1.e (by decide)) (hs1.n rfl (by decide)) (by omega) (by decide) ?_
      refine r_topi (y := nI F) hI1.2.2.2.2 ?_
      refine r_iload (q := 238) dX12_makeDual_236 rfl rfl ?_
      refine r_iaddN (q := 239) dX12_makeDual_238 rfl ?_
      refine r_ialdN (q := 240) 4400 (by decide) rfl dX12_makeDual_239 rfl (hs1.e (by decide)) (hs1.n rfl (by decide)) (by omega) (by decide) ?_
      refine r_topi (y := nI (cd ((tl W 3).getD m []))) (hI1.2.2.2.1 m (by omega)).1 ?_
      refine r_iastN (q := 241) 1173 (by decide) rfl dX12_makeDual_240 rfl (hs1.e (by decide)) (hs1.n rfl (by decide)) (by omega) (by decide) ?_
      refine r_aload_n (q := 242) dX12_makeDual_241 rfl rfl rfl ?_
      refine r_getr (q := 245) (some (1307, 0)) ck12 dX12_makeDual_242 rfl (k := 7) (by decide) wt1285 rfl (hs1.e (by decide)) (hs1.r (by decide) (by decide)) ?_
      refine r_sipush (q := 248) (nI 244) dX12_makeDual_245 rfl (by decide) ?_
      refine r_iload (q := 250) dX12_makeDual_248 rfl rfl ?_
      refine r_iaddN (q := 251) dX12_makeDual_250 rfl ?_
      refine r_iload (q := 253) dX12_makeDual_251 rfl rfl ?_
      refine r_iastN (q := 254) 1173 (by decide) rfl dX12_makeDual_253 rfl (hs1.e (by decide)) (hs1.n rfl (by decide)) (by omega) (by decide) ?_
      refine r_iincN (q := 257) (L' := [some (zr 12 0), some (zi (nI P)), some (zi (nI n)), some (zi (nI m)), some (zi (nI ls.length)), some (zi (nI (to + 1))), some (zi (nI m)), some (zi (nI 1))]) 1 rfl dX12_makeDual_254 rfl rfl (by decide) rfl ?_
      refine r_iinc (q := 260) (L' := [some (zr 12 0), some (zi (nI P)), some (zi (nI n)), some (zi (nI m)), some (zi (nI ls.length)), some (zi (nI (to + 1))), some (zi ((nI m) + (-1))), some (zi (nI 1))]) ((nI m) + (-1)) dX12_makeDual_257 rfl rfl (by decide) rfl rfl ?_
      refine r_goto (q := 155) dX12_makeDual_260 (by decide) ?_
      have f2 : Fr t07 S1 (sI (sI S1 1307 0 (44 + to) (nI (cd ((tl W 3).getD m [])))) 1307 0 (244 + to) (nI 1)) := (Fr.rf.i rfl).i rfl
      have hH0 : HpS S1 S1 to [] := ⟨fun k hk => absurd hk (Nat.not_lt_zero k), fun _ _ _ => rfl⟩
      have hH1 : HpS S1 (sI (sI S1 1307 0 (44 + to) (nI (cd ((tl W 3).getD m [])))) 1307 0 (244 + to) (nI 1)) to [((tl W 3).getD m [], 1)] := hH0.put (by show to + 0 < 200; omega) ((tl W 3).getD m []) 1
      have K155 := lp_md155 hW hn hPW hn18 hk18 hF hC hmk hR hmn w1 (by omega) (S0 := S1) (to := to) (l := ls.length) (Po := (fun r S1 => r = none ∧ Fr t07 S S1 ∧ wqR (dW W mk R) (fun k => gI S1 1307 0 k) n9 ∧ ∀ k, k = 3 ∨ 444 ≤ k → gI S1 1307 0 k = gI S 1307 0 k)) m (sI (sI S1 1307 0 (44 + to) (nI (cd ((tl W 3).getD m [])))) 1307 0 (244 + to) (nI 1)) [((tl W 3).getD m [], 1)] (some (zi (nI 1))) (Nat.le_refl _) rfl (hI1.fr f2) f2 hH1
      rw [Int32.sub_eq_add_neg] at K155
      refine K155 (fun S2 w6 w7 f3 hH2 => ?_)
      have hs2 : Sd S2 := hs1.fr f3
      have h22 : gI S2 1307 0 2 = nI ls.length := (hH2.2 2 (by omega) (by omega)).trans ((e1 _ (by omega)).trans hL2)
      refine r_mask [true, true, true, true, true, true, false, false] rfl ?_
      refine r_aload_n (q := 264) dX12_makeDual_263 rfl rfl rfl ?_
      refine r_getr (q := 267) (some (1307, 0)) ck12 dX12_makeDual_264 rfl (k := 7) (by decide) wt1285 rfl (hs2.e (by decide)) (hs2.r (by decide) (by decide)) ?_
      refine r_bipush (q := 269) (nI 25) dX12_makeDual_267 rfl (by decide) ?_
      refine r_iload (q := 271) dX12_makeDual_269 rfl rfl ?_
      refine r_iaddN (q := 272) dX12_makeDual_271 rfl ?_
      refine r_iconst (q := 273) (nI 1) dX12_makeDual_272 rfl (by decide) ?_
      refine r_iaddN (q := 274) dX12_makeDual_273 rfl ?_
      refine r_iload (q := 276) dX12_makeDual_274 rfl rfl ?_
      refine r_iastN (q := 277) 1173 (by decide) rfl dX12_makeDual_276 rfl (hs2.e (by decide)) (hs2.n rfl (by decide)) (by omega) (by decide) ?_
      refine r_aload_n (q := 278) dX12_makeDual_277 rfl rfl rfl ?_
      refine r_getr (q := 281) (some (1307, 0)) ck12 dX12_makeDual_278 rfl (k := 7) (by decide) wt1285 rfl (hs2.e (by decide)) (hs2.r (by decide) (by decide)) ?_
      refine r_iconst (q := 282) (nI 2) dX12_makeDual_281 rfl (by decide) ?_
      refine r_dup2 (q := 283) dX12_makeDual_282 rfl rfl rfl ?_
      refine r_ialdN (q := 284) 1173 (by decide) rfl dX12_makeDual_283 rfl (hs2.e (by decide)) (hs2.n rfl (by decide)) (by omega) (by decide) ?_
      refine r_topi (y := gI S2 1307 0 2) (by repeat (first | rw [gI_sI, if_neg (by omega)] | rw [gI_sI, if_pos ⟨rfl, rfl, rfl⟩] | rw [gJ_sJ, if_neg (by omega)] | rw [gJ_sJ, if_pos ⟨rfl, rfl, rfl⟩] | rw [gI_sJ] | rw [gJ_sI])) ?_
      refine r_topi (y := nI ls.length) h22 ?_
      refine r_iconst (q := 285) (nI 1) dX12_makeDual_284 rfl (by decide) ?_
      refine r_iaddN (q := 286) dX12_makeDual_285 rfl ?_
      refine r_iastN (q := 287) 1173 (by decide) rfl dX12_makeDual_286 rfl (hs2.e (by decide)) (hs2.n rfl (by decide)) (by omega) (by decide) ?_
      refine r_iinc (q := 290) (L' := [some (zr 12 0), some (zi (nI P)), some (zi (nI n)), some (zi ((nI m) + (-1))), some (zi (nI ls.length)), some (zi (nI (to + (dlw mk R P (tl W 3) m).length))), none, none]) ((nI m) + (-1)) dX12_makeDual_287 rfl rfl (by decide) rfl rfl ?_
      refine r_goto (q := 105) dX12_makeDual_290 (by decide) ?_
      have f4 : Fr t07 S2 (sI (sI S2 1307 0 ((25 + ls.length) + 1) (nI (to + (dlw mk R P (tl W 3) m).length))) 1307 0 2 (nI (ls.length + 1))) := (Fr.rf.i rfl).i rfl
      have fa : Fr t07 S (sI (sI S2 1307 0 ((25 + ls.length) + 1) (nI (to + (dlw mk R P (tl W 3) m).length))) 1307 0 2 (nI (ls.length + 1))) := (f1.tr f3).tr f4
      have e2 : ∀ k, k ≠ 2 → k ≠ 25 + ls.length + 1 → gI (sI (sI S2 1307 0 ((25 + ls.length) + 1) (nI (to + (dlw mk R P (tl W 3) m).length))) 1307 0 2 (nI (ls.length + 1))) 1307 0 k = gI S2 1307 0 k := fun k a b => by rw [gI_sI, if_neg (by omega), gI_sI, if_neg (by omega)]
      have hw2 := wqR.law (W := mkWs W ls) (b := fun k => gI S 1307 0 k) (b' := fun k => gI (sI (sI S2 1307 0 ((25 + ls.length) + 1) (nI (to + (dlw mk R P (tl W 3) m).length))) 1307 0 2 (nI (ls.length + 1))) 1307 0 k) (n9 := n9) (n := 3) (c := dlw mk R P (tl W 3) m) (mkWs_okl (x := (3, dlw mk R P (tl W 3) m)) hWd (by rw [← hPW]; exact w3)) hw w1 (by rw [hto2]; exact w2) (by show gI (sI (sI S2 1307 0 ((25 + ls.length) + 1) (nI (to + (dlw mk R P (tl W 3) m).length))) 1307 0 2 (nI (ls.length + 1))) 1307 0 2 = _; rw [gI_sI, if_pos ⟨rfl, rfl, rfl⟩]; rfl) (by
        show gI (sI (sI S2 1307 0 ((25 + ls.length) + 1) (nI (to + (dlw mk R P (tl W 3) m).length))) 1307 0 2 (nI (ls.length + 1))) 1307 0 (7 + ls.length) = nI 3
        rw [e2 _ (by omega) (by omega), hH2.2 _ (by omega) (by omega), hS1, gI_sI, if_pos ⟨rfl, rfl, rfl⟩]) (by
        rw [hto2]
        show gI (sI (sI S2 1307 0 ((25 + ls.length) + 1) (nI (to + (dlw mk R P (tl W 3) m).length))) 1307 0 2 (nI (ls.length + 1))) 1307 0 (25 + ls.length + 1) = _
        rw [gI_sI, if_neg (by omega), gI_sI, if_pos ⟨rfl, rfl, rfl⟩]) (fun k hk => by
        rw [hto2]
        exact ⟨(e2 _ (by omega) (by omega)).trans (hH2.1 k hk).1, (e2 _ (by omega) (by omega)).trans (hH2.1 k hk).2⟩) (fun k a1 a2 a3 a4 a5 => by
        rw [hto2] at a4 a5
        have a2 : k ≠ 7 + ls.length := a2
        have a3 : k ≠ 25 + ls.length + 1 := a3
        exact (e2 k a1 a3).trans ((hH2.2 k a4 a5).trans (e1 k a2)))
      exact Ok.mono (ih (sI (sI S2 1307 0 ((25 + ls.length) + 1) (nI (to + (dlw mk R P (tl W 3) m).length))) 1307 0 2 (nI (ls.length + 1))) (ls ++ [(3, dlw mk R P (tl W 3) m)]) _ _ _ _ (by omega) w3 (hI.fr fa) hw2) (fun r S9 q => ⟨q.1, fa.tr q.2.1, q.2.2.1, fun k hk => (q.2.2.2 k hk).trans ((e2 k (by omega) (by omega)).trans ((hH2.2 k (by omega) (by omega)).trans (e1 k (by omega))))⟩)

def tMd2 (a b k : Nat) : Bool := tOw a b k || tSe 0 a b k || t07 a b k || tEq a b k
theorem wqR0 {S : zS} {W : zWd} {n9 : Nat → Int64} (h : wqR W (fun k => gI S 1306 0 k) n9) {b : Nat → Int32} (h0 : ∀ k, k < 7 → k ≠ 2 → k ≠ 3 → b k = gI S 1306 0 k) (h2 : b 2 = nI 0) (h25 : b 25 = nI 0) (hA : wA W ≤ 3) : wqR (mkWs W []) b n9 := by
  obtain ⟨a1, a2, a3, a4, a5⟩ := h
  refine ⟨(h0 0 (by omega) (by omega) (by omega)).trans a1, (h0 1 (by omega) (by omega) (by omega)).trans a2, h2, fun a ha => ?_, fun L hL => absurd hL (Nat.not_lt_zero L), fun L hL => ?_, fun L k hL => absurd hL (Nat.not_lt_zero L)⟩
  · have ha : a < wA W := ha
    exact ⟨(h0 (4 + a) (by omega) (by omega) (by omega)).trans (a4 a ha).1, (a4 a ha).2⟩
  · obtain rfl : L = 0 := by have : L ≤ 0 := hL; omega
    exact h25

set_option maxRecDepth 100000 in
theorem ok_makeDual {S : zS} (hs : Sd S) {W : zWd} (hW : Wok W) (hQ : Qd W) {n9 : Nat → Int64} (hR : wqR W (fun k => gI S 1306 0 k) n9) (hO : Cw S) (hcr : CR S W) (hI : IvI S) : Ok mX12_makeDual 0 (ent 8 [zr 12 0]) [] S (fun r S1 => r = none ∧ Fr tMd2 S S1 ∧ gI S1 12 0 33 = nI 1 ∧ Cw S1 ∧ CR S1 W ∧ IvI S1 ∧ ∃ mk R, IsD W mk R ∧ wqR (dW W mk R) (fun k => gI S1 1307 0 k) n9 ∧ gI S1 1307 0 3 = nI 1 ∧ ∀ k, 444 ≤ k → k < 1173 → gI S1 1307 0 k = nI 0) := by
  have hn18 := tl3_18 hW hQ
  have h300 : ∀ k, k ≤ 3 → tc W k ≤ 300 := fun k hk => by
    have hA := hW.2.1.1
    have e3 := tc_3 hQ
    have e33 : wA W * (2 * wA W) ≤ 3 * (2 * 3) := Nat.mul_le_mul hA (Nat.mul_le_mul_left 2 hA)
    rcases (show k = 0 ∨ k = 1 ∨ k = 2 ∨ k = 3 by omega) with e | e | e | e
    · rw [e]; show 0 ≤ 300; omega
    · rw [e]; have : tc W 1 = 1 := tcT_1 hQ; omega
    · rw [e]; have : tc W 2 = wA W := (tcT_2 hQ).1; omega
    · rw [e]; omega
  show Ok mX12_makeDual 0 [some (zr 12 0), none, none, none, none, none, none, none] [] S _
  refine r_aload_n (q := 1) dX12_makeDual_0 rfl rfl rfl ?_
  refine r_callV (Mc := mX12_ownWorld) (q := 4) (As := []) (st := []) ck12 dX12_makeDual_1 rfl rfl mkX12_ownWorld wt1686 wt1688 wp90 rfl (Nat.le_of_ble_eq_true rfl) (Nat.le_of_ble_eq_true rfl) (by decide) (by decide) (by decide) (Or.inl rfl) (hs.e (by decide)) (ok_own hs hW hR hO hcr hI) (fun r1 S1 hp1 => ?_)
  obtain ⟨rfl, f1, hOw, hWS, hI1, h33, hO1, L, pvs, bss, hRB⟩ := hp1
  have hs1 : Sd S1 := hs.fr f1
  show Ok _ _ _ [] _ _
  refine r_aload_n (q := 5) dX12_makeDual_4 rfl rfl rfl ?_
  refine r_iconst (q := 6) (nI 0) dX12_makeDual_5 rfl (by decide) ?_
  refine r_iconst (q := 7) (nI 3) dX12_makeDual_6 rfl (by decide) ?_
  refine r_callV (Mc := mX12_settle) (q := 10) (As := [zi (nI 0), zi (nI 3)]) (st := []) ck12 dX12_makeDual_7 rfl rfl mkX12_settle wt1756 wt1758 wp100 rfl (Nat.le_of_ble_eq_true rfl) (Nat.le_of_ble_eq_true rfl) (by decide) (by decide) (by decide) (Or.inl rfl) (hs1.e (by decide)) (ok_settle hW (q := 0) (N := 3) (by omega) (by omega) h300 hs1 hWS (fun z => hI1 (wP W) hW.1.1 hW.1.2.1 z) hRB) (fun r7 S7 hp7 => ?_)
  obtain ⟨rfl, f2, ⟨h43, hIv⟩, L', pvs', bss', hRB', hL3, -⟩ := hp7
  have hs2 : Sd S7 := hs1.fr f2
  obtain ⟨hLr, hAc, -⟩ := hRB'.2.2.2.2 3 (by omega) (by omega)
  have hF4 : FqR 0 W 3 + (tl W 3).length ≤ 4400 := hAc.1.2.2.2.2.2.1
  have hR2 : wqR W (fun k => gI S7 1306 0 k) n9 := (hR.frq f1 (fun _ => rfl)).frq f2 (fun _ => rfl)
  have hn0 : gI S7 1324 0 3 = nI (tl W 3).length := hLr.2.1
  have hP0 : gI S7 1306 0 0 = nI (wP W) := hR2.1
  show Ok _ _ _ [] _ _
  refine r_aload_n (q := 11) dX12_makeDual_10 rfl rfl rfl ?_
  refine r_getr (q := 14) (some (1306, 0)) ck12 dX12_makeDual_11 rfl (k := 6) (by decide) wt1284 rfl (hs2.e (by decide)) (hs2.r (by decide) (by decide)) ?_
  refine r_iconst (q := 15) (nI 0) dX12_makeDual_14 rfl (by decide) ?_
  refine r_ialdN (q := 16) 3775 (by decide) rfl dX12_makeDual_15 rfl (hs2.e (by decide)) (hs2.n rfl (by decide)) (by omega) (by decide) ?_
  refine r_topi (y := nI (wP W)) hP0 ?_
  refine r_istore_n (q := 17) (L' := [some (zr 12 0), some (zi (nI (wP W))), none, none, none, none, none, none]) dX12_makeDual_16 rfl rfl (by decide) rfl ?_
  refine r_aload_n (q := 18) dX12_makeDual_17 rfl rfl rfl ?_
  refine r_getr (q := 21) (some (1324, 0)) ck12 dX12_makeDual_18 rfl (k := 24) (by decide) wt1302 rfl (hs2.e (by decide)) (hs2.r (by decide) (by decide)) ?_
  refine r_iconst (q := 22) (nI 3) dX12_makeDual_21 rfl (by decide) ?_
  refine r_ialdN (q := 23) 16 (by decide) rfl dX12_makeDual_22 rfl (hs2.e (by decide)) (hs2.n rfl (by decide)) (by omega) (by decide) ?_
  refine r_topi (y := nI ((tl W 3).length)) hn0 ?_
  refine r_istore_n (q := 24) (L' := [some (zr 12 0), some (zi (nI (wP W))), some (zi (nI ((tl W 3).length))), none, none, none, none, none]) dX12_makeDual_23 rfl rfl (by decide) rfl ?_
  refine r_iconst (q := 25) (nI 0) dX12_makeDual_24 rfl (by decide) ?_
  refine r_istore_n (q := 26) (L' := [some (zr 12 0), some (zi (nI (wP W))), some (zi (nI ((tl W 3).length))), some (zi (nI 0)), none, none, none, none]) dX12_makeDual_25 rfl rfl (by decide) rfl ?_
  refine lp_md26 1173 0 S7 (by omega) hs2 (fun j hj => absurd hj (Nat.not_lt_zero j)) (fun S3 f3 hh3 => ?_)
  have hs3 : Sd S3 := hs2.fr f3
  refine r_aload_n (q := 62) dX12_makeDual_61 rfl rfl rfl ?_
  refine r_getr (q := 65) (some (1307, 0)) ck12 dX12_makeDual_62 rfl (k := 7) (by decide) wt1285 rfl (hs3.e (by decide)) (hs3.r (by decide) (by decide)) ?_
  refine r_iconst (q := 66) (nI 3) dX12_makeDual_65 rfl (by decide) ?_
  refine r_iconst (q := 67) (nI 1) dX12_makeDual_66 rfl (by decide) ?_
  refine r_iastN (q := 68) 1173 (by decide) rfl dX12_makeDual_67 rfl (hs3.e (by decide)) (hs3.n rfl (by decide)) (by omega) (by decide) ?_
  refine r_aload_n (q := 69) dX12_makeDual_68 rfl rfl rfl ?_
  refine r_getr (q := 72) (some (1307, 0)) ck12 dX12_makeDual_69 rfl (k := 7) (by decide) wt1285 rfl (hs3.e (by decide)) (hs3.r (by decide) (by decide)) ?_
  refine r_iconst (q := 73) (nI 2) dX12_makeDual_72 rfl (by decide) ?_
  refine r_iconst (q := 74) (nI 0) dX12_makeDual_73 rfl (by decide) ?_
  refine r_iastN (q := 75) 1173 (by decide) rfl dX12_makeDual_74 rfl (hs3.e (by decide)) (hs3.n rfl (by decide)) (by omega) (by decide) ?_
  refine r_iconst (q := 76) (nI 0) dX12_makeDual_75 rfl (by decide) ?_
  refine r_istore_n (q := 77) (L' := [some (zr 12 0), some (zi (nI (wP W))), some (zi (nI ((tl W 3).length))), some (zi (nI 0)), none, none, none, none]) dX12_makeDual_76 rfl rfl (by decide) rfl ?_
  have f4 : Fr t07 S3 (sI (sI S3 1307 0 3 (nI 1)) 1307 0 2 (nI 0)) := (Fr.rf.i rfl).i rfl
  obtain ⟨S4, hS4⟩ : ∃ S4, S4 = sI (sI S3 1307 0 3 (nI 1)) 1307 0 2 (nI 0) := ⟨_, rfl⟩
  rw [← hS4] at f4
  have hs4 : Sd S4 := hs3.fr f4
  have h4 : ∀ k, k < 1173 → k ≠ 2 → k ≠ 3 → gI S4 1307 0 k = if k < 7 then gI S7 1306 0 k else nI 0 := fun k a b c => by rw [hS4, gI_sI, if_neg (by omega), gI_sI, if_neg (by omega)]; exact hh3 k a
  have h42 : gI S4 1307 0 2 = nI 0 := by rw [hS4, gI_sI, if_pos ⟨rfl, rfl, rfl⟩]
  have h43' : gI S4 1307 0 3 = nI 1 := by rw [hS4, gI_sI, if_neg (by omega), gI_sI, if_pos ⟨rfl, rfl, rfl⟩]
  have hw4 : wqR (mkWs W []) (fun k => gI S4 1307 0 k) n9 := wqR0 hR2 (fun k a b c => (h4 k (by omega) b c).trans (if_pos a)) h42 ((h4 25 (by omega) (by omega) (by omega)).trans (if_neg (by omega))) hW.2.1.1
  show Ok _ _ _ _ (sI (sI S3 1307 0 3 (nI 1)) 1307 0 2 (nI 0)) _
  rw [← hS4]
  refine lp_md77 hn18 (tl W 3).length 0 S4 (by omega) hs4 (fun j hj => absurd hj (Nat.not_lt_zero j)) (fun S5 f5 hpz => ?_)
  have hs5 : Sd S5 := hs4.fr f5
  have g5 : ∀ a k, a ≠ 1307 → a ≠ 1365 → gI S5 a 0 k = gI S7 a 0 k := fun a k x y => (f5.1 _ _ _ (by simp [tPz, y])).trans ((f4.1 _ _ _ (by simp [t07, x])).trans (f3.1 _ _ _ (by simp [t07, x])))
  have hR5 : wqR W (fun k => gI S5 1306 0 k) n9 := ((hR2.frq f3 (fun _ => rfl)).frq f4 (fun _ => rfl)).frq f5 (fun _ => rfl)
  have hLr5 : LrR S5 W 0 3 (FqR 0 W 3) := ((hLr.frq f3 (fun a k ha => by simp [t07]; omega)).frq f4 (fun a k ha => by simp [t07]; omega)).frq f5 (fun a k ha => by simp [tPz]; omega)
  have hIv5 : Iv S5 (wP W) := ((hIv.frq f3 (fun _ => rfl)).frq f4 (fun _ => rfl)).frq f5 (fun _ => rfl)
  refine r_aload_n (q := 96) dX12_makeDual_95 rfl rfl rfl ?_
  refine r_iload_n (q := 97) dX12_makeDual_96 rfl rfl rfl ?_
  refine r_iload_n (q := 98) dX12_makeDual_97 rfl rfl rfl ?_
  refine r_callV (Mc := mX12_equations) (q := 101) (As := [zi (nI ((tl W 3).length)), zi (nI (wP W))]) (st := []) ck12 dX12_makeDual_98 rfl rfl mkX12_equations wt1908 wt1910 wp129 rfl (Nat.le_of_ble_eq_true rfl) (Nat.le_of_ble_eq_true rfl) (by decide) (by decide) (by decide) (Or.inl rfl) (hs5.e (by decide)) (ok_equations hs5 hW hQ rfl rfl hn18 hF4 hpz hIv5 hR5 hLr5) (fun r98 S98 hp98 => ?_)
  obtain ⟨rfl, f6, k, pv, g, hk18, hC, hRw, hPv⟩ := hp98
  have hs6 : Sd S98 := hs5.fr f6
  have hD : IsD W (fun c => (pv c).isSome) (fun c => g ((pv c).getD 0)) := hC.done
  have hWd := dW_ok hW hQ hD
  have hLr6 : LrR S98 W 0 3 (FqR 0 W 3) := hLr5.frq f6 (fun a k ha => by simp [tEq]; omega)
  have hw6 : wqR (mkWs W []) (fun k => gI S98 1307 0 k) n9 := by
    have e : (fun k => gI S98 1307 0 k) = fun k => gI S4 1307 0 k := funext fun k => (f6.1 _ _ _ rfl).trans (f5.1 _ _ _ rfl)
    rw [e]; exact hw4
  have hM6 : MdI S98 W (tl W 3).length (wP W) k (FqR 0 W 3) pv g := ⟨hs6, hPv, hRw, hLr6.2.2.1, hLr6.1⟩
  show Ok _ _ _ [] _ _
  refine r_iload_n (q := 102) dX12_makeDual_101 rfl rfl rfl ?_
  refine r_iconst (q := 103) (nI 1) dX12_makeDual_102 rfl (by decide) ?_
  refine r_isub (q := 104) dX12_makeDual_103 rfl ?_
  refine r_istore_n (q := 105) (L' := [some (zr 12 0), some (zi (nI (wP W))), some (zi (nI ((tl W 3).length))), some (zi ((nI ((tl W 3).length)) - (nI 1))), none, none, none, none]) dX12_makeDual_104 rfl rfl (by decide) rfl ?_
  refine Ok.mono (lp_md105 hW rfl rfl hn18 hk18 hF4 hC (mk := fun c => (pv c).isSome) (R := fun c => g ((pv c).getD 0)) (fun _ => rfl) (fun _ => rfl) hWd (tl W 3).length S98 [] none none none none (Nat.le_refl _) rfl hM6 hw6) (fun r S9 q => ?_)
  obtain ⟨q1, f7, q3, q4⟩ := q
  have ga : Fr tMd2 S S9 := ((((((f1.mono fun a b k z => by simp [tMd2, z]).tr (f2.mono fun a b k z => by simp [tMd2, z])).tr (f3.mono fun a b k z => by simp [tMd2, z])).tr (f4.mono fun a b k z => by simp [tMd2, z])).tr (f5.mono fun a b k z => by simp [tPz] at z; simp [tMd2, tEq, z])).tr (f6.mono fun a b k z => by simp [tMd2, z])).tr (f7.mono fun a b k z => by simp [tMd2, z])
  have gb : Fr (fun a b k => t07 a b k || tEq a b k) S7 S9 := ((((f3.mono fun a b k z => by simp [z]).tr (f4.mono fun a b k z => by simp [z])).tr (f5.mono fun a b k z => by simp [tPz] at z; simp [tEq, z])).tr (f6.mono fun a b k z => by simp [z])).tr (f7.mono fun a b k z => by simp [z])
  have rc : RcI S7 S9 := RcI.of (gb.fg hs2 (U := fun a b _ => a = 1307 ∨ a = 1364 ∨ a = 1365 ∨ a = 1366) (fun a b k z => by simp [t07, tEq] at z; omega)) ⟨by omega, by omega, fun x k a b => by omega, fun k _ => by omega⟩
  have h33' : gI S7 12 0 33 = nI 1 := (f2.1 _ _ _ rfl).trans h33
  refine ⟨q1, ga, (gb.1 _ _ _ rfl).trans h33', (rc.rc (W := W)).2.1 (fun z k a b => ?_), rc.rc.1 (fun _ => ⟨L', pvs', bss', hRB'⟩), (rc.rc (W := W)).2.2 (IvI.of hW.1.2.1 h43 hIv), _, _, hD, q3, (q4 3 (Or.inl rfl)).trans ?_, fun k a b => (q4 k (Or.inr a)).trans ?_⟩
  · exact (f2.1 _ _ _ (by simp [tSe, tTq, tPt, tPa, tIv])).trans ((hO1 h33 k a b).trans (f2.1 _ _ _ (by simp [tSe, tTq, tPt, tPa, tIv])).symm)
  · exact (f6.1 _ _ _ rfl).trans ((f5.1 _ _ _ rfl).trans h43')
  · exact (f6.1 _ _ _ rfl).trans ((f5.1 _ _ _ rfl).trans ((h4 k b (by omega) (by omega)).trans (if_neg (by omega))))

