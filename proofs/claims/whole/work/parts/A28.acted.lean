/-! rows of lower levels under an act, entered into a level of the reference -/
theorem getD_setG {α : Type} {r : List α} {x d : α} {j k : Nat} (hj : j < r.length) : (r.take j ++ x :: r.drop (j + 1)).getD k d = if k = j then x else r.getD k d := by
  rw [List.getD_eq_getElem?_getD, List.getElem?_append, List.length_take, Nat.min_eq_left (by omega)]
  by_cases h : k < j
  · rw [if_pos h, if_neg (by omega), List.getElem?_take, if_pos h, List.getD_eq_getElem?_getD]
  · rw [if_neg h]
    by_cases e : k = j
    · rw [if_pos e, e, Nat.sub_self]; rfl
    · rw [if_neg e]
      obtain ⟨i, hi⟩ : ∃ i, k - j = i + 1 := ⟨k - j - 1, by omega⟩
      rw [hi, List.getElem?_cons_succ, List.getElem?_drop, List.getD_eq_getElem?_getD, show j + 1 + i = k by omega]
theorem flat_snoc {l : List (List Nat)} {k : Nat} (h : k < l.length) : (l.take k).flatten ++ l.getD k [] = (l.take (k + 1)).flatten := by
  rw [List.take_succ_eq_append_getElem h, List.flatten_append, List.getD_eq_getElem?_getD, List.getElem?_eq_getElem h]
  simp
theorem flat_cut {l : List (List Nat)} {k : Nat} (h : k < l.length) : l.flatten = (l.take k).flatten ++ l.getD k [] ++ (l.drop (k + 1)).flatten := by
  rw [flat_snoc h, ← List.flatten_append, List.take_append_drop]
def tAcR (q n F RF m x y k : Nat) : Bool := tIn q n F RF m x y k || tPt x y k || tPa x y k
theorem tAc_in {q n F RF m : Nat} (x y k : Nat) (h : tIn q n F RF m x y k = true) : tAcR q n F RF m x y k = true := by simp [tAcR, h]
theorem tAc_rv {q n F RF m : Nat} (x y k : Nat) (h : tRv x y k = true) : tAcR q n F RF m x y k = true := tAc_in x y k (tIn_rv x y k h)
theorem tAc_pt {q n F RF m : Nat} (x y k : Nat) (h : tPt x y k = true) : tAcR q n F RF m x y k = true := by simp [tAcR, h]
theorem tAc_p2 {q n F RF m : Nat} (x y k : Nat) (h : tP2 x y k = true) : tAcR q n F RF m x y k = true := tAc_pt x y k (tPt_2 x y k h)
theorem tAc_pa {q n F RF m : Nat} (x y k : Nat) (h : tPa x y k = true) : tAcR q n F RF m x y k = true := by simp [tAcR, h]
theorem tAc_f {q n F RF m x y k : Nat} (h1 : x = 1325 ∨ x = 1322 ∨ x = 1334 ∨ x = 1324 ∨ x = 1328 ∨ x = 1330 ∨ x = 1327 ∨ x = 1342 ∨ x = 1326 ∧ k ≠ 8 * q + n ∨ x = 1331 ∧ (k < RF ∨ RF + m * m ≤ k) ∨ x = 1332 ∧ (k < F ∨ F + m ≤ k)) : tAcR q n F RF m x y k = false := by
  have : tAcR q n F RF m x y k = true → False := fun z => by
    simp [tAcR, tIn, tPa, tPt] at z
    omega
  cases q : tAcR q n F RF m x y k with
  | false => rfl
  | true => exact absurd q this
theorem Bx.fr2 {S S1 : zS} {q n F RF m P : Nat} {pv : Nat → Bool} {bs : Nat → Nat → Nat} {U : Nat → Nat → Nat → Bool} (h : Bx S q n F RF m P pv bs) (f : Fr U S S1) (t : U 1322 0 (1173 * q) = false ∧ U 1324 0 (8 * q + n) = false ∧ U 1325 0 (8 * q + n) = false ∧ U 1327 0 (8 * q + n) = false ∧ (∀ k, F ≤ k → k < F + m → U 1332 0 k = false) ∧ ∀ k, RF ≤ k → k < RF + m * m → U 1331 0 k = false) : Bx S1 q n F RF m P pv bs := by
  obtain ⟨h1, h2, h3, h4, h5, h6, h7, h8, h9⟩ := h
  obtain ⟨t1, t2, t3, t4, t5, t6⟩ := t
  refine ⟨(f.1 _ _ _ t1).trans h1, (f.1 _ _ _ t2).trans h2, (f.1 _ _ _ t3).trans h3, (f.1 _ _ _ t4).trans h4, h5, h6, h7, fun t ht => (f.1 _ _ _ (t5 _ (by omega) (by omega))).trans (h8 t ht), fun t ht hp => ⟨fun j hj => ⟨(f.1 _ _ _ (t6 _ (by omega) (by have := row_in ht hj; omega))).trans ((h9 t ht hp).1 j hj).1, ((h9 t ht hp).1 j hj).2⟩, (h9 t ht hp).2⟩⟩
theorem LrR.fr {S S1 : zS} {W : zWd} {q n F : Nat} {U : Nat → Nat → Nat → Bool} (h : LrR S W q n F) (f : Fr U S S1) (t : U 1325 0 (8 * q + n) = false ∧ U 1324 0 (8 * q + n) = false ∧ ∀ j, j < (tl W n).length → U 1328 0 (F + j) = false ∧ U 1330 0 (F + j) = false) : LrR S1 W q n F := by
  obtain ⟨h1, h2, h3, r, h4, h5, h6⟩ := h
  exact ⟨(f.1 _ _ _ t.1).trans h1, (f.1 _ _ _ t.2.1).trans h2, h3.fr f (fun j hj => (t.2.2 j hj).1), r, h4, fun i hi => (f.1 _ _ _ (t.2.2 i (by omega)).2).trans (h5 i hi), h6⟩
/-- all that a level is built from -/
def EnvR (S : zS) (W : zWd) (q n : Nat) (pvs : Nat → Nat → Bool) (bss : Nat → Nat → Nat → Nat) : Prop := Sd S ∧ WrR S q W ∧ Cd S q n W (FqR q W) ∧ Mn S q n (bdW W) ∧ LrR S W q n (FqR q W n) ∧ Iv S (wP W) ∧ ∀ s, 1 ≤ s → s < n → Bx S q s (FqR q W s) (RFq q W s) (tl W s).length (wP W) (pvs s) (bss s)
def AcS (S : zS) (W : zWd) (q n : Nat) (pv : Nat → Bool) (bs : Nat → Nat → Nat) : Prop := Bx S q n (FqR q W n) (RFq q W n) (tl W n).length (wP W) pv bs ∧ RwOk (tl W n).length (wP W) pv bs ∧ gI S 1326 0 (8 * q + n) = nI (cntp pv (tl W n).length) ∧ ∀ t, t < (tl W n).length → pv t = true → Id W n (V (tl W n) (RR bs t))
abbrev tAl (W : zWd) (q n : Nat) : Nat → Nat → Nat → Bool := tAcR q n (FqR q W n) (RFq q W n) (tl W n).length
theorem EnvR.fr {S S1 : zS} {W : zWd} (hE : Eok (wA W) (we W)) {q n : Nat} {pvs : Nat → Nat → Bool} {bss : Nat → Nat → Nat → Nat} (h : EnvR S W q n pvs bss) (f : Fr (tAl W q n) S S1) : EnvR S1 W q n pvs bss := by
  obtain ⟨h1, h2, h3, h4, h5, h6, h7⟩ := h
  refine ⟨h1.fr f, h2.fr f (fun k => tAc_f (by omega)), h3.fr f (fun k => ⟨tAc_f (by omega), tAc_f (by omega)⟩), fun s a b => ⟨(f.1 _ _ _ (tAc_f (by omega))).trans (h4 s a b).1, (h4 s a b).2⟩, h5.fr f ⟨tAc_f (by omega), tAc_f (by omega), fun j _ => ⟨tAc_f (by omega), tAc_f (by omega)⟩⟩, fun a a1 a2 => by obtain ⟨b, b1, b2⟩ := h6 a a1 a2; exact ⟨b, (f.1 _ _ _ (tAc_f (by omega))).trans b1, b2⟩, fun s a b => ?_⟩
  have l1 := sm_le (f := tc W) b
  have l2 := sm_le (f := fun k => tc W k * tc W k) b
  have e1 : (tl W s).length = tc W s := tl_len hE
  have eF : ∀ s, FqR q W s = 2200 * q + sm (tc W) s := fun _ => rfl
  have eR : ∀ s, RFq q W s = 200000 * q + sm (fun k => tc W k * tc W k) s := fun _ => rfl
  have eFs := eF s
  have eFn := eF n
  have eRs := eR s
  have eRn := eR n
  refine (h7 s a b).fr2 f ⟨tAc_f (by omega), tAc_f (by omega), tAc_f (by omega), tAc_f (by omega), fun k k1 k2 => tAc_f ?_, fun k k1 k2 => tAc_f ?_⟩
  · rw [e1] at k2; show _ ∨ _ ∨ _ ∨ _ ∨ _ ∨ _ ∨ _ ∨ _ ∨ _ ∨ _ ∨ 1332 = 1332 ∧ (k < FqR q W n ∨ _); omega
  · rw [e1] at k2
    have l2 : sm (fun k => tc W k * tc W k) s + tc W s * tc W s ≤ sm (fun k => tc W k * tc W k) n := l2
    show _ ∨ _ ∨ _ ∨ _ ∨ _ ∨ _ ∨ _ ∨ _ ∨ _ ∨ 1331 = 1331 ∧ (k < RFq q W n ∨ _) ∨ _
    omega
theorem AcS.fr {S S1 : zS} {W : zWd} {q n : Nat} {pv : Nat → Bool} {bs : Nat → Nat → Nat} (h : AcS S W q n pv bs) {U : Nat → Nat → Nat → Bool} (f : Fr U S S1) (t : ∀ x k, x = 1322 ∨ x = 1324 ∨ x = 1325 ∨ x = 1326 ∨ x = 1327 ∨ x = 1331 ∨ x = 1332 → U x 0 k = false) : AcS S1 W q n pv bs := ⟨h.1.fr2 f ⟨t _ _ (by omega), t _ _ (by omega), t _ _ (by omega), t _ _ (by omega), fun k _ _ => t _ _ (by omega), fun k _ _ => t _ _ (by omega)⟩, h.2.1, (f.1 _ _ _ (t _ _ (by omega))).trans h.2.2.1, h.2.2.2⟩

set_option maxRecDepth 100000 in
theorem lp_ac195 {W : zWd} (hW : Wok W) {q n a j : Nat} (hq : q ≤ 1) (hn7 : n ≤ 7) (ha : a < wA W) (hj : j < we W a) {pvs : Nat → Nat → Bool} {bss : Nat → Nat → Nat → Nat} {i s t : Nat} {ks : List Nat} {p : List Nat × List Nat} (hp : p = (((cmp (we W a) n).getD i []), ks)) (hsj : s = p.1.getD j 0) (ht : t < (tl W s).length) {S : zS} (hE1 : EnvR S W q n pvs bss) (hPS : PS S q (we W a) n (bdW W) i ks) {x6 x7 x8 : Int32} {Po : Option zV → zS → Prop} (K : Ok mX12_acted 256 [some (zr 12 0), some (zi (nI q)), some (zi (nI n)), some (zi (nI a)), some (zi (nI (we W a))), some (zi (nI j)), some (zi x6), some (zi x7), some (zi x8), some (zi (nI t)), some (zi (nI (cd (cx a ((pt W p).take j) ((pt W p).drop (j + 1)) ((tl W s).getD t []))))), some (zi (nI (we W a)))] [] S Po) : ∀ (d k : Nat), k + d = we W a → Ok mX12_acted 195 [some (zr 12 0), some (zi (nI q)), some (zi (nI n)), some (zi (nI a)), some (zi (nI (we W a))), some (zi (nI j)), some (zi x6), some (zi x7), some (zi x8), some (zi (nI t)), some (zi (nI (cd ((a + 1) :: (((pt W p).take j ++ (tl W s).getD t [] :: (pt W p).drop (j + 1)).take k).flatten)))), some (zi (nI k))] [] S Po := by
  have hE := hW.2.1
  have he := hE.2 a ha
  have ha3 : a < 3 := Nat.lt_of_lt_of_le ha hE.1
  have hs := hE1.1
  have hC := hE1.2.2.1
  have hg := cmp_get hPS.1 (show 2 ≤ we W a by omega)
  have hmem : p ∈ allF (bdW W) (cmp (we W a) n) := by rw [hp]; exact PS.mem (by omega) hPS
  have hall := allF_get hmem
  obtain ⟨g1, g2, g3, g4, g5, g6, g7, g8⟩ := pt_parts hE hmem hj
  rw [← hsj] at g4 g5 g6 g7
  have htr := cx_tr2 ha g1 g2 g3 g4 (tl_tr hE ht)
  have hlen := (htr.len hE).1
  have htok := htr.tok hE
  have hcx : cx a ((pt W p).take j) ((pt W p).drop (j + 1)) ((tl W s).getD t []) = (a + 1) :: ((pt W p).take j ++ (tl W s).getD t [] :: (pt W p).drop (j + 1)).flatten := by unfold cx; simp
  rw [hcx] at hlen htok K
  have hul : ((pt W p).take j ++ (tl W s).getD t [] :: (pt W p).drop (j + 1)).length = we W a := by rw [List.length_append, List.length_cons]; omega
  have hsn : s < n := by
    have := (hg.2.2 j hj).2
    rw [hsj, hp]; exact this
  have p1 : gI S 1336 0 j = nI s := by rw [hsj, hp]; exact hPS.2.2.1 j hj
  obtain ⟨c1, c2, c3⟩ := hC s g6 hsn
  have c4 := c3 t ht
  intro d
  induction d with
  | zero =>
    intro k hk
    obtain rfl : k = we W a := by omega
    rw [List.take_of_length_le (Nat.le_of_eq hul)]
    refine r_iload (q := 197) dX12_acted_195 rfl rfl ?_
    refine r_iload (q := 199) dX12_acted_197 rfl rfl ?_
    refine r_icmp_geN (q := 202) (t := 256) (by omega) (by omega) dX12_acted_199 (by decide) rfl (fun h199 => ?_) (fun h199 => absurd h199 (by omega))
    exact K
  | succ d ih =>
    intro k hk
    have hku : k < ((pt W p).take j ++ (tl W s).getD t [] :: (pt W p).drop (j + 1)).length := by omega
    have hsplit : (a + 1) :: ((pt W p).take j ++ (tl W s).getD t [] :: (pt W p).drop (j + 1)).flatten = (((a + 1) :: (((pt W p).take j ++ (tl W s).getD t [] :: (pt W p).drop (j + 1)).take k).flatten) ++ ((pt W p).take j ++ (tl W s).getD t [] :: (pt W p).drop (j + 1)).getD k []) ++ (((pt W p).take j ++ (tl W s).getD t [] :: (pt W p).drop (j + 1)).drop (k + 1)).flatten := by
      rw [List.cons_append, List.cons_append]
      exact congrArg ((a + 1) :: ·) (flat_cut hku)
    have hnext : ((a + 1) :: (((pt W p).take j ++ (tl W s).getD t [] :: (pt W p).drop (j + 1)).take k).flatten) ++ ((pt W p).take j ++ (tl W s).getD t [] :: (pt W p).drop (j + 1)).getD k [] = (a + 1) :: (((pt W p).take j ++ (tl W s).getD t [] :: (pt W p).drop (j + 1)).take (k + 1)).flatten := by
      rw [List.cons_append]
      exact congrArg ((a + 1) :: ·) (flat_snoc hku)
    have t1 : ∀ z, z ∈ ((a + 1) :: (((pt W p).take j ++ (tl W s).getD t [] :: (pt W p).drop (j + 1)).take k).flatten) → z ≤ 3 := fun z hz => htok z (by rw [hsplit]; exact List.mem_append_left _ (List.mem_append_left _ hz))
    have t2 : ∀ z, z ∈ ((pt W p).take j ++ (tl W s).getD t [] :: (pt W p).drop (j + 1)).getD k [] → z ≤ 3 := fun z hz => htok z (by rw [hsplit]; exact List.mem_append_left _ (List.mem_append_right _ hz))
    have t3 : ((a + 1) :: (((pt W p).take j ++ (tl W s).getD t [] :: (pt W p).drop (j + 1)).take k).flatten).length + (((pt W p).take j ++ (tl W s).getD t [] :: (pt W p).drop (j + 1)).getD k []).length ≤ 14 := by
      have := congrArg List.length hsplit
      rw [List.length_append, List.length_append] at this
      omega
    have hget : ((pt W p).take j ++ (tl W s).getD t [] :: (pt W p).drop (j + 1)).getD k [] = if k = j then (tl W s).getD t [] else (pt W p).getD k [] := getD_setG (by omega)
    by_cases hkj : k = j
    · rw [if_pos hkj] at hget
      rw [hget] at t2 t3 hnext
      refine r_iload (q := 197) dX12_acted_195 rfl rfl ?_
      refine r_iload (q := 199) dX12_acted_197 rfl rfl ?_
      refine r_icmp_geN (q := 202) (t := 256) (by omega) (by omega) dX12_acted_199 (by decide) rfl (fun h199 => absurd h199 (by omega)) (fun h199 => ?_)
      refine r_iload (q := 204) dX12_acted_202 rfl rfl ?_
      refine r_iload (q := 206) dX12_acted_204 rfl rfl ?_
      refine r_iload (q := 208) dX12_acted_206 rfl rfl ?_
      refine r_icmp_neN (q := 211) (t := 239) (by omega) (by omega) dX12_acted_208 (by decide) rfl (fun h208 => absurd h208 (by omega)) (fun h208 => ?_)
      refine r_aload_n (q := 212) dX12_acted_211 rfl rfl rfl ?_
      refine r_getr (q := 215) (some (1328, 0)) ck12 dX12_acted_212 rfl (k := 28) (by decide) wt1306 rfl (hs.e (by decide)) (hs.r (by decide) (by decide)) ?_
      refine r_aload_n (q := 216) dX12_acted_215 rfl rfl rfl ?_
      refine r_getr (q := 219) (some (1325, 0)) ck12 dX12_acted_216 rfl (k := 25) (by decide) wt1303 rfl (hs.e (by decide)) (hs.r (by decide) (by decide)) ?_
      refine r_bipush (q := 221) (nI 8) dX12_acted_219 rfl (by decide) ?_
      refine r_iload_n (q := 222) dX12_acted_221 rfl rfl rfl ?_
      refine r_imulN (q := 223) dX12_acted_222 rfl ?_
      refine r_aload_n (q := 224) dX12_acted_223 rfl rfl rfl ?_
      refine r_getr (q := 227) (some (1336, 0)) ck12 dX12_acted_224 rfl (k := 36) (by decide) wt1314 rfl (hs.e (by decide)) (hs.r (by decide) (by decide)) ?_
      refine r_iload (q := 229) dX12_acted_227 rfl rfl ?_
      refine r_ialdN (q := 230) 8 (by decide) rfl dX12_acted_229 rfl (hs.e (by decide)) (hs.n rfl (by decide)) (by omega) (by decide) ?_
      refine r_topi (y := nI s) p1 ?_
      refine r_iaddN (q := 231) dX12_acted_230 rfl ?_
      refine r_ialdN (q := 232) 16 (by decide) rfl dX12_acted_231 rfl (hs.e (by decide)) (hs.n rfl (by decide)) (by omega) (by decide) ?_
      refine r_topi (y := nI (FqR q W s)) c1 ?_
      refine r_iload (q := 234) dX12_acted_232 rfl rfl ?_
      refine r_iaddN (q := 235) dX12_acted_234 rfl ?_
      refine r_ialdN (q := 236) 4400 (by decide) rfl dX12_acted_235 rfl (hs.e (by decide)) (hs.n rfl (by decide)) (by omega) (by decide) ?_
      refine r_topi (y := nI (cd ((tl W s).getD t []))) c4 ?_
      refine r_goto (q := 245) dX12_acted_236 (by decide) ?_
      refine r_callS (Mc := mX12_join) (q := 248) (As := [zi (nI (cd ((a + 1) :: (((pt W p).take j ++ (tl W s).getD t [] :: (pt W p).drop (j + 1)).take k).flatten))), zi (nI (cd ((tl W s).getD t [])))]) (st := []) dX12_acted_245 rfl rfl mkX12_join wt1792 wt1793 rfl (Nat.le_of_ble_eq_true rfl) (Nat.le_of_ble_eq_true rfl) (by decide) (by decide) (by decide) (Or.inl rfl) hs.some (ok_X12_join t1 t2 t3) (fun r245 S245 hp245 => ?_)
      rw [hnext] at hp245
      obtain ⟨rfl, hq245⟩ := hp245
      rw [hq245]
      show Ok _ _ _ [zi (nI (cd ((a + 1) :: (((pt W p).take j ++ (tl W s).getD t [] :: (pt W p).drop (j + 1)).take (k + 1)).flatten)))] _ _
      refine r_istore (q := 250) (L' := [some (zr 12 0), some (zi (nI q)), some (zi (nI n)), some (zi (nI a)), some (zi (nI (we W a))), some (zi (nI j)), some (zi x6), some (zi x7), some (zi x8), some (zi (nI t)), some (zi (nI (cd ((a + 1) :: (((pt W p).take j ++ (tl W s).getD t [] :: (pt W p).drop (j + 1)).take (k + 1)).flatten)))), some (zi (nI k))]) dX12_acted_248 rfl (by decide) rfl ?_
      refine r_iincN (q := 253) (L' := [some (zr 12 0), some (zi (nI q)), some (zi (nI n)), some (zi (nI a)), some (zi (nI (we W a))), some (zi (nI j)), some (zi x6), some (zi x7), some (zi x8), some (zi (nI t)), some (zi (nI (cd ((a + 1) :: (((pt W p).take j ++ (tl W s).getD t [] :: (pt W p).drop (j + 1)).take (k + 1)).flatten)))), some (zi (nI (k + 1)))]) 1 rfl dX12_acted_250 rfl rfl (by decide) rfl ?_
      refine r_goto (q := 195) dX12_acted_253 (by decide) ?_
      exact ih (k + 1) (by omega)
    · rw [if_neg hkj] at hget
      rw [hget] at t2 t3 hnext
      have hgk : (pt W p).getD k [] = (tl W (((cmp (we W a) n).getD i []).getD k 0)).getD (ks.getD k 0) [] := by
        rw [hp]; exact pt_get _ _ k (by rw [hg.1]; exact hPS.2.2.2.2.1) (by rw [hg.1]; omega)
      refine r_iload (q := 197) dX12_acted_195 rfl rfl ?_
      refine r_iload (q := 199) dX12_acted_197 rfl rfl ?_
      refine r_icmp_geN (q := 202) (t := 256) (by omega) (by omega) dX12_acted_199 (by decide) rfl (fun h199 => absurd h199 (by omega)) (fun h199 => ?_)
      refine r_iload (q := 204) dX12_acted_202 rfl rfl ?_
      refine r_iload (q := 206) dX12_acted_204 rfl rfl ?_
      refine r_iload (q := 208) dX12_acted_206 rfl rfl ?_
      refine r_icmp_neN (q := 211) (t := 239) (by omega) (by omega) dX12_acted_208 (by decide) rfl (fun h208 => ?_) (fun h208 => absurd h208 (by omega))
      refine r_aload_n (q := 240) dX12_acted_239 rfl rfl rfl ?_
      refine r_iload (q := 242) dX12_acted_240 rfl rfl ?_
      refine r_callV (Mc := mX12_partCode) (q := 245) (As := [zi (nI k)]) (st := [zi (nI (cd ((a + 1) :: (((pt W p).take j ++ (tl W s).getD t [] :: (pt W p).drop (j + 1)).take k).flatten)))]) ck12 dX12_acted_242 rfl rfl mkX12_partCode wt1788 wt1790 wp108 rfl (Nat.le_of_ble_eq_true rfl) (Nat.le_of_ble_eq_true rfl) (by decide) (by decide) (by decide) (Or.inl rfl) (hs.e (by decide)) (ok_partCode hs hq (by omega) (by omega) hn7 hPS hC (show k < we W a by omega)) (fun r242 S242 hp242 => ?_)
      rw [← hgk] at hp242
      obtain ⟨rfl, hq242⟩ := hp242
      rw [hq242]
      show Ok _ _ _ [zi (nI (cd ((pt W p).getD k []))), zi (nI (cd ((a + 1) :: (((pt W p).take j ++ (tl W s).getD t [] :: (pt W p).drop (j + 1)).take k).flatten)))] _ _
      refine r_callS (Mc := mX12_join) (q := 248) (As := [zi (nI (cd ((a + 1) :: (((pt W p).take j ++ (tl W s).getD t [] :: (pt W p).drop (j + 1)).take k).flatten))), zi (nI (cd ((pt W p).getD k [])))]) (st := []) dX12_acted_245 rfl rfl mkX12_join wt1792 wt1793 rfl (Nat.le_of_ble_eq_true rfl) (Nat.le_of_ble_eq_true rfl) (by decide) (by decide) (by decide) (Or.inl rfl) hs.some (ok_X12_join t1 t2 t3) (fun r245 S245 hp245 => ?_)
      rw [hnext] at hp245
      obtain ⟨rfl, hq245⟩ := hp245
      rw [hq245]
      show Ok _ _ _ [zi (nI (cd ((a + 1) :: (((pt W p).take j ++ (tl W s).getD t [] :: (pt W p).drop (j + 1)).take (k + 1)).flatten)))] _ _
      refine r_istore (q := 250) (L' := [some (zr 12 0), some (zi (nI q)), some (zi (nI n)), some (zi (nI a)), some (zi (nI (we W a))), some (zi (nI j)), some (zi x6), some (zi x7), some (zi x8), some (zi (nI t)), some (zi (nI (cd ((a + 1) :: (((pt W p).take j ++ (tl W s).getD t [] :: (pt W p).drop (j + 1)).take (k + 1)).flatten)))), some (zi (nI k))]) dX12_acted_248 rfl (by decide) rfl ?_
      refine r_iincN (q := 253) (L' := [some (zr 12 0), some (zi (nI q)), some (zi (nI n)), some (zi (nI a)), some (zi (nI (we W a))), some (zi (nI j)), some (zi x6), some (zi x7), some (zi x8), some (zi (nI t)), some (zi (nI (cd ((a + 1) :: (((pt W p).take j ++ (tl W s).getD t [] :: (pt W p).drop (j + 1)).take (k + 1)).flatten)))), some (zi (nI (k + 1)))]) 1 rfl dX12_acted_250 rfl rfl (by decide) rfl ?_
      refine r_goto (q := 195) dX12_acted_253 (by decide) ?_
      exact ih (k + 1) (by omega)

set_option maxRecDepth 100000 in
theorem lp_ac162 {W : zWd} (hW : Wok W) {q n a j : Nat} (hq : q ≤ 1) (hn7 : n ≤ 7) (ha : a < wA W) (hj : j < we W a) {pvs : Nat → Nat → Bool} {bss : Nat → Nat → Nat → Nat} {i s k0 : Nat} {ks : List Nat} {p : List Nat × List Nat} (hp : p = (((cmp (we W a) n).getD i []), ks)) (hsj : s = p.1.getD j 0) (hk0 : k0 < (tl W s).length) (hpv : pvs s k0 = true) (hbn300 : (tl W n).length ≤ 300) (hF4n : FqR q W n + (tl W n).length ≤ 4400) {x6 : Int32} {Po : Option zV → zS → Prop} : ∀ (d t : Nat) (S : zS) (v : Nat → Nat) (w10 w11 : Option zV), t + d = (tl W s).length → EnvR S W q n pvs bss → PS S q (we W a) n (bdW W) i ks → Vr S (tl W n).length (wP W) v → AccV (wP W) (tl W n) v (mp (cx a ((pt W p).take j) ((pt W p).drop (j + 1))) (lowS (tl W s) (bss s k0) t)) → (∀ z, z < (tl W n).length → (∀ c, c < t → (tl W n).getD z [] ≠ (cx a ((pt W p).take j) ((pt W p).drop (j + 1))) ((tl W s).getD c [])) → v z = 0) → (∀ S1 v1 w9 w10 w11, Fr tRv S S1 → Vr S1 (tl W n).length (wP W) v1 → AccV (wP W) (tl W n) v1 (mp (cx a ((pt W p).take j) ((pt W p).drop (j + 1))) (V (tl W s) (RR (bss s) k0))) → Ok mX12_acted 285 [some (zr 12 0), some (zi (nI q)), some (zi (nI n)), some (zi (nI a)), some (zi (nI (we W a))), some (zi (nI j)), some (zi x6), some (zi (nI (tl W s).length)), some (zi (nI (RFq q W s + k0 * (tl W s).length))), w9, w10, w11] [] S1 Po) → Ok mX12_acted 162 [some (zr 12 0), some (zi (nI q)), some (zi (nI n)), some (zi (nI a)), some (zi (nI (we W a))), some (zi (nI j)), some (zi x6), some (zi (nI (tl W s).length)), some (zi (nI (RFq q W s + k0 * (tl W s).length))), some (zi (nI t)), w10, w11] [] S Po := by
  have hE := hW.2.1
  have he := hE.2 a ha
  have ha3 : a < 3 := Nat.lt_of_lt_of_le ha hE.1
  intro d
  induction d with
  | zero =>
    intro t S v w10 w11 htd hE1 hPS hV hA hz K
    obtain rfl : t = (tl W s).length := by omega
    have hs := hE1.1
    have hls : (tl W s).length ≤ 300 := by
      have hg := cmp_get hPS.1 (show 2 ≤ we W a by omega)
      have hmem : p ∈ allF (bdW W) (cmp (we W a) n) := by rw [hp]; exact PS.mem (by omega) hPS
      have hsn : s < n := by rw [hsj, hp]; exact (hg.2.2 j hj).2
      have hs1 : 1 ≤ s := by rw [hsj, hp]; exact (hg.2.2 j hj).1
      exact (hE1.2.2.2.1 s hs1 hsn).2
    refine r_mask [true, true, true, true, true, true, true, true, true, true, false, false] rfl ?_
    refine r_iload (q := 164) dX12_acted_162 rfl rfl ?_
    refine r_iload (q := 166) dX12_acted_164 rfl rfl ?_
    refine r_icmp_geN (q := 169) (t := 285) (by omega) (by omega) dX12_acted_166 (by decide) rfl (fun h166 => ?_) (fun h166 => absurd h166 (by omega))
    exact K S v _ _ _ Fr.rf hV hA
  | succ d ih =>
    intro t S v w10 w11 htd hE1 hPS hV hA hz K
    have hs := hE1.1
    have ht : t < (tl W s).length := by omega
    have hg := cmp_get hPS.1 (show 2 ≤ we W a by omega)
    have hmem : p ∈ allF (bdW W) (cmp (we W a) n) := by rw [hp]; exact PS.mem (by omega) hPS
    have hsn : s < n := by rw [hsj, hp]; exact (hg.2.2 j hj).2
    have hs1 : 1 ≤ s := by rw [hsj, hp]; exact (hg.2.2 j hj).1
    obtain ⟨g1, g2, g3, g4, g5, g6, g7, g8⟩ := pt_parts hE hmem hj
    rw [← hsj] at g4 g5 g6 g7
    obtain ⟨b1, b2, b3, b4, b5, b6, b7, b8, b9⟩ := hE1.2.2.2.2.2.2 s hs1 hsn
    have hb := ((b9 k0 hk0 hpv).1 t ht).1
    have hbP := ((b9 k0 hk0 hpv).1 t ht).2
    have hrow := row_in hk0 ht
    have hP97 := hW.1.2.1
    obtain ⟨l1, l2, l3, rr, l4, l5⟩ := hE1.2.2.2.2.1
    have hbn : (tl W n).length ≤ 300 := hbn300
    obtain ⟨ix, hix, hixe⟩ := mem_idx ((tl_mem hE).mpr (cx_tr2 ha g1 g2 g3 g4 (tl_tr hE ht)))
    refine r_mask [true, true, true, true, true, true, true, true, true, true, false, false] rfl ?_
    by_cases h0 : bss s k0 t = 0
    · rw [h0] at hb
      refine r_iload (q := 164) dX12_acted_162 rfl rfl ?_
      refine r_iload (q := 166) dX12_acted_164 rfl rfl ?_
      refine r_icmp_geN (q := 169) (t := 285) (by omega) (by omega) dX12_acted_166 (by decide) rfl (fun h166 => absurd h166 (by omega)) (fun h166 => ?_)
      refine r_aload_n (q := 170) dX12_acted_169 rfl rfl rfl ?_
      refine r_getr (q := 173) (some (1331, 0)) ck12 dX12_acted_170 rfl (k := 31) (by decide) wt1309 rfl (hs.e (by decide)) (hs.r (by decide) (by decide)) ?_
      refine r_iload (q := 175) dX12_acted_173 rfl rfl ?_
      refine r_iload (q := 177) dX12_acted_175 rfl rfl ?_
      refine r_iaddN (q := 178) dX12_acted_177 rfl ?_
      refine r_ialdN (q := 179) 400000 (by decide) rfl dX12_acted_178 rfl (hs.e (by decide)) (hs.n rfl (by decide)) (by omega) (by decide) ?_
      refine r_topi (y := nI 0) hb ?_
      refine r_if_neN (q := 182) (t := 185) (by omega) dX12_acted_179 (by decide) rfl (fun h179 => absurd h179 (by omega)) (fun h179 => ?_)
      refine r_goto (q := 279) dX12_acted_182 (by decide) ?_
      refine r_iincN (q := 282) (L' := [some (zr 12 0), some (zi (nI q)), some (zi (nI n)), some (zi (nI a)), some (zi (nI (we W a))), some (zi (nI j)), some (zi x6), some (zi (nI ((tl W s).length))), some (zi (nI (RFq q W s + k0 * (tl W s).length))), some (zi (nI (t + 1))), none, none]) 1 rfl dX12_acted_279 rfl rfl (by decide) rfl ?_
      refine r_goto (q := 162) dX12_acted_282 (by decide) ?_
      exact ih (t + 1) S v _ _ (by omega) hE1 hPS hV (by rw [mp_lowS, h0]; exact acc_zero hA _) (fun z z1 z2 => hz z z1 (fun c hc => z2 c (by omega))) K
    · skip
      refine r_iload (q := 164) dX12_acted_162 rfl rfl ?_
      refine r_iload (q := 166) dX12_acted_164 rfl rfl ?_
      refine r_icmp_geN (q := 169) (t := 285) (by omega) (by omega) dX12_acted_166 (by decide) rfl (fun h166 => absurd h166 (by omega)) (fun h166 => ?_)
      refine r_aload_n (q := 170) dX12_acted_169 rfl rfl rfl ?_
      refine r_getr (q := 173) (some (1331, 0)) ck12 dX12_acted_170 rfl (k := 31) (by decide) wt1309 rfl (hs.e (by decide)) (hs.r (by decide) (by decide)) ?_
      refine r_iload (q := 175) dX12_acted_173 rfl rfl ?_
      refine r_iload (q := 177) dX12_acted_175 rfl rfl ?_
      refine r_iaddN (q := 178) dX12_acted_177 rfl ?_
      refine r_ialdN (q := 179) 400000 (by decide) rfl dX12_acted_178 rfl (hs.e (by decide)) (hs.n rfl (by decide)) (by omega) (by decide) ?_
      refine r_topi (y := nI (bss s k0 t)) hb ?_
      refine r_if_neN (q := 182) (t := 185) (by omega) dX12_acted_179 (by decide) rfl (fun h179 => ?_) (fun h179 => absurd h179 (by omega))
      refine r_iconst (q := 186) (nI 4) dX12_acted_185 rfl (by decide) ?_
      refine r_iload_n (q := 187) dX12_acted_186 rfl rfl rfl ?_
      refine r_iconst (q := 188) (nI 1) dX12_acted_187 rfl (by decide) ?_
      refine r_iaddN (q := 189) dX12_acted_188 rfl ?_
      refine r_ior (q := 190) dX12_acted_189 rfl ?_
      refine r_topi (y := nI (cd ((a + 1) :: (((pt W p).take j ++ (tl W s).getD t [] :: (pt W p).drop (j + 1)).take 0).flatten))) (or4 ha3) ?_
      refine r_istore (q := 192) (L' := [some (zr 12 0), some (zi (nI q)), some (zi (nI n)), some (zi (nI a)), some (zi (nI (we W a))), some (zi (nI j)), some (zi x6), some (zi (nI ((tl W s).length))), some (zi (nI (RFq q W s + k0 * (tl W s).length))), some (zi (nI t)), some (zi (nI (cd ((a + 1) :: (((pt W p).take j ++ (tl W s).getD t [] :: (pt W p).drop (j + 1)).take 0).flatten)))), none]) dX12_acted_190 rfl (by decide) rfl ?_
      refine r_iconst (q := 193) (nI 0) dX12_acted_192 rfl (by decide) ?_
      refine r_istore (q := 195) (L' := [some (zr 12 0), some (zi (nI q)), some (zi (nI n)), some (zi (nI a)), some (zi (nI (we W a))), some (zi (nI j)), some (zi x6), some (zi (nI ((tl W s).length))), some (zi (nI (RFq q W s + k0 * (tl W s).length))), some (zi (nI t)), some (zi (nI (cd ((a + 1) :: (((pt W p).take j ++ (tl W s).getD t [] :: (pt W p).drop (j + 1)).take 0).flatten)))), some (zi (nI 0))]) dX12_acted_193 rfl (by decide) rfl ?_
      refine lp_ac195 hW hq hn7 ha hj hp hsj ht hE1 hPS ?_ (we W a) 0 (by omega)
      rw [← hixe]
      refine r_aload_n (q := 257) dX12_acted_256 rfl rfl rfl ?_
      refine r_getr (q := 260) (some (1341, 0)) ck12 dX12_acted_257 rfl (k := 41) (by decide) wt1319 rfl (hs.e (by decide)) (hs.r (by decide) (by decide)) ?_
      refine r_aload_n (q := 261) dX12_acted_260 rfl rfl rfl ?_
      refine r_iload_n (q := 262) dX12_acted_261 rfl rfl rfl ?_
      refine r_iload_n (q := 263) dX12_acted_262 rfl rfl rfl ?_
      refine r_iload (q := 265) dX12_acted_263 rfl rfl ?_
      refine r_callV (Mc := mX12_place) (q := 268) (As := [zi (nI q), zi (nI n), zi (nI (cd ((tl W n).getD ix [])))]) (st := [zr 1341 0]) ck12 dX12_acted_265 rfl rfl mkX12_place wt1816 wt1818 wp114 rfl (Nat.le_of_ble_eq_true rfl) (Nat.le_of_ble_eq_true rfl) (by decide) (by decide) (by decide) (Or.inl rfl) (hs.e (by decide)) (ok_place hq hn7 hbn hF4n hs l1 l2 l3 l4 l5 hix) (fun r265 S265 hp265 => ?_)
      obtain ⟨rfl, hq265⟩ := hp265
      rw [hq265]
      show Ok _ _ _ [zi (nI ix), zr 1341 0] _ _
      refine r_aload_n (q := 269) dX12_acted_268 rfl rfl rfl ?_
      refine r_getr (q := 272) (some (1331, 0)) ck12 dX12_acted_269 rfl (k := 31) (by decide) wt1309 rfl (hs.e (by decide)) (hs.r (by decide) (by decide)) ?_
      refine r_iload (q := 274) dX12_acted_272 rfl rfl ?_
      refine r_iload (q := 276) dX12_acted_274 rfl rfl ?_
      refine r_iaddN (q := 277) dX12_acted_276 rfl ?_
      refine r_ialdN (q := 278) 400000 (by decide) rfl dX12_acted_277 rfl (hs.e (by decide)) (hs.n rfl (by decide)) (by omega) (by decide) ?_
      refine r_topi (y := nI (bss s k0 t)) hb ?_
      refine r_iastN (q := 279) 300 (by decide) rfl dX12_acted_278 rfl (hs.e (by decide)) (hs.n rfl (by decide)) (by omega) (by decide) ?_
      refine r_iincN (q := 282) (L' := [some (zr 12 0), some (zi (nI q)), some (zi (nI n)), some (zi (nI a)), some (zi (nI (we W a))), some (zi (nI j)), some (zi x6), some (zi (nI ((tl W s).length))), some (zi (nI (RFq q W s + k0 * (tl W s).length))), some (zi (nI (t + 1))), some (zi (nI (cd ((tl W n).getD ix [])))), some (zi (nI (we W a)))]) 1 rfl dX12_acted_279 rfl rfl (by decide) rfl ?_
      refine r_goto (q := 162) dX12_acted_282 (by decide) ?_
      have f1 : Fr tRv S (sI S 1341 0 ix (nI (bss s k0 t))) := (Fr.rf).i rfl
      have hvz : v ix = 0 := hz ix hix (fun c hc e => by
        rw [hixe] at e
        have e2 : (tl W s).getD t [] = (tl W s).getD c [] := by
          unfold cx at e
          exact List.append_cancel_left (List.append_cancel_right e)
        have := getD_inj tl_nodup ht (show c < (tl W s).length by omega) e2
        omega)
      refine ih (t + 1) _ _ _ _ (by omega) (hE1.fr hE (f1.mono tAc_rv)) (hPS.fr f1 ⟨rfl, rfl, fun _ => ⟨rfl, rfl⟩⟩) (hV.set hbP) (by rw [mp_lowS, ← hixe]; exact acc_setN tl_nodup hA hix hvz) (fun z z1 z2 => ?_) (fun S1 v1 w9 w10 w11 y1 y2 y3 => K S1 v1 w9 w10 w11 (f1.tr y1) y2 y3)
      show (if z = ix then bss s k0 t else v z) = 0
      rw [if_neg (fun e => z2 t (by omega) (by rw [e]; exact hixe))]
      exact hz z z1 (fun c hc => z2 c (by omega))

