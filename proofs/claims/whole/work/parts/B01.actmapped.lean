/-! actMapped: the image of an act, with vectors in its entries -/
def SvR (W : zWd) : List zV2 → List zL → Prop
  | [], Ss => Ss = []
  | x :: L, Ss => ∃ s Ts, Ss = s :: Ts ∧ AccV (wP W) (tl W x.1) x.2 s ∧ (∀ p, p ∈ s → Tr (wA W) (we W) x.1 p.1) ∧ SvR W L Ts
theorem SvR.len {W : zWd} : ∀ {L : List zV2} {Ss : List zL}, SvR W L Ss → Ss.length = L.length
  | [], Ss, h => by have : Ss = [] := h; rw [this]; rfl
  | x :: L, Ss, h => by
    obtain ⟨s, Ts, rfl, _, _, h2⟩ := h
    rw [List.length_cons, List.length_cons, h2.len]
theorem SvR.take {W : zWd} : ∀ {L : List zV2} {Ss : List zL} (k : Nat), SvR W L Ss → SvR W (L.take k) (Ss.take k)
  | L, Ss, 0, _ => by rw [List.take_zero, List.take_zero]; rfl
  | [], Ss, k + 1, h => by have : Ss = [] := h; rw [this]; rfl
  | x :: L, Ss, k + 1, h => by
    obtain ⟨s, Ts, rfl, h1, h2, h3⟩ := h
    exact ⟨s, Ts.take k, rfl, h1, h2, h3.take k⟩
theorem SvR.drop {W : zWd} : ∀ {L : List zV2} {Ss : List zL} (k : Nat), SvR W L Ss → SvR W (L.drop k) (Ss.drop k)
  | L, Ss, 0, h => h
  | [], Ss, k + 1, h => by have : Ss = [] := h; rw [this]; rfl
  | x :: L, Ss, k + 1, h => by
    obtain ⟨s, Ts, rfl, h1, h2, h3⟩ := h
    exact h3.drop k
theorem SvR.li {W : zWd} (hE : Eok (wA W) (we W)) : ∀ {L : List zV2} {Ss : List zL}, SvR W L Ss → LiS (wP W) (VnL W L) Ss
  | [], Ss, h => h
  | x :: L, Ss, h => by
    obtain ⟨s, Ts, rfl, h1, h2, h3⟩ := h
    exact ⟨s, Ts, rfl, (acc_li tl_nodup h1 (fun p hp => (tl_mem hE).mpr (h2 p hp))).sy, h3.li hE⟩
theorem SvR.sst {W : zWd} : ∀ {L : List zV2} {Ss : List zL}, SvR W L Ss → SsT (wA W) (we W) Ss (lvl L)
  | [], Ss, h => by have : Ss = [] := h; rw [this]; rfl
  | x :: L, Ss, h => by
    obtain ⟨s, Ts, rfl, h1, h2, h3⟩ := h
    exact ⟨x.1, lvl L, rfl, h2, h3.sst⟩
theorem SvR.get {W : zWd} : ∀ {L : List zV2} {Ss : List zL} {k : Nat}, SvR W L Ss → k < L.length → ∃ s, Ss.drop k = s :: Ss.drop (k + 1) ∧ AccV (wP W) (tl W (L.getD k zv0).1) (L.getD k zv0).2 s ∧ ∀ p, p ∈ s → Tr (wA W) (we W) (L.getD k zv0).1 p.1
  | [], Ss, k, _, hk => absurd hk (by simp)
  | x :: L, Ss, 0, h, _ => by
    obtain ⟨s, Ts, rfl, h1, h2, h3⟩ := h
    exact ⟨s, rfl, h1, h2⟩
  | x :: L, Ss, k + 1, h, hk => by
    obtain ⟨s, Ts, rfl, h1, h2, h3⟩ := h
    obtain ⟨s', e1, e2, e3⟩ := h3.get (k := k) (by simpa using hk)
    exact ⟨s', e1, e2, e3⟩
theorem acc_bd {P : Nat} {T : List (List Nat)} {m w : Nat → Nat} {u s : zL} {x : Nat} (h : AccV P T m u) (g : AccV P T w s) : AccV P T (fun j => (m j + x * w j) % P) (u ++ scl (x : Int) s) := fun j hj => by
  show (P : Int) ∣ (((m j + x * w j) % P : Nat) : Int) - _
  rw [co_app, co_sc, Int.natCast_emod, Int.natCast_add, Int.natCast_mul]
  refine dvd_tr (emod_dvd _ _) ?_
  rw [show (m j : Int) + (x : Int) * (w j : Int) - (co u (T.getD j []) + (x : Int) * co s (T.getD j [])) = ((m j : Int) - co u (T.getD j [])) + ((x : Int) * (w j : Int) - (x : Int) * co s (T.getD j [])) by omega]
  exact Int.dvd_add (h j hj) (dvd_mulL (g j hj))
theorem sum_drop_s {l : List Nat} {k : Nat} (h : k < l.length) : (l.drop k).sum = l.getD k 0 + (l.drop (k + 1)).sum := by
  rw [List.drop_eq_getElem_cons h, List.sum_cons, List.getD_eq_getElem?_getD, List.getElem?_eq_getElem h]
  rfl
theorem sum_td {l : List Nat} {k : Nat} : (l.take k).sum + (l.drop k).sum = l.sum := by
  rw [← List.sum_append, List.take_append_drop]
def tAm (a b k : Nat) : Bool := tGf a b k || b == 0 && (a == 1373 || a == 1374 || a == 1383 || a == 1316 || a == 12 && (k == 80 || k == 20))
theorem tAm_g (a b k : Nat) (h : tGf a b k = true) : tAm a b k = true := by simp [tAm, h]
theorem stk_len {S : zS} {W : zWd} {a lf : Nat} {L : List zV2} (h : Stk S W a lf L) : ∀ {m : Nat}, m ≤ L.length → m ≤ ((lvl L).take m).sum
  | 0, _ => Nat.zero_le _
  | m + 1, hm => by
    have hl : m < (lvl L).length := by unfold lvl; rw [List.length_map]; omega
    have := stk_len h (m := m) (by omega)
    have h1 := (h m (by omega)).1
    rw [sum_take_s hl, lvl_get (by omega)]
    omega
theorem lvl_len {L : List zV2} : (lvl L).length = L.length := List.length_map _
theorem lvl_le {L : List zV2} {k : Nat} (hk : k < L.length) : (L.getD k zv0).1 ≤ (lvl L).sum := by
  have h1 := sum_take_s (l := lvl L) (k := k) (by rw [lvl_len]; exact hk)
  rw [lvl_get hk] at h1
  have h2 := sum_td (l := lvl L) (k := k + 1)
  omega

set_option maxRecDepth 100000 in
theorem lp_am24 {Wk : zWd} (hK : Wok Wk) {a e n : Nat} {Lo : List zV2} (hL7 : Lo.length ≤ 7) (he2 : 2 ≤ e) (he4 : e ≤ 4) (heL : e ≤ Lo.length) (ha3 : a < 3) (hn : ((lvl Lo).take e).sum = n) (hn7 : n ≤ 7) {N : Nat} (hN7 : N ≤ 7) (hnN : n ≤ N) (hlN : ∀ k, k < Lo.length → (Lo.getD k zv0).1 ≤ N) {Po : Option zV → zS → Prop} {S : zS} (hs : Sd S) (hst : Stk S Wk 1373 1374 Lo) (h80 : gI S 12 0 80 = nI Lo.length) (K : Ok mX12_actMapped 55 [some (zr 12 0), some (zi (nI a)), some (zi (nI e)), some (zi (nI (wP Wk))), some (zi (nI n)), some (zi (nI e)), none, none, none, none] [] S Po) : ∀ (d k : Nat), k + d = e → Ok mX12_actMapped 24 [some (zr 12 0), some (zi (nI a)), some (zi (nI e)), some (zi (nI (wP Wk))), some (zi (nI (((lvl Lo).take k).sum))), some (zi (nI k)), none, none, none, none] [] S Po := by
  intro d
  induction d with
  | zero =>
    intro k hk
    obtain rfl : k = e := by omega
    refine r_iload (q := 26) dX12_actMapped_24 rfl rfl ?_
    refine r_iload_n (q := 27) dX12_actMapped_26 rfl rfl rfl ?_
    refine r_icmp_geN (q := 30) (t := 55) (by omega) (by omega) dX12_actMapped_27 (by decide) rfl (fun h27 => ?_) (fun h27 => absurd h27 (by omega))
    rw [hn]; exact K
  | succ d ih =>
    intro k hk
    have h1 := (hst k (by omega)).2.1
    have hkL : k < (lvl Lo).length := by rw [lvl_len]; omega
    have h2 : ((lvl Lo).take (k + 1)).sum = ((lvl Lo).take k).sum + (Lo.getD k zv0).1 := by rw [sum_take_s hkL, lvl_get (by omega)]
    have h3 : ((lvl Lo).take (k + 1)).sum ≤ ((lvl Lo).take e).sum := sum_take_le (by omega)
    refine r_iload (q := 26) dX12_actMapped_24 rfl rfl ?_
    refine r_iload_n (q := 27) dX12_actMapped_26 rfl rfl rfl ?_
    refine r_icmp_geN (q := 30) (t := 55) (by omega) (by omega) dX12_actMapped_27 (by decide) rfl (fun h27 => absurd h27 (by omega)) (fun h27 => ?_)
    refine r_iload (q := 32) dX12_actMapped_30 rfl rfl ?_
    refine r_aload_n (q := 33) dX12_actMapped_32 rfl rfl rfl ?_
    refine r_getr (q := 36) (some (1374, 0)) ck12 dX12_actMapped_33 rfl (k := 74) (by decide) wt1352 rfl (hs.e (by decide)) (hs.r (by decide) (by decide)) ?_
    refine r_aload_n (q := 37) dX12_actMapped_36 rfl rfl rfl ?_
    refine r_geti (q := 40) ck12 dX12_actMapped_37 rfl (k := 80) (by decide) wt1358 (Or.inl rfl) (hs.e (by decide)) ?_
    refine r_topi (y := nI Lo.length) h80 ?_
    refine r_iconst (q := 41) (nI 1) dX12_actMapped_40 rfl (by decide) ?_
    refine r_isubN (q := 42) (by omega) dX12_actMapped_41 rfl ?_
    refine r_iload (q := 44) dX12_actMapped_42 rfl rfl ?_
    refine r_isubN (q := 45) (by omega) dX12_actMapped_44 rfl ?_
    refine r_ialdN (q := 46) 8 (by decide) rfl dX12_actMapped_45 rfl (hs.e (by decide)) (hs.n rfl (by decide)) (by omega) (by decide) ?_
    refine r_topi (y := nI ((Lo.getD k zv0).1)) h1 ?_
    refine r_iaddN (q := 47) dX12_actMapped_46 rfl ?_
    refine r_istore (q := 49) (L' := [some (zr 12 0), some (zi (nI a)), some (zi (nI e)), some (zi (nI (wP Wk))), some (zi (nI ((((lvl Lo).take k).sum) + ((Lo.getD k zv0).1)))), some (zi (nI k)), none, none, none, none]) dX12_actMapped_47 rfl (by decide) rfl ?_
    refine r_iincN (q := 52) (L' := [some (zr 12 0), some (zi (nI a)), some (zi (nI e)), some (zi (nI (wP Wk))), some (zi (nI ((((lvl Lo).take k).sum) + ((Lo.getD k zv0).1)))), some (zi (nI (k + 1))), none, none, none, none]) 1 rfl dX12_actMapped_49 rfl rfl (by decide) rfl ?_
    refine r_goto (q := 24) dX12_actMapped_52 (by decide) ?_
    rw [← h2]
    exact ih (k + 1) (by omega)

set_option maxRecDepth 100000 in
theorem lp_am58 {a e n m P : Nat} (hn7 : n ≤ 7) (hm : m ≤ 300) {Po : Option zV → zS → Prop} : ∀ (d k : Nat) (S : zS), k + d = m → Sd S → gI S 1324 0 (8 + n) = nI m → (∀ j, j < k → gI S 1383 0 j = nI 0) → (∀ S2, Fr (fun a b k => a == 1383 && b == 0) S S2 → (∀ j, j < m → gI S2 1383 0 j = nI 0) → Ok mX12_actMapped 87 [some (zr 12 0), some (zi (nI a)), some (zi (nI e)), some (zi (nI P)), some (zi (nI n)), some (zi (nI m)), none, none, none, none] [] S2 Po) → Ok mX12_actMapped 58 [some (zr 12 0), some (zi (nI a)), some (zi (nI e)), some (zi (nI P)), some (zi (nI n)), some (zi (nI k)), none, none, none, none] [] S Po := by
  intro d
  induction d with
  | zero =>
    intro k S hk hs h24 hz K
    obtain rfl : k = m := by omega
    refine r_iload (q := 60) dX12_actMapped_58 rfl rfl ?_
    refine r_aload_n (q := 61) dX12_actMapped_60 rfl rfl rfl ?_
    refine r_getr (q := 64) (some (1324, 0)) ck12 dX12_actMapped_61 rfl (k := 24) (by decide) wt1302 rfl (hs.e (by decide)) (hs.r (by decide) (by decide)) ?_
    refine r_bipush (q := 66) (nI 8) dX12_actMapped_64 rfl (by decide) ?_
    refine r_iload (q := 68) dX12_actMapped_66 rfl rfl ?_
    refine r_iaddN (q := 69) dX12_actMapped_68 rfl ?_
    refine r_ialdN (q := 70) 16 (by decide) rfl dX12_actMapped_69 rfl (hs.e (by decide)) (hs.n rfl (by decide)) (by omega) (by decide) ?_
    refine r_topi (y := nI k) h24 ?_
    refine r_icmp_geN (q := 73) (t := 87) (by omega) (by omega) dX12_actMapped_70 (by decide) rfl (fun h70 => ?_) (fun h70 => absurd h70 (by omega))
    exact K S Fr.rf hz
  | succ d ih =>
    intro k S hk hs h24 hz K
    refine r_iload (q := 60) dX12_actMapped_58 rfl rfl ?_
    refine r_aload_n (q := 61) dX12_actMapped_60 rfl rfl rfl ?_
    refine r_getr (q := 64) (some (1324, 0)) ck12 dX12_actMapped_61 rfl (k := 24) (by decide) wt1302 rfl (hs.e (by decide)) (hs.r (by decide) (by decide)) ?_
    refine r_bipush (q := 66) (nI 8) dX12_actMapped_64 rfl (by decide) ?_
    refine r_iload (q := 68) dX12_actMapped_66 rfl rfl ?_
    refine r_iaddN (q := 69) dX12_actMapped_68 rfl ?_
    refine r_ialdN (q := 70) 16 (by decide) rfl dX12_actMapped_69 rfl (hs.e (by decide)) (hs.n rfl (by decide)) (by omega) (by decide) ?_
    refine r_topi (y := nI m) h24 ?_
    refine r_icmp_geN (q := 73) (t := 87) (by omega) (by omega) dX12_actMapped_70 (by decide) rfl (fun h70 => absurd h70 (by omega)) (fun h70 => ?_)
    refine r_aload_n (q := 74) dX12_actMapped_73 rfl rfl rfl ?_
    refine r_getr (q := 77) (some (1383, 0)) ck12 dX12_actMapped_74 rfl (k := 83) (by decide) wt1361 rfl (hs.e (by decide)) (hs.r (by decide) (by decide)) ?_
    refine r_iload (q := 79) dX12_actMapped_77 rfl rfl ?_
    refine r_iconst (q := 80) (nI 0) dX12_actMapped_79 rfl (by decide) ?_
    refine r_iastN (q := 81) 300 (by decide) rfl dX12_actMapped_80 rfl (hs.e (by decide)) (hs.n rfl (by decide)) (by omega) (by decide) ?_
    refine r_iincN (q := 84) (L' := [some (zr 12 0), some (zi (nI a)), some (zi (nI e)), some (zi (nI P)), some (zi (nI n)), some (zi (nI (k + 1))), none, none, none, none]) 1 rfl dX12_actMapped_81 rfl rfl (by decide) rfl ?_
    refine r_goto (q := 58) dX12_actMapped_84 (by decide) ?_
    have f0 : Fr (fun a b k => a == 1383 && b == 0) S (sI S 1383 0 k (nI 0)) := Fr.rf.i rfl
    refine ih (k + 1) (sI S 1383 0 k (nI 0)) (by omega) hs ((f0.1 1324 0 (8 + n) rfl).trans h24) (fun j hj => ?_) (fun S2 f h => K S2 (f0.tr f) h)
    rw [gI_sI]
    by_cases e1 : j = k
    · rw [if_pos ⟨rfl, rfl, e1⟩]
    · rw [if_neg (fun z => e1 z.2.2)]; exact hz j (by omega)

set_option maxRecDepth 100000 in
theorem lp_am180 {a e n P t at0 to lv m : Nat} {x6 x7 : Int32} (ha0 : at0 ≤ 7) (hto : to ≤ 7) (hlv : lv ≤ 7) (hm : m ≤ 300) {Po : Option zV → zS → Prop} : ∀ (d k : Nat) (S : zS), k + d = m → Sd S → gI S 1324 0 (8 + lv) = nI m → gI S 1374 0 at0 = nI lv → gI S 12 0 81 = nI to → (∀ S2, Fr (fun a b k => a == 1375 && b == 0) S S2 → (∀ j, k ≤ j → j < m → gI S2 1375 0 (300 * to + j) = gI S 1373 0 (300 * at0 + j)) → (∀ j, (j < 300 * to + k ∨ 300 * to + m ≤ j) → gI S2 1375 0 j = gI S 1375 0 j) → Ok mX12_actMapped 236 [some (zr 12 0), some (zi (nI a)), some (zi (nI e)), some (zi (nI P)), some (zi (nI n)), some (zi (nI t)), some (zi x6), some (zi x7), some (zi (nI at0)), some (zi (nI m))] [] S2 Po) → Ok mX12_actMapped 180 [some (zr 12 0), some (zi (nI a)), some (zi (nI e)), some (zi (nI P)), some (zi (nI n)), some (zi (nI t)), some (zi x6), some (zi x7), some (zi (nI at0)), some (zi (nI k))] [] S Po := by
  intro d
  induction d with
  | zero =>
    intro k S hk hs h24 h74 h81 K
    obtain rfl : k = m := by omega
    refine r_iload (q := 182) dX12_actMapped_180 rfl rfl ?_
    refine r_aload_n (q := 183) dX12_actMapped_182 rfl rfl rfl ?_
    refine r_getr (q := 186) (some (1324, 0)) ck12 dX12_actMapped_183 rfl (k := 24) (by decide) wt1302 rfl (hs.e (by decide)) (hs.r (by decide) (by decide)) ?_
    refine r_bipush (q := 188) (nI 8) dX12_actMapped_186 rfl (by decide) ?_
    refine r_aload_n (q := 189) dX12_actMapped_188 rfl rfl rfl ?_
    refine r_getr (q := 192) (some (1374, 0)) ck12 dX12_actMapped_189 rfl (k := 74) (by decide) wt1352 rfl (hs.e (by decide)) (hs.r (by decide) (by decide)) ?_
    refine r_iload (q := 194) dX12_actMapped_192 rfl rfl ?_
    refine r_ialdN (q := 195) 8 (by decide) rfl dX12_actMapped_194 rfl (hs.e (by decide)) (hs.n rfl (by decide)) (by omega) (by decide) ?_
    refine r_topi (y := nI lv) h74 ?_
    refine r_iaddN (q := 196) dX12_actMapped_195 rfl ?_
    refine r_ialdN (q := 197) 16 (by decide) rfl dX12_actMapped_196 rfl (hs.e (by decide)) (hs.n rfl (by decide)) (by omega) (by decide) ?_
    refine r_topi (y := nI k) h24 ?_
    refine r_icmp_geN (q := 200) (t := 236) (by omega) (by omega) dX12_actMapped_197 (by decide) rfl (fun h197 => ?_) (fun h197 => absurd h197 (by omega))
    exact K S Fr.rf (fun j a b => absurd a (by omega)) (fun j _ => rfl)
  | succ d ih =>
    intro k S hk hs h24 h74 h81 K
    refine r_iload (q := 182) dX12_actMapped_180 rfl rfl ?_
    refine r_aload_n (q := 183) dX12_actMapped_182 rfl rfl rfl ?_
    refine r_getr (q := 186) (some (1324, 0)) ck12 dX12_actMapped_183 rfl (k := 24) (by decide) wt1302 rfl (hs.e (by decide)) (hs.r (by decide) (by decide)) ?_
    refine r_bipush (q := 188) (nI 8) dX12_actMapped_186 rfl (by decide) ?_
    refine r_aload_n (q := 189) dX12_actMapped_188 rfl rfl rfl ?_
    refine r_getr (q := 192) (some (1374, 0)) ck12 dX12_actMapped_189 rfl (k := 74) (by decide) wt1352 rfl (hs.e (by decide)) (hs.r (by decide) (by decide)) ?_
    refine r_iload (q := 194) dX12_actMapped_192 rfl rfl ?_
    refine r_ialdN (q := 195) 8 (by decide) rfl dX12_actMapped_194 rfl (hs.e (by decide)) (hs.n rfl (by decide)) (by omega) (by decide) ?_
    refine r_topi (y := nI lv) h74 ?_
    refine r_iaddN (q := 196) dX12_actMapped_195 rfl ?_
    refine r_ialdN (q := 197) 16 (by decide) rfl dX12_actMapped_196 rfl (hs.e (by decide)) (hs.n rfl (by decide)) (by omega) (by decide) ?_
    refine r_topi (y := nI m) h24 ?_
    refine r_icmp_geN (q := 200) (t := 236) (by omega) (by omega) dX12_actMapped_197 (by decide) rfl (fun h197 => absurd h197 (by omega)) (fun h197 => ?_)
    refine r_aload_n (q := 201) dX12_actMapped_200 rfl rfl rfl ?_
    refine r_getr (q := 204) (some (1375, 0)) ck12 dX12_actMapped_201 rfl (k := 75) (by decide) wt1353 rfl (hs.e (by decide)) (hs.r (by decide) (by decide)) ?_
    refine r_sipush (q := 207) (nI 300) dX12_actMapped_204 rfl (by decide) ?_
    refine r_aload_n (q := 208) dX12_actMapped_207 rfl rfl rfl ?_
    refine r_geti (q := 211) ck12 dX12_actMapped_208 rfl (k := 81) (by decide) wt1359 (Or.inl rfl) (hs.e (by decide)) ?_
    refine r_topi (y := nI to) h81 ?_
    refine r_imulN (q := 212) dX12_actMapped_211 rfl ?_
    refine r_iload (q := 214) dX12_actMapped_212 rfl rfl ?_
    refine r_iaddN (q := 215) dX12_actMapped_214 rfl ?_
    refine r_aload_n (q := 216) dX12_actMapped_215 rfl rfl rfl ?_
    refine r_getr (q := 219) (some (1373, 0)) ck12 dX12_actMapped_216 rfl (k := 73) (by decide) wt1351 rfl (hs.e (by decide)) (hs.r (by decide) (by decide)) ?_
    refine r_sipush (q := 222) (nI 300) dX12_actMapped_219 rfl (by decide) ?_
    refine r_iload (q := 224) dX12_actMapped_222 rfl rfl ?_
    refine r_imulN (q := 225) dX12_actMapped_224 rfl ?_
    refine r_iload (q := 227) dX12_actMapped_225 rfl rfl ?_
    refine r_iaddN (q := 228) dX12_actMapped_227 rfl ?_
    refine r_ialdN (q := 229) 2400 (by decide) rfl dX12_actMapped_228 rfl (hs.e (by decide)) (hs.n rfl (by decide)) (by omega) (by decide) ?_
    refine r_iastN (q := 230) 2400 (by decide) rfl dX12_actMapped_229 rfl (hs.e (by decide)) (hs.n rfl (by decide)) (by omega) (by decide) ?_
    refine r_iincN (q := 233) (L' := [some (zr 12 0), some (zi (nI a)), some (zi (nI e)), some (zi (nI P)), some (zi (nI n)), some (zi (nI t)), some (zi x6), some (zi x7), some (zi (nI at0)), some (zi (nI (k + 1)))]) 1 rfl dX12_actMapped_230 rfl rfl (by decide) rfl ?_
    refine r_goto (q := 180) dX12_actMapped_233 (by decide) ?_
    have f0 : Fr (fun a b k => a == 1375 && b == 0) S (sI S 1375 0 ((300 * to) + k) (gI S 1373 0 ((300 * at0) + k))) := Fr.rf.i rfl
    refine ih (k + 1) (sI S 1375 0 ((300 * to) + k) (gI S 1373 0 ((300 * at0) + k))) (by omega) hs ((f0.1 1324 0 (8 + lv) rfl).trans h24) ((f0.1 1374 0 at0 rfl).trans h74) ((f0.1 12 0 81 rfl).trans h81) (fun S2 f h1 h2 => K S2 (f0.tr f) (fun j i1 b => ?_) (fun j i1 => ?_))
    · by_cases e1 : j = k
      · subst e1
        rw [h2 _ (by omega), gI_sI, if_pos ⟨rfl, rfl, rfl⟩]
      · rw [h1 j (by omega) b, gI_sI, if_neg (by omega)]
    · rw [h2 j (by omega), gI_sI, if_neg (by omega)]

set_option maxRecDepth 100000 in
theorem lp_am135 {Wk : zWd} (hK : Wok Wk) {a e n : Nat} {Lo : List zV2} (hL7 : Lo.length ≤ 7) (he2 : 2 ≤ e) (he4 : e ≤ 4) (heL : e ≤ Lo.length) (ha3 : a < 3) (hn : ((lvl Lo).take e).sum = n) (hn7 : n ≤ 7) {N : Nat} (hN7 : N ≤ 7) (hnN : n ≤ N) (hlN : ∀ k, k < Lo.length → (Lo.getD k zv0).1 ≤ N) (hK300 : ∀ k, 1 ≤ k → k ≤ N → (tl Wk k).length ≤ 300) {t : Nat} {v : List Nat} (hv : Tr (wA Wk) (we Wk) e v) {Ss : List zL} (hSs : SvR Wk Lo Ss) {Po : Option zV → zS → Prop} : ∀ (i : Nat) (x6 x7 : Int32) (S : zS) (Li : List zV2), x7 = nI i - 1 → x6 = nI (e - lvs (v.drop i)) - 1 → i ≤ v.length → Sd S → WS S Wk 1 → LVS S Wk N → Stk S Wk 1373 1374 Lo → gI S 12 0 80 = nI Lo.length → (∀ i, i < v.length → gI S 1316 0 i = nI (v.getD i 0)) → Stk S Wk 1375 1376 Li → gI S 12 0 81 = nI Li.length → SvR Wk Li (ins (we Wk) (v.drop i) ((Ss.take e).drop (e - lvs (v.drop i)))) → (lvl Li).sum = (((lvl Lo).take e).drop (e - lvs (v.drop i))).sum → (∀ S1 Li1, Fr tGf S S1 → Stk S1 Wk 1375 1376 Li1 → SvR Wk Li1 (ins (we Wk) v (Ss.take e)) → (lvl Li1).sum = ((lvl Lo).take e).sum → Ok mX12_actMapped 271 [some (zr 12 0), some (zi (nI a)), some (zi (nI e)), some (zi (nI (wP Wk))), some (zi (nI n)), some (zi (nI t)), none, none, none, none] [] S1 Po) → Ok mX12_actMapped 135 [some (zr 12 0), some (zi (nI a)), some (zi (nI e)), some (zi (nI (wP Wk))), some (zi (nI n)), some (zi (nI t)), some (zi x6), some (zi x7), none, none] [] S Po := by
  intro i
  have hE := hK.2.1
  have hA3 := hE.1
  have hvl := hv.len hE
  have hsl := hSs.len
  have hlt : ((lvl Lo).take e).length = e := by rw [List.length_take, lvl_len]; omega
  induction i with
  | zero =>
    intro x6 x7 S Li hx7 hx6 hi hs hws hlv hst h80 htk hsti h81 hsv hsm K
    have hx2 : x7 = -1 := by rw [hx7]; decide
    subst hx2
    rw [List.drop_zero] at hsv hsm
    rw [show e - lvs v = 0 by rw [hv.2]; omega, List.drop_zero] at hsv hsm
    refine r_iload (q := 137) dX12_actMapped_135 rfl rfl ?_
    refine r_if_lt (q := 140) (t := 271) dX12_actMapped_137 (by decide) rfl (fun h137 => ?_) (fun h137 => absurd h137 (by decide))
    refine r_mask [true, true, true, true, true, true, false, false, false, false] rfl ?_
    exact K S Li Fr.rf hsti hsv hsm
  | succ i ih =>
    intro x6 x7 S Li hx7 hx6 hi hs hws hlv hst h80 htk hsti h81 hsv hsm K
    have hx2 : x7 = nI i := hx7.trans (nI_pred _)
    subst hx2
    have hdr : v.drop i = v.getD i 0 :: v.drop (i + 1) := by
      rw [List.drop_eq_getElem_cons (by omega), List.getD_eq_getElem?_getD, List.getElem?_eq_getElem (by omega)]; rfl
    have hcut := Fs.cut (p := v.take i) (r := v.drop i) (by rw [List.take_append_drop]; exact hv.1)
    obtain ⟨kk, -, hcut⟩ := hcut
    rw [hdr] at hcut
    have hc1 := hcut.1
    have hc2 := hcut.2
    have hlvd : lvs (v.drop i) ≤ e := by
      have := lvs_app (v.take i) (v.drop i)
      rw [List.take_append_drop, hv.2] at this; omega
    have hlvx : lvs (v.drop i) = (if v.getD i 0 = 0 then 1 else 0) + lvs (v.drop (i + 1)) := by rw [hdr, lvs]
    have htok := hv.tok hE (v.getD i 0) (by rw [List.getD_eq_getElem?_getD, List.getElem?_eq_getElem (by omega)]; exact List.getElem_mem _)
    have x1 := htk i (by omega)
    have hslt : (Ss.take e).length = e := by rw [List.length_take]; omega
    have hsmn : (lvl Li).sum ≤ n := by
      have := sum_td (l := (lvl Lo).take e) (k := e - lvs (v.drop (i + 1)))
      omega
    have hLi7 := stk_len hsti (m := Li.length) (Nat.le_refl _)
    rw [List.take_of_length_le (by rw [lvl_len]; exact Nat.le_refl _)] at hLi7
    by_cases h0 : v.getD i 0 = 0
    · rw [if_pos h0] at hc2 hlvx
      have x1 : gI S 1316 0 i = nI 0 := by rw [x1, h0]
      have hq : e - lvs (v.drop (i + 1)) = (e - lvs (v.drop i)) + 1 := by omega
      have hx6 : x6 = nI (e - lvs (v.drop i)) := by rw [hx6, hq]; exact nI_pred _
      obtain ⟨q, hqe⟩ : ∃ q, q = e - lvs (v.drop i) := ⟨_, rfl⟩
      rw [← hqe] at hq hx6
      rw [hq] at hsv hsm
      have hqL : q < Lo.length := by omega
      subst hx6
      obtain ⟨g0, g1, g2⟩ := hst q hqL
      have hqN := hlN q hqL
      obtain ⟨⟨l1, l2, l3, l4⟩, l5, l6⟩ := hlv (Lo.getD q zv0).1 g0 hqN
      have l2 : gI S 1324 0 (8 + (Lo.getD q zv0).1) = nI (tl Wk (Lo.getD q zv0).1).length := l2
      have hLiq : Li.length ≤ 6 := by
        have s1 := sum_td (l := (lvl Lo).take e) (k := q + 1)
        have s2 := sum_take_s (l := (lvl Lo).take e) (k := q) (by omega)
        have s3 : ((lvl Lo).take e).getD q 0 = (Lo.getD q zv0).1 := by rw [List.getD_eq_getElem?_getD, List.getElem?_take_of_lt (by omega), ← List.getD_eq_getElem?_getD, lvl_get hqL]
        omega
      refine r_iload (q := 137) dX12_actMapped_135 rfl rfl ?_
      refine r_if_ltN (q := 140) (t := 271) (by omega) dX12_actMapped_137 (by decide) rfl ?_
      refine r_aload_n (q := 141) dX12_actMapped_140 rfl rfl rfl ?_
      refine r_getr (q := 144) (some (1316, 0)) ck12 dX12_actMapped_141 rfl (k := 16) (by decide) wt1294 rfl (hs.e (by decide)) (hs.r (by decide) (by decide)) ?_
      refine r_iload (q := 146) dX12_actMapped_144 rfl rfl ?_
      refine r_ialdN (q := 147) 16 (by decide) rfl dX12_actMapped_146 rfl (hs.e (by decide)) (hs.n rfl (by decide)) (by omega) (by decide) ?_
      refine r_topi (y := nI 0) x1 ?_
      refine r_if_leN (q := 150) (t := 166) (by omega) dX12_actMapped_147 (by decide) rfl (fun h147 => ?_) (fun h147 => absurd h147 (by omega))
      refine r_aload_n (q := 167) dX12_actMapped_166 rfl rfl rfl ?_
      refine r_geti (q := 170) ck12 dX12_actMapped_167 rfl (k := 80) (by decide) wt1358 (Or.inl rfl) (hs.e (by decide)) ?_
      refine r_topi (y := nI Lo.length) h80 ?_
      refine r_iconst (q := 171) (nI 1) dX12_actMapped_170 rfl (by decide) ?_
      refine r_isubN (q := 172) (by omega) dX12_actMapped_171 rfl ?_
      refine r_iload (q := 174) dX12_actMapped_172 rfl rfl ?_
      refine r_isubN (q := 175) (by omega) dX12_actMapped_174 rfl ?_
      refine r_istore (q := 177) (L' := [some (zr 12 0), some (zi (nI a)), some (zi (nI e)), some (zi (nI (wP Wk))), some (zi (nI n)), some (zi (nI t)), some (zi (nI q)), some (zi (nI i)), some (zi (nI ((Lo.length - 1) - q))), none]) dX12_actMapped_175 rfl (by decide) rfl ?_
      refine r_iconst (q := 178) (nI 0) dX12_actMapped_177 rfl (by decide) ?_
      refine r_istore (q := 180) (L' := [some (zr 12 0), some (zi (nI a)), some (zi (nI e)), some (zi (nI (wP Wk))), some (zi (nI n)), some (zi (nI t)), some (zi (nI q)), some (zi (nI i)), some (zi (nI ((Lo.length - 1) - q))), some (zi (nI 0))]) dX12_actMapped_178 rfl (by decide) rfl ?_
      refine lp_am180 (at0 := Lo.length - 1 - q) (to := Li.length) (lv := (Lo.getD q zv0).1) (by omega) (by omega) (by omega) l5 (tl Wk (Lo.getD q zv0).1).length 0 S (by omega) hs l2 g1 h81 (fun S2 f2 e1 e2 => ?_)
      have hs2 := hs.fr f2
      have k81 : gI S2 12 0 81 = nI Li.length := (f2.1 _ _ _ rfl).trans h81
      have k74 : gI S2 1374 0 (Lo.length - 1 - q) = nI (Lo.getD q zv0).1 := (f2.1 _ _ _ rfl).trans g1
      refine r_aload_n (q := 237) dX12_actMapped_236 rfl rfl rfl ?_
      refine r_getr (q := 240) (some (1376, 0)) ck12 dX12_actMapped_237 rfl (k := 76) (by decide) wt1354 rfl (hs2.e (by decide)) (hs2.r (by decide) (by decide)) ?_
      refine r_aload_n (q := 241) dX12_actMapped_240 rfl rfl rfl ?_
      refine r_geti (q := 244) ck12 dX12_actMapped_241 rfl (k := 81) (by decide) wt1359 (Or.inl rfl) (hs2.e (by decide)) ?_
      refine r_topi (y := nI Li.length) k81 ?_
      refine r_aload_n (q := 245) dX12_actMapped_244 rfl rfl rfl ?_
      refine r_getr (q := 248) (some (1374, 0)) ck12 dX12_actMapped_245 rfl (k := 74) (by decide) wt1352 rfl (hs2.e (by decide)) (hs2.r (by decide) (by decide)) ?_
      refine r_iload (q := 250) dX12_actMapped_248 rfl rfl ?_
      refine r_ialdN (q := 251) 8 (by decide) rfl dX12_actMapped_250 rfl (hs2.e (by decide)) (hs2.n rfl (by decide)) (by omega) (by decide) ?_
      refine r_topi (y := nI ((Lo.getD q zv0).1)) k74 ?_
      refine r_iastN (q := 252) 8 (by decide) rfl dX12_actMapped_251 rfl (hs2.e (by decide)) (hs2.n rfl (by decide)) (by omega) (by decide) ?_
      refine r_aload_n (q := 253) dX12_actMapped_252 rfl rfl rfl ?_
      refine r_dup (q := 254) dX12_actMapped_253 rfl rfl ?_
      refine r_geti (q := 257) ck12 dX12_actMapped_254 rfl (k := 81) (by decide) wt1359 (Or.inl rfl) (hs2.e (by decide)) ?_
      refine r_topi (y := gI S2 12 0 81) (by simp [gI_sI, gJ_sJ, gI_sJ, gJ_sI]) ?_
      refine r_topi (y := nI Li.length) k81 ?_
      refine r_iconst (q := 258) (nI 1) dX12_actMapped_257 rfl (by decide) ?_
      refine r_iaddN (q := 259) dX12_actMapped_258 rfl ?_
      refine r_puti (q := 262) ck12 dX12_actMapped_259 rfl (k := 81) (by decide) wt1359 (Or.inl rfl) rfl (hs2.e (by decide)) ?_
      skip
      refine r_iinc (q := 265) (L' := [some (zr 12 0), some (zi (nI a)), some (zi (nI e)), some (zi (nI (wP Wk))), some (zi (nI n)), some (zi (nI t)), some (zi ((nI q) + (-1))), some (zi (nI i)), some (zi (nI (Lo.length - 1 - q))), some (zi (nI ((tl Wk (Lo.getD q zv0).1).length)))]) ((nI q) + (-1)) dX12_actMapped_262 rfl rfl (by decide) rfl rfl ?_
      skip
      refine r_iinc (q := 268) (L' := [some (zr 12 0), some (zi (nI a)), some (zi (nI e)), some (zi (nI (wP Wk))), some (zi (nI n)), some (zi (nI t)), some (zi ((nI q) + (-1))), some (zi ((nI i) + (-1))), some (zi (nI (Lo.length - 1 - q))), some (zi (nI ((tl Wk (Lo.getD q zv0).1).length)))]) ((nI i) + (-1)) dX12_actMapped_265 rfl rfl (by decide) rfl rfl ?_
      refine r_goto (q := 135) dX12_actMapped_268 (by decide) ?_
      have f3 : Fr tGf S2 (sI (sI S2 1376 0 Li.length (nI ((Lo.getD q zv0).1))) 12 0 81 (nI (Li.length + 1))) := (Fr.rf.i rfl).i rfl
      have fA : Fr tGf S (sI (sI S2 1376 0 Li.length (nI ((Lo.getD q zv0).1))) 12 0 81 (nI (Li.length + 1))) := (f2.mono fun a b k z => by simp at z; simp [tGf, z]).tr f3
      have hs3 : Sd (sI (sI S2 1376 0 Li.length (nI ((Lo.getD q zv0).1))) 12 0 81 (nI (Li.length + 1))) := Sd.fr (S := S2) hs2 f3
      have hput : Stk (sI (sI S2 1376 0 Li.length (nI ((Lo.getD q zv0).1))) 12 0 81 (nI (Li.length + 1))) Wk 1375 1376 (((Lo.getD q zv0).1, (Lo.getD q zv0).2) :: Li.drop 0) := by
        refine hsti.put (Nat.zero_le _) g0 (by rw [gI_sI, if_neg (by omega), gI_sI, if_pos ⟨rfl, rfl, by omega⟩]) (fun k hk => by rw [gI_sI, if_neg (by omega), gI_sI, if_neg (by omega), f2.1 1376 0 k rfl]) (fun j hj => ⟨by rw [gI_sI, if_neg (by omega), gI_sI, if_neg (by omega), Nat.sub_zero, e1 j (by omega) hj]; exact (g2 j hj).1, (g2 j hj).2⟩) (fun k hk => by rw [gI_sI, if_neg (by omega), gI_sI, if_neg (by omega), e2 k (by omega)]) (fun k hk => hK300 _ (hsti k hk).1 (Nat.le_trans (Nat.le_trans (lvl_le hk) hsmn) hnN))
      refine r_mask [true, true, true, true, true, true, true, true, false, false] rfl ?_
      obtain ⟨s, d1, d2, d3⟩ := (hSs.take e).get (k := q) (by rw [List.length_take]; omega)
      have eg : (Lo.take e).getD q zv0 = Lo.getD q zv0 := by rw [List.getD_eq_getElem?_getD, List.getElem?_take_of_lt (by omega), ← List.getD_eq_getElem?_getD]
      rw [eg] at d2 d3
      refine ih _ _ (sI (sI S2 1376 0 Li.length (nI ((Lo.getD q zv0).1))) 12 0 81 (nI (Li.length + 1))) (((Lo.getD q zv0).1, (Lo.getD q zv0).2) :: Li.drop 0) (Int32.sub_eq_add_neg _ _).symm (by rw [← hqe]; exact (Int32.sub_eq_add_neg _ _).symm) (by omega) hs3 (hws.fr fA (fun _ => rfl)) (hlv.fr fA (fun _ => ⟨rfl, rfl, rfl, rfl⟩)) (hst.fr fA (fun _ => ⟨rfl, rfl⟩)) ((fA.1 _ _ _ rfl).trans h80) (fun i' hi' => (fA.1 _ _ _ rfl).trans (htk i' hi')) hput (by rw [gI_sI, if_pos ⟨rfl, rfl, rfl⟩]; rfl) ?_ ?_ (fun S1 Li1 f a1 a2 a3 => K S1 Li1 (fA.tr f) a1 a2 a3)
      · rw [hdr, ← hdr, ← hqe, d1, hdr, ins, if_pos h0]
        exact ⟨s, _, rfl, d2, d3, hsv⟩
      · rw [← hqe]
        have s2 := sum_drop_s (l := (lvl Lo).take e) (k := q) (by omega)
        have s3 : ((lvl Lo).take e).getD q 0 = (Lo.getD q zv0).1 := by rw [List.getD_eq_getElem?_getD, List.getElem?_take_of_lt (by omega), ← List.getD_eq_getElem?_getD, lvl_get hqL]
        rw [s2, s3, ← hsm]
        show (Lo.getD q zv0).1 + (lvl (Li.drop 0)).sum = _
        rw [List.drop_zero]
    · rw [if_neg h0] at hc2 hlvx
      obtain ⟨b, hb⟩ : ∃ b, v.getD i 0 = b + 1 := ⟨v.getD i 0 - 1, by omega⟩
      rw [hb, Nat.add_sub_cancel] at hc2
      have x1 : gI S 1316 0 i = nI (b + 1) := by rw [x1, hb]
      have hbA : b < wA Wk := by omega
      have heb := hE.2 b hbA
      have hlvq : lvs (v.drop i) = lvs (v.drop (i + 1)) := by omega
      have hsl2 := ins_len (Ss := (Ss.take e).drop (e - lvs (v.drop (i + 1)))) hc2.2
      have hLil := hsv.len
      rw [hsl2] at hLil
      have hebL : we Wk b ≤ Li.length := by omega
      have hsb : ((lvl Li).take (we Wk b)).sum ≤ (lvl Li).sum := by
        have := sum_td (l := lvl Li) (k := we Wk b)
        omega
      have hli7 : ∀ k, k < Li.length → (Li.getD k zv0).1 ≤ N := fun k hk => Nat.le_trans (Nat.le_trans (lvl_le hk) hsmn) hnN
      refine r_iload (q := 137) dX12_actMapped_135 rfl rfl ?_
      refine r_if_ltN (q := 140) (t := 271) (by omega) dX12_actMapped_137 (by decide) rfl ?_
      refine r_aload_n (q := 141) dX12_actMapped_140 rfl rfl rfl ?_
      refine r_getr (q := 144) (some (1316, 0)) ck12 dX12_actMapped_141 rfl (k := 16) (by decide) wt1294 rfl (hs.e (by decide)) (hs.r (by decide) (by decide)) ?_
      refine r_iload (q := 146) dX12_actMapped_144 rfl rfl ?_
      refine r_ialdN (q := 147) 16 (by decide) rfl dX12_actMapped_146 rfl (hs.e (by decide)) (hs.n rfl (by decide)) (by omega) (by decide) ?_
      refine r_topi (y := nI (b + 1)) x1 ?_
      refine r_if_leN (q := 150) (t := 166) (by omega) dX12_actMapped_147 (by decide) rfl (fun h147 => absurd h147 (by omega)) (fun h147 => ?_)
      refine r_aload_n (q := 151) dX12_actMapped_150 rfl rfl rfl ?_
      refine r_aload_n (q := 152) dX12_actMapped_151 rfl rfl rfl ?_
      refine r_getr (q := 155) (some (1316, 0)) ck12 dX12_actMapped_152 rfl (k := 16) (by decide) wt1294 rfl (hs.e (by decide)) (hs.r (by decide) (by decide)) ?_
      refine r_iload (q := 157) dX12_actMapped_155 rfl rfl ?_
      refine r_ialdN (q := 158) 16 (by decide) rfl dX12_actMapped_157 rfl (hs.e (by decide)) (hs.n rfl (by decide)) (by omega) (by decide) ?_
      refine r_topi (y := nI (b + 1)) x1 ?_
      refine r_iconst (q := 159) (nI 1) dX12_actMapped_158 rfl (by decide) ?_
      refine r_isubN (q := 160) (by omega) dX12_actMapped_159 rfl ?_
      refine r_topi (y := nI b) rfl ?_
      refine r_callV (Mc := mX12_graft) (q := 163) (As := [zi (nI b)]) (st := []) ck12 dX12_actMapped_160 rfl rfl mkX12_graft wt1964 wt1966 wp139 rfl (Nat.le_of_ble_eq_true rfl) (Nat.le_of_ble_eq_true rfl) (by decide) (by decide) (by decide) (Or.inl rfl) (hs.e (by decide)) (ok_graft hK hbA rfl (show Li.length ≤ 7 by omega) hebL rfl (by omega) hN7 hli7 (by omega) (fun k hk => hK300 _ (hsti k hk).1 (hli7 k hk)) hs hws hlv hsti h81) (fun r160 S160 hp160 => ?_)
      obtain ⟨rfl, f1, gv, ga, gst, g81⟩ := hp160
      have hs1 := hs.fr f1
      show Ok _ _ _ [] _ _
      refine r_goto (q := 265) dX12_actMapped_163 (by decide) ?_
      skip
      refine r_iinc (q := 268) (L' := [some (zr 12 0), some (zi (nI a)), some (zi (nI e)), some (zi (nI (wP Wk))), some (zi (nI n)), some (zi (nI t)), some (zi x6), some (zi ((nI i) + (-1))), none, none]) ((nI i) + (-1)) dX12_actMapped_265 rfl rfl (by decide) rfl rfl ?_
      refine r_goto (q := 135) dX12_actMapped_268 (by decide) ?_
      refine r_mask [true, true, true, true, true, true, true, true, false, false] rfl ?_
      refine ih _ _ S160 ((((lvl Li).take (we Wk b)).sum, gv) :: Li.drop (we Wk b)) (Int32.sub_eq_add_neg _ _).symm (by rw [hlvq]; exact hx6) (by omega) hs1 (hws.fr f1 (fun _ => rfl)) (hlv.fr f1 (fun _ => ⟨rfl, rfl, rfl, rfl⟩)) (hst.fr f1 (fun _ => ⟨rfl, rfl⟩)) ((f1.1 _ _ _ rfl).trans h80) (fun i' hi' => (f1.1 _ _ _ rfl).trans (htk i' hi')) gst (by rw [g81, List.length_cons, List.length_drop]) ?_ ?_ (fun S1 Li1 f a1 a2 a3 => K S1 Li1 (f1.tr f) a1 a2 a3)
      · rw [hlvq, hdr, ins, if_neg h0, hb, Nat.add_sub_cancel]
        refine ⟨_, _, rfl, acc_of_li ga (grS_li (SvR.li hE (hsv.take (we Wk b)))), ?_, hsv.drop _⟩
        have := grS_tr hbA (by rw [List.length_take, hsl2]; omega) (hsv.take (we Wk b)).sst
        rw [show lvl (Li.take (we Wk b)) = (lvl Li).take (we Wk b) from List.map_take] at this
        exact this
      · rw [hlvq, ← hsm]
        show ((lvl Li).take (we Wk b)).sum + (lvl (Li.drop (we Wk b))).sum = _
        rw [show lvl (Li.drop (we Wk b)) = (lvl Li).drop (we Wk b) from List.map_drop, sum_td]

set_option maxRecDepth 100000 in
theorem lp_am274 {a e n m P t x : Nat} (hn7 : n ≤ 7) (hm : m ≤ 300) (ha3 : a < 3) (ht : t < 64) (hP2 : 2 ≤ P) (hP : P ≤ 97) (hx : x < P) {mv w : Nat → Nat} (hw : ∀ j, j < m → w j < P) (hmv : ∀ j, j < m → mv j < P) {Po : Option zV → zS → Prop} : ∀ (d k : Nat) (S : zS), k + d = m → Sd S → gI S 1324 0 (8 + n) = nI m → gI S 1371 0 (64 * a + t) = nI x → (∀ j, j < m → gI S 1375 0 j = nI (w j)) → (∀ j, j < k → gI S 1383 0 j = nI ((mv j + x * w j) % P)) → (∀ j, k ≤ j → j < m → gI S 1383 0 j = nI (mv j)) → (∀ S2, Fr (fun a b k => a == 1383 && b == 0) S S2 → (∀ j, j < m → gI S2 1383 0 j = nI ((mv j + x * w j) % P)) → Ok mX12_actMapped 332 [some (zr 12 0), some (zi (nI a)), some (zi (nI e)), some (zi (nI P)), some (zi (nI n)), some (zi (nI t)), none, some (zi (nI m)), none, none] [] S2 Po) → Ok mX12_actMapped 274 [some (zr 12 0), some (zi (nI a)), some (zi (nI e)), some (zi (nI P)), some (zi (nI n)), some (zi (nI t)), none, some (zi (nI k)), none, none] [] S Po := by
  intro d
  induction d with
  | zero =>
    intro k S hk hs h24 hnum hin hlo hhi K
    obtain rfl : k = m := by omega
    refine r_iload (q := 276) dX12_actMapped_274 rfl rfl ?_
    refine r_aload_n (q := 277) dX12_actMapped_276 rfl rfl rfl ?_
    refine r_getr (q := 280) (some (1324, 0)) ck12 dX12_actMapped_277 rfl (k := 24) (by decide) wt1302 rfl (hs.e (by decide)) (hs.r (by decide) (by decide)) ?_
    refine r_bipush (q := 282) (nI 8) dX12_actMapped_280 rfl (by decide) ?_
    refine r_iload (q := 284) dX12_actMapped_282 rfl rfl ?_
    refine r_iaddN (q := 285) dX12_actMapped_284 rfl ?_
    refine r_ialdN (q := 286) 16 (by decide) rfl dX12_actMapped_285 rfl (hs.e (by decide)) (hs.n rfl (by decide)) (by omega) (by decide) ?_
    refine r_topi (y := nI k) h24 ?_
    refine r_icmp_geN (q := 289) (t := 332) (by omega) (by omega) dX12_actMapped_286 (by decide) rfl (fun h286 => ?_) (fun h286 => absurd h286 (by omega))
    exact K S Fr.rf hlo
  | succ d ih =>
    intro k S hk hs h24 hnum hin hlo hhi K
    have y1 := hhi k (Nat.le_refl _) (by omega)
    have y2 := hin k (by omega)
    have y3 := hw k (by omega)
    have y4 := hmv k (by omega)
    have y5 : x * w k < 97 * 97 := Nat.mul_lt_mul'' (by omega) (by omega)
    refine r_iload (q := 276) dX12_actMapped_274 rfl rfl ?_
    refine r_aload_n (q := 277) dX12_actMapped_276 rfl rfl rfl ?_
    refine r_getr (q := 280) (some (1324, 0)) ck12 dX12_actMapped_277 rfl (k := 24) (by decide) wt1302 rfl (hs.e (by decide)) (hs.r (by decide) (by decide)) ?_
    refine r_bipush (q := 282) (nI 8) dX12_actMapped_280 rfl (by decide) ?_
    refine r_iload (q := 284) dX12_actMapped_282 rfl rfl ?_
    refine r_iaddN (q := 285) dX12_actMapped_284 rfl ?_
    refine r_ialdN (q := 286) 16 (by decide) rfl dX12_actMapped_285 rfl (hs.e (by decide)) (hs.n rfl (by decide)) (by omega) (by decide) ?_
    refine r_topi (y := nI m) h24 ?_
    refine r_icmp_geN (q := 289) (t := 332) (by omega) (by omega) dX12_actMapped_286 (by decide) rfl (fun h286 => absurd h286 (by omega)) (fun h286 => ?_)
    refine r_aload_n (q := 290) dX12_actMapped_289 rfl rfl rfl ?_
    refine r_getr (q := 293) (some (1383, 0)) ck12 dX12_actMapped_290 rfl (k := 83) (by decide) wt1361 rfl (hs.e (by decide)) (hs.r (by decide) (by decide)) ?_
    refine r_iload (q := 295) dX12_actMapped_293 rfl rfl ?_
    refine r_aload_n (q := 296) dX12_actMapped_295 rfl rfl rfl ?_
    refine r_getr (q := 299) (some (1383, 0)) ck12 dX12_actMapped_296 rfl (k := 83) (by decide) wt1361 rfl (hs.e (by decide)) (hs.r (by decide) (by decide)) ?_
    refine r_iload (q := 301) dX12_actMapped_299 rfl rfl ?_
    refine r_ialdN (q := 302) 300 (by decide) rfl dX12_actMapped_301 rfl (hs.e (by decide)) (hs.n rfl (by decide)) (by omega) (by decide) ?_
    refine r_topi (y := nI (mv k)) y1 ?_
    refine r_aload_n (q := 303) dX12_actMapped_302 rfl rfl rfl ?_
    refine r_getr (q := 306) (some (1371, 0)) ck12 dX12_actMapped_303 rfl (k := 71) (by decide) wt1349 rfl (hs.e (by decide)) (hs.r (by decide) (by decide)) ?_
    refine r_bipush (q := 308) (nI 64) dX12_actMapped_306 rfl (by decide) ?_
    refine r_iload_n (q := 309) dX12_actMapped_308 rfl rfl rfl ?_
    refine r_imulN (q := 310) dX12_actMapped_309 rfl ?_
    refine r_iload (q := 312) dX12_actMapped_310 rfl rfl ?_
    refine r_iaddN (q := 313) dX12_actMapped_312 rfl ?_
    refine r_ialdN (q := 314) 192 (by decide) rfl dX12_actMapped_313 rfl (hs.e (by decide)) (hs.n rfl (by decide)) (by omega) (by decide) ?_
    refine r_topi (y := nI x) hnum ?_
    refine r_aload_n (q := 315) dX12_actMapped_314 rfl rfl rfl ?_
    refine r_getr (q := 318) (some (1375, 0)) ck12 dX12_actMapped_315 rfl (k := 75) (by decide) wt1353 rfl (hs.e (by decide)) (hs.r (by decide) (by decide)) ?_
    refine r_iload (q := 320) dX12_actMapped_318 rfl rfl ?_
    refine r_ialdN (q := 321) 2400 (by decide) rfl dX12_actMapped_320 rfl (hs.e (by decide)) (hs.n rfl (by decide)) (by omega) (by decide) ?_
    refine r_topi (y := nI (w k)) y2 ?_
    refine r_imulN (q := 322) dX12_actMapped_321 rfl ?_
    refine r_iaddN (q := 323) dX12_actMapped_322 rfl ?_
    refine r_iload_n (q := 324) dX12_actMapped_323 rfl rfl rfl ?_
    refine r_iremN (q := 325) (by omega) (by omega) (by omega) dX12_actMapped_324 rfl ?_
    refine r_iastN (q := 326) 300 (by decide) rfl dX12_actMapped_325 rfl (hs.e (by decide)) (hs.n rfl (by decide)) (by omega) (by decide) ?_
    refine r_iincN (q := 329) (L' := [some (zr 12 0), some (zi (nI a)), some (zi (nI e)), some (zi (nI P)), some (zi (nI n)), some (zi (nI t)), none, some (zi (nI (k + 1))), none, none]) 1 rfl dX12_actMapped_326 rfl rfl (by decide) rfl ?_
    refine r_goto (q := 274) dX12_actMapped_329 (by decide) ?_
    have f0 : Fr (fun a b k => a == 1383 && b == 0) S (sI S 1383 0 k (nI (((mv k) + (x * (w k))) % P))) := Fr.rf.i rfl
    refine ih (k + 1) (sI S 1383 0 k (nI (((mv k) + (x * (w k))) % P))) (by omega) hs ((f0.1 1324 0 (8 + n) rfl).trans h24) ((f0.1 1371 0 _ rfl).trans hnum) (fun j hj => (f0.1 1375 0 _ rfl).trans (hin j hj)) (fun j hj => ?_) (fun j j1 j2 => ?_) (fun S2 f h => K S2 (f0.tr f) h)
    · rw [gI_sI]
      by_cases e1 : j = k
      · rw [if_pos ⟨rfl, rfl, e1⟩, e1]
      · rw [if_neg (fun z => e1 z.2.2)]; exact hlo j (by omega)
    · rw [gI_sI, if_neg (by omega)]; exact hhi j (by omega) j2

