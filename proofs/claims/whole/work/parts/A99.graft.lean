/-! graft: vectors put in the entries of an act -/
def zv0 : zV2 := (0, fun _ => 0)
def LVS (S : zS) (W : zWd) (N : Nat) : Prop := ∀ s, 1 ≤ s → s ≤ N → LrR S W 1 s (FqR 1 W s) ∧ (tl W s).length ≤ 300 ∧ FqR 1 W s + (tl W s).length ≤ 4400
theorem LVS.fr {S S1 : zS} {W : zWd} {N : Nat} (h : LVS S W N) {U : Nat → Nat → Nat → Bool} (f : Fr U S S1) (t : ∀ k, U 1324 0 k = false ∧ U 1325 0 k = false ∧ U 1328 0 k = false ∧ U 1330 0 k = false) : LVS S1 W N := fun s a b => by
  obtain ⟨⟨h1, h2, h3, r, h4, h5, h6, h7⟩, g⟩ := h s a b
  exact ⟨⟨(f.1 _ _ _ (t _).2.1).trans h1, (f.1 _ _ _ (t _).1).trans h2, h3.fr f (fun j hj => (t _).2.2.1), r, h4, fun i hi => (f.1 _ _ _ (t _).2.2.2).trans (h5 i hi), h6, h7⟩, g⟩
/-- a stack of vectors: its rows a, its levels lf; the first of L is on top -/
def Stk (S : zS) (W : zWd) (a lf : Nat) (L : List zV2) : Prop := ∀ k, k < L.length → 1 ≤ (L.getD k zv0).1 ∧ gI S lf 0 (L.length - 1 - k) = nI (L.getD k zv0).1 ∧ ∀ j, j < (tl W (L.getD k zv0).1).length → gI S a 0 (300 * (L.length - 1 - k) + j) = nI ((L.getD k zv0).2 j) ∧ (L.getD k zv0).2 j < wP W
theorem Stk.fr {S S1 : zS} {W : zWd} {a lf : Nat} {L : List zV2} (h : Stk S W a lf L) {U : Nat → Nat → Nat → Bool} (f : Fr U S S1) (t : ∀ k, U a 0 k = false ∧ U lf 0 k = false) : Stk S1 W a lf L := fun k hk => ⟨(h k hk).1, (f.1 _ _ _ (t _).2).trans (h k hk).2.1, fun j hj => ⟨(f.1 _ _ _ (t _).1).trans ((h k hk).2.2 j hj).1, ((h k hk).2.2 j hj).2⟩⟩
theorem getD_V2 {L : List zV2} {k : Nat} (h : k < L.length) : L.drop k = L.getD k zv0 :: L.drop (k + 1) := by
  rw [List.drop_eq_getElem_cons h, List.getD_eq_getElem?_getD, List.getElem?_eq_getElem h]; rfl
/-- a row more, in place of the e on top -/
theorem Stk.put {S S1 : zS} {W : zWd} {a lf e n : Nat} {v : Nat → Nat} {L : List zV2} (he : e ≤ L.length) (h : Stk S W a lf L) (hn : 1 ≤ n) (hl : gI S1 lf 0 (L.length - e) = nI n) (hlo : ∀ k, k < L.length - e → gI S1 lf 0 k = gI S lf 0 k) (hv : ∀ j, j < (tl W n).length → gI S1 a 0 (300 * (L.length - e) + j) = nI (v j) ∧ v j < wP W) (hvo : ∀ k, k < 300 * (L.length - e) → gI S1 a 0 k = gI S a 0 k) (h300 : ∀ k, k < L.length → (tl W (L.getD k zv0).1).length ≤ 300) : Stk S1 W a lf ((n, v) :: L.drop e) := fun k hk => by
  rw [List.length_cons, List.length_drop] at hk ⊢
  cases k with
  | zero =>
    refine ⟨hn, ?_, fun j hj => ?_⟩
    · rw [show L.length - e + 1 - 1 - 0 = L.length - e by omega]; exact hl
    · rw [show L.length - e + 1 - 1 - 0 = L.length - e by omega]; exact hv j hj
  | succ k =>
    have e1 : ((n, v) :: L.drop e).getD (k + 1) zv0 = L.getD (e + k) zv0 := by
      rw [List.getD_cons_succ, List.getD_eq_getElem?_getD, List.getElem?_drop, ← List.getD_eq_getElem?_getD]
    rw [e1]
    obtain ⟨g0, g1, g2⟩ := h (e + k) (by omega)
    have h3 := h300 (e + k) (by omega)
    refine ⟨g0, ?_, fun j hj => ?_⟩
    · rw [hlo _ (by omega), show L.length - e + 1 - 1 - (k + 1) = L.length - 1 - (e + k) by omega]; exact g1
    · rw [hvo _ (by omega), show L.length - e + 1 - 1 - (k + 1) = L.length - 1 - (e + k) by omega]; exact g2 j hj
theorem Stk.drop0 {S : zS} {W : zWd} {a lf : Nat} {L : List zV2} (h : Stk S W a lf L) : Stk S W a lf L := h
def lvl (L : List zV2) : List Nat := L.map Prod.fst
theorem lvl_get {L : List zV2} {k : Nat} (h : k < L.length) : (lvl L).getD k 0 = (L.getD k zv0).1 := by
  unfold lvl
  rw [List.getD_eq_getElem?_getD, List.getElem?_map, List.getD_eq_getElem?_getD, List.getElem?_eq_getElem h]
  rfl
theorem sum_take_s {l : List Nat} {k : Nat} (h : k < l.length) : (l.take (k + 1)).sum = (l.take k).sum + l.getD k 0 := by
  rw [List.take_add_one, List.sum_append, List.getD_eq_getElem?_getD, List.getElem?_eq_getElem h]
  simp
theorem sum_take_le {l : List Nat} : ∀ {k m : Nat}, k ≤ m → (l.take k).sum ≤ (l.take m).sum := by
  induction l with
  | nil => intro k m h; simp
  | cons x l ih =>
    intro k m h
    cases k with
    | zero => simp
    | succ k =>
      cases m with
      | zero => omega
      | succ m =>
        rw [List.take_succ_cons, List.take_succ_cons, List.sum_cons, List.sum_cons]
        have := ih (k := k) (m := m) (by omega)
        omega
theorem bnL_get {W : zWd} {L : List zV2} {k : Nat} (h : k < L.length) : (bnL W L).getD k 0 = (tl W (L.getD k zv0).1).length := by
  unfold bnL
  rw [List.getD_eq_getElem?_getD, List.getElem?_map, List.getD_eq_getElem?_getD, List.getElem?_eq_getElem h]
  rfl
theorem pk_take {W : zWd} : ∀ {L : List zV2} {ks : List Nat} {k : Nat}, L.length = ks.length → k < L.length → (pk W (L.take (k + 1)) (ks.take (k + 1))) = pk W (L.take k) (ks.take k) ++ [(tl W (L.getD k zv0).1).getD (ks.getD k 0) []]
  | [], ks, k, _, h => absurd h (by simp)
  | x :: L, [], k, h, _ => by simp at h
  | x :: L, j :: ks, 0, _, _ => by simp [pk]
  | x :: L, j :: ks, k + 1, h, hk => by
    rw [List.take_succ_cons, List.take_succ_cons, pk, List.take_succ_cons, List.take_succ_cons, pk, pk_take (by simpa using h) (by simpa using hk), List.cons_append, List.getD_cons_succ, List.getD_cons_succ]
theorem pvv_take : ∀ {L : List zV2} {ks : List Nat} {k : Nat}, L.length = ks.length → k < L.length → pvv (L.take (k + 1)) (ks.take (k + 1)) = pvv (L.take k) (ks.take k) * (L.getD k zv0).2 (ks.getD k 0)
  | [], ks, k, _, h => absurd h (by simp)
  | x :: L, [], k, h, _ => by simp at h
  | x :: L, j :: ks, 0, _, _ => by simp [pvv]
  | x :: L, j :: ks, k + 1, h, hk => by
    rw [List.take_succ_cons, List.take_succ_cons, pvv, List.take_succ_cons, List.take_succ_cons, pvv, pvv_take (by simpa using h) (by simpa using hk), List.getD_cons_succ, List.getD_cons_succ, Nat.mul_assoc]
theorem pvv_dvd : ∀ {L : List zV2} {ks : List Nat} {k : Nat}, L.length = ks.length → pvv (L.take k) (ks.take k) ∣ pvv L ks
  | [], ks, k, h => by
    have : ks = [] := List.length_eq_zero_iff.mp h.symm
    rw [this]; simp [pvv]
  | x :: L, [], k, h => by simp at h
  | x :: L, j :: ks, 0, _ => by simp [pvv]
  | x :: L, j :: ks, k + 1, h => by
    rw [List.take_succ_cons, List.take_succ_cons, pvv, pvv]
    exact Nat.mul_dvd_mul_left _ (pvv_dvd (by simpa using h))
/-- the trees picked -/
theorem pk_tr {W : zWd} (hE : Eok (wA W) (we W)) : ∀ {L : List zV2} {ks : List Nat}, L.length = ks.length → (∀ i, i < L.length → ks.getD i 0 < (tl W (L.getD i zv0).1).length) → (pk W L ks).length = L.length ∧ (∀ u, u ∈ pk W L ks → Fs (wA W) (we W) u 1) ∧ lvs (pk W L ks).flatten = (lvl L).sum
  | [], ks, h, _ => by
    have : ks = [] := List.length_eq_zero_iff.mp h.symm
    rw [this]
    exact ⟨rfl, fun u hu => absurd hu List.not_mem_nil, rfl⟩
  | x :: L, [], h, _ => by simp at h
  | x :: L, j :: ks, h, hb => by
    have h0 := hb 0 (by simp)
    have h0 : j < (tl W x.1).length := h0
    have ht := tl_tr hE h0
    obtain ⟨a, b, c⟩ := pk_tr hE (L := L) (ks := ks) (by simpa using h) (fun i hi => hb (i + 1) (by simpa using hi))
    rw [pk]
    refine ⟨by rw [List.length_cons, List.length_cons, a], fun u hu => ?_, ?_⟩
    · rcases List.mem_cons.mp hu with rfl | hu
      · exact ht.1
      · exact b u hu
    · rw [List.flatten_cons, lvs_app, ht.2, c]
      show x.1 + (lvl L).sum = (lvl (x :: L)).sum
      unfold lvl
      rw [List.map_cons, List.sum_cons]
theorem acc_put {P : Nat} (hP : 0 < P) {T : List (List Nat)} (hT : T.Nodup) {v : Nat → Nat} {u : zL} (h : AccV P T v u) {i x : Nat} {c : Int} (hi : i < T.length) (hx : (P : Int) ∣ (x : Int) - c) : AccV P T (fun j => if j = i then (v j + x) % P else v j) (u ++ [(T.getD i [], c)]) := fun j hj => by
  show (P : Int) ∣ ((if j = i then (v j + x) % P else v j : Nat) : Int) - _
  rw [co_app, co_cons, co_nil, Int.add_zero]
  by_cases e : j = i
  · subst e
    rw [if_pos rfl, if_pos rfl, Int.mul_one, Int.natCast_emod, Int.natCast_add]
    refine dvd_tr (emod_dvd _ _) ?_
    rw [show (v j : Int) + (x : Int) - (co u (T.getD j []) + c) = ((v j : Int) - co u (T.getD j [])) + ((x : Int) - c) by omega]
    exact Int.dvd_add (h j hj) hx
  · rw [if_neg e, if_neg (fun z => e (getD_inj hT hi hj z).symm), Int.mul_zero, Int.add_zero]
    exact h j hj
theorem acc_skip {P : Nat} {T : List (List Nat)} {v : Nat → Nat} {u : zL} (h : AccV P T v u) {t : List Nat} {c : Int} (hc : (P : Int) ∣ c) : AccV P T v (u ++ [(t, c)]) := fun j hj => by
  rw [co_app, co_cons, co_nil, Int.add_zero]
  have h1 := h j hj
  have h2 : (P : Int) ∣ c * (if t = T.getD j [] then 1 else 0) := Int.dvd_mul_of_dvd_left hc
  rw [show (v j : Int) - (co u (T.getD j []) + c * (if t = T.getD j [] then 1 else 0)) = ((v j : Int) - co u (T.getD j [])) - c * (if t = T.getD j [] then 1 else 0) by omega]
  exact Int.dvd_sub h1 h2
theorem acc_of_li {P : Nat} {T : List (List Nat)} {v : Nat → Nat} {u w : zL} (h : AccV P T v u) (hl : Li P u w) : AccV P T v w := fun j hj => dvd_tr (h j hj) (hl _)
theorem nx_at {ks : List Nat} {k x : Nat} {r : List Nat} (hk : k < ks.length) : (ks.take k ++ x :: r).getD k 0 = x := by
  rw [List.getD_eq_getElem?_getD, List.getElem?_append_right (by rw [List.length_take]; omega), List.length_take, Nat.min_eq_left (by omega), Nat.sub_self]
  rfl
theorem nx_lo {ks : List Nat} {k j x : Nat} {r : List Nat} (hk : k < ks.length) (hj : j < k) : (ks.take k ++ x :: r).getD j 0 = ks.getD j 0 := by
  rw [List.getD_eq_getElem?_getD, List.getD_eq_getElem?_getD, List.getElem?_append_left (by rw [List.length_take]; omega), List.getElem?_take_of_lt hj]
theorem nx_hi {ks : List Nat} {k j x m : Nat} (hk : k < ks.length) (hj : k < j) (hm : j - 1 - k < m) : (ks.take k ++ x :: List.replicate m 0).getD j 0 = 0 := by
  rw [List.getD_eq_getElem?_getD, List.getElem?_append_right (by rw [List.length_take]; omega), List.length_take, Nat.min_eq_left (by omega)]
  obtain ⟨q, rfl⟩ : ∃ q, j = k + (q + 1) := ⟨j - k - 1, by omega⟩
  rw [Nat.add_sub_cancel_left, List.getElem?_cons_succ, List.getElem?_replicate, if_pos (by omega)]
  rfl
def tGf (a b k : Nat) : Bool := b == 0 && (a == 1375 || a == 1376 || a == 1377 || a == 1379 || a == 12 && k == 81)
theorem cd_dot {b : Nat} (hb : b < 3) : nI 4 ||| nI (b + 1) = nI (cd [b + 1]) := by
  obtain rfl | rfl | rfl : b = 0 ∨ b = 1 ∨ b = 2 := by omega
  all_goals decide

set_option maxRecDepth 100000 in
theorem lp_gf16 {W : zWd} (hW : Wok W) {b e n : Nat} (hb : b < wA W) (he : we W b = e) {L : List zV2} (hL7 : L.length ≤ 7) (heL : e ≤ L.length) (hn : ((lvl L).take e).sum = n) (hn7 : n ≤ 7) {N : Nat} (hN7 : N ≤ 7) (hlN : ∀ k, k < L.length → (L.getD k zv0).1 ≤ N) (hnN : n ≤ N) {Po : Option zV → zS → Prop} {S : zS} (hs : Sd S) (hst : Stk S W 1375 1376 L) (h81 : gI S 12 0 81 = nI L.length) (K : Ok mX12_graft 45 [some (zr 12 0), some (zi (nI b)), some (zi (nI e)), some (zi (nI n)), some (zi (nI e)), none, none, none, none, none] [] S Po) : ∀ (d k : Nat), k + d = e → Ok mX12_graft 16 [some (zr 12 0), some (zi (nI b)), some (zi (nI e)), some (zi (nI (((lvl L).take k).sum))), some (zi (nI k)), none, none, none, none, none] [] S Po := by
  intro d
  have hE := hW.2.1
  have hA3 := hE.1
  have he4 := hE.2 b hb
  rw [he] at he4
  induction d with
  | zero =>
    intro k hk
    obtain rfl : k = e := by omega
    refine r_iload (q := 18) dX12_graft_16 rfl rfl ?_
    refine r_iload_n (q := 19) dX12_graft_18 rfl rfl rfl ?_
    refine r_icmp_geN (q := 22) (t := 45) (by omega) (by omega) dX12_graft_19 (by decide) rfl (fun h19 => ?_) (fun h19 => absurd h19 (by omega))
    rw [hn]; exact K
  | succ d ih =>
    intro k hk
    have h1 := (hst k (by omega)).2.1
    have hkL : k < (lvl L).length := by unfold lvl; rw [List.length_map]; omega
    have h2 : ((lvl L).take (k + 1)).sum = ((lvl L).take k).sum + (L.getD k zv0).1 := by rw [sum_take_s hkL, lvl_get (by omega)]
    have h3 : ((lvl L).take (k + 1)).sum ≤ ((lvl L).take e).sum := sum_take_le (by omega)
    refine r_iload (q := 18) dX12_graft_16 rfl rfl ?_
    refine r_iload_n (q := 19) dX12_graft_18 rfl rfl rfl ?_
    refine r_icmp_geN (q := 22) (t := 45) (by omega) (by omega) dX12_graft_19 (by decide) rfl (fun h19 => absurd h19 (by omega)) (fun h19 => ?_)
    refine r_iload_n (q := 23) dX12_graft_22 rfl rfl rfl ?_
    refine r_aload_n (q := 24) dX12_graft_23 rfl rfl rfl ?_
    refine r_getr (q := 27) (some (1376, 0)) ck12 dX12_graft_24 rfl (k := 76) (by decide) wt1354 rfl (hs.e (by decide)) (hs.r (by decide) (by decide)) ?_
    refine r_aload_n (q := 28) dX12_graft_27 rfl rfl rfl ?_
    refine r_geti (q := 31) ck12 dX12_graft_28 rfl (k := 81) (by decide) wt1359 (Or.inl rfl) (hs.e (by decide)) ?_
    refine r_topi (y := nI L.length) h81 ?_
    refine r_iconst (q := 32) (nI 1) dX12_graft_31 rfl (by decide) ?_
    refine r_isubN (q := 33) (by omega) dX12_graft_32 rfl ?_
    refine r_iload (q := 35) dX12_graft_33 rfl rfl ?_
    refine r_isubN (q := 36) (by omega) dX12_graft_35 rfl ?_
    refine r_ialdN (q := 37) 8 (by decide) rfl dX12_graft_36 rfl (hs.e (by decide)) (hs.n rfl (by decide)) (by omega) (by decide) ?_
    refine r_topi (y := nI ((L.getD k zv0).1)) h1 ?_
    refine r_iaddN (q := 38) dX12_graft_37 rfl ?_
    refine r_istore_n (q := 39) (L' := [some (zr 12 0), some (zi (nI b)), some (zi (nI e)), some (zi (nI ((((lvl L).take k).sum) + ((L.getD k zv0).1)))), some (zi (nI k)), none, none, none, none, none]) dX12_graft_38 rfl rfl (by decide) rfl ?_
    refine r_iincN (q := 42) (L' := [some (zr 12 0), some (zi (nI b)), some (zi (nI e)), some (zi (nI ((((lvl L).take k).sum) + ((L.getD k zv0).1)))), some (zi (nI (k + 1))), none, none, none, none, none]) 1 rfl dX12_graft_39 rfl rfl (by decide) rfl ?_
    refine r_goto (q := 16) dX12_graft_42 (by decide) ?_
    rw [← h2]
    exact ih (k + 1) (by omega)

set_option maxRecDepth 100000 in
theorem lp_gf48 {b e n m : Nat} (hn7 : n ≤ 7) (hm : m ≤ 300) {Po : Option zV → zS → Prop} : ∀ (d k : Nat) (S : zS), k + d = m → Sd S → gI S 1324 0 (8 + n) = nI m → (∀ j, j < k → gI S 1377 0 j = nI 0) → (∀ S2, Fr (fun a b k => a == 1377 && b == 0) S S2 → (∀ j, j < m → gI S2 1377 0 j = nI 0) → Ok mX12_graft 76 [some (zr 12 0), some (zi (nI b)), some (zi (nI e)), some (zi (nI n)), some (zi (nI m)), none, none, none, none, none] [] S2 Po) → Ok mX12_graft 48 [some (zr 12 0), some (zi (nI b)), some (zi (nI e)), some (zi (nI n)), some (zi (nI k)), none, none, none, none, none] [] S Po := by
  intro d
  induction d with
  | zero =>
    intro k S hk hs h24 hz K
    obtain rfl : k = m := by omega
    refine r_iload (q := 50) dX12_graft_48 rfl rfl ?_
    refine r_aload_n (q := 51) dX12_graft_50 rfl rfl rfl ?_
    refine r_getr (q := 54) (some (1324, 0)) ck12 dX12_graft_51 rfl (k := 24) (by decide) wt1302 rfl (hs.e (by decide)) (hs.r (by decide) (by decide)) ?_
    refine r_bipush (q := 56) (nI 8) dX12_graft_54 rfl (by decide) ?_
    refine r_iload_n (q := 57) dX12_graft_56 rfl rfl rfl ?_
    refine r_iaddN (q := 58) dX12_graft_57 rfl ?_
    refine r_ialdN (q := 59) 16 (by decide) rfl dX12_graft_58 rfl (hs.e (by decide)) (hs.n rfl (by decide)) (by omega) (by decide) ?_
    refine r_topi (y := nI k) h24 ?_
    refine r_icmp_geN (q := 62) (t := 76) (by omega) (by omega) dX12_graft_59 (by decide) rfl (fun h59 => ?_) (fun h59 => absurd h59 (by omega))
    exact K S Fr.rf hz
  | succ d ih =>
    intro k S hk hs h24 hz K
    refine r_iload (q := 50) dX12_graft_48 rfl rfl ?_
    refine r_aload_n (q := 51) dX12_graft_50 rfl rfl rfl ?_
    refine r_getr (q := 54) (some (1324, 0)) ck12 dX12_graft_51 rfl (k := 24) (by decide) wt1302 rfl (hs.e (by decide)) (hs.r (by decide) (by decide)) ?_
    refine r_bipush (q := 56) (nI 8) dX12_graft_54 rfl (by decide) ?_
    refine r_iload_n (q := 57) dX12_graft_56 rfl rfl rfl ?_
    refine r_iaddN (q := 58) dX12_graft_57 rfl ?_
    refine r_ialdN (q := 59) 16 (by decide) rfl dX12_graft_58 rfl (hs.e (by decide)) (hs.n rfl (by decide)) (by omega) (by decide) ?_
    refine r_topi (y := nI m) h24 ?_
    refine r_icmp_geN (q := 62) (t := 76) (by omega) (by omega) dX12_graft_59 (by decide) rfl (fun h59 => absurd h59 (by omega)) (fun h59 => ?_)
    refine r_aload_n (q := 63) dX12_graft_62 rfl rfl rfl ?_
    refine r_getr (q := 66) (some (1377, 0)) ck12 dX12_graft_63 rfl (k := 77) (by decide) wt1355 rfl (hs.e (by decide)) (hs.r (by decide) (by decide)) ?_
    refine r_iload (q := 68) dX12_graft_66 rfl rfl ?_
    refine r_iconst (q := 69) (nI 0) dX12_graft_68 rfl (by decide) ?_
    refine r_iastN (q := 70) 300 (by decide) rfl dX12_graft_69 rfl (hs.e (by decide)) (hs.n rfl (by decide)) (by omega) (by decide) ?_
    refine r_iincN (q := 73) (L' := [some (zr 12 0), some (zi (nI b)), some (zi (nI e)), some (zi (nI n)), some (zi (nI (k + 1))), none, none, none, none, none]) 1 rfl dX12_graft_70 rfl rfl (by decide) rfl ?_
    refine r_goto (q := 48) dX12_graft_73 (by decide) ?_
    have f0 : Fr (fun a b k => a == 1377 && b == 0) S (sI S 1377 0 k (nI 0)) := Fr.rf.i rfl
    refine ih (k + 1) (sI S 1377 0 k (nI 0)) (by omega) hs ((f0.1 1324 0 (8 + n) rfl).trans h24) (fun j hj => ?_) (fun S2 f h => K S2 (f0.tr f) h)
    rw [gI_sI]
    by_cases e : j = k
    · rw [if_pos ⟨rfl, rfl, e⟩]
    · rw [if_neg (fun z => e z.2.2)]; exact hz j (by omega)

set_option maxRecDepth 100000 in
theorem lp_gf115z {W : zWd} (hW : Wok W) {b e n : Nat} (hb : b < wA W) (he : we W b = e) {L : List zV2} (hL7 : L.length ≤ 7) (heL : e ≤ L.length) (hn : ((lvl L).take e).sum = n) (hn7 : n ≤ 7) {N : Nat} (hN7 : N ≤ 7) (hlN : ∀ k, k < L.length → (L.getD k zv0).1 ≤ N) (hnN : n ≤ N) {S : zS} (hs : Sd S) (hlv : LVS S W N) (hst : Stk S W 1375 1376 L) (h81 : gI S 12 0 81 = nI L.length) {Po : Option zV → zS → Prop} (K0 : Ok mX12_graft 164 [some (zr 12 0), some (zi (nI b)), some (zi (nI e)), some (zi (nI n)), some (zi (nI (wP W))), some (zi (nI 0)), some (zi (nI e)), none, none, none] [] S Po) : ∀ (d k : Nat), k + d = e → Ok mX12_graft 115 [some (zr 12 0), some (zi (nI b)), some (zi (nI e)), some (zi (nI n)), some (zi (nI (wP W))), some (zi (nI 0)), some (zi (nI k)), none, none, none] [] S Po := by
  intro d
  have hE := hW.2.1
  have hA3 := hE.1
  have he4 := hE.2 b hb
  rw [he] at he4
  induction d with
  | zero =>
    intro k hk
    obtain rfl : k = e := by omega
    refine r_iload (q := 117) dX12_graft_115 rfl rfl ?_
    refine r_iload_n (q := 118) dX12_graft_117 rfl rfl rfl ?_
    refine r_icmp_geN (q := 121) (t := 164) (by omega) (by omega) dX12_graft_118 (by decide) rfl (fun h118 => ?_) (fun h118 => absurd h118 (by omega))
    exact K0
  | succ d ih =>
    intro k hk
    refine r_iload (q := 117) dX12_graft_115 rfl rfl ?_
    refine r_iload_n (q := 118) dX12_graft_117 rfl rfl rfl ?_
    refine r_icmp_geN (q := 121) (t := 164) (by omega) (by omega) dX12_graft_118 (by decide) rfl (fun h118 => absurd h118 (by omega)) (fun h118 => ?_)
    refine r_iload (q := 123) dX12_graft_121 rfl rfl ?_
    refine r_if_eqN (q := 126) (t := 155) (by omega) dX12_graft_123 (by decide) rfl (fun h123 => ?_) (fun h123 => absurd h123 (by omega))
    refine r_iconst (q := 156) (nI 0) dX12_graft_155 rfl (by decide) ?_
    refine r_istore (q := 158) (L' := [some (zr 12 0), some (zi (nI b)), some (zi (nI e)), some (zi (nI n)), some (zi (nI (wP W))), some (zi (nI 0)), some (zi (nI k)), none, none, none]) dX12_graft_156 rfl (by decide) rfl ?_
    refine r_iincN (q := 161) (L' := [some (zr 12 0), some (zi (nI b)), some (zi (nI e)), some (zi (nI n)), some (zi (nI (wP W))), some (zi (nI 0)), some (zi (nI (k + 1))), none, none, none]) 1 rfl dX12_graft_158 rfl rfl (by decide) rfl ?_
    refine r_goto (q := 115) dX12_graft_161 (by decide) ?_
    exact ih (k + 1) (by omega)

set_option maxRecDepth 100000 in
theorem lp_gf115 {W : zWd} (hW : Wok W) {b e n : Nat} (hb : b < wA W) (he : we W b = e) {L : List zV2} (hL7 : L.length ≤ 7) (heL : e ≤ L.length) (hn : ((lvl L).take e).sum = n) (hn7 : n ≤ 7) {N : Nat} (hN7 : N ≤ 7) (hlN : ∀ k, k < L.length → (L.getD k zv0).1 ≤ N) (hnN : n ≤ N) {S : zS} (hs : Sd S) (hlv : LVS S W N) (hst : Stk S W 1375 1376 L) (h81 : gI S 12 0 81 = nI L.length) {Po : Option zV → zS → Prop} (K1 : (∀ i, i < e → 0 < (tl W (L.getD i zv0).1).length) → Ok mX12_graft 164 [some (zr 12 0), some (zi (nI b)), some (zi (nI e)), some (zi (nI n)), some (zi (nI (wP W))), some (zi (nI 1)), some (zi (nI e)), none, none, none] [] S Po) (K0 : (∃ i, i < e ∧ (tl W (L.getD i zv0).1).length = 0) → Ok mX12_graft 164 [some (zr 12 0), some (zi (nI b)), some (zi (nI e)), some (zi (nI n)), some (zi (nI (wP W))), some (zi (nI 0)), some (zi (nI e)), none, none, none] [] S Po) : ∀ (d k : Nat), k + d = e → (∀ i, i < k → 0 < (tl W (L.getD i zv0).1).length) → Ok mX12_graft 115 [some (zr 12 0), some (zi (nI b)), some (zi (nI e)), some (zi (nI n)), some (zi (nI (wP W))), some (zi (nI 1)), some (zi (nI k)), none, none, none] [] S Po := by
  intro d
  have hE := hW.2.1
  have hA3 := hE.1
  have he4 := hE.2 b hb
  rw [he] at he4
  induction d with
  | zero =>
    intro k hk hlo
    obtain rfl : k = e := by omega
    refine r_iload (q := 117) dX12_graft_115 rfl rfl ?_
    refine r_iload_n (q := 118) dX12_graft_117 rfl rfl rfl ?_
    refine r_icmp_geN (q := 121) (t := 164) (by omega) (by omega) dX12_graft_118 (by decide) rfl (fun h118 => ?_) (fun h118 => absurd h118 (by omega))
    exact K1 hlo
  | succ d ih =>
    intro k hk hlo
    obtain ⟨h0, h1, h2⟩ := hst k (by omega)
    have hkN := hlN k (by omega)
    obtain ⟨⟨l1, l2, l3, l4⟩, l5, l6⟩ := hlv (L.getD k zv0).1 h0 hkN
    have l2 : gI S 1324 0 (8 + (L.getD k zv0).1) = nI (tl W (L.getD k zv0).1).length := l2
    refine r_iload (q := 117) dX12_graft_115 rfl rfl ?_
    refine r_iload_n (q := 118) dX12_graft_117 rfl rfl rfl ?_
    refine r_icmp_geN (q := 121) (t := 164) (by omega) (by omega) dX12_graft_118 (by decide) rfl (fun h118 => absurd h118 (by omega)) (fun h118 => ?_)
    refine r_iload (q := 123) dX12_graft_121 rfl rfl ?_
    refine r_if_eqN (q := 126) (t := 155) (by omega) dX12_graft_123 (by decide) rfl (fun h123 => absurd h123 (by omega)) (fun h123 => ?_)
    refine r_aload_n (q := 127) dX12_graft_126 rfl rfl rfl ?_
    refine r_getr (q := 130) (some (1324, 0)) ck12 dX12_graft_127 rfl (k := 24) (by decide) wt1302 rfl (hs.e (by decide)) (hs.r (by decide) (by decide)) ?_
    refine r_bipush (q := 132) (nI 8) dX12_graft_130 rfl (by decide) ?_
    refine r_aload_n (q := 133) dX12_graft_132 rfl rfl rfl ?_
    refine r_getr (q := 136) (some (1376, 0)) ck12 dX12_graft_133 rfl (k := 76) (by decide) wt1354 rfl (hs.e (by decide)) (hs.r (by decide) (by decide)) ?_
    refine r_aload_n (q := 137) dX12_graft_136 rfl rfl rfl ?_
    refine r_geti (q := 140) ck12 dX12_graft_137 rfl (k := 81) (by decide) wt1359 (Or.inl rfl) (hs.e (by decide)) ?_
    refine r_topi (y := nI L.length) h81 ?_
    refine r_iconst (q := 141) (nI 1) dX12_graft_140 rfl (by decide) ?_
    refine r_isubN (q := 142) (by omega) dX12_graft_141 rfl ?_
    refine r_iload (q := 144) dX12_graft_142 rfl rfl ?_
    refine r_isubN (q := 145) (by omega) dX12_graft_144 rfl ?_
    refine r_ialdN (q := 146) 8 (by decide) rfl dX12_graft_145 rfl (hs.e (by decide)) (hs.n rfl (by decide)) (by omega) (by decide) ?_
    refine r_topi (y := nI ((L.getD k zv0).1)) h1 ?_
    refine r_iaddN (q := 147) dX12_graft_146 rfl ?_
    refine r_ialdN (q := 148) 16 (by decide) rfl dX12_graft_147 rfl (hs.e (by decide)) (hs.n rfl (by decide)) (by omega) (by decide) ?_
    refine r_topi (y := nI ((tl W (L.getD k zv0).1).length)) l2 ?_
    refine r_if_leN (q := 151) (t := 155) (by omega) dX12_graft_148 (by decide) rfl (fun h148 => ?_) (fun h148 => ?_)
    · skip
      refine r_iconst (q := 156) (nI 0) dX12_graft_155 rfl (by decide) ?_
      refine r_istore (q := 158) (L' := [some (zr 12 0), some (zi (nI b)), some (zi (nI e)), some (zi (nI n)), some (zi (nI (wP W))), some (zi (nI 0)), some (zi (nI k)), none, none, none]) dX12_graft_156 rfl (by decide) rfl ?_
      refine r_iincN (q := 161) (L' := [some (zr 12 0), some (zi (nI b)), some (zi (nI e)), some (zi (nI n)), some (zi (nI (wP W))), some (zi (nI 0)), some (zi (nI (k + 1))), none, none, none]) 1 rfl dX12_graft_158 rfl rfl (by decide) rfl ?_
      refine r_goto (q := 115) dX12_graft_161 (by decide) ?_
      exact lp_gf115z hW hb he hL7 heL hn hn7 hN7 hlN hnN hs hlv hst h81 (K0 ⟨k, by omega, by omega⟩) d (k + 1) (by omega)
    · skip
      refine r_iconst (q := 152) (nI 1) dX12_graft_151 rfl (by decide) ?_
      refine r_goto (q := 156) dX12_graft_152 (by decide) ?_
      refine r_istore (q := 158) (L' := [some (zr 12 0), some (zi (nI b)), some (zi (nI e)), some (zi (nI n)), some (zi (nI (wP W))), some (zi (nI 1)), some (zi (nI k)), none, none, none]) dX12_graft_156 rfl (by decide) rfl ?_
      refine r_iincN (q := 161) (L' := [some (zr 12 0), some (zi (nI b)), some (zi (nI e)), some (zi (nI n)), some (zi (nI (wP W))), some (zi (nI 1)), some (zi (nI (k + 1))), none, none, none]) 1 rfl dX12_graft_158 rfl rfl (by decide) rfl ?_
      refine r_goto (q := 115) dX12_graft_161 (by decide) ?_
      refine ih (k + 1) (by omega) (fun i hi => ?_)
      by_cases e1 : i = k
      · rw [e1]; omega
      · exact hlo i (by omega)

set_option maxRecDepth 100000 in
theorem lp_gf182 {W : zWd} (hW : Wok W) {b e n : Nat} (hb : b < wA W) (he : we W b = e) {L : List zV2} (hL7 : L.length ≤ 7) (heL : e ≤ L.length) (hn : ((lvl L).take e).sum = n) (hn7 : n ≤ 7) {N : Nat} (hN7 : N ≤ 7) (hlN : ∀ k, k < L.length → (L.getD k zv0).1 ≤ N) (hnN : n ≤ N) {S : zS} (hs : Sd S) (hlv : LVS S W N) (hst : Stk S W 1375 1376 L) (h81 : gI S 12 0 81 = nI L.length) {ks : List Nat} (hks : ks.length = e) (hkb : ∀ i, i < e → ks.getD i 0 < (tl W (L.getD i zv0).1).length) (hch : ∀ i, i < e → gI S 1379 0 i = nI (ks.getD i 0)) {Po : Option zV → zS → Prop} (K0 : ∀ c w9 w8, (wP W : Int) ∣ (pvv (L.take e) ks : Int) → Ok mX12_graft 272 [some (zr 12 0), some (zi (nI b)), some (zi (nI e)), some (zi (nI n)), some (zi (nI (wP W))), some (zi (nI 1)), some (zi (nI 0)), some (zi c), w8, w9] [] S Po) (K1 : ∀ v w9, 0 < v → v < wP W → (wP W : Int) ∣ (v : Int) - (pvv (L.take e) ks : Int) → Ok mX12_graft 272 [some (zr 12 0), some (zi (nI b)), some (zi (nI e)), some (zi (nI n)), some (zi (nI (wP W))), some (zi (nI 1)), some (zi (nI v)), some (zi (nI (cd ((b + 1) :: (pk W (L.take e) ks).flatten)))), some (zi (nI e)), w9] [] S Po) : ∀ (d k v : Nat) (w9 : Option zV), k + d = e → v < wP W → (wP W : Int) ∣ (v : Int) - (pvv (L.take k) (ks.take k) : Int) → Ok mX12_graft 182 [some (zr 12 0), some (zi (nI b)), some (zi (nI e)), some (zi (nI n)), some (zi (nI (wP W))), some (zi (nI 1)), some (zi (nI v)), some (zi (nI (cd ((b + 1) :: (pk W (L.take k) (ks.take k)).flatten)))), some (zi (nI k)), w9] [] S Po := by
  intro d
  have hP97 := hW.1.2.1
  have hE := hW.2.1
  have hA3 := hE.1
  have he4 := hE.2 b hb
  rw [he] at he4
  have hpre : ∀ k, k ≤ e → (L.take e).take k = L.take k := fun k hk => by rw [List.take_take, Nat.min_eq_left hk]
  induction d with
  | zero =>
    intro k v w9 hk hv hd
    obtain rfl : k = e := by omega
    rw [List.take_of_length_le (show ks.length ≤ k by omega)] at hd ⊢
    refine r_iload (q := 184) dX12_graft_182 rfl rfl ?_
    refine r_iload_n (q := 185) dX12_graft_184 rfl rfl rfl ?_
    refine r_icmp_geN (q := 188) (t := 272) (by omega) (by omega) dX12_graft_185 (by decide) rfl (fun h185 => ?_) (fun h185 => absurd h185 (by omega))
    rcases Nat.eq_zero_or_pos v with v0 | v0
    · subst v0
      exact K0 _ _ _ (by have := Int.dvd_neg.mpr hd; simpa using this)
    · exact K1 v _ v0 hv hd
  | succ d ih =>
    intro k v w9 hk hv hd
    rcases Nat.eq_zero_or_pos v with v0 | v0
    · subst v0
      have hz : (wP W : Int) ∣ (pvv (L.take e) ks : Int) := by
        have h1 : (wP W : Int) ∣ (pvv (L.take k) (ks.take k) : Int) := by have := Int.dvd_neg.mpr hd; simpa using this
        have h2 := pvv_dvd (L := L.take e) (ks := ks) (k := k) (by rw [List.length_take]; omega)
        rw [hpre k (by omega)] at h2
        exact Int.dvd_trans h1 (Int.natCast_dvd_natCast.mpr h2)
      refine r_iload (q := 184) dX12_graft_182 rfl rfl ?_
      refine r_iload_n (q := 185) dX12_graft_184 rfl rfl rfl ?_
      refine r_icmp_geN (q := 188) (t := 272) (by omega) (by omega) dX12_graft_185 (by decide) rfl (fun h185 => absurd h185 (by omega)) (fun h185 => ?_)
      refine r_iload (q := 190) dX12_graft_188 rfl rfl ?_
      refine r_if_leN (q := 193) (t := 272) (by omega) dX12_graft_190 (by decide) rfl (fun h190 => ?_) (fun h190 => absurd h190 (by omega))
      exact K0 _ _ _ hz
    · obtain ⟨h0, h1, h2⟩ := hst k (by omega)
      have hkN := hlN k (by omega)
      obtain ⟨⟨l1, l2, l3, l4⟩, l5, l6⟩ := hlv (L.getD k zv0).1 h0 hkN
      have l1 : gI S 1325 0 (8 + (L.getD k zv0).1) = nI (FqR 1 W (L.getD k zv0).1) := l1
      have hbk := hkb k (by omega)
      obtain ⟨x1, x2⟩ := h2 _ hbk
      have x3 := hch k (by omega)
      obtain ⟨y1, y2⟩ := l3 _ hbk
      have hmul : v * (L.getD k zv0).2 (ks.getD k 0) < 97 * 97 := Nat.mul_lt_mul'' (by omega) (by omega)
      have hlk : L.length - 1 - k < 7 := by omega
      have htk := pk_tr hE (L := L.take k) (ks := ks.take k) (by rw [List.length_take, List.length_take]; omega) (fun i hi => by
        rw [List.length_take] at hi
        have := hkb i (by omega)
        rw [List.getD_eq_getElem?_getD, List.getElem?_take_of_lt (by omega), List.getD_eq_getElem?_getD, List.getElem?_take_of_lt (by omega), ← List.getD_eq_getElem?_getD, ← List.getD_eq_getElem?_getD]; exact this)
      have htl := tl_tr hE hbk
      have htn : lvs ((tl W (L.getD k zv0).1).getD (ks.getD k 0) []) = (L.getD k zv0).1 := htl.2
      have hfl := Fs.flat htk.2.1
      have hcnt := Fs.cnt hE.two hfl
      have hlen := len_la (pk W (L.take k) (ks.take k)).flatten
      have htlen := htl.len hE
      have hkL : k < (lvl L).length := by unfold lvl; rw [List.length_map]; omega
      have hsum : (lvl (L.take k)).sum + (L.getD k zv0).1 ≤ n := by
        have s1 := sum_take_s hkL
        have s2 : ((lvl L).take (k + 1)).sum ≤ ((lvl L).take e).sum := sum_take_le (by omega)
        have s3 : lvl (L.take k) = (lvl L).take k := List.map_take
        rw [lvl_get (by omega)] at s1
        rw [s3]; omega
      have hj3 : ((b + 1) :: (pk W (L.take k) (ks.take k)).flatten).length + ((tl W (L.getD k zv0).1).getD (ks.getD k 0) []).length ≤ 14 := by
        rw [List.length_cons]
        have e9 := htk.2.2
        have hsl : (pk W (L.take k) (ks.take k)).length = k := by rw [htk.1, List.length_take]; omega
        omega
      have hj1 : ∀ x, x ∈ ((b + 1) :: (pk W (L.take k) (ks.take k)).flatten) → x ≤ 3 := fun x hx => by
        rcases List.mem_cons.mp hx with rfl | hx
        · omega
        · exact Nat.le_trans (hfl.tok x hx) hA3
      have hj2 : ∀ x, x ∈ (tl W (L.getD k zv0).1).getD (ks.getD k 0) [] → x ≤ 3 := htl.tok hE
      refine r_iload (q := 184) dX12_graft_182 rfl rfl ?_
      refine r_iload_n (q := 185) dX12_graft_184 rfl rfl rfl ?_
      refine r_icmp_geN (q := 188) (t := 272) (by omega) (by omega) dX12_graft_185 (by decide) rfl (fun h185 => absurd h185 (by omega)) (fun h185 => ?_)
      refine r_iload (q := 190) dX12_graft_188 rfl rfl ?_
      refine r_if_leN (q := 193) (t := 272) (by omega) dX12_graft_190 (by decide) rfl (fun h190 => absurd h190 (by omega)) (fun h190 => ?_)
      refine r_aload_n (q := 194) dX12_graft_193 rfl rfl rfl ?_
      refine r_geti (q := 197) ck12 dX12_graft_194 rfl (k := 81) (by decide) wt1359 (Or.inl rfl) (hs.e (by decide)) ?_
      refine r_topi (y := nI L.length) h81 ?_
      refine r_iconst (q := 198) (nI 1) dX12_graft_197 rfl (by decide) ?_
      refine r_isubN (q := 199) (by omega) dX12_graft_198 rfl ?_
      refine r_iload (q := 201) dX12_graft_199 rfl rfl ?_
      refine r_isubN (q := 202) (by omega) dX12_graft_201 rfl ?_
      refine r_istore (q := 204) (L' := [some (zr 12 0), some (zi (nI b)), some (zi (nI e)), some (zi (nI n)), some (zi (nI (wP W))), some (zi (nI 1)), some (zi (nI v)), some (zi (nI (cd ((b + 1) :: (pk W (L.take k) (ks.take k)).flatten)))), some (zi (nI k)), some (zi (nI ((L.length - 1) - k)))]) dX12_graft_202 rfl (by decide) rfl ?_
      refine r_iload (q := 206) dX12_graft_204 rfl rfl ?_
      refine r_aload_n (q := 207) dX12_graft_206 rfl rfl rfl ?_
      refine r_getr (q := 210) (some (1375, 0)) ck12 dX12_graft_207 rfl (k := 75) (by decide) wt1353 rfl (hs.e (by decide)) (hs.r (by decide) (by decide)) ?_
      refine r_sipush (q := 213) (nI 300) dX12_graft_210 rfl (by decide) ?_
      refine r_iload (q := 215) dX12_graft_213 rfl rfl ?_
      refine r_imulN (q := 216) dX12_graft_215 rfl ?_
      refine r_aload_n (q := 217) dX12_graft_216 rfl rfl rfl ?_
      refine r_getr (q := 220) (some (1379, 0)) ck12 dX12_graft_217 rfl (k := 79) (by decide) wt1357 rfl (hs.e (by decide)) (hs.r (by decide) (by decide)) ?_
      refine r_iload (q := 222) dX12_graft_220 rfl rfl ?_
      refine r_ialdN (q := 223) 4 (by decide) rfl dX12_graft_222 rfl (hs.e (by decide)) (hs.n rfl (by decide)) (by omega) (by decide) ?_
      refine r_topi (y := nI (ks.getD k 0)) x3 ?_
      refine r_iaddN (q := 224) dX12_graft_223 rfl ?_
      refine r_ialdN (q := 225) 2400 (by decide) rfl dX12_graft_224 rfl (hs.e (by decide)) (hs.n rfl (by decide)) (by omega) (by decide) ?_
      refine r_topi (y := nI ((L.getD k zv0).2 (ks.getD k 0))) x1 ?_
      refine r_imulN (q := 226) dX12_graft_225 rfl ?_
      refine r_iload (q := 228) dX12_graft_226 rfl rfl ?_
      refine r_iremN (q := 229) (by omega) (by omega) (by omega) dX12_graft_228 rfl ?_
      refine r_istore (q := 231) (L' := [some (zr 12 0), some (zi (nI b)), some (zi (nI e)), some (zi (nI n)), some (zi (nI (wP W))), some (zi (nI 1)), some (zi (nI ((v * ((L.getD k zv0).2 (ks.getD k 0))) % (wP W)))), some (zi (nI (cd ((b + 1) :: (pk W (L.take k) (ks.take k)).flatten)))), some (zi (nI k)), some (zi (nI ((L.length - 1) - k)))]) dX12_graft_229 rfl (by decide) rfl ?_
      refine r_iload (q := 233) dX12_graft_231 rfl rfl ?_
      refine r_aload_n (q := 234) dX12_graft_233 rfl rfl rfl ?_
      refine r_getr (q := 237) (some (1328, 0)) ck12 dX12_graft_234 rfl (k := 28) (by decide) wt1306 rfl (hs.e (by decide)) (hs.r (by decide) (by decide)) ?_
      refine r_aload_n (q := 238) dX12_graft_237 rfl rfl rfl ?_
      refine r_getr (q := 241) (some (1325, 0)) ck12 dX12_graft_238 rfl (k := 25) (by decide) wt1303 rfl (hs.e (by decide)) (hs.r (by decide) (by decide)) ?_
      refine r_bipush (q := 243) (nI 8) dX12_graft_241 rfl (by decide) ?_
      refine r_aload_n (q := 244) dX12_graft_243 rfl rfl rfl ?_
      refine r_getr (q := 247) (some (1376, 0)) ck12 dX12_graft_244 rfl (k := 76) (by decide) wt1354 rfl (hs.e (by decide)) (hs.r (by decide) (by decide)) ?_
      refine r_iload (q := 249) dX12_graft_247 rfl rfl ?_
      refine r_ialdN (q := 250) 8 (by decide) rfl dX12_graft_249 rfl (hs.e (by decide)) (hs.n rfl (by decide)) (by omega) (by decide) ?_
      refine r_topi (y := nI ((L.getD k zv0).1)) h1 ?_
      refine r_iaddN (q := 251) dX12_graft_250 rfl ?_
      refine r_ialdN (q := 252) 16 (by decide) rfl dX12_graft_251 rfl (hs.e (by decide)) (hs.n rfl (by decide)) (by omega) (by decide) ?_
      refine r_topi (y := nI (FqR 1 W (L.getD k zv0).1)) l1 ?_
      refine r_aload_n (q := 253) dX12_graft_252 rfl rfl rfl ?_
      refine r_getr (q := 256) (some (1379, 0)) ck12 dX12_graft_253 rfl (k := 79) (by decide) wt1357 rfl (hs.e (by decide)) (hs.r (by decide) (by decide)) ?_
      refine r_iload (q := 258) dX12_graft_256 rfl rfl ?_
      refine r_ialdN (q := 259) 4 (by decide) rfl dX12_graft_258 rfl (hs.e (by decide)) (hs.n rfl (by decide)) (by omega) (by decide) ?_
      refine r_topi (y := nI (ks.getD k 0)) x3 ?_
      refine r_iaddN (q := 260) dX12_graft_259 rfl ?_
      refine r_ialdN (q := 261) 4400 (by decide) rfl dX12_graft_260 rfl (hs.e (by decide)) (hs.n rfl (by decide)) (by omega) (by decide) ?_
      refine r_topi (y := nI (cd ((tl W (L.getD k zv0).1).getD (ks.getD k 0) []))) y1 ?_
      refine r_callS (Mc := mX12_join) (q := 264) (As := [zi (nI (cd ((b + 1) :: (pk W (L.take k) (ks.take k)).flatten))), zi (nI (cd ((tl W (L.getD k zv0).1).getD (ks.getD k 0) [])))]) (st := []) dX12_graft_261 rfl rfl mkX12_join wt1792 wt1793 rfl (Nat.le_of_ble_eq_true rfl) (Nat.le_of_ble_eq_true rfl) (by decide) (by decide) (by decide) (Or.inl rfl) hs.some (ok_X12_join (t := ((b + 1) :: (pk W (L.take k) (ks.take k)).flatten)) (u := (tl W (L.getD k zv0).1).getD (ks.getD k 0) []) hj1 hj2 hj3) (fun r261 S261 hp261 => ?_)
      obtain ⟨rfl, hq261⟩ := hp261
      rw [hq261]
      show Ok _ _ _ [zi (nI (cd (((b + 1) :: (pk W (L.take k) (ks.take k)).flatten) ++ (tl W (L.getD k zv0).1).getD (ks.getD k 0) [])))] _ _
      refine r_istore (q := 266) (L' := [some (zr 12 0), some (zi (nI b)), some (zi (nI e)), some (zi (nI n)), some (zi (nI (wP W))), some (zi (nI 1)), some (zi (nI ((v * ((L.getD k zv0).2 (ks.getD k 0))) % (wP W)))), some (zi (nI (cd (((b + 1) :: (pk W (L.take k) (ks.take k)).flatten) ++ (tl W (L.getD k zv0).1).getD (ks.getD k 0) [])))), some (zi (nI k)), some (zi (nI ((L.length - 1) - k)))]) dX12_graft_264 rfl (by decide) rfl ?_
      refine r_iincN (q := 269) (L' := [some (zr 12 0), some (zi (nI b)), some (zi (nI e)), some (zi (nI n)), some (zi (nI (wP W))), some (zi (nI 1)), some (zi (nI ((v * ((L.getD k zv0).2 (ks.getD k 0))) % (wP W)))), some (zi (nI (cd (((b + 1) :: (pk W (L.take k) (ks.take k)).flatten) ++ (tl W (L.getD k zv0).1).getD (ks.getD k 0) [])))), some (zi (nI (k + 1))), some (zi (nI ((L.length - 1) - k)))]) 1 rfl dX12_graft_266 rfl rfl (by decide) rfl ?_
      refine r_goto (q := 182) dX12_graft_269 (by decide) ?_
      have hd2 : (wP W : Int) ∣ ((v * (L.getD k zv0).2 (ks.getD k 0) % wP W : Nat) : Int) - (pvv (L.take (k + 1)) (ks.take (k + 1)) : Int) := by
        have e0 : pvv (L.take (k + 1)) (ks.take (k + 1)) = pvv (L.take k) (ks.take k) * (L.getD k zv0).2 (ks.getD k 0) := by
          have := pvv_take (L := L.take e) (ks := ks) (k := k) (by rw [List.length_take]; omega) (by rw [List.length_take]; omega)
          rw [hpre _ (by omega), hpre _ (by omega), List.getD_eq_getElem?_getD, List.getElem?_take_of_lt (by omega), ← List.getD_eq_getElem?_getD] at this
          exact this
        rw [e0, Int.natCast_emod, Int.natCast_mul, Int.natCast_mul]
        exact dvd_tr (emod_dvd _ _) (dvd_mulR hd)
      have e1 : ((b + 1) :: (pk W (L.take k) (ks.take k)).flatten) ++ (tl W (L.getD k zv0).1).getD (ks.getD k 0) [] = ((b + 1) :: (pk W (L.take (k + 1)) (ks.take (k + 1))).flatten) := by
        have := pk_take (W := W) (L := L.take e) (ks := ks) (k := k) (by rw [List.length_take]; omega) (by rw [List.length_take]; omega)
        rw [hpre _ (by omega), hpre _ (by omega), List.getD_eq_getElem?_getD (l := L.take e), List.getElem?_take_of_lt (by omega), ← List.getD_eq_getElem?_getD] at this
        rw [this, List.flatten_append, List.cons_append, List.flatten_singleton]
      rw [e1]
      exact ih (k + 1) _ _ (by omega) (Nat.mod_lt _ (by omega)) hd2

set_option maxRecDepth 100000 in
theorem lp_gf312 {W : zWd} (hW : Wok W) {b e n : Nat} (hb : b < wA W) (he : we W b = e) {L : List zV2} (hL7 : L.length ≤ 7) (heL : e ≤ L.length) (hn : ((lvl L).take e).sum = n) (hn7 : n ≤ 7) {N : Nat} (hN7 : N ≤ 7) (hlN : ∀ k, k < L.length → (L.getD k zv0).1 ≤ N) (hnN : n ≤ N) {Po : Option zV → zS → Prop} {ks : List Nat} (hks : ks.length = e) (hkb : ∀ i, i < e → ks.getD i 0 < (tl W (L.getD i zv0).1).length) : ∀ (i : Nat) (x : Int32) (S : zS), x = nI i - 1 → i ≤ e → Sd S → LVS S W N → Stk S W 1375 1376 L → gI S 12 0 81 = nI L.length → (∀ j, j < i → gI S 1379 0 j = nI (ks.getD j 0)) → (∀ j, i ≤ j → j < e → gI S 1379 0 j = nI 0 ∧ ks.getD j 0 + 1 = (tl W (L.getD j zv0).1).length) → (∀ S1 x1, Fr (fun a b k => a == 1379 && b == 0) S S1 → (0 : Int32) ≤ x1 → (∃ k, k < e ∧ ks.getD k 0 + 1 < (tl W (L.getD k zv0).1).length ∧ (∀ j, k < j → j < e → ks.getD j 0 + 1 = (tl W (L.getD j zv0).1).length) ∧ (∀ j, j < e → gI S1 1379 0 j = nI ((ks.take k ++ (ks.getD k 0 + 1) :: List.replicate (e - 1 - k) 0).getD j 0))) → Ok mX12_graft 377 [some (zr 12 0), some (zi (nI b)), some (zi (nI e)), some (zi (nI n)), some (zi (nI (wP W))), some (zi (nI 1)), none, none, some (zi x1), none] [] S1 Po) → (∀ S1, Fr (fun a b k => a == 1379 && b == 0) S S1 → (∀ j, j < e → ks.getD j 0 + 1 = (tl W (L.getD j zv0).1).length) → Ok mX12_graft 377 [some (zr 12 0), some (zi (nI b)), some (zi (nI e)), some (zi (nI n)), some (zi (nI (wP W))), some (zi (nI 1)), none, none, some (zi (-1)), none] [] S1 Po) → Ok mX12_graft 312 [some (zr 12 0), some (zi (nI b)), some (zi (nI e)), some (zi (nI n)), some (zi (nI (wP W))), some (zi (nI 1)), none, none, some (zi x), none] [] S Po := by
  intro i
  have hE := hW.2.1
  have hA3 := hE.1
  have he4 := hE.2 b hb
  rw [he] at he4
  induction i with
  | zero =>
    intro x S hx hi hs hlv hst h81 hlo hhi K1 K0
    have hx2 : x = -1 := by rw [hx]; decide
    subst hx2
    refine r_iload (q := 314) dX12_graft_312 rfl rfl ?_
    refine r_if_lt (q := 317) (t := 377) dX12_graft_314 (by decide) rfl (fun h314 => ?_) (fun h314 => absurd h314 (by decide))
    exact K0 S Fr.rf (fun j hj => (hhi j (by omega) hj).2)
  | succ i ih =>
    intro x S hx hi hs hlv hst h81 hlo hhi K1 K0
    have hx2 : x = nI i := hx.trans (nI_pred _)
    subst hx2
    obtain ⟨h0, h1, h2⟩ := hst i (by omega)
    have hkN := hlN i (by omega)
    obtain ⟨⟨l1, l2, l3, l4⟩, l5, l6⟩ := hlv (L.getD i zv0).1 h0 hkN
    have l2 : gI S 1324 0 (8 + (L.getD i zv0).1) = nI (tl W (L.getD i zv0).1).length := l2
    have x3 := hlo i (by omega)
    have hbi := hkb i (by omega)
    refine r_iload (q := 314) dX12_graft_312 rfl rfl ?_
    refine r_if_ltN (q := 317) (t := 377) (by omega) dX12_graft_314 (by decide) rfl ?_
    refine r_aload_n (q := 318) dX12_graft_317 rfl rfl rfl ?_
    refine r_getr (q := 321) (some (1379, 0)) ck12 dX12_graft_318 rfl (k := 79) (by decide) wt1357 rfl (hs.e (by decide)) (hs.r (by decide) (by decide)) ?_
    refine r_iload (q := 323) dX12_graft_321 rfl rfl ?_
    refine r_dup2 (q := 324) dX12_graft_323 rfl rfl rfl ?_
    refine r_ialdN (q := 325) 4 (by decide) rfl dX12_graft_324 rfl (hs.e (by decide)) (hs.n rfl (by decide)) (by omega) (by decide) ?_
    refine r_topi (y := nI (ks.getD i 0)) x3 ?_
    refine r_iconst (q := 326) (nI 1) dX12_graft_325 rfl (by decide) ?_
    refine r_iaddN (q := 327) dX12_graft_326 rfl ?_
    refine r_iastN (q := 328) 4 (by decide) rfl dX12_graft_327 rfl (hs.e (by decide)) (hs.n rfl (by decide)) (by omega) (by decide) ?_
    refine r_aload_n (q := 329) dX12_graft_328 rfl rfl rfl ?_
    refine r_getr (q := 332) (some (1379, 0)) ck12 dX12_graft_329 rfl (k := 79) (by decide) wt1357 rfl (hs.e (by decide)) (hs.r (by decide) (by decide)) ?_
    refine r_iload (q := 334) dX12_graft_332 rfl rfl ?_
    refine r_ialdN (q := 335) 4 (by decide) rfl dX12_graft_334 rfl (hs.e (by decide)) (hs.n rfl (by decide)) (by omega) (by decide) ?_
    refine r_topi (y := nI ((ks.getD i 0) + 1)) (by repeat (first | rw [gI_sI, if_neg (by omega)] | rw [gI_sI, if_pos ⟨rfl, rfl, rfl⟩] | rw [gJ_sJ, if_neg (by omega)] | rw [gJ_sJ, if_pos ⟨rfl, rfl, rfl⟩] | rw [gI_sJ] | rw [gJ_sI])) ?_
    refine r_aload_n (q := 336) dX12_graft_335 rfl rfl rfl ?_
    refine r_getr (q := 339) (some (1324, 0)) ck12 dX12_graft_336 rfl (k := 24) (by decide) wt1302 rfl (hs.e (by decide)) (hs.r (by decide) (by decide)) ?_
    refine r_bipush (q := 341) (nI 8) dX12_graft_339 rfl (by decide) ?_
    refine r_aload_n (q := 342) dX12_graft_341 rfl rfl rfl ?_
    refine r_getr (q := 345) (some (1376, 0)) ck12 dX12_graft_342 rfl (k := 76) (by decide) wt1354 rfl (hs.e (by decide)) (hs.r (by decide) (by decide)) ?_
    refine r_aload_n (q := 346) dX12_graft_345 rfl rfl rfl ?_
    refine r_geti (q := 349) ck12 dX12_graft_346 rfl (k := 81) (by decide) wt1359 (Or.inl rfl) (hs.e (by decide)) ?_
    refine r_topi (y := gI S 12 0 81) (by repeat (first | rw [gI_sI, if_neg (by omega)] | rw [gI_sI, if_pos ⟨rfl, rfl, rfl⟩] | rw [gJ_sJ, if_neg (by omega)] | rw [gJ_sJ, if_pos ⟨rfl, rfl, rfl⟩] | rw [gI_sJ] | rw [gJ_sI])) ?_
    refine r_topi (y := nI L.length) h81 ?_
    refine r_iconst (q := 350) (nI 1) dX12_graft_349 rfl (by decide) ?_
    refine r_isubN (q := 351) (by omega) dX12_graft_350 rfl ?_
    refine r_iload (q := 353) dX12_graft_351 rfl rfl ?_
    refine r_isubN (q := 354) (by omega) dX12_graft_353 rfl ?_
    refine r_ialdN (q := 355) 8 (by decide) rfl dX12_graft_354 rfl (hs.e (by decide)) (hs.n rfl (by decide)) (by omega) (by decide) ?_
    refine r_topi (y := gI S 1376 0 ((L.length - 1) - i)) (by repeat (first | rw [gI_sI, if_neg (by omega)] | rw [gI_sI, if_pos ⟨rfl, rfl, rfl⟩] | rw [gJ_sJ, if_neg (by omega)] | rw [gJ_sJ, if_pos ⟨rfl, rfl, rfl⟩] | rw [gI_sJ] | rw [gJ_sI])) ?_
    refine r_topi (y := nI ((L.getD i zv0).1)) h1 ?_
    refine r_iaddN (q := 356) dX12_graft_355 rfl ?_
    refine r_ialdN (q := 357) 16 (by decide) rfl dX12_graft_356 rfl (hs.e (by decide)) (hs.n rfl (by decide)) (by omega) (by decide) ?_
    refine r_topi (y := gI S 1324 0 (8 + ((L.getD i zv0).1))) (by repeat (first | rw [gI_sI, if_neg (by omega)] | rw [gI_sI, if_pos ⟨rfl, rfl, rfl⟩] | rw [gJ_sJ, if_neg (by omega)] | rw [gJ_sJ, if_pos ⟨rfl, rfl, rfl⟩] | rw [gI_sJ] | rw [gJ_sI])) ?_
    refine r_topi (y := nI ((tl W (L.getD i zv0).1).length)) l2 ?_
    refine r_icmp_geN (q := 360) (t := 363) (by omega) (by omega) dX12_graft_357 (by decide) rfl (fun h357 => ?_) (fun h357 => ?_)
    · skip
      refine r_aload_n (q := 364) dX12_graft_363 rfl rfl rfl ?_
      refine r_getr (q := 367) (some (1379, 0)) ck12 dX12_graft_364 rfl (k := 79) (by decide) wt1357 rfl (hs.e (by decide)) (hs.r (by decide) (by decide)) ?_
      refine r_iload (q := 369) dX12_graft_367 rfl rfl ?_
      refine r_iconst (q := 370) (nI 0) dX12_graft_369 rfl (by decide) ?_
      refine r_iastN (q := 371) 4 (by decide) rfl dX12_graft_370 rfl (hs.e (by decide)) (hs.n rfl (by decide)) (by omega) (by decide) ?_
      skip
      refine r_iinc (q := 374) (L' := [some (zr 12 0), some (zi (nI b)), some (zi (nI e)), some (zi (nI n)), some (zi (nI (wP W))), some (zi (nI 1)), none, none, some (zi ((nI i) + (-1))), none]) ((nI i) + (-1)) dX12_graft_371 rfl rfl (by decide) rfl rfl ?_
      refine r_goto (q := 312) dX12_graft_374 (by decide) ?_
      have f0 : Fr (fun a b k => a == 1379 && b == 0) S (sI (sI S 1379 0 i (nI ((ks.getD i 0) + 1))) 1379 0 i (nI 0)) := (Fr.rf.i rfl).i rfl
      refine ih _ (sI (sI S 1379 0 i (nI ((ks.getD i 0) + 1))) 1379 0 i (nI 0)) (Int32.sub_eq_add_neg _ _).symm (by omega) (hs.fr f0) (hlv.fr f0 (fun _ => ⟨rfl, rfl, rfl, rfl⟩)) (hst.fr f0 (fun _ => ⟨rfl, rfl⟩)) ((f0.1 12 0 81 rfl).trans h81) (fun j hj => ?_) (fun j j1 j2 => ?_) (fun S1 x1 f a b => K1 S1 x1 (f0.tr f) a b) (fun S1 f a => K0 S1 (f0.tr f) a)
      · rw [gI_sI, if_neg (by omega), gI_sI, if_neg (by omega)]; exact hlo j (by omega)
      · by_cases e1 : j = i
        · subst e1
          exact ⟨by rw [gI_sI, if_pos ⟨rfl, rfl, rfl⟩], by omega⟩
        · rw [gI_sI, if_neg (by omega), gI_sI, if_neg (by omega)]; exact hhi j (by omega) j2
    · skip
      refine r_goto (q := 377) dX12_graft_360 (by decide) ?_
      have f0 : Fr (fun a b k => a == 1379 && b == 0) S (sI S 1379 0 i (nI ((ks.getD i 0) + 1))) := Fr.rf.i rfl
      refine K1 (sI S 1379 0 i (nI ((ks.getD i 0) + 1))) (nI i) f0 (in_lt (show i < 8 by omega) (by decide)).1 ⟨i, by omega, by omega, fun j j1 j2 => (hhi j (by omega) j2).2, fun j hj => ?_⟩
      rw [gI_sI]
      by_cases e1 : j = i
      · rw [if_pos ⟨rfl, rfl, e1⟩, e1, nx_at (by omega)]
      · rw [if_neg (fun z => e1 z.2.2)]
        by_cases e2 : j < i
        · rw [hlo j (by omega), nx_lo (by omega) e2]
        · rw [(hhi j (by omega) hj).1, nx_hi (by omega) (by omega) (by omega)]

