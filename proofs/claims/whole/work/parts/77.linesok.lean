theorem lfs_app : ∀ (ls : List (Nat × List zT)) (l : Nat × List zT) (L : Nat), L ≤ ls.length → lfs (ls ++ [l]) L = lfs ls L
  | [], l, 0, _ => rfl
  | [], l, L + 1, h => absurd h (by simp)
  | a :: r, l, 0, _ => rfl
  | a :: r, l, L + 1, h => by
    show a.2.length + lfs (r ++ [l]) L = a.2.length + lfs r L
    rw [lfs_app r l L (by simpa using h)]
theorem getD_snoc_lt {α : Type} {l : List α} {x d : α} {k : Nat} (h : k < l.length) : (l ++ [x]).getD k d = l.getD k d := by
  rw [List.getD_eq_getElem?_getD, List.getD_eq_getElem?_getD, List.getElem?_append_left h]
theorem getD_snoc_eq {α : Type} {l : List α} {x d : α} : (l ++ [x]).getD l.length d = x := by
  rw [List.getD_eq_getElem?_getD, List.getElem?_append_right (Nat.le_refl _), Nat.sub_self]; rfl
/-- a law more -/
def addW (W : zWd) (n : Nat) (c : List zT) : zWd := (W.1, W.2.1, W.2.2.1, W.2.2.2 ++ [(n, c)])
theorem addW_L {W : zWd} {n : Nat} {c : List zT} : wL (addW W n c) = wL W + 1 := by show (W.2.2.2 ++ [(n, c)]).length = _; rw [List.length_append]; rfl
theorem addW_lt {W : zWd} {n L : Nat} {c : List zT} (h : L < wL W) : lw (addW W n c) L = lw W L := getD_snoc_lt h
theorem addW_eq {W : zWd} {n : Nat} {c : List zT} : lw (addW W n c) (wL W) = (n, c) := getD_snoc_eq
theorem addW_f {W : zWd} {n L : Nat} {c : List zT} (h : L ≤ wL W) : lf (addW W n c) L = lf W L := lfs_app _ _ _ h
theorem addW_f1 {W : zWd} {n : Nat} {c : List zT} : lf (addW W n c) (wL W + 1) = lf W (wL W) + c.length := by
  rw [lf_succ (by rw [addW_L]; omega), addW_f (Nat.le_refl _), addW_eq]
theorem addW_ok {W : zWd} (h : Wok W) {n : Nat} {c : List zT} (h18 : wL W < 18) (h2 : 2 ≤ n) (h7 : n ≤ 7) (hc : Ce (wA W) (we W) (wP W) n c) (hl : lf W (wL W) + c.length ≤ 200) : Wok (addW W n c) := by
  refine ⟨h.1, h.2.1, h.2.2.1, by rw [addW_L]; omega, by rw [addW_L, addW_f1]; exact hl, fun L hL => ?_⟩
  rw [addW_L] at hL
  by_cases hl : L < wL W
  · rw [addW_lt hl]; exact h.2.2.2.2.2 L hl
  · obtain rfl : L = wL W := by omega
    rw [addW_eq]; exact ⟨h2, h7, hc⟩
theorem lawP_ok {told b : Bool} {W W' : zWd} {ts ts' : List zTk} (h : Wpk W ts) (hw : isWb ts 7102839 = true) (q : lawP told W ts = Sum.inr ((b, W'), ts')) : Wpk W' ts' ∧ ts'.length < ts.length := by
  obtain ⟨h1, h2, h3, h4⟩ := h
  unfold lawP at q
  split at q
  · cases q
  · rename_i h18
    have l1 := h3.len (by rw [(isWb_t.mp hw).1]; omega)
    cases s : sumQ (wn W) (we W) (wA W) (wP W) 0 2 (adv ts) with
    | inl x => rw [s] at q; cases q
    | inr x =>
      obtain ⟨⟨n, acc⟩, ts2⟩ := x
      rw [s] at q
      obtain ⟨c1, c2, c3, c4, c5, c6, c7⟩ := sumQ_use h1.2.1 (by have := h1.1.1; omega) h2.adv h3.ad s
      have q : Sum.inr ((told, addW W n (cl (adds (wP W) 1 [] acc))), ts2) = (Sum.inr ((b, W'), ts') : zEr ⊕ ((Bool × zWd) × List zTk)) := q
      cases q
      have hR : Re (wA W) (we W) (wP W) n (adds (wP W) 1 [] acc) := Re.adds h1.2.1 (by have := h1.1.1; omega) c5 ce_nil.1 (fun p hp => (c7 p hp).1)
      have u := len_U hR.cl.1 (U := acc.map Prod.fst) (fun p hp => mem_adds (U := acc.map Prod.fst) (fun p hp => absurd hp List.not_mem_nil) (fun p hp => List.mem_map.mpr ⟨p, hp, rfl⟩) p (mem_cl hp))
      rw [List.length_map] at u
      have hl : lf W (wL W) + (cl (adds (wP W) 1 [] acc)).length ≤ 200 := by omega
      refine ⟨⟨addW_ok h1 (by omega) c4 c5 hR.cl hl, c1, c2, ?_⟩, by omega⟩
      rw [addW_L, addW_f1]
      omega
theorem primeP_ok {told b : Bool} {W W' : zWd} {ts ts' : List zTk} (h : Wpk W ts) (hw : isWb ts 7171940 = true) (q : primeP told W ts = Sum.inr ((b, W'), ts')) : Wpk W' ts' ∧ ts'.length < ts.length := by
  obtain ⟨h1, h2, h3, h4⟩ := h
  unfold primeP at q
  split at q
  · cases q
  · rename_i ht
    split at q
    · cases q
    · rename_i hk
      split at q
      · cases q
      · rename_i hp
        have l1 := h3.len (by rw [(isWb_t.mp hw).1]; omega)
        have l2 := adv_len (adv ts)
        have hv := h2.adv.hd.2.2.2 (by omega)
        have hp := prB_t.mp (by simpa using hp)
        cases q
        have hL : wL W = 0 := by omega
        refine ⟨⟨⟨⟨hp.1, ?_, hp.2⟩, h1.2.1, h1.2.2.1, h1.2.2.2.1, h1.2.2.2.2.1, fun L hL' => absurd hL' (by show ¬ L < wL W; omega)⟩, h2.adv.adv, h3.ad.ad, ?_⟩, by omega⟩
        · show (hdT (adv ts)).2.2 ≤ 97
          have e1 := hp.2 2 (by omega)
          have e2 := hp.2 3 (by omega)
          omega
        · show 5 * lf W (wL W) + _ ≤ 941
          omega
/-- an act more -/
def actW (W : zWd) (v x : Nat) : zWd := (W.1, W.2.1 ++ [v], W.2.2.1 ++ [x], W.2.2.2)
theorem actW_A {W : zWd} {v x : Nat} : wA (actW W v x) = wA W + 1 := by show (W.2.1 ++ [v]).length = _; rw [List.length_append]; rfl
theorem actW_e {W : zWd} {v x a : Nat} (h : a < wA W) : we (actW W v x) a = we W a := getD_snoc_lt h
theorem actW_e1 {W : zWd} {v x : Nat} : we (actW W v x) (wA W) = v := getD_snoc_eq
theorem actW_n {W : zWd} (hn : W.2.2.1.length = wA W) {v x a : Nat} (h : a < wA W) : wn (actW W v x) a = wn W a := getD_snoc_lt (by omega)
theorem actW_n1 {W : zWd} (hn : W.2.2.1.length = wA W) {v x : Nat} : wn (actW W v x) (wA W) = x := by rw [← hn]; exact getD_snoc_eq
theorem actW_ok {W : zWd} (h : Wok W) {v x : Nat} (hL : wL W = 0) (hA : wA W < 3) (h2 : 2 ≤ v) (h4 : v ≤ 4) (hx : Nok x) (hf : ∀ a, a < wA W → wn W a ≠ x) : Wok (actW W v x) := by
  have hn := h.2.2.1.1
  refine ⟨h.1, ⟨by rw [actW_A]; omega, fun a ha => ?_⟩, ⟨by show (W.2.2.1 ++ [x]).length = _; rw [actW_A, List.length_append, hn]; rfl, fun a ha => ?_, fun a b hab hb => ?_⟩, h.2.2.2.1, h.2.2.2.2.1, fun L hL' => absurd hL' (by show ¬ L < wL W; omega)⟩
  · rw [actW_A] at ha
    by_cases e : a = wA W
    · rw [e, actW_e1]; exact ⟨h2, h4⟩
    · rw [actW_e (by omega)]; exact h.2.1.2 a (by omega)
  · rw [actW_A] at ha
    by_cases e : a = wA W
    · rw [e, actW_n1 hn]; exact hx
    · rw [actW_n hn (by omega)]; exact h.2.2.1.2.1 a (by omega)
  · rw [actW_A] at hb
    by_cases e : b = wA W
    · rw [e, actW_n1 hn, actW_n hn (by omega)]; exact hf a (by omega)
    · rw [actW_n hn (by omega), actW_n hn (by omega)]; exact h.2.2.1.2.2 a b hab (by omega)
theorem actP_ok {told b : Bool} {W W' : zWd} {ts ts' : List zTk} (h : Wpk W ts) (hw : isWb ts 6382452 = true) (q : actP told W ts = Sum.inr ((b, W'), ts')) : Wpk W' ts' ∧ ts'.length < ts.length := by
  obtain ⟨h1, h2, h3, h4⟩ := h
  unfold actP at q
  split at q
  · cases q
  rename_i hL
  split at q
  · cases q
  rename_i hA
  split at q
  · cases q
  rename_i hnm
  split at q
  · cases q
  rename_i hf
  split at q
  · cases q
  rename_i hk
  split at q
  · cases q
  rename_i hv
  have l1 := h3.len (by rw [(isWb_t.mp hw).1]; omega)
  have l2 := adv_len (adv ts)
  have l3 := adv_len (adv (adv ts))
  have hnm := isNmb_t.mp (by simpa using hnm)
  have t1 := h2.adv.hd.2.2.1 hnm.1
  have q : Sum.inr ((told, actW W (hdT (adv (adv ts))).2.2 (hdT (adv ts)).2.2), adv (adv (adv ts))) = (Sum.inr ((b, W'), ts') : zEr ⊕ ((Bool × zWd) × List zTk)) := q
  cases q
  refine ⟨⟨actW_ok h1 (by omega) (by omega) (by omega) (by omega) ⟨t1.1, t1.2, hnm.2⟩ (fAct_none (by simpa using hf)), h2.adv.adv.adv, h3.ad.ad.ad, ?_⟩, by omega⟩
  show 5 * lf W (wL W) + _ ≤ 941
  omega
theorem lineP_ok {told b : Bool} {W W' : zWd} {ts ts' : List zTk} (h : Wpk W ts) (q : lineP told W ts = Sum.inr ((b, W'), ts')) : Wpk W' ts' ∧ ts'.length < ts.length := by
  unfold lineP at q
  split at q
  · rename_i hw; exact primeP_ok h hw q
  split at q
  · rename_i hw; exact actP_ok h hw q
  split at q
  · rename_i hw; exact lawP_ok h hw q
  · cases q
theorem Wpk.adv {W : zWd} {ts : List zTk} (h : Wpk W ts) : Wpk W (_root_.Jvm.Pilot.CLeafWorldsLaw_law_r8483_d58aac.adv ts) := ⟨h.1, h.2.1.adv, h.2.2.1.ad, by have := adv_len ts; have := h.2.2.2; omega⟩
theorem linesP_ok : ∀ (f k : Nat) (told : Bool) (W : zWd) (ts : List zTk) (n : Nat) (W' : zWd), Wpk W ts → linesP f k told W ts = Sum.inr (n, W') → Wok W' ∧ n ≤ k + f
  | 0, k, _, W, ts, n, W', h, q => by cases q; exact ⟨h.1, by omega⟩
  | f + 1, k, told, W, ts, n, W', h, q => by
    rw [linesP] at q
    split at q
    · cases q; exact ⟨h.1, by omega⟩
    · cases s : lineP told W ts with
      | inl x => rw [s] at q; cases q
      | inr x =>
        obtain ⟨⟨b, W2⟩, ts2⟩ := x
        rw [s] at q
        have q : (if (hdT ts2).1 = 59 then linesP f (k + 1) b W2 (adv ts2) else Sum.inl (1, (hdT ts2).2.1)) = Sum.inr (n, W') := q
        split at q
        · have := linesP_ok f (k + 1) b W2 (adv ts2) n W' (lineP_ok h s).1.adv q
          exact ⟨this.1, by omega⟩
        · cases q
