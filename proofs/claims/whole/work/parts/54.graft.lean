/-! trees put in leaves -/
def gr : List Nat → Nat → List Nat → List Nat
  | [], _, _ => []
  | k :: r, i, u => if k = 0 then (match i with
    | 0 => u ++ r
    | i + 1 => 0 :: gr r i u) else k :: gr r i u
theorem gr_split : ∀ (t : List Nat) (i : Nat) (u : List Nat), i < lvs t → ∃ x z, t = x ++ 0 :: z ∧ lvs x = i ∧ gr t i u = x ++ u ++ z
  | [], i, _, h => by simp [lvs] at h
  | k :: r, i, u, h => by
    by_cases h0 : k = 0
    · subst h0
      cases i with
      | zero => exact ⟨[], r, rfl, rfl, by simp [gr]⟩
      | succ i =>
        obtain ⟨x, z, e1, e2, e3⟩ := gr_split r i u (by simp [lvs] at h; omega)
        refine ⟨0 :: x, z, by rw [e1]; rfl, by simp [lvs, e2]; omega, ?_⟩
        simp [gr, e3]
    · obtain ⟨x, z, e1, e2, e3⟩ := gr_split r i u (by simp [lvs, h0] at h; exact h)
      refine ⟨k :: x, z, by rw [e1]; rfl, by simp [lvs, h0, e2], ?_⟩
      simp [gr, h0, e3]
theorem Fs.app {A : Nat} {e : Nat → Nat} : ∀ {t u : List Nat} {m k : Nat}, Fs A e t m → Fs A e u k → Fs A e (t ++ u) (m + k)
  | [], u, m, k, h, g => by
    have : m = 0 := h
    rw [this, Nat.zero_add]; exact g
  | x :: r, u, m, k, h, g => by
    refine ⟨Nat.lt_of_lt_of_le h.1 (Nat.le_add_right _ _), ?_⟩
    have h2 := h.2
    have h1 := h.1
    by_cases h0 : x = 0
    · rw [if_pos h0] at h2 ⊢
      have := Fs.app h2 g
      rw [show m + k - 1 = m - 1 + k by omega]; exact this
    · rw [if_neg h0] at h2 ⊢
      have := Fs.app h2.2 g
      exact ⟨h2.1, by rw [show m + k - 1 + e (x - 1) = m - 1 + e (x - 1) + k by omega]; exact this⟩
theorem Fs.put {A : Nat} {e : Nat → Nat} {u : List Nat} (hu : Fs A e u 1) : ∀ {x z : List Nat} {m : Nat}, Fs A e (x ++ 0 :: z) m → Fs A e (x ++ u ++ z) m
  | [], z, m, h => by
    have h2 := h.2
    have h1 := h.1
    rw [if_pos rfl] at h2
    have := hu.app h2
    rw [show 1 + (m - 1) = m by omega] at this
    exact this
  | k :: x, z, m, h => by
    refine ⟨h.1, ?_⟩
    have h2 := h.2
    by_cases h0 : k = 0
    · rw [if_pos h0] at h2 ⊢; exact Fs.put hu h2
    · rw [if_neg h0] at h2 ⊢; exact ⟨h2.1, Fs.put hu h2.2⟩
theorem Tr.gr {A : Nat} {e : Nat → Nat} {n m i : Nat} {t u : List Nat} (ht : Tr A e n t) (hu : Tr A e m u) (hi : i < n) : Tr A e (n + m - 1) (_root_.Jvm.Pilot.CLeafWorldsLaw_law_r8483_d58aac.gr t i u) := by
  obtain ⟨x, z, e1, e2, e3⟩ := gr_split t i u (by rw [ht.2]; exact hi)
  rw [e3]
  refine ⟨Fs.put hu.1 (by rw [← e1]; exact ht.1), ?_⟩
  have h1 := ht.2
  rw [e1, lvs_app] at h1
  simp only [lvs, if_pos] at h1
  rw [lvs_app, lvs_app, hu.2]
  omega
/-- an act with leaves alone -/
def acT (a n : Nat) : List Nat := (a + 1) :: List.replicate n 0
theorem fs_rep {A : Nat} {e : Nat → Nat} : ∀ n, Fs A e (List.replicate n 0) n
  | 0 => rfl
  | n + 1 => ⟨Nat.succ_pos _, by rw [if_pos rfl]; exact fs_rep n⟩
theorem lvs_rep : ∀ n, lvs (List.replicate n 0) = n
  | 0 => rfl
  | n + 1 => by rw [List.replicate_succ, lvs, if_pos rfl, lvs_rep n]; omega
theorem tr_acT {A : Nat} {e : Nat → Nat} {a : Nat} (ha : a < A) : Tr A e (e a) (acT a (e a)) := by
  refine ⟨⟨by omega, ?_⟩, ?_⟩
  · rw [if_neg (by omega)]
    exact ⟨by omega, by rw [show 1 - 1 + e (a + 1 - 1) = e a by simp]; exact fs_rep _⟩
  · unfold acT; rw [lvs, if_neg (by omega), lvs_rep]; omega
theorem kr_nil : ∀ (n B : Nat), kr B (List.replicate n []) = 0
  | 0, _ => rfl
  | n + 1, B => by rw [List.replicate_succ, kr, kr_nil n]; simp [ac2]
theorem rns_rep : ∀ n, rns (List.replicate n 0) = List.replicate n []
  | 0 => rfl
  | n + 1 => by rw [List.replicate_succ, rns, if_pos rfl, rns_rep n, List.replicate_succ]
theorem ky_acT {a n : Nat} (hn : 1 ≤ n) : ky (acT a n) = 134217728 + a * 33554432 := by
  obtain ⟨m, rfl⟩ : ∃ m, n = m + 1 := ⟨n - 1, by omega⟩
  show kr 30 (rns ((a + 1) :: List.replicate (m + 1) 0)) = _
  rw [rns, if_neg (by omega), List.replicate_succ, rns, if_pos rfl, rns_rep]
  show kr 30 ([a + 1] :: List.replicate m []) = _
  rw [kr, kr_nil, ac2, ac2]
  have e1 : (2 : Nat) ^ (30 - 3) = 134217728 := by decide
  have e2 : (2 : Nat) ^ (30 - 3 - 2) = 33554432 := by decide
  rw [e1, e2, List.length_singleton, Nat.add_sub_cancel, Nat.one_mul]
  omega
theorem or_act {a : Nat} (ha : a < 3) : nI 134217728 ||| nI (a * 33554432) = nI (134217728 + a * 33554432) := by
  rcases (show a = 0 ∨ a = 1 ∨ a = 2 by omega) with rfl | rfl | rfl <;> rfl
theorem nd_3 {k : Nat} (h : k ≤ 3) : nd k = 3 ↔ k = 0 := by
  unfold nd
  split
  · exact ⟨fun _ => by assumption, fun _ => rfl⟩
  · exact ⟨fun z => by omega, fun z => by omega⟩
def tSh (s a b _k : Nat) : Bool := (a == 700 || a == 701 || a == 702) && b == s
theorem getD_appN {w u : List Nat} {k : Nat} : (w ++ u).getD k 0 = if k < w.length then w.getD k 0 else u.getD (k - w.length) 0 := by
  rw [List.getD_eq_getElem?_getD, List.getD_eq_getElem?_getD, List.getD_eq_getElem?_getD]
  by_cases h : k < w.length
  · rw [if_pos h, List.getElem?_append_left h]
  · rw [if_neg h, List.getElem?_append_right (by omega)]
theorem getD_map {t : List Nat} {k : Nat} (h : k < t.length) : (t.map nd).getD k 0 = nd (t.getD k 0) := by
  rw [List.getD_eq_getElem?_getD, List.getD_eq_getElem?_getD, List.getElem?_map, List.getElem?_eq_getElem h]; rfl

set_option maxRecDepth 100000 in
theorem ok_keyOfAct {S : zS} {a : Nat} (ha : a < 3) : Ok mX6_keyOfAct 0 (ent 1 [zi (nI a)]) [] S (fun r S1 => r = some (zi (nI (134217728 + a * 33554432))) ∧ S1 = S) := by
  show Ok mX6_keyOfAct 0 [some (zi (nI a))] [] S _
  refine r_ldc (q := 2) (nI 134217728) dX6_keyOfAct_0 rfl wt799 ?_
  refine r_iload_n (q := 3) dX6_keyOfAct_2 rfl rfl rfl ?_
  refine r_bipush (q := 5) (nI 25) dX6_keyOfAct_3 rfl (by decide) ?_
  refine r_ishl (q := 6) dX6_keyOfAct_5 rfl ?_
  refine r_topi (y := nI (a * 33554432)) (pk_shlN _ 25 (by decide) (show a * 2 ^ 25 < 2 ^ 32 by omega)) ?_
  refine r_ior (q := 7) dX6_keyOfAct_6 rfl ?_
  refine r_topi (y := nI (134217728 + a * 33554432)) (or_act ha) ?_
  refine r_ireturn dX6_keyOfAct_7 rfl ?_
  exact ⟨rfl, rfl⟩

set_option maxRecDepth 100000 in
theorem lp_end {S : zS} (hs : Sd S) {b : Nat} (hb5 : b < 5) {s cnt A : Nat} (hs4 : s < 4) (hcnt : cnt ≤ 13) {fr : Int32} {e : Nat → Nat} (hE : Eok A e) (he : ∀ a, a < A → gI S 1003 s a = nI (e a)) : ∀ (t : List Nat) (p m : Nat), Fs A e t m → m ≤ 1000 → m + 4 * t.length ≤ 1000 → p + t.length ≤ cnt → (∀ i, i < t.length → gI S 700 b (p + i) = nI (nd (t.getD i 0))) → Ok mX6_endOf 6 [some (zr 700 b), some (zi fr), some (zi (nI cnt)), some (zr 1003 s), some (zi (nI m)), some (zi (nI p)), none] [] S (fun r S1 => r = some (zi (nI (p + t.length))) ∧ S1 = S) := by
  intro t
  induction t with
  | nil =>
    intro p m hf hm hm2 hp hr
    obtain rfl : m = 0 := hf
    refine r_iload (q := 8) dX6_endOf_6 rfl rfl ?_
    refine r_if_leN (q := 11) (t := 68) (by omega) dX6_endOf_8 (by decide) rfl (fun h8 => ?_) (fun h8 => absurd h8 (by omega))
    refine r_iload (q := 70) dX6_endOf_68 rfl rfl ?_
    refine r_ireturn dX6_endOf_70 rfl ?_
    exact ⟨rfl, rfl⟩
  | cons k r ih =>
    intro p m hf hm hm2 hp hr
    have h1 := hf.1
    have h2 := hf.2
    have hk3 := Nat.le_trans (hf.tok k List.mem_cons_self) hE.1
    rw [List.length_cons] at hp hm2
    have r0 : gI S 700 b p = nI (nd k) := by have := hr 0 (by simp); rw [Nat.add_zero] at this; exact this
    have hr' : ∀ i, i < r.length → gI S 700 b (p + 1 + i) = nI (nd (r.getD i 0)) := fun i hi => by have := hr (i + 1) (by simp; omega); rw [show p + 1 + i = p + (i + 1) by omega]; exact this
    rw [show p + (k :: r).length = p + 1 + r.length by simp; omega]
    by_cases h0 : k = 0
    · rw [if_pos h0] at h2
      subst h0
      have r0 : gI S 700 b p = nI 3 := r0
      refine r_iload (q := 8) dX6_endOf_6 rfl rfl ?_
      refine r_if_leN (q := 11) (t := 68) (by omega) dX6_endOf_8 (by decide) rfl (fun h8 => absurd h8 (by omega)) (fun h8 => ?_)
      refine r_iload (q := 13) dX6_endOf_11 rfl rfl ?_
      refine r_if_ltN (q := 16) (t := 68) (by omega) dX6_endOf_13 (by decide) rfl ?_
      refine r_iload (q := 18) dX6_endOf_16 rfl rfl ?_
      refine r_iload_n (q := 19) dX6_endOf_18 rfl rfl rfl ?_
      refine r_icmp_geN (q := 22) (t := 68) (by omega) (by omega) dX6_endOf_19 (by decide) rfl (fun h19 => absurd h19 (by omega)) (fun h19 => ?_)
      refine r_iload (q := 24) dX6_endOf_22 rfl rfl ?_
      refine r_aload_n (q := 25) dX6_endOf_24 rfl rfl rfl ?_
      refine r_alen (q := 26) (by decide) (by decide) dX6_endOf_25 rfl (hs.e (show b < 5 by omega)) ?_
      refine r_topi (y := nI 13) (congrArg nI (hs.n rfl (show b < 5 by omega))) ?_
      refine r_icmp_geN (q := 29) (t := 68) (by omega) (by omega) dX6_endOf_26 (by decide) rfl (fun h26 => absurd h26 (by omega)) (fun h26 => ?_)
      refine r_aload_n (q := 30) dX6_endOf_29 rfl rfl rfl ?_
      refine r_iload (q := 32) dX6_endOf_30 rfl rfl ?_
      refine r_ialdN (q := 33) 13 (by decide) rfl dX6_endOf_32 rfl (hs.e (show b < 5 by omega)) (hs.n rfl (show b < 5 by omega)) (by omega) (by decide) ?_
      refine r_topi (y := nI 3) r0 ?_
      refine r_istore (q := 35) (L' := [some (zr 700 b), some (zi fr), some (zi (nI cnt)), some (zr 1003 s), some (zi (nI m)), some (zi (nI p)), some (zi (nI 3))]) dX6_endOf_33 rfl (by decide) rfl ?_
      refine r_iload (q := 37) dX6_endOf_35 rfl rfl ?_
      refine r_iload (q := 39) dX6_endOf_37 rfl rfl ?_
      refine r_if_ltN (q := 42) (t := 58) (by omega) dX6_endOf_39 (by decide) rfl ?_
      refine r_iload (q := 44) dX6_endOf_42 rfl rfl ?_
      refine r_aload_n (q := 45) dX6_endOf_44 rfl rfl rfl ?_
      refine r_alen (q := 46) (by decide) (by decide) dX6_endOf_45 rfl (hs.e (show s < 4 by omega)) ?_
      refine r_topi (y := nI 3) (congrArg nI (hs.n rfl (show s < 4 by omega))) ?_
      refine r_icmp_geN (q := 49) (t := 58) (by omega) (by omega) dX6_endOf_46 (by decide) rfl (fun h46 => ?_) (fun h46 => absurd h46 (by omega))
      refine r_iconst (q := 59) ((-1 : Int32)) dX6_endOf_58 rfl (by decide) ?_
      refine r_iadd (q := 60) dX6_endOf_59 rfl ?_
      refine r_topi (y := nI (m - 1)) (sb_m1 h1) ?_
      refine r_istore (q := 62) (L' := [some (zr 700 b), some (zi fr), some (zi (nI cnt)), some (zr 1003 s), some (zi (nI (m - 1))), some (zi (nI p)), some (zi (nI 3))]) dX6_endOf_60 rfl (by decide) rfl ?_
      refine r_iincN (q := 65) (L' := [some (zr 700 b), some (zi fr), some (zi (nI cnt)), some (zr 1003 s), some (zi (nI (m - 1))), some (zi (nI (p + 1))), some (zi (nI 3))]) 1 rfl dX6_endOf_62 rfl rfl (by decide) rfl ?_
      refine r_goto (q := 6) dX6_endOf_65 (by decide) ?_
      refine r_mask [true, true, true, true, true, true, false] rfl ?_
      exact ih (p + 1) _ h2 (by omega) (by omega) (by omega) hr'
    · rw [if_neg h0] at h2
      have e0 : nd k = k - 1 := if_neg h0
      rw [e0] at r0
      have hkA : k - 1 < A := by omega
      have hE2 := hE.2 (k - 1) hkA
      have e1 := he (k - 1) hkA
      refine r_iload (q := 8) dX6_endOf_6 rfl rfl ?_
      refine r_if_leN (q := 11) (t := 68) (by omega) dX6_endOf_8 (by decide) rfl (fun h8 => absurd h8 (by omega)) (fun h8 => ?_)
      refine r_iload (q := 13) dX6_endOf_11 rfl rfl ?_
      refine r_if_ltN (q := 16) (t := 68) (by omega) dX6_endOf_13 (by decide) rfl ?_
      refine r_iload (q := 18) dX6_endOf_16 rfl rfl ?_
      refine r_iload_n (q := 19) dX6_endOf_18 rfl rfl rfl ?_
      refine r_icmp_geN (q := 22) (t := 68) (by omega) (by omega) dX6_endOf_19 (by decide) rfl (fun h19 => absurd h19 (by omega)) (fun h19 => ?_)
      refine r_iload (q := 24) dX6_endOf_22 rfl rfl ?_
      refine r_aload_n (q := 25) dX6_endOf_24 rfl rfl rfl ?_
      refine r_alen (q := 26) (by decide) (by decide) dX6_endOf_25 rfl (hs.e (show b < 5 by omega)) ?_
      refine r_topi (y := nI 13) (congrArg nI (hs.n rfl (show b < 5 by omega))) ?_
      refine r_icmp_geN (q := 29) (t := 68) (by omega) (by omega) dX6_endOf_26 (by decide) rfl (fun h26 => absurd h26 (by omega)) (fun h26 => ?_)
      refine r_aload_n (q := 30) dX6_endOf_29 rfl rfl rfl ?_
      refine r_iload (q := 32) dX6_endOf_30 rfl rfl ?_
      refine r_ialdN (q := 33) 13 (by decide) rfl dX6_endOf_32 rfl (hs.e (show b < 5 by omega)) (hs.n rfl (show b < 5 by omega)) (by omega) (by decide) ?_
      refine r_topi (y := nI (k - 1)) r0 ?_
      refine r_istore (q := 35) (L' := [some (zr 700 b), some (zi fr), some (zi (nI cnt)), some (zr 1003 s), some (zi (nI m)), some (zi (nI p)), some (zi (nI (k - 1)))]) dX6_endOf_33 rfl (by decide) rfl ?_
      refine r_iload (q := 37) dX6_endOf_35 rfl rfl ?_
      refine r_iload (q := 39) dX6_endOf_37 rfl rfl ?_
      refine r_if_ltN (q := 42) (t := 58) (by omega) dX6_endOf_39 (by decide) rfl ?_
      refine r_iload (q := 44) dX6_endOf_42 rfl rfl ?_
      refine r_aload_n (q := 45) dX6_endOf_44 rfl rfl rfl ?_
      refine r_alen (q := 46) (by decide) (by decide) dX6_endOf_45 rfl (hs.e (show s < 4 by omega)) ?_
      refine r_topi (y := nI 3) (congrArg nI (hs.n rfl (show s < 4 by omega))) ?_
      refine r_icmp_geN (q := 49) (t := 58) (by omega) (by omega) dX6_endOf_46 (by decide) rfl (fun h46 => absurd h46 (by omega)) (fun h46 => ?_)
      refine r_aload_n (q := 50) dX6_endOf_49 rfl rfl rfl ?_
      refine r_iload (q := 52) dX6_endOf_50 rfl rfl ?_
      refine r_ialdN (q := 53) 3 (by decide) rfl dX6_endOf_52 rfl (hs.e (show s < 4 by omega)) (hs.n rfl (show s < 4 by omega)) (by omega) (by decide) ?_
      refine r_topi (y := nI (e (k - 1))) e1 ?_
      refine r_iconst (q := 54) (nI 1) dX6_endOf_53 rfl (by decide) ?_
      refine r_isubN (q := 55) (by omega) dX6_endOf_54 rfl ?_
      refine r_goto (q := 59) dX6_endOf_55 (by decide) ?_
      refine r_iaddN (q := 60) dX6_endOf_59 rfl ?_
      refine r_topi (y := nI (m - 1 + e (k - 1))) (congrArg nI (by omega)) ?_
      refine r_istore (q := 62) (L' := [some (zr 700 b), some (zi fr), some (zi (nI cnt)), some (zr 1003 s), some (zi (nI (m - 1 + e (k - 1)))), some (zi (nI p)), some (zi (nI (k - 1)))]) dX6_endOf_60 rfl (by decide) rfl ?_
      refine r_iincN (q := 65) (L' := [some (zr 700 b), some (zi fr), some (zi (nI cnt)), some (zr 1003 s), some (zi (nI (m - 1 + e (k - 1)))), some (zi (nI (p + 1))), some (zi (nI (k - 1)))]) 1 rfl dX6_endOf_62 rfl rfl (by decide) rfl ?_
      refine r_goto (q := 6) dX6_endOf_65 (by decide) ?_
      refine r_mask [true, true, true, true, true, true, false] rfl ?_
      exact ih (p + 1) _ h2.2 (by omega) (by omega) (by omega) hr'

set_option maxRecDepth 100000 in
theorem ok_endOf {S : zS} (hs : Sd S) {b : Nat} (hb5 : b < 5) {s cnt A fr : Nat} (hs4 : s < 4) (hcnt : cnt ≤ 13) {e : Nat → Nat} (hE : Eok A e) (he : ∀ a, a < A → gI S 1003 s a = nI (e a)) {t : List Nat} (ht : Fs A e t 1) (hl : fr + t.length ≤ cnt) (hr : ∀ i, i < t.length → gI S 700 b (fr + i) = nI (nd (t.getD i 0))) : Ok mX6_endOf 0 (ent 7 [zr 700 b, zi (nI fr), zi (nI cnt), zr 1003 s]) [] S (fun r S1 => r = some (zi (nI (fr + t.length))) ∧ S1 = S) := by
  show Ok mX6_endOf 0 [some (zr 700 b), some (zi (nI fr)), some (zi (nI cnt)), some (zr 1003 s), none, none, none] [] S _
  refine r_iconst (q := 1) (nI 1) dX6_endOf_0 rfl (by decide) ?_
  refine r_istore (q := 3) (L' := [some (zr 700 b), some (zi (nI fr)), some (zi (nI cnt)), some (zr 1003 s), some (zi (nI 1)), none, none]) dX6_endOf_1 rfl (by decide) rfl ?_
  refine r_iload_n (q := 4) dX6_endOf_3 rfl rfl rfl ?_
  refine r_istore (q := 6) (L' := [some (zr 700 b), some (zi (nI fr)), some (zi (nI cnt)), some (zr 1003 s), some (zi (nI 1)), some (zi (nI fr)), none]) dX6_endOf_4 rfl (by decide) rfl ?_
  exact lp_end hs hb5 hs4 hcnt hE he t fr 1 ht (by omega) (by omega) hl hr

set_option maxRecDepth 100000 in
theorem lp_leavesIn {S : zS} (hs : Sd S) {b : Nat} (hb5 : b < 5) {fr : Int32} {to : Nat} (hto : to ≤ 13) : ∀ (t : List Nat) (p c : Nat), (∀ k, k ∈ t → k ≤ 3) → p + t.length = to → c + t.length ≤ 100 → (∀ i, i < t.length → gI S 700 b (p + i) = nI (nd (t.getD i 0))) → Ok mX6_leavesIn 5 [some (zr 700 b), some (zi fr), some (zi (nI to)), some (zi (nI c)), some (zi (nI p))] [] S (fun r S1 => r = some (zi (nI (c + lvs t))) ∧ S1 = S) := by
  intro t
  induction t with
  | nil =>
    intro p c h3 hp hc hr
    rw [List.length_nil] at hc
    obtain rfl : p = to := by simpa using hp
    refine r_iload (q := 7) dX6_leavesIn_5 rfl rfl ?_
    refine r_if_ltN (q := 10) (t := 40) (by omega) dX6_leavesIn_7 (by decide) rfl ?_
    refine r_iload (q := 12) dX6_leavesIn_10 rfl rfl ?_
    refine r_iload_n (q := 13) dX6_leavesIn_12 rfl rfl rfl ?_
    refine r_icmp_geN (q := 16) (t := 40) (by omega) (by omega) dX6_leavesIn_13 (by decide) rfl (fun h13 => ?_) (fun h13 => absurd h13 (by omega))
    refine r_iload_n (q := 41) dX6_leavesIn_40 rfl rfl rfl ?_
    refine r_ireturn dX6_leavesIn_41 rfl ?_
    exact ⟨rfl, rfl⟩
  | cons k r ih =>
    intro p c h3 hp hc hr
    have hk := h3 k List.mem_cons_self
    rw [List.length_cons] at hp hc
    have r0 : gI S 700 b p = nI (nd k) := by have := hr 0 (by simp); rw [Nat.add_zero] at this; exact this
    have hnd : nd k ≤ 3 := by unfold nd; split <;> omega
    have hr' : ∀ i, i < r.length → gI S 700 b (p + 1 + i) = nI (nd (r.getD i 0)) := fun i hi => by have := hr (i + 1) (by simp; omega); rw [show p + 1 + i = p + (i + 1) by omega]; exact this
    have h3' := fun q hq => h3 q (List.mem_cons_of_mem _ hq)
    refine r_iload (q := 7) dX6_leavesIn_5 rfl rfl ?_
    refine r_if_ltN (q := 10) (t := 40) (by omega) dX6_leavesIn_7 (by decide) rfl ?_
    refine r_iload (q := 12) dX6_leavesIn_10 rfl rfl ?_
    refine r_iload_n (q := 13) dX6_leavesIn_12 rfl rfl rfl ?_
    refine r_icmp_geN (q := 16) (t := 40) (by omega) (by omega) dX6_leavesIn_13 (by decide) rfl (fun h13 => absurd h13 (by omega)) (fun h13 => ?_)
    refine r_iload (q := 18) dX6_leavesIn_16 rfl rfl ?_
    refine r_aload_n (q := 19) dX6_leavesIn_18 rfl rfl rfl ?_
    refine r_alen (q := 20) (by decide) (by decide) dX6_leavesIn_19 rfl (hs.e (show b < 5 by omega)) ?_
    refine r_topi (y := nI 13) (congrArg nI (hs.n rfl (show b < 5 by omega))) ?_
    refine r_icmp_geN (q := 23) (t := 40) (by omega) (by omega) dX6_leavesIn_20 (by decide) rfl (fun h20 => absurd h20 (by omega)) (fun h20 => ?_)
    refine r_aload_n (q := 24) dX6_leavesIn_23 rfl rfl rfl ?_
    refine r_iload (q := 26) dX6_leavesIn_24 rfl rfl ?_
    refine r_ialdN (q := 27) 13 (by decide) rfl dX6_leavesIn_26 rfl (hs.e (show b < 5 by omega)) (hs.n rfl (show b < 5 by omega)) (by omega) (by decide) ?_
    refine r_topi (y := nI (nd k)) r0 ?_
    refine r_iconst (q := 28) (nI 3) dX6_leavesIn_27 rfl (by decide) ?_
    refine r_icmp_neN (q := 31) (t := 34) (by omega) (by omega) dX6_leavesIn_28 (by decide) rfl (fun h28 => ?_) (fun h28 => ?_)
    · skip
      refine r_iincN (q := 37) (L' := [some (zr 700 b), some (zi fr), some (zi (nI to)), some (zi (nI c)), some (zi (nI (p + 1)))]) 1 rfl dX6_leavesIn_34 rfl rfl (by decide) rfl ?_
      refine r_goto (q := 5) dX6_leavesIn_37 (by decide) ?_
      have e0 : ¬ k = 0 := fun z => h28 ((nd_3 hk).mpr z)
      rw [lvs, if_neg e0, Nat.zero_add]
      exact ih (p + 1) _ h3' (by omega) (by omega) hr'
    · skip
      refine r_iincN (q := 34) (L' := [some (zr 700 b), some (zi fr), some (zi (nI to)), some (zi (nI (c + 1))), some (zi (nI p))]) 1 rfl dX6_leavesIn_31 rfl rfl (by decide) rfl ?_
      refine r_iincN (q := 37) (L' := [some (zr 700 b), some (zi fr), some (zi (nI to)), some (zi (nI (c + 1))), some (zi (nI (p + 1)))]) 1 rfl dX6_leavesIn_34 rfl rfl (by decide) rfl ?_
      refine r_goto (q := 5) dX6_leavesIn_37 (by decide) ?_
      have e0 : k = 0 := (nd_3 hk).mp h28
      rw [lvs, if_pos e0, ← Nat.add_assoc]
      exact ih (p + 1) _ h3' (by omega) (by omega) hr'

set_option maxRecDepth 100000 in
theorem ok_leavesIn {S : zS} (hs : Sd S) {b : Nat} (hb5 : b < 5) {fr to : Nat} (hto : to ≤ 13) {t : List Nat} (h3 : ∀ k, k ∈ t → k ≤ 3) (hl : fr + t.length = to) (hr : ∀ i, i < t.length → gI S 700 b (fr + i) = nI (nd (t.getD i 0))) : Ok mX6_leavesIn 0 (ent 5 [zr 700 b, zi (nI fr), zi (nI to)]) [] S (fun r S1 => r = some (zi (nI (lvs t))) ∧ S1 = S) := by
  show Ok mX6_leavesIn 0 [some (zr 700 b), some (zi (nI fr)), some (zi (nI to)), none, none] [] S _
  refine r_iconst (q := 1) (nI 0) dX6_leavesIn_0 rfl (by decide) ?_
  refine r_istore_n (q := 2) (L' := [some (zr 700 b), some (zi (nI fr)), some (zi (nI to)), some (zi (nI 0)), none]) dX6_leavesIn_1 rfl rfl (by decide) rfl ?_
  refine r_iload_n (q := 3) dX6_leavesIn_2 rfl rfl rfl ?_
  refine r_istore (q := 5) (L' := [some (zr 700 b), some (zi (nI fr)), some (zi (nI to)), some (zi (nI 0)), some (zi (nI fr))]) dX6_leavesIn_3 rfl (by decide) rfl ?_
  have q := lp_leavesIn hs hb5 hto (fr := nI fr) t fr 0 h3 hl (by omega) hr
  rw [Nat.zero_add] at q
  exact q

set_option maxRecDepth 100000 in
theorem lp_placeOfLeaf {S : zS} (hs : Sd S) {b : Nat} (hb5 : b < 5) {leaf cnt : Nat} (hcnt : cnt ≤ 13) (hleaf : leaf ≤ 100) : ∀ (x : List Nat) (p c : Nat), (∀ k, k ∈ x → k ≤ 3) → p + x.length < cnt → c + lvs x = leaf → (∀ i, i < x.length → gI S 700 b (p + i) = nI (nd (x.getD i 0))) → gI S 700 b (p + x.length) = nI 3 → Ok mX6_placeOfLeaf 5 [some (zr 6 b), some (zi (nI leaf)), some (zi (nI cnt)), some (zi (nI c)), some (zi (nI p))] [] S (fun r S1 => r = some (zi (nI (p + x.length))) ∧ S1 = S) := by
  intro x
  induction x with
  | nil =>
    intro p c h3 hp hc hr h0
    obtain rfl : c = leaf := by simpa [lvs] using hc
    have h0 : gI S 700 b p = nI 3 := h0
    have hp : p < cnt := hp
    refine r_iload (q := 7) dX6_placeOfLeaf_5 rfl rfl ?_
    refine r_iload_n (q := 8) dX6_placeOfLeaf_7 rfl rfl rfl ?_
    refine r_icmp_geN (q := 11) (t := 49) (by omega) (by omega) dX6_placeOfLeaf_8 (by decide) rfl (fun h8 => absurd h8 (by omega)) (fun h8 => ?_)
    refine r_iload (q := 13) dX6_placeOfLeaf_11 rfl rfl ?_
    refine r_aload_n (q := 14) dX6_placeOfLeaf_13 rfl rfl rfl ?_
    refine r_getr (q := 17) (some (700, b)) ck6 dX6_placeOfLeaf_14 rfl (k := 0) (by decide) wt97 rfl (hs.e (show b < 5 by omega)) (hs.r (show b < 5 by omega) (by decide)) ?_
    refine r_alen (q := 18) (by decide) (by decide) dX6_placeOfLeaf_17 rfl (hs.e (show b < 5 by omega)) ?_
    refine r_topi (y := nI 13) (congrArg nI (hs.n rfl (show b < 5 by omega))) ?_
    refine r_icmp_geN (q := 21) (t := 49) (by omega) (by omega) dX6_placeOfLeaf_18 (by decide) rfl (fun h18 => absurd h18 (by omega)) (fun h18 => ?_)
    refine r_aload_n (q := 22) dX6_placeOfLeaf_21 rfl rfl rfl ?_
    refine r_getr (q := 25) (some (700, b)) ck6 dX6_placeOfLeaf_22 rfl (k := 0) (by decide) wt97 rfl (hs.e (show b < 5 by omega)) (hs.r (show b < 5 by omega) (by decide)) ?_
    refine r_iload (q := 27) dX6_placeOfLeaf_25 rfl rfl ?_
    refine r_ialdN (q := 28) 13 (by decide) rfl dX6_placeOfLeaf_27 rfl (hs.e (show b < 5 by omega)) (hs.n rfl (show b < 5 by omega)) (by omega) (by decide) ?_
    refine r_topi (y := nI 3) h0 ?_
    refine r_iconst (q := 29) (nI 3) dX6_placeOfLeaf_28 rfl (by decide) ?_
    refine r_icmp_neN (q := 32) (t := 43) (by omega) (by omega) dX6_placeOfLeaf_29 (by decide) rfl (fun h29 => absurd h29 (by omega)) (fun h29 => ?_)
    refine r_iload_n (q := 33) dX6_placeOfLeaf_32 rfl rfl rfl ?_
    refine r_iload_n (q := 34) dX6_placeOfLeaf_33 rfl rfl rfl ?_
    refine r_icmp_neN (q := 37) (t := 40) (by omega) (by omega) dX6_placeOfLeaf_34 (by decide) rfl (fun h34 => absurd h34 (by omega)) (fun h34 => ?_)
    refine r_iload (q := 39) dX6_placeOfLeaf_37 rfl rfl ?_
    refine r_ireturn dX6_placeOfLeaf_39 rfl ?_
    exact ⟨rfl, rfl⟩
  | cons k r ih =>
    intro p c h3 hp hc hr h0
    have hk := h3 k List.mem_cons_self
    rw [List.length_cons] at hp h0 ⊢
    have r0 : gI S 700 b p = nI (nd k) := by have := hr 0 (by simp); rw [Nat.add_zero] at this; exact this
    have hnd : nd k ≤ 3 := by unfold nd; split <;> omega
    have hr' : ∀ i, i < r.length → gI S 700 b (p + 1 + i) = nI (nd (r.getD i 0)) := fun i hi => by have := hr (i + 1) (by simp; omega); rw [show p + 1 + i = p + (i + 1) by omega]; exact this
    have h3' := fun q hq => h3 q (List.mem_cons_of_mem _ hq)
    rw [show p + (r.length + 1) = p + 1 + r.length by omega] at h0 hp ⊢
    rw [lvs] at hc
    refine r_iload (q := 7) dX6_placeOfLeaf_5 rfl rfl ?_
    refine r_iload_n (q := 8) dX6_placeOfLeaf_7 rfl rfl rfl ?_
    refine r_icmp_geN (q := 11) (t := 49) (by omega) (by omega) dX6_placeOfLeaf_8 (by decide) rfl (fun h8 => absurd h8 (by omega)) (fun h8 => ?_)
    refine r_iload (q := 13) dX6_placeOfLeaf_11 rfl rfl ?_
    refine r_aload_n (q := 14) dX6_placeOfLeaf_13 rfl rfl rfl ?_
    refine r_getr (q := 17) (some (700, b)) ck6 dX6_placeOfLeaf_14 rfl (k := 0) (by decide) wt97 rfl (hs.e (show b < 5 by omega)) (hs.r (show b < 5 by omega) (by decide)) ?_
    refine r_alen (q := 18) (by decide) (by decide) dX6_placeOfLeaf_17 rfl (hs.e (show b < 5 by omega)) ?_
    refine r_topi (y := nI 13) (congrArg nI (hs.n rfl (show b < 5 by omega))) ?_
    refine r_icmp_geN (q := 21) (t := 49) (by omega) (by omega) dX6_placeOfLeaf_18 (by decide) rfl (fun h18 => absurd h18 (by omega)) (fun h18 => ?_)
    refine r_aload_n (q := 22) dX6_placeOfLeaf_21 rfl rfl rfl ?_
    refine r_getr (q := 25) (some (700, b)) ck6 dX6_placeOfLeaf_22 rfl (k := 0) (by decide) wt97 rfl (hs.e (show b < 5 by omega)) (hs.r (show b < 5 by omega) (by decide)) ?_
    refine r_iload (q := 27) dX6_placeOfLeaf_25 rfl rfl ?_
    refine r_ialdN (q := 28) 13 (by decide) rfl dX6_placeOfLeaf_27 rfl (hs.e (show b < 5 by omega)) (hs.n rfl (show b < 5 by omega)) (by omega) (by decide) ?_
    refine r_topi (y := nI (nd k)) r0 ?_
    refine r_iconst (q := 29) (nI 3) dX6_placeOfLeaf_28 rfl (by decide) ?_
    refine r_icmp_neN (q := 32) (t := 43) (by omega) (by omega) dX6_placeOfLeaf_29 (by decide) rfl (fun h29 => ?_) (fun h29 => ?_)
    · skip
      refine r_iincN (q := 46) (L' := [some (zr 6 b), some (zi (nI leaf)), some (zi (nI cnt)), some (zi (nI c)), some (zi (nI (p + 1)))]) 1 rfl dX6_placeOfLeaf_43 rfl rfl (by decide) rfl ?_
      refine r_goto (q := 5) dX6_placeOfLeaf_46 (by decide) ?_
      have e0 : ¬ k = 0 := fun z => h29 ((nd_3 hk).mpr z)
      rw [if_neg e0] at hc
      exact ih (p + 1) _ h3' hp (by omega) hr' h0
    · skip
      have e0 : k = 0 := (nd_3 hk).mp h29
      rw [if_pos e0] at hc
      refine r_iload_n (q := 33) dX6_placeOfLeaf_32 rfl rfl rfl ?_
      refine r_iload_n (q := 34) dX6_placeOfLeaf_33 rfl rfl rfl ?_
      refine r_icmp_neN (q := 37) (t := 40) (by omega) (by omega) dX6_placeOfLeaf_34 (by decide) rfl (fun h34 => ?_) (fun h34 => absurd h34 (by omega))
      refine r_iincN (q := 43) (L' := [some (zr 6 b), some (zi (nI leaf)), some (zi (nI cnt)), some (zi (nI (c + 1))), some (zi (nI p))]) 1 rfl dX6_placeOfLeaf_40 rfl rfl (by decide) rfl ?_
      refine r_iincN (q := 46) (L' := [some (zr 6 b), some (zi (nI leaf)), some (zi (nI cnt)), some (zi (nI (c + 1))), some (zi (nI (p + 1)))]) 1 rfl dX6_placeOfLeaf_43 rfl rfl (by decide) rfl ?_
      refine r_goto (q := 5) dX6_placeOfLeaf_46 (by decide) ?_
      exact ih (p + 1) _ h3' hp (by omega) hr' h0

set_option maxRecDepth 100000 in
theorem ok_placeOfLeaf {S : zS} (hs : Sd S) {b : Nat} (hb5 : b < 5) {leaf cnt : Nat} (hcnt : cnt ≤ 13) {x : List Nat} (h3 : ∀ k, k ∈ x → k ≤ 3) (hx : x.length < cnt) (hc : lvs x = leaf) (hl7 : leaf ≤ 100) (hr : ∀ i, i < x.length → gI S 700 b i = nI (nd (x.getD i 0))) (h0 : gI S 700 b x.length = nI 3) : Ok mX6_placeOfLeaf 0 (ent 5 [zr 6 b, zi (nI leaf), zi (nI cnt)]) [] S (fun r S1 => r = some (zi (nI x.length)) ∧ S1 = S) := by
  show Ok mX6_placeOfLeaf 0 [some (zr 6 b), some (zi (nI leaf)), some (zi (nI cnt)), none, none] [] S _
  refine r_iconst (q := 1) (nI 0) dX6_placeOfLeaf_0 rfl (by decide) ?_
  refine r_istore_n (q := 2) (L' := [some (zr 6 b), some (zi (nI leaf)), some (zi (nI cnt)), some (zi (nI 0)), none]) dX6_placeOfLeaf_1 rfl rfl (by decide) rfl ?_
  refine r_iconst (q := 3) (nI 0) dX6_placeOfLeaf_2 rfl (by decide) ?_
  refine r_istore (q := 5) (L' := [some (zr 6 b), some (zi (nI leaf)), some (zi (nI cnt)), some (zi (nI 0)), some (zi (nI 0))]) dX6_placeOfLeaf_3 rfl (by decide) rfl ?_
  have q := lp_placeOfLeaf hs hb5 hcnt (by omega) x 0 0 h3 (by omega) (by omega) (fun i hi => by rw [Nat.zero_add]; exact hr i hi) (by rw [Nat.zero_add]; exact h0)
  rw [Nat.zero_add] at q
  exact q

set_option maxRecDepth 100000 in
theorem lp_sp1 {Po : Option zV → zS → Prop} {S : zS} (hs : Sd S) {b : Nat} (hb5 : b < 5) {cnt fr to pc : Nat} (hlim : fr ≤ 13) : ∀ (u l : List Nat) (i : Nat), i + u.length = fr → l.length + u.length ≤ 13 → (∀ j, j < u.length → gI S 700 b (i + j) = nI (u.getD j 0)) → Ok mX6_splice 55 [some (zr 6 b), some (zi (nI cnt)), some (zi (nI fr)), some (zi (nI to)), some (zi (nI pc)), some (zi (nI (l.length + u.length))), some (zi (nI fr))] [] (stR S 702 b (l ++ u)) Po → Ok mX6_splice 6 [some (zr 6 b), some (zi (nI cnt)), some (zi (nI fr)), some (zi (nI to)), some (zi (nI pc)), some (zi (nI l.length)), some (zi (nI i))] [] (stR S 702 b l) Po := by
  intro u
  induction u with
  | nil =>
    intro l i hi hl hr K
    obtain rfl : i = fr := by simpa using hi
    rw [List.append_nil] at K
    refine r_iload (q := 8) dX6_splice_6 rfl rfl ?_
    refine r_iload_n (q := 9) dX6_splice_8 rfl rfl rfl ?_
    refine r_icmp_geN (q := 12) (t := 55) (by omega) (by omega) dX6_splice_9 (by decide) rfl (fun h9 => ?_) (fun h9 => absurd h9 (by omega))
    exact K
  | cons v u ih =>
    intro l i hi hl hr K
    rw [List.length_cons] at hi hl K
    have r0 : gI (stR S 702 b l) 700 b i = nI v := by rw [gI_stR_x (by omega)]; have := hr 0 (by simp); rw [Nat.add_zero] at this; exact this
    have hr' : ∀ j, j < u.length → gI S 700 b (i + 1 + j) = nI (u.getD j 0) := fun j hj => by have := hr (j + 1) (by simp; omega); rw [show i + 1 + j = i + (j + 1) by omega]; exact this
    refine r_iload (q := 8) dX6_splice_6 rfl rfl ?_
    refine r_iload_n (q := 9) dX6_splice_8 rfl rfl rfl ?_
    refine r_icmp_geN (q := 12) (t := 55) (by omega) (by omega) dX6_splice_9 (by decide) rfl (fun h9 => absurd h9 (by omega)) (fun h9 => ?_)
    refine r_iload (q := 14) dX6_splice_12 rfl rfl ?_
    refine r_aload_n (q := 15) dX6_splice_14 rfl rfl rfl ?_
    refine r_getr (q := 18) (some (700, b)) ck6 dX6_splice_15 rfl (k := 0) (by decide) wt97 rfl (hs.e (show b < 5 by omega)) (hs.r (show b < 5 by omega) (by decide)) ?_
    refine r_alen (q := 19) (by decide) (by decide) dX6_splice_18 rfl (hs.e (show b < 5 by omega)) ?_
    refine r_topi (y := nI 13) (congrArg nI (hs.n rfl (show b < 5 by omega))) ?_
    refine r_icmp_geN (q := 22) (t := 55) (by omega) (by omega) dX6_splice_19 (by decide) rfl (fun h19 => absurd h19 (by omega)) (fun h19 => ?_)
    refine r_iload (q := 24) dX6_splice_22 rfl rfl ?_
    refine r_aload_n (q := 25) dX6_splice_24 rfl rfl rfl ?_
    refine r_getr (q := 28) (some (702, b)) ck6 dX6_splice_25 rfl (k := 2) (by decide) wt101 rfl (hs.e (show b < 5 by omega)) (hs.r (show b < 5 by omega) (by decide)) ?_
    refine r_alen (q := 29) (by decide) (by decide) dX6_splice_28 rfl (hs.e (show b < 5 by omega)) ?_
    refine r_topi (y := nI 13) (congrArg nI (hs.n rfl (show b < 5 by omega))) ?_
    refine r_icmp_geN (q := 32) (t := 55) (by omega) (by omega) dX6_splice_29 (by decide) rfl (fun h29 => absurd h29 (by omega)) (fun h29 => ?_)
    refine r_aload_n (q := 33) dX6_splice_32 rfl rfl rfl ?_
    refine r_getr (q := 36) (some (702, b)) ck6 dX6_splice_33 rfl (k := 2) (by decide) wt101 rfl (hs.e (show b < 5 by omega)) (hs.r (show b < 5 by omega) (by decide)) ?_
    refine r_iload (q := 38) dX6_splice_36 rfl rfl ?_
    refine r_aload_n (q := 39) dX6_splice_38 rfl rfl rfl ?_
    refine r_getr (q := 42) (some (700, b)) ck6 dX6_splice_39 rfl (k := 0) (by decide) wt97 rfl (hs.e (show b < 5 by omega)) (hs.r (show b < 5 by omega) (by decide)) ?_
    refine r_iload (q := 44) dX6_splice_42 rfl rfl ?_
    refine r_ialdN (q := 45) 13 (by decide) rfl dX6_splice_44 rfl (hs.e (show b < 5 by omega)) (hs.n rfl (show b < 5 by omega)) (by omega) (by decide) ?_
    refine r_topi (y := nI v) r0 ?_
    refine r_iastN (q := 46) 13 (by decide) rfl dX6_splice_45 rfl (hs.e (show b < 5 by omega)) (hs.n rfl (show b < 5 by omega)) (by omega) (by decide) ?_
    refine r_iincN (q := 49) (L' := [some (zr 6 b), some (zi (nI cnt)), some (zi (nI fr)), some (zi (nI to)), some (zi (nI pc)), some (zi (nI (l.length + 1))), some (zi (nI i))]) 1 rfl dX6_splice_46 rfl rfl (by decide) rfl ?_
    refine r_iincN (q := 52) (L' := [some (zr 6 b), some (zi (nI cnt)), some (zi (nI fr)), some (zi (nI to)), some (zi (nI pc)), some (zi (nI (l.length + 1))), some (zi (nI (i + 1)))]) 1 rfl dX6_splice_49 rfl rfl (by decide) rfl ?_
    refine r_goto (q := 6) dX6_splice_52 (by decide) ?_
    rw [stR_snoc]
    have q := ih (l ++ [v]) (i + 1) (by omega) (by simp; omega) hr' (by rw [List.append_assoc, List.singleton_append, List.length_append, List.length_singleton, show l.length + 1 + u.length = l.length + (u.length + 1) by omega]; exact K)
    rw [List.length_append, List.length_singleton] at q
    exact q

set_option maxRecDepth 100000 in
theorem lp_sp2 {Po : Option zV → zS → Prop} {S : zS} (hs : Sd S) {b : Nat} (hb5 : b < 5) {cnt fr to pc : Nat} (hlim : pc ≤ 13) : ∀ (u l : List Nat) (i : Nat), i + u.length = pc → l.length + u.length ≤ 13 → (∀ j, j < u.length → gI S 701 b (i + j) = nI (u.getD j 0)) → Ok mX6_splice 108 [some (zr 6 b), some (zi (nI cnt)), some (zi (nI fr)), some (zi (nI to)), some (zi (nI pc)), some (zi (nI (l.length + u.length))), some (zi (nI pc))] [] (stR S 702 b (l ++ u)) Po → Ok mX6_splice 58 [some (zr 6 b), some (zi (nI cnt)), some (zi (nI fr)), some (zi (nI to)), some (zi (nI pc)), some (zi (nI l.length)), some (zi (nI i))] [] (stR S 702 b l) Po := by
  intro u
  induction u with
  | nil =>
    intro l i hi hl hr K
    obtain rfl : i = pc := by simpa using hi
    rw [List.append_nil] at K
    refine r_iload (q := 60) dX6_splice_58 rfl rfl ?_
    refine r_iload (q := 62) dX6_splice_60 rfl rfl ?_
    refine r_icmp_geN (q := 65) (t := 108) (by omega) (by omega) dX6_splice_62 (by decide) rfl (fun h62 => ?_) (fun h62 => absurd h62 (by omega))
    exact K
  | cons v u ih =>
    intro l i hi hl hr K
    rw [List.length_cons] at hi hl K
    have r0 : gI (stR S 702 b l) 701 b i = nI v := by rw [gI_stR_x (by omega)]; have := hr 0 (by simp); rw [Nat.add_zero] at this; exact this
    have hr' : ∀ j, j < u.length → gI S 701 b (i + 1 + j) = nI (u.getD j 0) := fun j hj => by have := hr (j + 1) (by simp; omega); rw [show i + 1 + j = i + (j + 1) by omega]; exact this
    refine r_iload (q := 60) dX6_splice_58 rfl rfl ?_
    refine r_iload (q := 62) dX6_splice_60 rfl rfl ?_
    refine r_icmp_geN (q := 65) (t := 108) (by omega) (by omega) dX6_splice_62 (by decide) rfl (fun h62 => absurd h62 (by omega)) (fun h62 => ?_)
    refine r_iload (q := 67) dX6_splice_65 rfl rfl ?_
    refine r_aload_n (q := 68) dX6_splice_67 rfl rfl rfl ?_
    refine r_getr (q := 71) (some (701, b)) ck6 dX6_splice_68 rfl (k := 1) (by decide) wt99 rfl (hs.e (show b < 5 by omega)) (hs.r (show b < 5 by omega) (by decide)) ?_
    refine r_alen (q := 72) (by decide) (by decide) dX6_splice_71 rfl (hs.e (show b < 5 by omega)) ?_
    refine r_topi (y := nI 13) (congrArg nI (hs.n rfl (show b < 5 by omega))) ?_
    refine r_icmp_geN (q := 75) (t := 108) (by omega) (by omega) dX6_splice_72 (by decide) rfl (fun h72 => absurd h72 (by omega)) (fun h72 => ?_)
    refine r_iload (q := 77) dX6_splice_75 rfl rfl ?_
    refine r_aload_n (q := 78) dX6_splice_77 rfl rfl rfl ?_
    refine r_getr (q := 81) (some (702, b)) ck6 dX6_splice_78 rfl (k := 2) (by decide) wt101 rfl (hs.e (show b < 5 by omega)) (hs.r (show b < 5 by omega) (by decide)) ?_
    refine r_alen (q := 82) (by decide) (by decide) dX6_splice_81 rfl (hs.e (show b < 5 by omega)) ?_
    refine r_topi (y := nI 13) (congrArg nI (hs.n rfl (show b < 5 by omega))) ?_
    refine r_icmp_geN (q := 85) (t := 108) (by omega) (by omega) dX6_splice_82 (by decide) rfl (fun h82 => absurd h82 (by omega)) (fun h82 => ?_)
    refine r_aload_n (q := 86) dX6_splice_85 rfl rfl rfl ?_
    refine r_getr (q := 89) (some (702, b)) ck6 dX6_splice_86 rfl (k := 2) (by decide) wt101 rfl (hs.e (show b < 5 by omega)) (hs.r (show b < 5 by omega) (by decide)) ?_
    refine r_iload (q := 91) dX6_splice_89 rfl rfl ?_
    refine r_aload_n (q := 92) dX6_splice_91 rfl rfl rfl ?_
    refine r_getr (q := 95) (some (701, b)) ck6 dX6_splice_92 rfl (k := 1) (by decide) wt99 rfl (hs.e (show b < 5 by omega)) (hs.r (show b < 5 by omega) (by decide)) ?_
    refine r_iload (q := 97) dX6_splice_95 rfl rfl ?_
    refine r_ialdN (q := 98) 13 (by decide) rfl dX6_splice_97 rfl (hs.e (show b < 5 by omega)) (hs.n rfl (show b < 5 by omega)) (by omega) (by decide) ?_
    refine r_topi (y := nI v) r0 ?_
    refine r_iastN (q := 99) 13 (by decide) rfl dX6_splice_98 rfl (hs.e (show b < 5 by omega)) (hs.n rfl (show b < 5 by omega)) (by omega) (by decide) ?_
    refine r_iincN (q := 102) (L' := [some (zr 6 b), some (zi (nI cnt)), some (zi (nI fr)), some (zi (nI to)), some (zi (nI pc)), some (zi (nI (l.length + 1))), some (zi (nI i))]) 1 rfl dX6_splice_99 rfl rfl (by decide) rfl ?_
    refine r_iincN (q := 105) (L' := [some (zr 6 b), some (zi (nI cnt)), some (zi (nI fr)), some (zi (nI to)), some (zi (nI pc)), some (zi (nI (l.length + 1))), some (zi (nI (i + 1)))]) 1 rfl dX6_splice_102 rfl rfl (by decide) rfl ?_
    refine r_goto (q := 58) dX6_splice_105 (by decide) ?_
    rw [stR_snoc]
    have q := ih (l ++ [v]) (i + 1) (by omega) (by simp; omega) hr' (by rw [List.append_assoc, List.singleton_append, List.length_append, List.length_singleton, show l.length + 1 + u.length = l.length + (u.length + 1) by omega]; exact K)
    rw [List.length_append, List.length_singleton] at q
    exact q

set_option maxRecDepth 100000 in
theorem lp_sp3 {Po : Option zV → zS → Prop} {S : zS} (hs : Sd S) {b : Nat} (hb5 : b < 5) {cnt fr to pc : Nat} (hlim : cnt ≤ 13) : ∀ (u l : List Nat) (i : Nat), i + u.length = cnt → l.length + u.length ≤ 13 → (∀ j, j < u.length → gI S 700 b (i + j) = nI (u.getD j 0)) → Ok mX6_splice 165 [some (zr 6 b), some (zi (nI cnt)), some (zi (nI fr)), some (zi (nI to)), some (zi (nI pc)), some (zi (nI (l.length + u.length))), some (zi (nI cnt))] [] (stR S 702 b (l ++ u)) Po → Ok mX6_splice 111 [some (zr 6 b), some (zi (nI cnt)), some (zi (nI fr)), some (zi (nI to)), some (zi (nI pc)), some (zi (nI l.length)), some (zi (nI i))] [] (stR S 702 b l) Po := by
  intro u
  induction u with
  | nil =>
    intro l i hi hl hr K
    obtain rfl : i = cnt := by simpa using hi
    rw [List.append_nil] at K
    refine r_iload (q := 113) dX6_splice_111 rfl rfl ?_
    refine r_if_ltN (q := 116) (t := 165) (by omega) dX6_splice_113 (by decide) rfl ?_
    refine r_iload (q := 118) dX6_splice_116 rfl rfl ?_
    refine r_iload_n (q := 119) dX6_splice_118 rfl rfl rfl ?_
    refine r_icmp_geN (q := 122) (t := 165) (by omega) (by omega) dX6_splice_119 (by decide) rfl (fun h119 => ?_) (fun h119 => absurd h119 (by omega))
    exact K
  | cons v u ih =>
    intro l i hi hl hr K
    rw [List.length_cons] at hi hl K
    have r0 : gI (stR S 702 b l) 700 b i = nI v := by rw [gI_stR_x (by omega)]; have := hr 0 (by simp); rw [Nat.add_zero] at this; exact this
    have hr' : ∀ j, j < u.length → gI S 700 b (i + 1 + j) = nI (u.getD j 0) := fun j hj => by have := hr (j + 1) (by simp; omega); rw [show i + 1 + j = i + (j + 1) by omega]; exact this
    refine r_iload (q := 113) dX6_splice_111 rfl rfl ?_
    refine r_if_ltN (q := 116) (t := 165) (by omega) dX6_splice_113 (by decide) rfl ?_
    refine r_iload (q := 118) dX6_splice_116 rfl rfl ?_
    refine r_iload_n (q := 119) dX6_splice_118 rfl rfl rfl ?_
    refine r_icmp_geN (q := 122) (t := 165) (by omega) (by omega) dX6_splice_119 (by decide) rfl (fun h119 => absurd h119 (by omega)) (fun h119 => ?_)
    refine r_iload (q := 124) dX6_splice_122 rfl rfl ?_
    refine r_aload_n (q := 125) dX6_splice_124 rfl rfl rfl ?_
    refine r_getr (q := 128) (some (700, b)) ck6 dX6_splice_125 rfl (k := 0) (by decide) wt97 rfl (hs.e (show b < 5 by omega)) (hs.r (show b < 5 by omega) (by decide)) ?_
    refine r_alen (q := 129) (by decide) (by decide) dX6_splice_128 rfl (hs.e (show b < 5 by omega)) ?_
    refine r_topi (y := nI 13) (congrArg nI (hs.n rfl (show b < 5 by omega))) ?_
    refine r_icmp_geN (q := 132) (t := 165) (by omega) (by omega) dX6_splice_129 (by decide) rfl (fun h129 => absurd h129 (by omega)) (fun h129 => ?_)
    refine r_iload (q := 134) dX6_splice_132 rfl rfl ?_
    refine r_aload_n (q := 135) dX6_splice_134 rfl rfl rfl ?_
    refine r_getr (q := 138) (some (702, b)) ck6 dX6_splice_135 rfl (k := 2) (by decide) wt101 rfl (hs.e (show b < 5 by omega)) (hs.r (show b < 5 by omega) (by decide)) ?_
    refine r_alen (q := 139) (by decide) (by decide) dX6_splice_138 rfl (hs.e (show b < 5 by omega)) ?_
    refine r_topi (y := nI 13) (congrArg nI (hs.n rfl (show b < 5 by omega))) ?_
    refine r_icmp_geN (q := 142) (t := 165) (by omega) (by omega) dX6_splice_139 (by decide) rfl (fun h139 => absurd h139 (by omega)) (fun h139 => ?_)
    refine r_aload_n (q := 143) dX6_splice_142 rfl rfl rfl ?_
    refine r_getr (q := 146) (some (702, b)) ck6 dX6_splice_143 rfl (k := 2) (by decide) wt101 rfl (hs.e (show b < 5 by omega)) (hs.r (show b < 5 by omega) (by decide)) ?_
    refine r_iload (q := 148) dX6_splice_146 rfl rfl ?_
    refine r_aload_n (q := 149) dX6_splice_148 rfl rfl rfl ?_
    refine r_getr (q := 152) (some (700, b)) ck6 dX6_splice_149 rfl (k := 0) (by decide) wt97 rfl (hs.e (show b < 5 by omega)) (hs.r (show b < 5 by omega) (by decide)) ?_
    refine r_iload (q := 154) dX6_splice_152 rfl rfl ?_
    refine r_ialdN (q := 155) 13 (by decide) rfl dX6_splice_154 rfl (hs.e (show b < 5 by omega)) (hs.n rfl (show b < 5 by omega)) (by omega) (by decide) ?_
    refine r_topi (y := nI v) r0 ?_
    refine r_iastN (q := 156) 13 (by decide) rfl dX6_splice_155 rfl (hs.e (show b < 5 by omega)) (hs.n rfl (show b < 5 by omega)) (by omega) (by decide) ?_
    refine r_iincN (q := 159) (L' := [some (zr 6 b), some (zi (nI cnt)), some (zi (nI fr)), some (zi (nI to)), some (zi (nI pc)), some (zi (nI (l.length + 1))), some (zi (nI i))]) 1 rfl dX6_splice_156 rfl rfl (by decide) rfl ?_
    refine r_iincN (q := 162) (L' := [some (zr 6 b), some (zi (nI cnt)), some (zi (nI fr)), some (zi (nI to)), some (zi (nI pc)), some (zi (nI (l.length + 1))), some (zi (nI (i + 1)))]) 1 rfl dX6_splice_159 rfl rfl (by decide) rfl ?_
    refine r_goto (q := 111) dX6_splice_162 (by decide) ?_
    rw [stR_snoc]
    have q := ih (l ++ [v]) (i + 1) (by omega) (by simp; omega) hr' (by rw [List.append_assoc, List.singleton_append, List.length_append, List.length_singleton, show l.length + 1 + u.length = l.length + (u.length + 1) by omega]; exact K)
    rw [List.length_append, List.length_singleton] at q
    exact q

set_option maxRecDepth 100000 in
theorem ok_splice {S : zS} (hs : Sd S) {b : Nat} (hb5 : b < 5) {x y z u : List Nat} (hl : x.length + u.length + z.length ≤ 13) (hl2 : x.length + y.length + z.length ≤ 13) (hx : ∀ i, i < x.length → gI S 700 b i = nI (x.getD i 0)) (hz : ∀ i, i < z.length → gI S 700 b (x.length + y.length + i) = nI (z.getD i 0)) (hu : ∀ i, i < u.length → gI S 701 b i = nI (u.getD i 0)) : Ok mX6_splice 0 (ent 7 [zr 6 b, zi (nI (x.length + y.length + z.length)), zi (nI x.length), zi (nI (x.length + y.length)), zi (nI u.length)]) [] S (fun r S1 => r = some (zi (nI (x ++ u ++ z).length)) ∧ S1 = stR S 702 b (x ++ u ++ z)) := by
  show Ok mX6_splice 0 [some (zr 6 b), some (zi (nI (x.length + y.length + z.length))), some (zi (nI x.length)), some (zi (nI (x.length + y.length))), some (zi (nI u.length)), none, none] [] S _
  refine r_iconst (q := 1) (nI 0) dX6_splice_0 rfl (by decide) ?_
  refine r_istore (q := 3) (L' := [some (zr 6 b), some (zi (nI (x.length + y.length + z.length))), some (zi (nI x.length)), some (zi (nI (x.length + y.length))), some (zi (nI u.length)), some (zi (nI 0)), none]) dX6_splice_1 rfl (by decide) rfl ?_
  refine r_iconst (q := 4) (nI 0) dX6_splice_3 rfl (by decide) ?_
  refine r_istore (q := 6) (L' := [some (zr 6 b), some (zi (nI (x.length + y.length + z.length))), some (zi (nI x.length)), some (zi (nI (x.length + y.length))), some (zi (nI u.length)), some (zi (nI 0)), some (zi (nI 0))]) dX6_splice_4 rfl (by decide) rfl ?_
  have q := lp_sp1 (S := S) hs hb5 (cnt := x.length + y.length + z.length) (fr := x.length) (to := x.length + y.length) (pc := u.length) (Po := fun r S1 => r = some (zi (nI (x ++ u ++ z).length)) ∧ S1 = stR S 702 b (x ++ u ++ z)) (by omega) x [] 0 (by omega) (by simp; omega) (fun i hi => by rw [Nat.zero_add]; exact hx i hi) ?_
  · rw [stR_nil] at q; exact q
  · rw [List.nil_append, List.length_nil, Nat.zero_add]
    refine r_iconst (q := 56) (nI 0) dX6_splice_55 rfl (by decide) ?_
    refine r_istore (q := 58) (L' := [some (zr 6 b), some (zi (nI (x.length + y.length + z.length))), some (zi (nI x.length)), some (zi (nI (x.length + y.length))), some (zi (nI u.length)), some (zi (nI x.length)), some (zi (nI 0))]) dX6_splice_56 rfl (by decide) rfl ?_
    refine lp_sp2 hs hb5 (by omega) u x 0 (by omega) (by omega) (fun i hi => by rw [Nat.zero_add]; exact hu i hi) ?_
    refine r_iload_n (q := 109) dX6_splice_108 rfl rfl rfl ?_
    refine r_istore (q := 111) (L' := [some (zr 6 b), some (zi (nI (x.length + y.length + z.length))), some (zi (nI x.length)), some (zi (nI (x.length + y.length))), some (zi (nI u.length)), some (zi (nI (x.length + u.length))), some (zi (nI (x.length + y.length)))]) dX6_splice_109 rfl (by decide) rfl ?_
    have q := lp_sp3 (S := S) hs hb5 (cnt := x.length + y.length + z.length) (fr := x.length) (to := x.length + y.length) (pc := u.length) (Po := fun r S1 => r = some (zi (nI (x ++ u ++ z).length)) ∧ S1 = stR S 702 b (x ++ u ++ z)) (by omega) z (x ++ u) (x.length + y.length) (by omega) (by simp; omega) hz ?_
    · rw [List.length_append] at q; exact q
    · skip
      refine r_iload (q := 167) dX6_splice_165 rfl rfl ?_
      refine r_ireturn dX6_splice_167 rfl ?_
      exact ⟨by simp [List.length_append, Nat.add_assoc], rfl⟩

set_option maxRecDepth 100000 in
theorem ok_grafted {S : zS} (hs : Sd S) {b : Nat} (hb5 : b < 5) {A n m i : Nat} {e : Nat → Nat} (hE : Eok A e) {t u : List Nat} (ht : Tr A e n t) (hu : Tr A e m u) (hi : i < n) (hn : n + m - 1 ≤ 7) : Ok mX6_grafted 0 (ent 9 [zr 6 b, zi (nI (ky t)), zi (nI n), zi (nI i), zi (nI (ky u)), zi (nI m)]) [] S (fun r S1 => r = some (zi (nI (ky (gr t i u)))) ∧ Fr (tSh b) S S1) := by
  have hlt := ht.len hE
  have hlu := hu.len hE
  have hg := ht.gr hu hi
  have hlg := hg.len hE
  obtain ⟨x, z, e1, e2, e3⟩ := gr_split t i u (by rw [ht.2]; exact hi)
  have hlx : t.length = x.length + (z.length + 1) := by rw [e1, List.length_append, List.length_cons]
  have hlg2 : (gr t i u).length = x.length + u.length + z.length := by rw [e3, List.length_append, List.length_append]
  have h3t := ht.tok hE
  have h3x : ∀ k, k ∈ x → k ≤ 3 := fun k hk => h3t k (by rw [e1]; exact List.mem_append.mpr (Or.inl hk))
  have g1 : ∀ j, j < t.length → gI (stR S 700 b (t.map nd)) 700 b j = nI (nd (t.getD j 0)) := fun j hj => by rw [gI_stR_k (by rw [List.length_map]; exact hj), getD_map hj]
  have g2 : ∀ j, j < t.length → gI (stR (stR S 700 b (t.map nd)) 701 b (u.map nd)) 700 b j = nI (nd (t.getD j 0)) := fun j hj => by rw [gI_stR_x (by omega)]; exact g1 j hj
  have tx : ∀ j, j < x.length → t.getD j 0 = x.getD j 0 := fun j hj => by rw [e1, getD_appN, if_pos hj]
  have t0 : t.getD x.length 0 = 0 := by rw [e1, getD_appN, if_neg (by omega), Nat.sub_self]; rfl
  have tz : ∀ j, t.getD (x.length + 1 + j) 0 = z.getD j 0 := fun j => by rw [e1, getD_appN, if_neg (by omega), show x.length + 1 + j - x.length = j + 1 by omega]; rfl
  show Ok mX6_grafted 0 [some (zr 6 b), some (zi (nI (ky t))), some (zi (nI n)), some (zi (nI i)), some (zi (nI (ky u))), some (zi (nI m)), none, none, none] [] S _
  refine r_iload_n (q := 1) dX6_grafted_0 rfl rfl rfl ?_
  refine r_iload_n (q := 2) dX6_grafted_1 rfl rfl rfl ?_
  refine r_aload_n (q := 3) dX6_grafted_2 rfl rfl rfl ?_
  refine r_getr (q := 6) (some (700, b)) ck6 dX6_grafted_3 rfl (k := 0) (by decide) wt97 rfl (hs.e (show b < 5 by omega)) (hs.r (show b < 5 by omega) (by decide)) ?_
  refine r_callS (Mc := mX6_open) (q := 9) (As := [zi (nI (ky t)), zi (nI n), zr 700 b]) (st := []) dX6_grafted_6 rfl rfl mkX6_open wt804 wt746 rfl (Nat.le_of_ble_eq_true rfl) (Nat.le_of_ble_eq_true rfl) (by decide) (by decide) (by decide) (Or.inl rfl) hs.some (ok_open_700 hs hb5 hE ht (by omega)) (fun r6 S6 hp6 => ?_)
  obtain ⟨rfl, hq6⟩ := hp6
  rw [hq6]
  show Ok _ _ _ [zi (nI t.length)] _ _
  refine r_istore (q := 11) (L' := [some (zr 6 b), some (zi (nI (ky t))), some (zi (nI n)), some (zi (nI i)), some (zi (nI (ky u))), some (zi (nI m)), some (zi (nI t.length)), none, none]) dX6_grafted_9 rfl (by decide) rfl ?_
  refine r_iload (q := 13) dX6_grafted_11 rfl rfl ?_
  refine r_iload (q := 15) dX6_grafted_13 rfl rfl ?_
  refine r_aload_n (q := 16) dX6_grafted_15 rfl rfl rfl ?_
  refine r_getr (q := 19) (some (701, b)) ck6 dX6_grafted_16 rfl (k := 1) (by decide) wt99 rfl (hs.e (show b < 5 by omega)) (hs.r (show b < 5 by omega) (by decide)) ?_
  refine r_callS (Mc := mX6_open) (q := 22) (As := [zi (nI (ky u)), zi (nI m), zr 701 b]) (st := []) dX6_grafted_19 rfl rfl mkX6_open wt804 wt746 rfl (Nat.le_of_ble_eq_true rfl) (Nat.le_of_ble_eq_true rfl) (by decide) (by decide) (by decide) (Or.inl rfl) hs.some (ok_open_701 (S := stR S 700 b (t.map nd)) hs hb5 hE hu (by omega)) (fun r19 S19 hp19 => ?_)
  obtain ⟨rfl, hq19⟩ := hp19
  rw [hq19]
  show Ok _ _ _ [zi (nI u.length)] _ _
  refine r_istore (q := 24) (L' := [some (zr 6 b), some (zi (nI (ky t))), some (zi (nI n)), some (zi (nI i)), some (zi (nI (ky u))), some (zi (nI m)), some (zi (nI t.length)), some (zi (nI u.length)), none]) dX6_grafted_22 rfl (by decide) rfl ?_
  refine r_aload_n (q := 25) dX6_grafted_24 rfl rfl rfl ?_
  refine r_iload_n (q := 26) dX6_grafted_25 rfl rfl rfl ?_
  refine r_iload (q := 28) dX6_grafted_26 rfl rfl ?_
  refine r_callV (Mc := mX6_placeOfLeaf) (q := 31) (As := [zi (nI i), zi (nI t.length)]) (st := []) ck6 dX6_grafted_28 rfl rfl mkX6_placeOfLeaf wt805 wt807 wp31 rfl (Nat.le_of_ble_eq_true rfl) (Nat.le_of_ble_eq_true rfl) (by decide) (by decide) (by decide) (Or.inl rfl) (hs.e (show b < 5 by omega)) (ok_placeOfLeaf (S := stR (stR S 700 b (t.map nd)) 701 b (u.map nd)) hs hb5 (by omega) h3x (by omega) e2 (by omega) (fun j hj => by rw [g2 j (by omega), tx j hj]) (by rw [g2 x.length (by omega), t0]; rfl)) (fun r28 S28 hp28 => ?_)
  obtain ⟨rfl, hq28⟩ := hp28
  rw [hq28]
  show Ok _ _ _ [zi (nI x.length)] _ _
  refine r_istore (q := 33) (L' := [some (zr 6 b), some (zi (nI (ky t))), some (zi (nI n)), some (zi (nI i)), some (zi (nI (ky u))), some (zi (nI m)), some (zi (nI t.length)), some (zi (nI u.length)), some (zi (nI x.length))]) dX6_grafted_31 rfl (by decide) rfl ?_
  refine r_aload_n (q := 34) dX6_grafted_33 rfl rfl rfl ?_
  refine r_getr (q := 37) (some (702, b)) ck6 dX6_grafted_34 rfl (k := 2) (by decide) wt101 rfl (hs.e (show b < 5 by omega)) (hs.r (show b < 5 by omega) (by decide)) ?_
  refine r_iconst (q := 38) (nI 0) dX6_grafted_37 rfl (by decide) ?_
  refine r_aload_n (q := 39) dX6_grafted_38 rfl rfl rfl ?_
  refine r_iload (q := 41) dX6_grafted_39 rfl rfl ?_
  refine r_iload (q := 43) dX6_grafted_41 rfl rfl ?_
  refine r_iload (q := 45) dX6_grafted_43 rfl rfl ?_
  refine r_iconst (q := 46) (nI 1) dX6_grafted_45 rfl (by decide) ?_
  refine r_iaddN (q := 47) dX6_grafted_46 rfl ?_
  refine r_iload (q := 49) dX6_grafted_47 rfl rfl ?_
  refine r_callV (Mc := mX6_splice) (q := 52) (As := [zi (nI t.length), zi (nI x.length), zi (nI (x.length + 1)), zi (nI u.length)]) (st := [zi (nI 0), zr 702 b]) ck6 dX6_grafted_49 rfl rfl mkX6_splice wt809 wt811 wp32 rfl (Nat.le_of_ble_eq_true rfl) (Nat.le_of_ble_eq_true rfl) (by decide) (by decide) (by decide) (Or.inl rfl) (hs.e (show b < 5 by omega)) (show Ok mX6_splice 0 (ent 7 [zr 6 b, zi (nI t.length), zi (nI x.length), zi (nI (x.length + 1)), zi (nI u.length)]) [] (stR (stR S 700 b (t.map nd)) 701 b (u.map nd)) (fun r T => r = some (zi (nI (gr t i u).length)) ∧ T = stR (stR (stR S 700 b (t.map nd)) 701 b (u.map nd)) 702 b (x.map nd ++ u.map nd ++ z.map nd)) from by have q := ok_splice (S := stR (stR S 700 b (t.map nd)) 701 b (u.map nd)) hs hb5 (x := x.map nd) (y := [3]) (z := z.map nd) (u := u.map nd) (by simp; omega) (by simp; omega) (fun j hj => by rw [List.length_map] at hj; rw [g2 j (by omega), tx j hj, getD_map hj]) (fun j hj => by rw [List.length_map] at hj ⊢; rw [List.length_singleton, g2 _ (by omega), tz, getD_map hj]) (fun j hj => by rw [gI_stR_k hj]); rw [show (x.map nd ++ u.map nd ++ z.map nd).length = (gr t i u).length by simp; omega] at q; rw [show t.length = (x.map nd).length + [3].length + (z.map nd).length by simp; omega, show x.length = (x.map nd).length by simp, show u.length = (u.map nd).length by simp]; exact q) (fun r49 S49 hp49 => ?_)
  obtain ⟨rfl, hq49⟩ := hp49
  rw [hq49]
  show Ok _ _ _ [zi (nI ((gr t i u).length)), zi (nI 0), zr 702 b] _ _
  refine r_callS (Mc := mX6_code) (q := 55) (As := [zr 702 b, zi (nI 0), zi (nI ((gr t i u).length))]) (st := []) dX6_grafted_52 rfl rfl mkX6_code wt813 wt607 rfl (Nat.le_of_ble_eq_true rfl) (Nat.le_of_ble_eq_true rfl) (by decide) (by decide) (by decide) (Or.inl rfl) hs.some (ok_code_702 (S := stR (stR (stR S 700 b (t.map nd)) 701 b (u.map nd)) 702 b (x.map nd ++ u.map nd ++ z.map nd)) hs hb5 (fr := 0) (by omega) hE hg hn (by omega) (fun j hj => by rw [Nat.zero_add, gI_stR_k (by simp; omega), e3, show x.map nd ++ u.map nd ++ z.map nd = (x ++ u ++ z).map nd by simp, getD_map (by rw [← e3]; exact hj)])) (fun r52 S52 hp52 => ?_)
  obtain ⟨rfl, hq52⟩ := hp52
  rw [hq52]
  show Ok _ _ _ [zi (nI (ky (gr t i u)))] _ _
  refine r_ireturn dX6_grafted_55 rfl ?_
  exact ⟨rfl, ((Fr.rf.stR (fun _ => by simp [tSh])).stR (fun _ => by simp [tSh])).stR (fun _ => by simp [tSh])⟩

set_option maxRecDepth 100000 in
theorem ok_replaced {S : zS} (hs : Sd S) {b : Nat} (hb5 : b < 5) {A n m : Nat} {e : Nat → Nat} (hE : Eok A e) {x y z u : List Nat} (hu : Tr A e m u) (hg : Tr A e n (x ++ u ++ z)) (hm : m ≤ 7) (hn : n ≤ 7) (hl2 : x.length + y.length + z.length ≤ 13) (hrow : ∀ j, j < (x ++ y ++ z).length → gI S 700 b j = nI (nd ((x ++ y ++ z).getD j 0))) : Ok mX6_replaced 0 (ent 7 [zr 6 b, zi (nI (x.length + y.length + z.length)), zi (nI x.length), zi (nI (x.length + y.length)), zi (nI (ky u)), zi (nI m)]) [] S (fun r S1 => r = some (zi (nI (ky (x ++ u ++ z)))) ∧ Fr (tSh b) S S1 ∧ ∀ j, j < 13 → gI S1 700 b j = gI S 700 b j) := by
  have hlg := hg.len hE
  have hlu := hu.len hE
  have hlg2 : (x ++ u ++ z).length = x.length + u.length + z.length := by rw [List.length_append, List.length_append]
  have hlg3 : (x ++ y ++ z).length = x.length + y.length + z.length := by rw [List.length_append, List.length_append]
  have hx : ∀ j, j < x.length → gI S 700 b j = nI (nd (x.getD j 0)) := fun j hj => by rw [hrow j (by omega), List.append_assoc, getD_appN, if_pos hj]
  have hz : ∀ j, j < z.length → gI S 700 b (x.length + y.length + j) = nI (nd (z.getD j 0)) := fun j hj => by rw [hrow _ (by omega), getD_appN, List.length_append, if_neg (by omega), Nat.add_sub_cancel_left]
  show Ok mX6_replaced 0 [some (zr 6 b), some (zi (nI (x.length + y.length + z.length))), some (zi (nI x.length)), some (zi (nI (x.length + y.length))), some (zi (nI (ky u))), some (zi (nI m)), none] [] S _
  refine r_iload (q := 2) dX6_replaced_0 rfl rfl ?_
  refine r_iload (q := 4) dX6_replaced_2 rfl rfl ?_
  refine r_aload_n (q := 5) dX6_replaced_4 rfl rfl rfl ?_
  refine r_getr (q := 8) (some (701, b)) ck6 dX6_replaced_5 rfl (k := 1) (by decide) wt99 rfl (hs.e (show b < 5 by omega)) (hs.r (show b < 5 by omega) (by decide)) ?_
  refine r_callS (Mc := mX6_open) (q := 11) (As := [zi (nI (ky u)), zi (nI m), zr 701 b]) (st := []) dX6_replaced_8 rfl rfl mkX6_open wt804 wt746 rfl (Nat.le_of_ble_eq_true rfl) (Nat.le_of_ble_eq_true rfl) (by decide) (by decide) (by decide) (Or.inl rfl) hs.some (ok_open_701 hs hb5 hE hu hm) (fun r8 S8 hp8 => ?_)
  obtain ⟨rfl, hq8⟩ := hp8
  rw [hq8]
  show Ok _ _ _ [zi (nI u.length)] _ _
  refine r_istore (q := 13) (L' := [some (zr 6 b), some (zi (nI (x.length + y.length + z.length))), some (zi (nI x.length)), some (zi (nI (x.length + y.length))), some (zi (nI (ky u))), some (zi (nI m)), some (zi (nI u.length))]) dX6_replaced_11 rfl (by decide) rfl ?_
  refine r_aload_n (q := 14) dX6_replaced_13 rfl rfl rfl ?_
  refine r_getr (q := 17) (some (702, b)) ck6 dX6_replaced_14 rfl (k := 2) (by decide) wt101 rfl (hs.e (show b < 5 by omega)) (hs.r (show b < 5 by omega) (by decide)) ?_
  refine r_iconst (q := 18) (nI 0) dX6_replaced_17 rfl (by decide) ?_
  refine r_aload_n (q := 19) dX6_replaced_18 rfl rfl rfl ?_
  refine r_iload_n (q := 20) dX6_replaced_19 rfl rfl rfl ?_
  refine r_iload_n (q := 21) dX6_replaced_20 rfl rfl rfl ?_
  refine r_iload_n (q := 22) dX6_replaced_21 rfl rfl rfl ?_
  refine r_iload (q := 24) dX6_replaced_22 rfl rfl ?_
  refine r_callV (Mc := mX6_splice) (q := 27) (As := [zi (nI (x.length + y.length + z.length)), zi (nI x.length), zi (nI (x.length + y.length)), zi (nI u.length)]) (st := [zi (nI 0), zr 702 b]) ck6 dX6_replaced_24 rfl rfl mkX6_splice wt809 wt811 wp32 rfl (Nat.le_of_ble_eq_true rfl) (Nat.le_of_ble_eq_true rfl) (by decide) (by decide) (by decide) (Or.inl rfl) (hs.e (show b < 5 by omega)) (show Ok mX6_splice 0 (ent 7 [zr 6 b, zi (nI (x.length + y.length + z.length)), zi (nI x.length), zi (nI (x.length + y.length)), zi (nI u.length)]) [] (stR S 701 b (u.map nd)) (fun r T => r = some (zi (nI (x ++ u ++ z).length)) ∧ T = stR (stR S 701 b (u.map nd)) 702 b (x.map nd ++ u.map nd ++ z.map nd)) from by have q := ok_splice (S := stR S 701 b (u.map nd)) hs hb5 (x := x.map nd) (y := y.map nd) (z := z.map nd) (u := u.map nd) (by simp; omega) (by simp; omega) (fun j hj => by rw [List.length_map] at hj; rw [gI_stR_x (by omega), hx j hj, getD_map hj]) (fun j hj => by rw [List.length_map] at hj ⊢; rw [List.length_map, gI_stR_x (by omega), hz j hj, getD_map hj]) (fun j hj => by rw [gI_stR_k hj]); simp only [List.length_map, List.length_append] at q ⊢; exact q) (fun r24 S24 hp24 => ?_)
  obtain ⟨rfl, hq24⟩ := hp24
  rw [hq24]
  show Ok _ _ _ [zi (nI ((x ++ u ++ z).length)), zi (nI 0), zr 702 b] _ _
  refine r_callS (Mc := mX6_code) (q := 30) (As := [zr 702 b, zi (nI 0), zi (nI ((x ++ u ++ z).length))]) (st := []) dX6_replaced_27 rfl rfl mkX6_code wt813 wt607 rfl (Nat.le_of_ble_eq_true rfl) (Nat.le_of_ble_eq_true rfl) (by decide) (by decide) (by decide) (Or.inl rfl) hs.some (ok_code_702 (S := stR (stR S 701 b (u.map nd)) 702 b (x.map nd ++ u.map nd ++ z.map nd)) hs hb5 (fr := 0) (by omega) hE hg hn (by omega) (fun j hj => by rw [Nat.zero_add, gI_stR_k (by simp; omega), show x.map nd ++ u.map nd ++ z.map nd = (x ++ u ++ z).map nd by simp, getD_map hj])) (fun r27 S27 hp27 => ?_)
  obtain ⟨rfl, hq27⟩ := hp27
  rw [hq27]
  show Ok _ _ _ [zi (nI (ky (x ++ u ++ z)))] _ _
  refine r_ireturn dX6_replaced_30 rfl ?_
  exact ⟨rfl, (Fr.rf.stR (fun _ => by simp [tSh])).stR (fun _ => by simp [tSh]), fun j hj => by rw [gI_stR_x (by omega), gI_stR_x (by omega)]⟩

