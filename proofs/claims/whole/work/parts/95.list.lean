/-! trees listed as they rise -/
abbrev Srt (T : List (List Nat)) : Prop := T.Pairwise (fun a b => ky a < ky b)
def tLs (b n f0 x y k : Nat) : Bool := y == b && (x == 104 && decide (f0 ≤ k) || x == 103 && k == n + 1 || x == 700 || x == 701 || x == 702)
theorem getD_insG {α : Type} {r : List α} {x d : α} {k i : Nat} (hk : k ≤ r.length) : (r.take k ++ x :: r.drop k).getD i d = if i < k then r.getD i d else if i = k then x else r.getD (i - 1) d := by
  rw [List.getD_eq_getElem?_getD, List.getElem?_append, List.length_take, Nat.min_eq_left hk]
  by_cases h : i < k
  · rw [if_pos h, if_pos h, List.getElem?_take, if_pos h, List.getD_eq_getElem?_getD]
  · rw [if_neg h, if_neg h]
    by_cases e : i = k
    · rw [if_pos e, e, Nat.sub_self]; rfl
    · rw [if_neg e]
      obtain ⟨j, hj⟩ : ∃ j, i - k = j + 1 := ⟨i - k - 1, by omega⟩
      rw [hj, List.getElem?_cons_succ, List.getElem?_drop, List.getD_eq_getElem?_getD, show k + j = i - 1 by omega]
theorem mem_insG {α : Type} {r : List α} {x s : α} {k : Nat} : s ∈ r.take k ++ x :: r.drop k ↔ s = x ∨ s ∈ r := by
  rw [List.mem_append, List.mem_cons]
  constructor
  · rintro (h | h | h)
    · exact Or.inr (List.mem_of_mem_take h)
    · exact Or.inl h
    · exact Or.inr (List.mem_of_mem_drop h)
  · rintro (h | h)
    · exact Or.inr (Or.inl h)
    · rw [← List.take_append_drop k r, List.mem_append] at h
      rcases h with h | h
      · exact Or.inl h
      · exact Or.inr (Or.inr h)
theorem srt_ins {T : List (List Nat)} (hT : Srt T) {t : List Nat} {a : Nat} (ha : a ≤ T.length) (h1 : ∀ k, k < a → ky (T.getD k []) < ky t) (h2 : ∀ k, a ≤ k → k < T.length → ky t < ky (T.getD k [])) : Srt (T.take a ++ t :: T.drop a) := by
  refine List.pairwise_append.mpr ⟨hT.sublist (List.take_sublist _ _), List.pairwise_cons.mpr ⟨fun s hs => ?_, hT.sublist (List.drop_sublist _ _)⟩, fun s hs u hu => ?_⟩
  · obtain ⟨j, hj, rfl⟩ := List.mem_iff_getElem.mp hs
    rw [List.length_drop] at hj
    have := h2 (a + j) (by omega) (by omega)
    rw [List.getD_eq_getElem?_getD, List.getElem?_eq_getElem (by omega)] at this
    rw [List.getElem_drop]; exact this
  · obtain ⟨i, hi, rfl⟩ := List.mem_iff_getElem.mp hs
    rw [List.length_take] at hi
    have e1 : (T.take a)[i] = T.getD i [] := by
      rw [List.getElem_take, List.getD_eq_getElem?_getD, List.getElem?_eq_getElem (by omega)]; rfl
    rw [e1]
    rcases List.mem_cons.mp hu with rfl | hu
    · exact h1 i (by omega)
    · obtain ⟨j, hj, rfl⟩ := List.mem_iff_getElem.mp hu
      rw [List.length_drop] at hj
      have := sort_lt hT (i := i) (k := a + j) (by omega) (by omega)
      rw [List.getD_eq_getElem?_getD (i := a + j), List.getElem?_eq_getElem (by omega)] at this
      rw [List.getElem_drop]; exact this
theorem lx_ins {S : zS} {b n f0 : Nat} {T : List (List Nat)} (hL : Lx S b n f0 T) {t : List Nat} {a : Nat} (ha : a ≤ T.length) (hc : f0 + T.length < 400) (hc3 : T.length < 300) : Lx (sI (sI (cpS S 104 b 104 b (f0 + a) (f0 + a + 1) (T.length - a)) 104 b (f0 + a) (nI (ky t))) 103 b (n + 1) (nI (f0 + T.length + 1))) b n f0 (T.take a ++ t :: T.drop a) := by
  obtain ⟨l1, l2, l3, l4, l5⟩ := hL
  have hlen : (T.take a ++ t :: T.drop a).length = T.length + 1 := by simp; omega
  refine ⟨?_, ?_, by omega, by omega, fun i hi => ?_⟩
  · rw [gI_sI, if_neg (by omega), gI_sI, if_neg (by omega), gI_cpS, if_neg (by omega)]; exact l1
  · rw [gI_sI, if_pos ⟨rfl, rfl, rfl⟩, hlen]; rfl
  · rw [hlen] at hi
    rw [gI_sI, if_neg (by omega), gI_sI, getD_insG ha]
    by_cases e : i = a
    · rw [if_pos ⟨rfl, rfl, by omega⟩, if_neg (by omega), if_pos e]
    · rw [if_neg (by omega), gI_cpS, if_pos ⟨rfl, rfl⟩]
      unfold va_cpy
      by_cases q : i < a
      · rw [if_neg (by omega), if_pos q]; exact l5 i (by omega)
      · rw [if_pos (by omega), if_neg q, if_neg e, show f0 + a + (f0 + i - (f0 + a + 1)) = f0 + (i - 1) by omega]; exact l5 (i - 1) (by omega)
theorem fr_ins {S : zS} {b n f0 a c : Nat} {x y : Int32} : Fr (tLs b n f0) S (sI (sI (cpS S 104 b 104 b (f0 + a) (f0 + a + 1) c) 104 b (f0 + a) x) 103 b (n + 1) y) := by
  have h0 : Fr (tLs b n f0) S (cpS S 104 b 104 b (f0 + a) (f0 + a + 1) c) := by
    refine ⟨fun p q k hz => ?_, fun _ _ _ _ => rfl, rfl⟩
    rw [gI_cpS]
    by_cases e : p = 104 ∧ q = b
    · rw [if_pos e]
      unfold va_cpy
      unfold tLs at hz
      rw [if_neg (fun z => by simp [e.1, e.2] at hz; omega), e.1, e.2]
    · rw [if_neg e]
  exact (h0.i (by unfold tLs; simp)).i (by unfold tLs; simp)

set_option maxRecDepth 100000 in
theorem ok_insertKey_y {S : zS} (hs : Sd S) {b n f0 : Nat} (hb4 : b < 4) (hn7 : n ≤ 7) {T : List (List Nat)} (hL : Lx S b n f0 T) (hT : Srt T) {A : Nat} {e : Nat → Nat} (hE : Eok A e) (hTr : ∀ s, s ∈ T → Tr A e n s) {i : Nat} (hi : i < T.length) : Ok mX0_insertKey 0 (ent 5 [zr 0 b, zi (nI n), zi (nI (ky (T.getD i [])))]) [] S (fun r S1 => r = none ∧ Fr (tLs b n f0) S S1 ∧ ∃ T1, Lx S1 b n f0 T1 ∧ Srt T1 ∧ ∀ s, s ∈ T1 ↔ s = T.getD i [] ∨ s ∈ T) := by
  obtain ⟨l1, l2, l3, l4, l5⟩ := hL
  have hL : Lx S b n f0 T := ⟨l1, l2, l3, l4, l5⟩
  have hB : ∀ t, t ∈ T → ky t < 2 ^ 30 := fun s hs => ky_lt hE (hTr s hs) hn7
  have hkb := hB _ (mem_gd hi)
  show Ok mX0_insertKey 0 [some (zr 0 b), some (zi (nI n)), some (zi (nI (ky (T.getD i [])))), none, none] [] S _
  refine r_aload_n (q := 1) dX0_insertKey_0 rfl rfl rfl ?_
  refine r_iload_n (q := 2) dX0_insertKey_1 rfl rfl rfl ?_
  refine r_iload_n (q := 3) dX0_insertKey_2 rfl rfl rfl ?_
  refine r_callV (Mc := mX0_placeOf) (q := 6) (As := [zi (nI n), zi (nI (ky (T.getD i [])))]) (st := []) ck0 dX0_insertKey_3 rfl rfl mkX0_placeOf wt783 wt785 wp30 rfl (Nat.le_of_ble_eq_true rfl) (Nat.le_of_ble_eq_true rfl) (by decide) (by decide) (by decide) (Or.inl rfl) (hs.e (show b < 4 by omega)) (ok_bplace_in hs hb4 hn7 hL hT hB hi) (fun r3 S3 hp3 => ?_)
  obtain ⟨rfl, hq3⟩ := hp3
  rw [hq3]
  show Ok _ _ _ [zi (nI (f0 + i))] _ _
  refine r_istore_n (q := 7) (L' := [some (zr 0 b), some (zi (nI n)), some (zi (nI (ky (T.getD i [])))), some (zi (nI (f0 + i))), none]) dX0_insertKey_6 rfl rfl (by decide) rfl ?_
  refine r_aload_n (q := 8) dX0_insertKey_7 rfl rfl rfl ?_
  refine r_getr (q := 11) (some (103, b)) ck0 dX0_insertKey_8 rfl (k := 3) (by decide) wt380 rfl (hs.e (show b < 4 by omega)) (hs.r (show b < 4 by omega) (by decide)) ?_
  refine r_iload_n (q := 12) dX0_insertKey_11 rfl rfl rfl ?_
  refine r_iconst (q := 13) (nI 1) dX0_insertKey_12 rfl (by decide) ?_
  refine r_iaddN (q := 14) dX0_insertKey_13 rfl ?_
  refine r_ialdN (q := 15) 9 (by decide) rfl dX0_insertKey_14 rfl (hs.e (show b < 4 by omega)) (hs.n rfl (show b < 4 by omega)) (by omega) (by decide) ?_
  refine r_topi (y := nI (f0 + T.length)) l2 ?_
  refine r_istore (q := 17) (L' := [some (zr 0 b), some (zi (nI n)), some (zi (nI (ky (T.getD i [])))), some (zi (nI (f0 + i))), some (zi (nI (f0 + T.length)))]) dX0_insertKey_15 rfl (by decide) rfl ?_
  refine r_iload (q := 19) dX0_insertKey_17 rfl rfl ?_
  refine r_aload_n (q := 20) dX0_insertKey_19 rfl rfl rfl ?_
  refine r_getr (q := 23) (some (104, b)) ck0 dX0_insertKey_20 rfl (k := 4) (by decide) wt381 rfl (hs.e (show b < 4 by omega)) (hs.r (show b < 4 by omega) (by decide)) ?_
  refine r_alen (q := 24) (by decide) (by decide) dX0_insertKey_23 rfl (hs.e (show b < 4 by omega)) ?_
  refine r_topi (y := nI 400) (congrArg nI (hs.n rfl (show b < 4 by omega))) ?_
  refine r_icmp_geN (q := 27) (t := 43) (by omega) (by omega) dX0_insertKey_24 (by decide) rfl (fun h24 => ?_) (fun h24 => ?_)
  · skip
    refine r_return dX0_insertKey_43 rfl ?_
    exact ⟨rfl, Fr.rf, T, hL, hT, fun s => ⟨fun z => Or.inr z, fun z => z.elim (fun z => by rw [z]; exact mem_gd hi) id⟩⟩
  · skip
    refine r_iload_n (q := 28) dX0_insertKey_27 rfl rfl rfl ?_
    refine r_iload (q := 30) dX0_insertKey_28 rfl rfl ?_
    refine r_icmp_geN (q := 33) (t := 44) (by omega) (by omega) dX0_insertKey_30 (by decide) rfl (fun h30 => absurd h30 (by omega)) (fun h30 => ?_)
    refine r_aload_n (q := 34) dX0_insertKey_33 rfl rfl rfl ?_
    refine r_getr (q := 37) (some (104, b)) ck0 dX0_insertKey_34 rfl (k := 4) (by decide) wt381 rfl (hs.e (show b < 4 by omega)) (hs.r (show b < 4 by omega) (by decide)) ?_
    refine r_iload_n (q := 38) dX0_insertKey_37 rfl rfl rfl ?_
    refine r_ialdN (q := 39) 400 (by decide) rfl dX0_insertKey_38 rfl (hs.e (show b < 4 by omega)) (hs.n rfl (show b < 4 by omega)) (by omega) (by decide) ?_
    refine r_topi (y := nI (ky (T.getD i []))) (l5 i hi) ?_
    refine r_iload_n (q := 40) dX0_insertKey_39 rfl rfl rfl ?_
    refine r_icmp_neN (q := 43) (t := 44) (by omega) (by omega) dX0_insertKey_40 (by decide) rfl (fun h40 => absurd h40 (fun z => z rfl)) (fun h40 => ?_)
    refine r_return dX0_insertKey_43 rfl ?_
    exact ⟨rfl, Fr.rf, T, hL, hT, fun s => ⟨fun z => Or.inr z, fun z => z.elim (fun z => by rw [z]; exact mem_gd hi) id⟩⟩

set_option maxRecDepth 100000 in
theorem ok_insertKey_n {S : zS} (hs : Sd S) {b n f0 : Nat} (hb4 : b < 4) (hn7 : n ≤ 7) {T : List (List Nat)} (hL : Lx S b n f0 T) (hT : Srt T) {A : Nat} {e : Nat → Nat} (hE : Eok A e) (hTr : ∀ s, s ∈ T → Tr A e n s) {t : List Nat} (ht : Tr A e n t) (hnt : t ∉ T) (hc : f0 + T.length < 400) (hc3 : T.length < 300) : Ok mX0_insertKey 0 (ent 5 [zr 0 b, zi (nI n), zi (nI (ky t))]) [] S (fun r S1 => r = none ∧ Fr (tLs b n f0) S S1 ∧ ∃ T1, Lx S1 b n f0 T1 ∧ Srt T1 ∧ ∀ s, s ∈ T1 ↔ s = t ∨ s ∈ T) := by
  obtain ⟨l1, l2, l3, l4, l5⟩ := hL
  have hL : Lx S b n f0 T := ⟨l1, l2, l3, l4, l5⟩
  have hB : ∀ t, t ∈ T → ky t < 2 ^ 30 := fun s hs => ky_lt hE (hTr s hs) hn7
  have hkey := ky_lt hE ht hn7
  show Ok mX0_insertKey 0 [some (zr 0 b), some (zi (nI n)), some (zi (nI (ky t))), none, none] [] S _
  refine r_aload_n (q := 1) dX0_insertKey_0 rfl rfl rfl ?_
  refine r_iload_n (q := 2) dX0_insertKey_1 rfl rfl rfl ?_
  refine r_iload_n (q := 3) dX0_insertKey_2 rfl rfl rfl ?_
  refine r_callV (Mc := mX0_placeOf) (q := 6) (As := [zi (nI n), zi (nI (ky t))]) (st := []) ck0 dX0_insertKey_3 rfl rfl mkX0_placeOf wt783 wt785 wp30 rfl (Nat.le_of_ble_eq_true rfl) (Nat.le_of_ble_eq_true rfl) (by decide) (by decide) (by decide) (Or.inl rfl) (hs.e (show b < 4 by omega)) (ok_bplace hs hb4 hn7 hL hT hB hkey) (fun r3 S3 hp3 => ?_)
  obtain ⟨hq3, a, a1, rfl, a2, a3⟩ := hp3
  rw [hq3]
  have a4 : ∀ k, a ≤ k → k < T.length → ky t < ky (T.getD k []) := fun k k1 k2 => Nat.lt_of_le_of_ne (a3 k k1 k2) (fun z => hnt (by rw [ky_inj hE ht (hTr _ (mem_gd k2)) hn7 z]; exact mem_gd k2))
  show Ok _ _ _ [zi (nI (f0 + a))] _ _
  refine r_istore_n (q := 7) (L' := [some (zr 0 b), some (zi (nI n)), some (zi (nI (ky t))), some (zi (nI (f0 + a))), none]) dX0_insertKey_6 rfl rfl (by decide) rfl ?_
  refine r_aload_n (q := 8) dX0_insertKey_7 rfl rfl rfl ?_
  refine r_getr (q := 11) (some (103, b)) ck0 dX0_insertKey_8 rfl (k := 3) (by decide) wt380 rfl (hs.e (show b < 4 by omega)) (hs.r (show b < 4 by omega) (by decide)) ?_
  refine r_iload_n (q := 12) dX0_insertKey_11 rfl rfl rfl ?_
  refine r_iconst (q := 13) (nI 1) dX0_insertKey_12 rfl (by decide) ?_
  refine r_iaddN (q := 14) dX0_insertKey_13 rfl ?_
  refine r_ialdN (q := 15) 9 (by decide) rfl dX0_insertKey_14 rfl (hs.e (show b < 4 by omega)) (hs.n rfl (show b < 4 by omega)) (by omega) (by decide) ?_
  refine r_topi (y := nI (f0 + T.length)) l2 ?_
  refine r_istore (q := 17) (L' := [some (zr 0 b), some (zi (nI n)), some (zi (nI (ky t))), some (zi (nI (f0 + a))), some (zi (nI (f0 + T.length)))]) dX0_insertKey_15 rfl (by decide) rfl ?_
  refine r_iload (q := 19) dX0_insertKey_17 rfl rfl ?_
  refine r_aload_n (q := 20) dX0_insertKey_19 rfl rfl rfl ?_
  refine r_getr (q := 23) (some (104, b)) ck0 dX0_insertKey_20 rfl (k := 4) (by decide) wt381 rfl (hs.e (show b < 4 by omega)) (hs.r (show b < 4 by omega) (by decide)) ?_
  refine r_alen (q := 24) (by decide) (by decide) dX0_insertKey_23 rfl (hs.e (show b < 4 by omega)) ?_
  refine r_topi (y := nI 400) (congrArg nI (hs.n rfl (show b < 4 by omega))) ?_
  refine r_icmp_geN (q := 27) (t := 43) (by omega) (by omega) dX0_insertKey_24 (by decide) rfl (fun h24 => absurd h24 (by omega)) (fun h24 => ?_)
  refine r_iload_n (q := 28) dX0_insertKey_27 rfl rfl rfl ?_
  refine r_iload (q := 30) dX0_insertKey_28 rfl rfl ?_
  refine r_icmp_geN (q := 33) (t := 44) (by omega) (by omega) dX0_insertKey_30 (by decide) rfl (fun h30 => ?_) (fun h30 => ?_)
  · skip
    refine r_aload_n (q := 45) dX0_insertKey_44 rfl rfl rfl ?_
    refine r_getr (q := 48) (some (104, b)) ck0 dX0_insertKey_45 rfl (k := 4) (by decide) wt381 rfl (hs.e (show b < 4 by omega)) (hs.r (show b < 4 by omega) (by decide)) ?_
    refine r_iload_n (q := 49) dX0_insertKey_48 rfl rfl rfl ?_
    refine r_aload_n (q := 50) dX0_insertKey_49 rfl rfl rfl ?_
    refine r_getr (q := 53) (some (104, b)) ck0 dX0_insertKey_50 rfl (k := 4) (by decide) wt381 rfl (hs.e (show b < 4 by omega)) (hs.r (show b < 4 by omega) (by decide)) ?_
    refine r_iload_n (q := 54) dX0_insertKey_53 rfl rfl rfl ?_
    refine r_iconst (q := 55) (nI 1) dX0_insertKey_54 rfl (by decide) ?_
    refine r_iaddN (q := 56) dX0_insertKey_55 rfl ?_
    refine r_topi (y := nI (f0 + a + 1)) (congrArg nI (by omega)) ?_
    refine r_iload (q := 58) dX0_insertKey_56 rfl rfl ?_
    refine r_iload_n (q := 59) dX0_insertKey_58 rfl rfl rfl ?_
    refine r_isubN (q := 60) (by omega) dX0_insertKey_59 rfl ?_
    refine r_topi (y := nI (T.length - a)) (congrArg nI (by omega)) ?_
    refine r_copyi (q := 63) (by decide) (by decide) rfl rfl (hs.e (show b < 4 by omega)) (hs.e (show b < 4 by omega)) dX0_insertKey_60 rfl wt787 wt640 wt641 wt16 (Nat.le_of_ble_eq_true rfl) (by decide) (by decide) (by omega) (by omega) (by omega) (by rw [show gN S 104 b = 400 from (hs.n rfl (show b < 4 by omega))]; omega) (by rw [show gN S 104 b = 400 from (hs.n rfl (show b < 4 by omega))]; omega) ?_
    refine r_aload_n (q := 64) dX0_insertKey_63 rfl rfl rfl ?_
    refine r_getr (q := 67) (some (104, b)) ck0 dX0_insertKey_64 rfl (k := 4) (by decide) wt381 rfl (hs.e (show b < 4 by omega)) (hs.r (show b < 4 by omega) (by decide)) ?_
    refine r_iload_n (q := 68) dX0_insertKey_67 rfl rfl rfl ?_
    refine r_iload_n (q := 69) dX0_insertKey_68 rfl rfl rfl ?_
    refine r_iastN (q := 70) 400 (by decide) rfl dX0_insertKey_69 rfl (hs.e (show b < 4 by omega)) (hs.n rfl (show b < 4 by omega)) (by omega) (by decide) ?_
    refine r_aload_n (q := 71) dX0_insertKey_70 rfl rfl rfl ?_
    refine r_getr (q := 74) (some (103, b)) ck0 dX0_insertKey_71 rfl (k := 3) (by decide) wt380 rfl (hs.e (show b < 4 by omega)) (hs.r (show b < 4 by omega) (by decide)) ?_
    refine r_iload_n (q := 75) dX0_insertKey_74 rfl rfl rfl ?_
    refine r_iconst (q := 76) (nI 1) dX0_insertKey_75 rfl (by decide) ?_
    refine r_iaddN (q := 77) dX0_insertKey_76 rfl ?_
    refine r_iload (q := 79) dX0_insertKey_77 rfl rfl ?_
    refine r_iconst (q := 80) (nI 1) dX0_insertKey_79 rfl (by decide) ?_
    refine r_iaddN (q := 81) dX0_insertKey_80 rfl ?_
    refine r_topi (y := nI (f0 + T.length + 1)) (congrArg nI (by omega)) ?_
    refine r_iastN (q := 82) 9 (by decide) rfl dX0_insertKey_81 rfl (hs.e (show b < 4 by omega)) (hs.n rfl (show b < 4 by omega)) (by omega) (by decide) ?_
    refine r_return dX0_insertKey_82 rfl ?_
    exact ⟨rfl, fr_ins, _, lx_ins hL a1 hc hc3, srt_ins hT a1 a2 a4, fun s => mem_insG⟩
  · skip
    refine r_aload_n (q := 34) dX0_insertKey_33 rfl rfl rfl ?_
    refine r_getr (q := 37) (some (104, b)) ck0 dX0_insertKey_34 rfl (k := 4) (by decide) wt381 rfl (hs.e (show b < 4 by omega)) (hs.r (show b < 4 by omega) (by decide)) ?_
    refine r_iload_n (q := 38) dX0_insertKey_37 rfl rfl rfl ?_
    have h30 : a < T.length := by omega
    have hk3 := hB _ (mem_gd h30)
    refine r_ialdN (q := 39) 400 (by decide) rfl dX0_insertKey_38 rfl (hs.e (show b < 4 by omega)) (hs.n rfl (show b < 4 by omega)) (by omega) (by decide) ?_
    refine r_topi (y := nI (ky (T.getD a []))) (l5 a h30) ?_
    refine r_iload_n (q := 40) dX0_insertKey_39 rfl rfl rfl ?_
    refine r_icmp_neN (q := 43) (t := 44) (by omega) (by omega) dX0_insertKey_40 (by decide) rfl (fun h40 => ?_) (fun h40 => absurd h40 (fun z => Nat.ne_of_lt (a4 a (Nat.le_refl _) h30) z.symm))
    refine r_aload_n (q := 45) dX0_insertKey_44 rfl rfl rfl ?_
    refine r_getr (q := 48) (some (104, b)) ck0 dX0_insertKey_45 rfl (k := 4) (by decide) wt381 rfl (hs.e (show b < 4 by omega)) (hs.r (show b < 4 by omega) (by decide)) ?_
    refine r_iload_n (q := 49) dX0_insertKey_48 rfl rfl rfl ?_
    refine r_aload_n (q := 50) dX0_insertKey_49 rfl rfl rfl ?_
    refine r_getr (q := 53) (some (104, b)) ck0 dX0_insertKey_50 rfl (k := 4) (by decide) wt381 rfl (hs.e (show b < 4 by omega)) (hs.r (show b < 4 by omega) (by decide)) ?_
    refine r_iload_n (q := 54) dX0_insertKey_53 rfl rfl rfl ?_
    refine r_iconst (q := 55) (nI 1) dX0_insertKey_54 rfl (by decide) ?_
    refine r_iaddN (q := 56) dX0_insertKey_55 rfl ?_
    refine r_topi (y := nI (f0 + a + 1)) (congrArg nI (by omega)) ?_
    refine r_iload (q := 58) dX0_insertKey_56 rfl rfl ?_
    refine r_iload_n (q := 59) dX0_insertKey_58 rfl rfl rfl ?_
    refine r_isubN (q := 60) (by omega) dX0_insertKey_59 rfl ?_
    refine r_topi (y := nI (T.length - a)) (congrArg nI (by omega)) ?_
    refine r_copyi (q := 63) (by decide) (by decide) rfl rfl (hs.e (show b < 4 by omega)) (hs.e (show b < 4 by omega)) dX0_insertKey_60 rfl wt787 wt640 wt641 wt16 (Nat.le_of_ble_eq_true rfl) (by decide) (by decide) (by omega) (by omega) (by omega) (by rw [show gN S 104 b = 400 from (hs.n rfl (show b < 4 by omega))]; omega) (by rw [show gN S 104 b = 400 from (hs.n rfl (show b < 4 by omega))]; omega) ?_
    refine r_aload_n (q := 64) dX0_insertKey_63 rfl rfl rfl ?_
    refine r_getr (q := 67) (some (104, b)) ck0 dX0_insertKey_64 rfl (k := 4) (by decide) wt381 rfl (hs.e (show b < 4 by omega)) (hs.r (show b < 4 by omega) (by decide)) ?_
    refine r_iload_n (q := 68) dX0_insertKey_67 rfl rfl rfl ?_
    refine r_iload_n (q := 69) dX0_insertKey_68 rfl rfl rfl ?_
    refine r_iastN (q := 70) 400 (by decide) rfl dX0_insertKey_69 rfl (hs.e (show b < 4 by omega)) (hs.n rfl (show b < 4 by omega)) (by omega) (by decide) ?_
    refine r_aload_n (q := 71) dX0_insertKey_70 rfl rfl rfl ?_
    refine r_getr (q := 74) (some (103, b)) ck0 dX0_insertKey_71 rfl (k := 3) (by decide) wt380 rfl (hs.e (show b < 4 by omega)) (hs.r (show b < 4 by omega) (by decide)) ?_
    refine r_iload_n (q := 75) dX0_insertKey_74 rfl rfl rfl ?_
    refine r_iconst (q := 76) (nI 1) dX0_insertKey_75 rfl (by decide) ?_
    refine r_iaddN (q := 77) dX0_insertKey_76 rfl ?_
    refine r_iload (q := 79) dX0_insertKey_77 rfl rfl ?_
    refine r_iconst (q := 80) (nI 1) dX0_insertKey_79 rfl (by decide) ?_
    refine r_iaddN (q := 81) dX0_insertKey_80 rfl ?_
    refine r_topi (y := nI (f0 + T.length + 1)) (congrArg nI (by omega)) ?_
    refine r_iastN (q := 82) 9 (by decide) rfl dX0_insertKey_81 rfl (hs.e (show b < 4 by omega)) (hs.n rfl (show b < 4 by omega)) (by omega) (by decide) ?_
    refine r_return dX0_insertKey_82 rfl ?_
    exact ⟨rfl, fr_ins, _, lx_ins hL a1 hc hc3, srt_ins hT a1 a2 a4, fun s => mem_insG⟩

theorem ok_insertKey {S : zS} (hs : Sd S) {b n f0 : Nat} (hb4 : b < 4) (hn7 : n ≤ 7) {T : List (List Nat)} (hL : Lx S b n f0 T) (hT : Srt T) {A : Nat} {e : Nat → Nat} (hE : Eok A e) (hTr : ∀ s, s ∈ T → Tr A e n s) {t : List Nat} (ht : Tr A e n t) {U : List (List Nat)} (hU : ∀ s, Tr A e n s → s ∈ U) (hU3 : U.length ≤ 300) (hU4 : f0 + U.length ≤ 400) : Ok mX0_insertKey 0 (ent 5 [zr 0 b, zi (nI n), zi (nI (ky t))]) [] S (fun r S1 => r = none ∧ Fr (tLs b n f0) S S1 ∧ ∃ T1, Lx S1 b n f0 T1 ∧ Srt T1 ∧ ∀ s, s ∈ T1 ↔ s = t ∨ s ∈ T) := by
  by_cases h : t ∈ T
  · obtain ⟨i, hi, e⟩ := mem_idx h
    rw [← e]
    exact ok_insertKey_y hs hb4 hn7 hL hT hE hTr hi
  · have h1 := nodup_le (t :: T) U (List.nodup_cons.mpr ⟨h, hT.imp fun {a b} q z => by rw [z] at q; omega⟩) (fun s hs => by
      rcases List.mem_cons.mp hs with rfl | hs
      · exact hU _ ht
      · exact hU s (hTr s hs))
    rw [List.length_cons] at h1
    exact ok_insertKey_n hs hb4 hn7 hL hT hE hTr ht h (by omega) (by omega)

def roomB (S : zS) (b e n : Nat) : zS := if e ≤ n then S else gro S 107 b n (min 35261 (max e (2 * n)))

set_option maxRecDepth 100000 in
theorem ok_X0_makeRoom {S : zS} (hs : Sd S) {b e n : Nat} (hb4 : b < 4) (h7 : gN S 107 b = n) (hn : 512 ≤ n) (hn9 : n ≤ 160000) (he : e ≤ 35261) : Ok mX0_makeRoom 0 (ent 2 [zr 0 b, zi (nI e)]) [] S (fun r S1 => r = none ∧ S1 = roomB S b e n) := by
  show Ok mX0_makeRoom 0 [some (zr 0 b), some (zi (nI e))] [] S _
  refine r_iload_n (q := 1) dX0_makeRoom_0 rfl rfl rfl ?_
  refine r_aload_n (q := 2) dX0_makeRoom_1 rfl rfl rfl ?_
  refine r_getr (q := 5) (some (107, b)) ck0 dX0_makeRoom_2 rfl (k := 7) (by decide) wt384 rfl (hs.e (show b < 4 by omega)) (hs.r (show b < 4 by omega) (by decide)) ?_
  refine r_alen (q := 6) (by decide) (by decide) dX0_makeRoom_5 rfl (hs.e (show b < 4 by omega)) ?_
  refine r_topi (y := nI n) (congrArg nI h7) ?_
  refine r_icmp_leN (q := 9) (t := 42) (by omega) (by omega) dX0_makeRoom_6 (by decide) rfl (fun h6 => ?_) (fun h6 => ?_)
  · skip
    refine r_return dX0_makeRoom_42 rfl ?_
    exact ⟨rfl, by unfold roomB; rw [if_pos (by omega)]⟩
  · skip
    refine r_iload_n (q := 10) dX0_makeRoom_9 rfl rfl rfl ?_
    refine r_ldc (q := 12) (nI 35261) dX0_makeRoom_10 rfl wt818 ?_
    refine r_icmp_gtN (q := 15) (t := 42) (by omega) (by omega) dX0_makeRoom_12 (by decide) rfl (fun h12 => absurd h12 (by omega)) (fun h12 => ?_)
    refine r_aload_n (q := 16) dX0_makeRoom_15 rfl rfl rfl ?_
    refine r_aload_n (q := 17) dX0_makeRoom_16 rfl rfl rfl ?_
    refine r_getr (q := 20) (some (107, b)) ck0 dX0_makeRoom_17 rfl (k := 7) (by decide) wt384 rfl (hs.e (show b < 4 by omega)) (hs.r (show b < 4 by omega) (by decide)) ?_
    refine r_ldc (q := 22) (nI 35261) dX0_makeRoom_20 rfl wt818 ?_
    refine r_iload_n (q := 23) dX0_makeRoom_22 rfl rfl rfl ?_
    refine r_iconst (q := 24) (nI 2) dX0_makeRoom_23 rfl (by decide) ?_
    refine r_aload_n (q := 25) dX0_makeRoom_24 rfl rfl rfl ?_
    refine r_getr (q := 28) (some (107, b)) ck0 dX0_makeRoom_25 rfl (k := 7) (by decide) wt384 rfl (hs.e (show b < 4 by omega)) (hs.r (show b < 4 by omega) (by decide)) ?_
    refine r_alen (q := 29) (by decide) (by decide) dX0_makeRoom_28 rfl (hs.e (show b < 4 by omega)) ?_
    refine r_topi (y := nI n) (congrArg nI h7) ?_
    refine r_imulN (q := 30) dX0_makeRoom_29 rfl ?_
    refine r_mmax (q := 33) dX0_makeRoom_30 rfl wt819 wt625 wt15 wt626 (Nat.le_of_ble_eq_true rfl) (by decide) (by decide) ?_
    refine r_topi (y := nI (max e (2 * n))) (nI_max (by omega) (by omega)) ?_
    refine r_mmin (q := 36) dX0_makeRoom_33 rfl wt820 wt512 wt15 wt513 (Nat.le_of_ble_eq_true rfl) (by decide) (by decide) ?_
    refine r_topi (y := nI (min 35261 (max e (2 * n)))) (nI_min (by omega) (by omega)) ?_
    refine r_callS (Mc := mJ7_copyOf_59c91) (q := 39) (As := [zr 107 b, zi (nI (min 35261 (max e (2 * n))))]) (st := [zr 0 b]) dX0_makeRoom_36 rfl rfl mkJ7_copyOf_59c91 wt821 wt629 rfl (Nat.le_of_ble_eq_true rfl) (Nat.le_of_ble_eq_true rfl) (by decide) (by decide) (by decide) (Or.inr ⟨Nat.le_of_ble_eq_true rfl, rfl, rfl⟩) hs.some (ok_copyOf_107 (S := S) (n := n) (l := min 35261 (max e (2 * n))) hs (by omega) h7 (by omega) (by omega)) (fun r36 S36 hp36 => ?_)
    obtain ⟨rfl, hq36⟩ := hp36
    rw [show min n (min 35261 (max e (2 * n))) = n by omega] at hq36
    subst hq36
    show Ok _ _ _ _ (cpO S 107 b n (min 35261 (max e (2 * n)))) _
    show Ok _ _ _ [zr 99999 (gC S), zr 0 b] _ _
    have hs39 : Sd (cpO S 107 b n (min 35261 (max e (2 * n)))) := Sd.al9 hs
    refine r_putg (q := 42) (a1 := 107) (m := gC S) hs39 (show b < 4 by omega) (by decide) rfl (by decide) rfl rfl (show b < 4 by omega) (by decide) rfl (by decide) (by decide) rfl rfl (show gE (al S 99999 (gC S) (min 35261 (max e (2 * n))) (min 35261 (max e (2 * n)))) 99999 (gC S) = true by rw [gE_al, if_pos ⟨rfl, rfl⟩]) ck0 dX0_makeRoom_39 rfl (k := 7) (by decide) wt384 (Or.inl rfl) rfl ?_
    show Ok _ _ _ _ (gro S 107 b n (min 35261 (max e (2 * n)))) _
    have hg39 : Sd (gro S 107 b n (min 35261 (max e (2 * n)))) := Sd.gro hs rfl
    have hn39_107 : gN (gro S 107 b n (min 35261 (max e (2 * n)))) 107 b = min 35261 (max e (2 * n)) := by rw [gN_gro (by decide) (by decide), if_pos ⟨rfl, rfl⟩]
    refine r_return dX0_makeRoom_42 rfl ?_
    exact ⟨rfl, by unfold roomB; rw [if_neg (by omega)]⟩

theorem fg_room0 {S : zS} (hs : Sd S) {b e n : Nat} (hb : b < 4) (h7 : gN S 107 b = n) (hn : 512 ≤ n) (hn9 : n ≤ 160000) (he : e ≤ 35261) : Fg (fun x y k => x = 107 ∧ y = b ∧ (k = 0 ∨ n ≤ k)) S (roomB S b e n) ∧ (∀ k, k < n → gI (roomB S b e n) 107 b k = gI S 107 b k) ∧ e ≤ gN (roomB S b e n) 107 b ∧ 512 ≤ gN (roomB S b e n) 107 b ∧ gN (roomB S b e n) 107 b ≤ 160000 ∧ n ≤ gN (roomB S b e n) 107 b := by
  unfold roomB
  by_cases h : e ≤ n
  · rw [if_pos h]
    exact ⟨Fg.rf hs, fun _ _ => rfl, by omega, by omega, by omega, by omega⟩
  · rw [if_neg h]
    have hN : gN (gro S 107 b n (min 35261 (max e (2 * n)))) 107 b = min 35261 (max e (2 * n)) := by rw [gN_gro (by decide) (by decide), if_pos ⟨rfl, rfl⟩]
    have hNx : ∀ x y, x ≠ 99999 → ¬ (x = 107 ∧ y = b) → gN (gro S 107 b n (min 35261 (max e (2 * n)))) x y = gN S x y := fun x y hx hz => by rw [gN_gro (by decide) hx, if_neg hz]
    refine ⟨⟨Sd.gro hs rfl, fun x y k hx hz => ?_, fun x y k hx _ => gJ_gro hx, fun x y hx hz => hNx x y hx (fun z => hz ⟨z.1, z.2, Or.inl rfl⟩), ?_, ?_⟩, fun k hk => ?_, by rw [hN]; omega, by rw [hN]; omega, by rw [hN]; omega, by rw [hN]; omega⟩
    · rw [gI_gro (by decide) hx]
      by_cases e1 : x = 107 ∧ y = b
      · rw [if_pos e1, if_pos (by
          apply Classical.byContradiction
          intro z
          exact hz ⟨e1.1, e1.2, Or.inr (by omega)⟩), e1.1, e1.2]
      · rw [if_neg e1]
    · have hu := sm_upd (f := fun i => c0 (gN (gro S 107 b n (min 35261 (max e (2 * n)))) 107 i)) (g := fun i => c0 (gN S 107 i)) hb (fun i _ hi => by show c0 _ = c0 _; rw [hNx _ _ (by omega) (by omega)])
      have e2 : sm (fun j => c8 (gN (gro S 107 b n (min 35261 (max e (2 * n)))) 902 j)) 19 = sm (fun j => c8 (gN S 902 j)) 19 := sm_cong fun i _ => by rw [hNx _ _ (by omega) (by omega)]
      have e3 : gN (gro S 107 b n (min 35261 (max e (2 * n)))) 202 0 = gN S 202 0 := hNx _ _ (by omega) (by omega)
      rw [hN, h7] at hu
      unfold pC
      rw [e2, e3, gC_gro]
      unfold c0 at hu ⊢
      omega
    · have hu := sm_upd (f := fun i => q0 (gN (gro S 107 b n (min 35261 (max e (2 * n)))) 107 i)) (g := fun i => q0 (gN S 107 i)) hb (fun i _ hi => by show q0 _ = q0 _; rw [hNx _ _ (by omega) (by omega)])
      have e2 : sm (fun j => q8 (gN (gro S 107 b n (min 35261 (max e (2 * n)))) 902 j)) 19 = sm (fun j => q8 (gN S 902 j)) 19 := sm_cong fun i _ => by rw [hNx _ _ (by omega) (by omega)]
      have e3 : gN (gro S 107 b n (min 35261 (max e (2 * n)))) 202 0 = gN S 202 0 := hNx _ _ (by omega) (by omega)
      rw [hN, h7] at hu
      unfold pQ
      rw [e2, e3, gQ_gro]
      unfold q0 at hu ⊢
      omega
    · rw [gI_gro (by decide) (by decide), if_pos ⟨rfl, rfl⟩, if_pos hk]

