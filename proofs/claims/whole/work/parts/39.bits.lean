/-! bits of small numbers -/
theorem sh31 : ∀ s, s < 32 → ((nI s &&& 31).toBitVec.smod 32).toNat = s := by decide
theorem ush31 : ∀ s, s < 32 → (((nI s).toUInt32 &&& Int32.toUInt32 31).toBitVec % 32).toNat = s := by decide
theorem shr_N {x s : Nat} (hx : x < 2147483648) (hs : s < 32) : nI x >>> (nI s &&& 31) = nI (x / 2 ^ s) := pk_shrN (by omega) _ s (sh31 s hs)
theorem shl_N {x s : Nat} (hx : x * 2 ^ s < 2147483648) (hs : s < 32) : nI x <<< (nI s &&& 31) = nI (x * 2 ^ s) := pk_shlN _ s (sh31 s hs) (by omega)
theorem ushr_N {x s : Nat} (hx : x < 2147483648) (hs : s < 32) : ((nI x).toUInt32 >>> ((nI s).toUInt32 &&& Int32.toUInt32 31)).toInt32 = nI (x / 2 ^ s) := pk_ushrN (by omega) _ s (ush31 s hs)
theorem or_N {x y : Nat} : nI x ||| nI y = nI (x ||| y) := by
  apply Int32.toBitVec_inj.mp
  show BitVec.ofNat 32 x ||| BitVec.ofNat 32 y = BitVec.ofNat 32 (x ||| y)
  rw [BitVec.ofNat_or]
theorem or_add {x y s : Nat} (h : y < 2 ^ s) : (x * 2 ^ s) ||| y = x * 2 ^ s + y := by
  rw [Nat.mul_comm]
  exact (Nat.two_pow_add_eq_or_of_lt h x).symm
theorem or_addN {x y s : Nat} (h : y < 2 ^ s) : nI (x * 2 ^ s) ||| nI y = nI (x * 2 ^ s + y) := by rw [or_N, or_add h]
theorem or_mod {x y s : Nat} (hx : x % 2 ^ s = 0) (h : y < 2 ^ s) : nI x ||| nI y = nI (x + y) := by
  have e : x = x / 2 ^ s * 2 ^ s := by have := Nat.div_add_mod x (2 ^ s); rw [hx, Nat.add_zero, Nat.mul_comm] at this; exact this.symm
  rw [e]
  exact or_addN h
/-! a row with a list ahead -/
def stR (S : zS) (a b : Nat) (l : List Nat) : zS := (fun x y k => if x = a ∧ y = b ∧ k < l.length then nI (l.getD k 0) else S.1 x y k, S.2)
theorem gI_stR {S : zS} {a b x y k : Nat} {l : List Nat} : gI (stR S a b l) x y k = if x = a ∧ y = b ∧ k < l.length then nI (l.getD k 0) else gI S x y k := rfl
theorem gJ_stR {S : zS} {a b x y k : Nat} {l : List Nat} : gJ (stR S a b l) x y k = gJ S x y k := rfl
theorem gI_stR_x {S : zS} {a b x y k : Nat} {l : List Nat} (h : ¬ (x = a ∧ y = b)) : gI (stR S a b l) x y k = gI S x y k := if_neg fun z => h ⟨z.1, z.2.1⟩
theorem gI_stR_k {S : zS} {a b k : Nat} {l : List Nat} (h : k < l.length) : gI (stR S a b l) a b k = nI (l.getD k 0) := if_pos ⟨rfl, rfl, h⟩
theorem stR_nil {S : zS} {a b : Nat} : stR S a b [] = S := by
  unfold stR
  have : (fun x y k => if x = a ∧ y = b ∧ k < ([] : List Nat).length then nI (([] : List Nat).getD k 0) else S.1 x y k) = S.1 := by
    funext x y k; rw [if_neg (fun z => absurd z.2.2 (Nat.not_lt_zero _))]
  rw [this]
theorem stR_snoc {S : zS} {a b v : Nat} {l : List Nat} : sI (stR S a b l) a b l.length (nI v) = stR S a b (l ++ [v]) := by
  unfold sI stR
  refine Prod.ext ?_ rfl
  funext x y k
  show (if x = a ∧ y = b ∧ k = l.length then nI v else if x = a ∧ y = b ∧ k < l.length then nI (l.getD k 0) else S.1 x y k) = if x = a ∧ y = b ∧ k < (l ++ [v]).length then nI ((l ++ [v]).getD k 0) else S.1 x y k
  rw [List.length_append, List.length_singleton]
  by_cases h : x = a ∧ y = b
  · obtain ⟨rfl, rfl⟩ := h
    rcases Nat.lt_trichotomy k l.length with g | g | g
    · rw [if_neg (by omega), if_pos ⟨rfl, rfl, g⟩, if_pos ⟨rfl, rfl, by omega⟩, List.getD_eq_getElem?_getD, List.getD_eq_getElem?_getD, List.getElem?_append_left g]
    · rw [if_pos ⟨rfl, rfl, g⟩, if_pos ⟨rfl, rfl, by omega⟩, List.getD_eq_getElem?_getD, List.getElem?_append_right (by omega), g, Nat.sub_self]; rfl
    · rw [if_neg (by omega), if_neg (by omega), if_neg (by omega)]
  · rw [if_neg (fun z => h ⟨z.1, z.2.1⟩), if_neg (fun z => h ⟨z.1, z.2.1⟩), if_neg (fun z => h ⟨z.1, z.2.1⟩)]
theorem sI_sI {S : zS} {a b k : Nat} {v w : Int32} : sI (sI S a b k v) a b k w = sI S a b k w := by
  unfold sI
  refine Prod.ext ?_ rfl
  funext x y z
  show (if x = a ∧ y = b ∧ z = k then w else if x = a ∧ y = b ∧ z = k then v else S.1 x y z) = if x = a ∧ y = b ∧ z = k then w else S.1 x y z
  by_cases h : x = a ∧ y = b ∧ z = k
  · rw [if_pos h, if_pos h]
  · rw [if_neg h, if_neg h, if_neg h]
theorem Fr.stR {T : Nat → Nat → Nat → Bool} {S S1 : zS} (h : Fr T S S1) {a b : Nat} {l : List Nat} (ht : ∀ k, T a b k = true) : Fr T S (stR S1 a b l) := by
  refine ⟨fun x y z hz => ?_, h.2.1, h.2.2⟩
  rw [gI_stR, if_neg (fun q => by rw [q.1, q.2.1, ht z] at hz; cases hz)]
  exact h.1 x y z hz
/-- a code cut behind a place -/
theorem cd_take {t : List Nat} (h3 : ∀ k, k ∈ t → k ≤ 3) (j : Nat) (hj : j ≤ t.length) : cd t / 2 ^ (2 * (t.length - j)) = cd (t.take j) := by
  have e : cd t = cdF (cd (t.take j)) (t.drop j) := by
    show cdF 1 t = cdF (cdF 1 (t.take j)) (t.drop j)
    rw [← cdF_app, List.take_append_drop]
  rw [e, cdF_eq, Nat.pow_mul, List.length_drop]
  have := dv_lt (t.drop j) (fun k hk => h3 k (List.mem_of_mem_drop hk))
  rw [List.length_drop] at this
  show (cd (t.take j) * 4 ^ (t.length - j) + dv (t.drop j)) / 4 ^ (t.length - j) = _
  rw [Nat.mul_comm, Nat.mul_add_div (Nat.pow_pos (by omega)), Nat.div_eq_of_lt this, Nat.add_zero]
theorem cd_snoc {t : List Nat} {k : Nat} : cd (t ++ [k]) = 4 * cd t + k := cdF_app
theorem take_snoc {t : List Nat} {j : Nat} (h : j < t.length) : t.take (j + 1) = t.take j ++ [t.getD j 0] := by
  rw [List.take_succ_eq_append_getElem h, List.getD_eq_getElem?_getD, List.getElem?_eq_getElem h]; rfl
theorem cd_takeS {t : List Nat} {j : Nat} (h : j < t.length) : cd (t.take (j + 1)) = 4 * cd (t.take j) + t.getD j 0 := by rw [take_snoc h, cd_snoc]
theorem getD_mem {t : List Nat} {j : Nat} (h : j < t.length) : t.getD j 0 ∈ t := by
  rw [List.getD_eq_getElem?_getD, List.getElem?_eq_getElem h]; exact List.getElem_mem h
theorem cd_pos (t : List Nat) : 1 ≤ cd t := cdF_pos (Nat.le_refl 1) t
theorem cd_mono {t : List Nat} {j : Nat} : cd (t.take j) ≤ cd t := by
  have e : cd t = cdF (cd (t.take j)) (t.drop j) := by
    show cdF 1 t = cdF (cdF 1 (t.take j)) (t.drop j)
    rw [← cdF_app, List.take_append_drop]
  rw [e, cdF_eq]
  have : cd (t.take j) * 1 ≤ cd (t.take j) * 4 ^ (t.drop j).length := Nat.mul_le_mul_left _ (Nat.pow_pos (by omega))
  omega
