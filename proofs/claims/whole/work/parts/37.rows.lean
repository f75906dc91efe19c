section
variable {S : zS} {j e a k x y : Nat} {key num : Int32}
theorem tin_x (h1 : ¬ (x = 8 ∧ y = j ∧ k = 1)) (h2 : ¬ ((x = 902 ∨ x = 903) ∧ y = j)) : gI (tin S j e a key num) x y k = gI S x y k := by
  unfold tin
  rw [gI_sI, if_neg (by omega), gI_sI, if_neg (by omega), gI_sI, if_neg (by omega), gI_cpS, if_neg (by omega), gI_cpS, if_neg (by omega)]
theorem tin_1 : gI (tin S j e a key num) 8 j 1 = nI (e + 1) := by
  unfold tin
  rw [gI_sI, if_pos ⟨rfl, rfl, rfl⟩]
theorem tin_k (ha : a ≤ e) (hk : k ≤ e) : gI (tin S j e a key num) 902 j k = if k < a then gI S 902 j k else if k = a then key else gI S 902 j (k - 1) := by
  unfold tin
  rw [gI_sI, if_neg (by omega), gI_sI, if_neg (by omega), gI_sI]
  by_cases h1 : k = a
  · rw [if_pos ⟨rfl, rfl, h1⟩, if_neg (by omega), if_pos h1]
  · rw [if_neg (fun z => h1 z.2.2), gI_cpS, if_neg (by omega), gI_cpS, if_pos ⟨rfl, rfl⟩]
    by_cases h2 : k < a
    · rw [if_pos h2, pk_cpy_out (Or.inl (by omega))]
    · rw [if_neg h2, if_neg h1, pk_cpy_in (by omega) (by omega), show a + (k - (a + 1)) = k - 1 by omega]
theorem tin_n (ha : a ≤ e) (hk : k ≤ e) : gI (tin S j e a key num) 903 j k = if k < a then gI S 903 j k else if k = a then num else gI S 903 j (k - 1) := by
  unfold tin
  rw [gI_sI, if_neg (by omega), gI_sI]
  by_cases h1 : k = a
  · rw [if_pos ⟨rfl, rfl, h1⟩, if_neg (by omega), if_pos h1]
  · rw [if_neg (fun z => h1 z.2.2), gI_sI, if_neg (by omega), gI_cpS, if_pos ⟨rfl, rfl⟩]
    by_cases h2 : k < a
    · rw [if_pos h2, pk_cpy_out (Or.inl (by omega)), gI_cpS, if_neg (by omega)]
    · rw [if_neg h2, if_neg h1, pk_cpy_in (by omega) (by omega), gI_cpS, if_neg (by omega), show a + (k - (a + 1)) = k - 1 by omega]
theorem trm_x (h1 : ¬ (x = 8 ∧ y = j ∧ k = 1)) (h2 : ¬ ((x = 902 ∨ x = 903) ∧ y = j)) : gI (trm S j e a) x y k = gI S x y k := by
  unfold trm
  rw [gI_cpS, if_neg (by omega), gI_cpS, if_neg (by omega), gI_sI, if_neg (by omega)]
theorem trm_1 : gI (trm S j e a) 8 j 1 = nI (e - 1) := by
  unfold trm
  rw [gI_cpS, if_neg (by omega), gI_cpS, if_neg (by omega), gI_sI, if_pos ⟨rfl, rfl, rfl⟩]
theorem trm_k (ha : a < e) (hk : k < e - 1) : gI (trm S j e a) 902 j k = if k < a then gI S 902 j k else gI S 902 j (k + 1) := by
  unfold trm
  rw [gI_cpS, if_neg (by omega), gI_cpS, if_pos ⟨rfl, rfl⟩]
  by_cases h2 : k < a
  · rw [if_pos h2, pk_cpy_out (Or.inl (by omega)), gI_sI, if_neg (by omega)]
  · rw [if_neg h2, pk_cpy_in (by omega) (by omega), gI_sI, if_neg (by omega), show a + 1 + (k - a) = k + 1 by omega]
theorem trm_n (ha : a < e) (hk : k < e - 1) : gI (trm S j e a) 903 j k = if k < a then gI S 903 j k else gI S 903 j (k + 1) := by
  unfold trm
  rw [gI_cpS, if_pos ⟨rfl, rfl⟩]
  by_cases h2 : k < a
  · rw [if_pos h2, pk_cpy_out (Or.inl (by omega)), gI_cpS, if_neg (by omega), gI_sI, if_neg (by omega)]
  · rw [if_neg h2, pk_cpy_in (by omega) (by omega), gI_cpS, if_neg (by omega), gI_sI, if_neg (by omega), show a + 1 + (k - a) = k + 1 by omega]
end
