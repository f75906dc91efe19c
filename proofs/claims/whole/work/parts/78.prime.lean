def prN (v : Nat) : Nat := if prB v = true then 1 else 0
theorem prN_1 {v : Nat} (h2 : 2 ≤ v) (h : ∀ d, 2 ≤ d → d < v → v % d ≠ 0) : prN v = 1 := if_pos (prB_t.mpr ⟨h2, h⟩)
theorem prN_0 {v : Nat} (h : v < 2 ∨ ∃ d, 2 ≤ d ∧ d < v ∧ v % d = 0) : prN v = 0 := if_neg fun z => by
  have := prB_t.mp z
  rcases h with h | ⟨d, h1, h2, h3⟩
  · omega
  · exact this.2 d h1 h2 h3
theorem root_free {v j : Nat} (hj : v < j * j) (h : ∀ d, 2 ≤ d → d < j → v % d ≠ 0) : ∀ d, 2 ≤ d → d < v → v % d ≠ 0 := fun d h2 hd z => by
  by_cases hdj : d < j
  · exact h d h2 hdj z
  · have e := Nat.div_add_mod v d
    rw [z, Nat.add_zero] at e
    have h1 : v / d < j := by
      rcases Nat.lt_or_ge (v / d) j with g | g
      · exact g
      · have := Nat.mul_le_mul (show j ≤ d by omega) g
        omega
    have h3 : 2 ≤ v / d := by
      rcases Nat.lt_or_ge (v / d) 2 with g | g
      · have : v / d = 0 ∨ v / d = 1 := (fun n (h : n < 2) => (by omega : n = 0 ∨ n = 1)) _ g
        rcases this with q | q
        · rw [q, Nat.mul_zero] at e; omega
        · rw [q, Nat.mul_one] at e; omega
      · exact g
    exact h (v / d) h3 h1 (by
      have : v % (v / d) = (d * (v / d)) % (v / d) := by rw [e]
      rw [this, Nat.mul_mod_left])

set_option maxRecDepth 100000 in
theorem lp_primeC {S : zS} {v : Nat} (hv : v < 100) : ∀ (d j : Nat), 2 ≤ j → j + d = v + 3 → (∀ d, 2 ≤ d → d < j → v % d ≠ 0) → (j = 2 ∨ j ≤ v) → Ok mX4_isPrime 2 [some (zi (nI v)), some (zi (nI j))] [] S (fun r S1 => r = some (zi (nI (prN v))) ∧ S1 = S) := by
  intro d
  induction d with
  | zero =>
    intro j h2 hj hd hjv
    exact absurd hj (by omega)
  | succ d ih =>
    intro j h2 hj hd hjv
    have hm := Nat.mod_lt v (show 0 < j by omega)
    refine r_iload_n (q := 3) dX4_isPrime_2 rfl rfl rfl ?_
    refine r_iload_n (q := 4) dX4_isPrime_3 rfl rfl rfl ?_
    refine r_icmp_geN (q := 7) (t := 21) (by omega) (by omega) dX4_isPrime_4 (by decide) rfl (fun h4 => ?_) (fun h4 => ?_)
    · skip
      refine r_iload_n (q := 22) dX4_isPrime_21 rfl rfl rfl ?_
      refine r_iconst (q := 23) (nI 2) dX4_isPrime_22 rfl (by decide) ?_
      refine r_icmp_ltN (q := 26) (t := 36) (by omega) (by omega) dX4_isPrime_23 (by decide) rfl (fun h23 => ?_) (fun h23 => ?_)
      · skip
        refine r_iconst (q := 37) (nI 0) dX4_isPrime_36 rfl (by decide) ?_
        refine r_zreturn (by decide) dX4_isPrime_37 rfl ?_
        first | exact ⟨by rw [prN_0 (Or.inr ⟨j, h2, by omega, by omega⟩)], rfl⟩ | exact ⟨by rw [prN_0 (Or.inl (by omega))], rfl⟩ | (exfalso; have z := hd 2 (by omega) (by omega); have z2 := hd 3 (by omega) (by omega); omega)
      · skip
        refine r_iload_n (q := 27) dX4_isPrime_26 rfl rfl rfl ?_
        refine r_bipush (q := 29) (nI 97) dX4_isPrime_27 rfl (by decide) ?_
        refine r_icmp_gtN (q := 32) (t := 36) (by omega) (by omega) dX4_isPrime_29 (by decide) rfl (fun h29 => ?_) (fun h29 => ?_)
        · skip
          refine r_iconst (q := 37) (nI 0) dX4_isPrime_36 rfl (by decide) ?_
          refine r_zreturn (by decide) dX4_isPrime_37 rfl ?_
          first | exact ⟨by rw [prN_0 (Or.inr ⟨j, h2, by omega, by omega⟩)], rfl⟩ | exact ⟨by rw [prN_0 (Or.inl (by omega))], rfl⟩ | (exfalso; have z := hd 2 (by omega) (by omega); have z2 := hd 3 (by omega) (by omega); omega)
        · skip
          refine r_iconst (q := 33) (nI 1) dX4_isPrime_32 rfl (by decide) ?_
          refine r_goto (q := 37) dX4_isPrime_33 (by decide) ?_
          refine r_zreturn (by decide) dX4_isPrime_37 rfl ?_
          exact ⟨by rw [prN_1 (by omega) (fun d a b => hd d a (by omega))], rfl⟩
    · skip
      refine r_iload_n (q := 8) dX4_isPrime_7 rfl rfl rfl ?_
      refine r_iload_n (q := 9) dX4_isPrime_8 rfl rfl rfl ?_
      refine r_iremN (q := 10) (by omega) (by omega) (by omega) dX4_isPrime_9 rfl ?_
      refine r_if_neN (q := 13) (t := 15) (by omega) dX4_isPrime_10 (by decide) rfl (fun h10 => ?_) (fun h10 => ?_)
      · skip
        refine r_iincN (q := 18) (L' := [some (zi (nI v)), some (zi (nI (j + 1)))]) 1 rfl dX4_isPrime_15 rfl rfl (by decide) rfl ?_
        refine r_goto (q := 2) dX4_isPrime_18 (by decide) ?_
        exact ih (j + 1) (by omega) (by omega) (fun d a b => by
          by_cases e : d = j
          · rw [e]; omega
          · exact hd d a (by omega)) (by omega)
      · skip
        refine r_iconst (q := 14) (nI 0) dX4_isPrime_13 rfl (by decide) ?_
        refine r_zreturn (by decide) dX4_isPrime_14 rfl ?_
        exact ⟨by rw [prN_0 (Or.inr ⟨j, h2, by omega, by omega⟩)], rfl⟩

set_option maxRecDepth 100000 in
theorem ok_primeC {S : zS} {v : Nat} (hv : v < 100) : Ok mX4_isPrime 0 (ent 2 [zi (nI v)]) [] S (fun r S1 => r = some (zi (nI (prN v))) ∧ S1 = S) := by
  show Ok mX4_isPrime 0 [some (zi (nI v)), none] [] S _
  refine r_iconst (q := 1) (nI 2) dX4_isPrime_0 rfl (by decide) ?_
  refine r_istore_n (q := 2) (L' := [some (zi (nI v)), some (zi (nI 2))]) dX4_isPrime_1 rfl rfl (by decide) rfl ?_
  exact lp_primeC hv (v + 1) 2 (by omega) (by omega) (fun d a b => by omega) (Or.inl rfl)

set_option maxRecDepth 100000 in
theorem lp_primeR {S : zS} {v : Nat} (hv : v < 100) : ∀ (d j : Nat), 2 ≤ j → j + d = 12 → (∀ d, 2 ≤ d → d < j → v % d ≠ 0) → Ok mX12_isPrime 2 [some (zi (nI v)), some (zi (nI j))] [] S (fun r S1 => r = some (zi (nI (prN v))) ∧ S1 = S) := by
  intro d
  induction d with
  | zero =>
    intro j h2 hj hd
    obtain rfl : j = 12 := by omega
    refine r_iload_n (q := 3) dX12_isPrime_2 rfl rfl rfl ?_
    refine r_iload_n (q := 4) dX12_isPrime_3 rfl rfl rfl ?_
    refine r_imulN (q := 5) dX12_isPrime_4 rfl ?_
    refine r_iload_n (q := 6) dX12_isPrime_5 rfl rfl rfl ?_
    refine r_icmp_gtN (q := 9) (t := 23) (by omega) (by omega) dX12_isPrime_6 (by decide) rfl (fun h6 => ?_) (fun h6 => absurd h6 (by omega))
    refine r_iload_n (q := 24) dX12_isPrime_23 rfl rfl rfl ?_
    refine r_iconst (q := 25) (nI 1) dX12_isPrime_24 rfl (by decide) ?_
    refine r_icmp_leN (q := 28) (t := 32) (by omega) (by omega) dX12_isPrime_25 (by decide) rfl (fun h25 => ?_) (fun h25 => ?_)
    · skip
      refine r_iconst (q := 33) (nI 0) dX12_isPrime_32 rfl (by decide) ?_
      refine r_zreturn (by decide) dX12_isPrime_33 rfl ?_
      first | exact ⟨by rw [prN_0 (Or.inl (by omega))], rfl⟩ | exact ⟨by rw [prN_0 (Or.inr ⟨j, h2, by omega, by omega⟩)], rfl⟩
    · skip
      refine r_iconst (q := 29) (nI 1) dX12_isPrime_28 rfl (by decide) ?_
      refine r_goto (q := 33) dX12_isPrime_29 (by decide) ?_
      refine r_zreturn (by decide) dX12_isPrime_33 rfl ?_
      exact ⟨by rw [prN_1 (by omega) (root_free (by omega) hd)], rfl⟩
  | succ d ih =>
    intro j h2 hj hd
    have hm := Nat.mod_lt v (show 0 < j by omega)
    have hj2 : j * j ≤ 11 * 11 := Nat.mul_le_mul (by omega) (by omega)
    have hj3 : 2 * j ≤ j * j := Nat.mul_le_mul h2 (Nat.le_refl _)
    refine r_iload_n (q := 3) dX12_isPrime_2 rfl rfl rfl ?_
    refine r_iload_n (q := 4) dX12_isPrime_3 rfl rfl rfl ?_
    refine r_imulN (q := 5) dX12_isPrime_4 rfl ?_
    refine r_iload_n (q := 6) dX12_isPrime_5 rfl rfl rfl ?_
    refine r_icmp_gtN (q := 9) (t := 23) (by omega) (by omega) dX12_isPrime_6 (by decide) rfl (fun h6 => ?_) (fun h6 => ?_)
    · skip
      refine r_iload_n (q := 24) dX12_isPrime_23 rfl rfl rfl ?_
      refine r_iconst (q := 25) (nI 1) dX12_isPrime_24 rfl (by decide) ?_
      refine r_icmp_leN (q := 28) (t := 32) (by omega) (by omega) dX12_isPrime_25 (by decide) rfl (fun h25 => ?_) (fun h25 => ?_)
      · skip
        refine r_iconst (q := 33) (nI 0) dX12_isPrime_32 rfl (by decide) ?_
        refine r_zreturn (by decide) dX12_isPrime_33 rfl ?_
        first | exact ⟨by rw [prN_0 (Or.inl (by omega))], rfl⟩ | exact ⟨by rw [prN_0 (Or.inr ⟨j, h2, by omega, by omega⟩)], rfl⟩
      · skip
        refine r_iconst (q := 29) (nI 1) dX12_isPrime_28 rfl (by decide) ?_
        refine r_goto (q := 33) dX12_isPrime_29 (by decide) ?_
        refine r_zreturn (by decide) dX12_isPrime_33 rfl ?_
        exact ⟨by rw [prN_1 (by omega) (root_free (by omega) hd)], rfl⟩
    · skip
      refine r_iload_n (q := 10) dX12_isPrime_9 rfl rfl rfl ?_
      refine r_iload_n (q := 11) dX12_isPrime_10 rfl rfl rfl ?_
      refine r_iremN (q := 12) (by omega) (by omega) (by omega) dX12_isPrime_11 rfl ?_
      refine r_if_neN (q := 15) (t := 17) (by omega) dX12_isPrime_12 (by decide) rfl (fun h12 => ?_) (fun h12 => ?_)
      · skip
        refine r_iincN (q := 20) (L' := [some (zi (nI v)), some (zi (nI (j + 1)))]) 1 rfl dX12_isPrime_17 rfl rfl (by decide) rfl ?_
        refine r_goto (q := 2) dX12_isPrime_20 (by decide) ?_
        exact ih (j + 1) (by omega) (by omega) (fun d a b => by
          by_cases e : d = j
          · rw [e]; omega
          · exact hd d a (by omega))
      · skip
        refine r_iconst (q := 16) (nI 0) dX12_isPrime_15 rfl (by decide) ?_
        refine r_zreturn (by decide) dX12_isPrime_16 rfl ?_
        first | exact ⟨by rw [prN_0 (Or.inl (by omega))], rfl⟩ | exact ⟨by rw [prN_0 (Or.inr ⟨j, h2, by omega, by omega⟩)], rfl⟩

set_option maxRecDepth 100000 in
theorem ok_primeR {S : zS} {v : Nat} (hv : v < 100) : Ok mX12_isPrime 0 (ent 2 [zi (nI v)]) [] S (fun r S1 => r = some (zi (nI (prN v))) ∧ S1 = S) := by
  show Ok mX12_isPrime 0 [some (zi (nI v)), none] [] S _
  refine r_iconst (q := 1) (nI 2) dX12_isPrime_0 rfl (by decide) ?_
  refine r_istore_n (q := 2) (L' := [some (zi (nI v)), some (zi (nI 2))]) dX12_isPrime_1 rfl rfl (by decide) rfl ?_
  exact lp_primeR hv 10 2 (by omega) (by omega) (fun d a b => by omega)

