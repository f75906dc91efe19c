/-! what holds at the start -/
theorem s0_3 : gI sStart 11 0 3 = nI 0 := by decide +kernel
theorem s0_9 : gI sStart 9 0 0 = nI 97 ∧ gI sStart 9 0 1 = nI 0 ∧ gI sStart 9 0 4 = nI 0 := by decide +kernel
theorem s0_1006 : ∀ b, b < 4 → gI sStart 1006 b 0 = nI 0 ∧ gI sStart 103 b 1 = nI 0 ∧ gI sStart 106 b 1 = nI 0 ∧ gN sStart 107 b = 512 := by decide +kernel
theorem s0_1009 : ∀ m, m < 11 → 1 ≤ m → gJ sStart 1009 0 m = lN (tc w0 m) := by decide +kernel
theorem s0_1306 : gI sStart 1306 0 0 = nI 97 ∧ gI sStart 1306 0 1 = nI 0 ∧ gI sStart 1306 0 2 = nI 0 ∧ gI sStart 1306 0 25 = nI 0 ∧ gI sStart 1306 0 3 = nI 1 ∧ gI sStart 1306 0 1173 = nI 1 ∧ gI sStart 1306 0 1174 = nI 0 := by decide +kernel
theorem s0_tp : gI sStart 11 0 1 = nI 0 ∧ gI sStart 12 0 2 = nI 0 := by decide +kernel
theorem s0_7 : gI sStart 7 0 0 = nI 1 := by decide +kernel
theorem s0_tb : ∀ k, k < 729 → gI sStart 801 0 k = nI 0 ∧ gI sStart 1306 0 (444 + k) = nI 0 := by decide +kernel
theorem s0_1204 : ∀ m, m < 2 → gI sStart 1204 0 m = -1 ∧ gI sStart 1393 0 m = nI 0 := by decide +kernel
theorem s0_8 : gI sStart 8 0 0 = nI 1 ∧ gI sStart 8 0 1 = nI 0 := by decide +kernel
theorem s0_ps : gI sStart 11 0 10 = nI 0 ∧ gI sStart 12 0 58 = nI 0 ∧ gI sStart 11 0 11 = nI 0 := by decide +kernel
theorem s0_tl : ∀ j, j < 19 → gN sStart 902 j = 32 ∧ gN sStart 903 j = 32 ∧ gI sStart 8 j 1 = nI 0 := by decide +kernel
theorem s0_f : gI sStart 4 0 14 = gI sStart 12 0 13 := by decide +kernel
theorem s0_b : gI sStart 3 0 1 = gI sStart 12 0 82 := by decide +kernel
theorem s0_0 : gI sStart 0 0 2 = nI 0 ∧ gI sStart 0 0 12 = nI 0 := by decide +kernel
theorem s0_12 : gI sStart 12 0 33 ≠ nI 1 ∧ gI sStart 12 0 43 = nI 0 := by decide +kernel
theorem s0_109 : ∀ k, k < 8 → gI sStart 109 0 k = -1 := by decide +kernel
theorem s0_200 : gN sStart 200 0 ≤ 6561 ∧ gN sStart 201 0 = gN sStart 200 0 ∧ gN sStart 202 0 = gN sStart 200 0 := by decide +kernel
theorem s0_5 : gE sStart 5000 0 = true ∧ gN sStart 5000 0 = 1 := by decide +kernel
theorem s0_room : gC sStart + pC sStart ≤ 600000 ∧ gQ sStart + pQ sStart ≤ 7000000 := by decide +kernel
