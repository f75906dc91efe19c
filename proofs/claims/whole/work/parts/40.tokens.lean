set_option maxRecDepth 100000 in
theorem lp_tok1 {Po : Option zV → zS → Prop} {S : zS} (hs : Sd S) {t : List Nat} (h3 : ∀ k, k ∈ t → k ≤ 3) (hl : t.length ≤ 14) {c : Int32} (K : Ok mX12_tokens 29 [some (zr 12 0), some (zi c), some (zi (nI 1))] [] (sI S 12 0 20 (nI t.length)) Po) : ∀ (j : Nat), j ≤ t.length → Ok mX12_tokens 7 [some (zr 12 0), some (zi c), some (zi (nI (cd (t.take j))))] [] (sI S 12 0 20 (nI (t.length - j))) Po := by
  intro j
  have hb := cd_le h3 hl
  induction j with
  | zero =>
    intro hj
    have e0 : cd (t.take 0) = 1 := rfl
    rw [e0, Nat.sub_zero]
    refine r_iload_n (q := 8) dX12_tokens_7 rfl rfl rfl ?_
    refine r_iconst (q := 9) (nI 1) dX12_tokens_8 rfl (by decide) ?_
    refine r_icmp_leN (q := 12) (t := 29) (by omega) (by omega) dX12_tokens_9 (by decide) rfl (fun h9 => ?_) (fun h9 => absurd h9 (by omega))
    exact K
  | succ j ih =>
    intro hj
    have h4 := cd_takeS (t := t) (j := j) (by omega)
    have h5 := h3 _ (getD_mem (t := t) (j := j) (by omega))
    have h6 := cd_pos (t.take j)
    have h7 := cd_mono (t := t) (j := j + 1)
    refine r_iload_n (q := 8) dX12_tokens_7 rfl rfl rfl ?_
    refine r_iconst (q := 9) (nI 1) dX12_tokens_8 rfl (by decide) ?_
    refine r_icmp_leN (q := 12) (t := 29) (by omega) (by omega) dX12_tokens_9 (by decide) rfl (fun h9 => absurd h9 (by omega)) (fun h9 => ?_)
    refine r_aload_n (q := 13) dX12_tokens_12 rfl rfl rfl ?_
    refine r_dup (q := 14) dX12_tokens_13 rfl rfl ?_
    refine r_geti (q := 17) ck12 dX12_tokens_14 rfl (k := 20) (by decide) wt1298 (Or.inl rfl) (hs.e (by decide)) ?_
    refine r_topi (y := nI (t.length - (j + 1))) (by simp [gI_sI, gJ_sJ, gI_sJ, gJ_sI]) ?_
    refine r_iconst (q := 18) (nI 1) dX12_tokens_17 rfl (by decide) ?_
    refine r_iaddN (q := 19) dX12_tokens_18 rfl ?_
    refine r_puti (q := 22) ck12 dX12_tokens_19 rfl (k := 20) (by decide) wt1298 (Or.inl rfl) rfl (hs.e (by decide)) ?_
    refine r_iload_n (q := 23) dX12_tokens_22 rfl rfl rfl ?_
    refine r_iconst (q := 24) (nI 2) dX12_tokens_23 rfl (by decide) ?_
    refine r_ishr (q := 25) dX12_tokens_24 rfl ?_
    refine r_topi (y := nI ((cd (t.take (j + 1))) / 4)) (pk_shrN (show cd (t.take (j + 1)) < 2 ^ 31 by omega) _ 2 (by decide)) ?_
    refine r_istore_n (q := 26) (L' := [some (zr 12 0), some (zi c), some (zi (nI ((cd (t.take (j + 1))) / 4)))]) dX12_tokens_25 rfl rfl (by decide) rfl ?_
    refine r_goto (q := 7) dX12_tokens_26 (by decide) ?_
    have e1 : cd (t.take (j + 1)) / 4 = cd (t.take j) := by omega
    have e2 : t.length - (j + 1) + 1 = t.length - j := by omega
    rw [e1, sI_sI, e2]
    exact ih (by omega)

set_option maxRecDepth 100000 in
theorem lp_tok2 {S : zS} (hs : Sd S) {t : List Nat} (h3 : ∀ k, k ∈ t → k ≤ 3) (hl : t.length ≤ 14) : ∀ (d k : Nat), k + d = t.length → Ok mX12_tokens 31 [some (zr 12 0), some (zi (nI (cd t))), some (zi (nI k))] [] (stR (sI S 12 0 20 (nI t.length)) 1316 0 (t.take k)) (fun r S1 => r = none ∧ S1 = stR (sI S 12 0 20 (nI t.length)) 1316 0 t) := by
  intro d
  have hb := cd_le h3 hl
  induction d with
  | zero =>
    intro k hk
    obtain rfl : t.length = k := by omega
    have hm : gI (stR (sI S 12 0 20 (nI t.length)) 1316 0 (t.take t.length)) 12 0 20 = nI t.length := by rw [gI_stR_x (by omega), gI_sI, if_pos ⟨rfl, rfl, rfl⟩]
    refine r_iload_n (q := 32) dX12_tokens_31 rfl rfl rfl ?_
    refine r_aload_n (q := 33) dX12_tokens_32 rfl rfl rfl ?_
    refine r_geti (q := 36) ck12 dX12_tokens_33 rfl (k := 20) (by decide) wt1298 (Or.inl rfl) (hs.e (by decide)) ?_
    refine r_topi (y := nI t.length) hm ?_
    refine r_icmp_geN (q := 39) (t := 65) (by omega) (by omega) dX12_tokens_36 (by decide) rfl (fun h36 => ?_) (fun h36 => absurd h36 (by omega))
    refine r_return dX12_tokens_65 rfl ?_
    exact ⟨rfl, by rw [List.take_length]⟩
  | succ d ih =>
    intro k hk
    have h4 := cd_takeS (t := t) (j := k) (by omega)
    have h5 := h3 _ (getD_mem (t := t) (j := k) (by omega))
    have h7 := cd_mono (t := t) (j := k + 1)
    have h8 := cd_take h3 (k + 1) (by omega)
    have hm : gI (stR (sI S 12 0 20 (nI t.length)) 1316 0 (t.take k)) 12 0 20 = nI t.length := by rw [gI_stR_x (by omega), gI_sI, if_pos ⟨rfl, rfl, rfl⟩]
    refine r_iload_n (q := 32) dX12_tokens_31 rfl rfl rfl ?_
    refine r_aload_n (q := 33) dX12_tokens_32 rfl rfl rfl ?_
    refine r_geti (q := 36) ck12 dX12_tokens_33 rfl (k := 20) (by decide) wt1298 (Or.inl rfl) (hs.e (by decide)) ?_
    refine r_topi (y := nI t.length) hm ?_
    refine r_icmp_geN (q := 39) (t := 65) (by omega) (by omega) dX12_tokens_36 (by decide) rfl (fun h36 => absurd h36 (by omega)) (fun h36 => ?_)
    refine r_aload_n (q := 40) dX12_tokens_39 rfl rfl rfl ?_
    refine r_getr (q := 43) (some (1316, 0)) ck12 dX12_tokens_40 rfl (k := 16) (by decide) wt1294 rfl (hs.e (by decide)) (hs.r (by decide) (by decide)) ?_
    refine r_iload_n (q := 44) dX12_tokens_43 rfl rfl rfl ?_
    refine r_iload_n (q := 45) dX12_tokens_44 rfl rfl rfl ?_
    refine r_iconst (q := 46) (nI 2) dX12_tokens_45 rfl (by decide) ?_
    refine r_aload_n (q := 47) dX12_tokens_46 rfl rfl rfl ?_
    refine r_geti (q := 50) ck12 dX12_tokens_47 rfl (k := 20) (by decide) wt1298 (Or.inl rfl) (hs.e (by decide)) ?_
    refine r_topi (y := nI t.length) hm ?_
    refine r_iconst (q := 51) (nI 1) dX12_tokens_50 rfl (by decide) ?_
    refine r_isubN (q := 52) (by omega) dX12_tokens_51 rfl ?_
    refine r_iload_n (q := 53) dX12_tokens_52 rfl rfl rfl ?_
    refine r_isubN (q := 54) (by omega) dX12_tokens_53 rfl ?_
    refine r_imulN (q := 55) dX12_tokens_54 rfl ?_
    refine r_ishr (q := 56) dX12_tokens_55 rfl ?_
    refine r_topi (y := nI (cd (t.take (k + 1)))) (by rw [shr_N (by omega) (by omega), ← h8, show 2 * (t.length - 1 - k) = 2 * (t.length - (k + 1)) by omega]) ?_
    refine r_iconst (q := 57) (nI 3) dX12_tokens_56 rfl (by decide) ?_
    refine r_iand (q := 58) dX12_tokens_57 rfl ?_
    refine r_topi (y := nI ((cd (t.take (k + 1))) % 4)) (pk_andN (show cd (t.take (k + 1)) < 2 ^ 32 by omega) 2 (by decide)) ?_
    refine r_iastN (q := 59) 16 (by decide) rfl dX12_tokens_58 rfl (hs.e (by decide)) (hs.n rfl (by decide)) (by omega) (by decide) ?_
    refine r_iincN (q := 62) (L' := [some (zr 12 0), some (zi (nI (cd t))), some (zi (nI (k + 1)))]) 1 rfl dX12_tokens_59 rfl rfl (by decide) rfl ?_
    refine r_goto (q := 31) dX12_tokens_62 (by decide) ?_
    have e1 : cd (t.take (k + 1)) % 4 = t.getD k 0 := by omega
    have e2 : (t.take k).length = k := by rw [List.length_take]; omega
    have e3 := stR_snoc (S := sI S 12 0 20 (nI t.length)) (a := 1316) (b := 0) (v := t.getD k 0) (l := t.take k)
    rw [e2, ← take_snoc (by omega)] at e3
    rw [e1, e3]
    exact ih (k + 1) (by omega)

set_option maxRecDepth 100000 in
theorem ok_X12_tokens {S : zS} (hs : Sd S) {t : List Nat} (h3 : ∀ k, k ∈ t → k ≤ 3) (hl : t.length ≤ 14) : Ok mX12_tokens 0 (ent 3 [zr 12 0, zi (nI (cd t))]) [] S (fun r S1 => r = none ∧ S1 = stR (sI S 12 0 20 (nI t.length)) 1316 0 t) := by
  show Ok mX12_tokens 0 [some (zr 12 0), some (zi (nI (cd t))), none] [] S _
  refine r_aload_n (q := 1) dX12_tokens_0 rfl rfl rfl ?_
  refine r_iconst (q := 2) (nI 0) dX12_tokens_1 rfl (by decide) ?_
  refine r_puti (q := 5) ck12 dX12_tokens_2 rfl (k := 20) (by decide) wt1298 (Or.inl rfl) rfl (hs.e (by decide)) ?_
  refine r_iload_n (q := 6) dX12_tokens_5 rfl rfl rfl ?_
  refine r_istore_n (q := 7) (L' := [some (zr 12 0), some (zi (nI (cd t))), some (zi (nI (cd t)))]) dX12_tokens_6 rfl rfl (by decide) rfl ?_
  have q := lp_tok1 (S := S) hs h3 hl (c := nI (cd t)) (Po := fun r S1 => r = none ∧ S1 = stR (sI S 12 0 20 (nI t.length)) 1316 0 t) ?_ t.length (Nat.le_refl _)
  · rw [Nat.sub_self, List.take_length] at q; exact q
  · skip
    refine r_iconst (q := 30) (nI 0) dX12_tokens_29 rfl (by decide) ?_
    refine r_istore_n (q := 31) (L' := [some (zr 12 0), some (zi (nI (cd t))), some (zi (nI 0))]) dX12_tokens_30 rfl rfl (by decide) rfl ?_
    have q2 := lp_tok2 (S := S) hs h3 hl t.length 0 (by omega)
    rw [List.take_zero, stR_nil] at q2
    exact q2

set_option maxRecDepth 100000 in
theorem lp_join {S : zS} {t u : List Nat} (h3 : ∀ k, k ∈ t → k ≤ 3) (g3 : ∀ k, k ∈ u → k ≤ 3) (hl : t.length + u.length ≤ 14) : ∀ (d j : Nat), j + d = u.length → Ok mX12_join 2 [some (zi (nI (cd t))), some (zi (nI (cd u))), some (zi (nI (2 * j)))] [] S (fun r S1 => r = some (zi (nI (cd (t ++ u)))) ∧ S1 = S) := by
  intro d
  have hb := cd_le g3 (by omega)
  have hb2 := cd_le (t := t ++ u) (fun k hk => (List.mem_append.mp hk).elim (h3 k) (g3 k)) (by rw [List.length_append]; exact hl)
  induction d with
  | zero =>
    intro j hj
    obtain rfl : u.length = j := by omega
    have h8 := cd_take g3 (u.length - u.length) (by omega)
    rw [show u.length - (u.length - u.length) = u.length by omega] at h8
    rw [Nat.sub_self] at h8
    have h8 : cd u / 2 ^ (2 * u.length) = 1 := h8
    have a1 := cdF_eq u 1
    have a2 := cdF_eq u (cd t)
    have a3 := dv_lt u g3
    have a4 : (2 : Nat) ^ (2 * u.length) = 4 ^ u.length := by rw [Nat.pow_mul]
    have a5 : cd (t ++ u) = cdF (cd t) u := cdF_app
    have a6 : cdF 1 u = cd u := rfl
    have a7 : cd t * 4 ^ u.length < 2147483648 := by omega
    have a8 : (4 : Nat) ^ u.length ≤ 4 ^ 14 := Nat.pow_le_pow_right (by omega) (by omega)
    have a9 : (4 : Nat) ^ 14 = 268435456 := by decide
    have b1 : cd u % 4 ^ u.length = dv u := by rw [← a6, a1, Nat.one_mul, Nat.add_mod_left, Nat.mod_eq_of_lt a3]
    refine r_iload_n (q := 3) dX12_join_2 rfl rfl rfl ?_
    refine r_iload_n (q := 4) dX12_join_3 rfl rfl rfl ?_
    refine r_ishr (q := 5) dX12_join_4 rfl ?_
    refine r_topi (y := nI 1) (by rw [shr_N (by omega) (by omega), h8]) ?_
    refine r_iconst (q := 6) (nI 1) dX12_join_5 rfl (by decide) ?_
    refine r_icmp_leN (q := 9) (t := 15) (by omega) (by omega) dX12_join_6 (by decide) rfl (fun h6 => ?_) (fun h6 => absurd h6 (by omega))
    refine r_iload_n (q := 16) dX12_join_15 rfl rfl rfl ?_
    refine r_iload_n (q := 17) dX12_join_16 rfl rfl rfl ?_
    refine r_ishl (q := 18) dX12_join_17 rfl ?_
    refine r_topi (y := nI (cd t * 4 ^ u.length)) (by rw [shl_N (by rw [a4]; exact a7) (by omega), a4]) ?_
    refine r_iload_n (q := 19) dX12_join_18 rfl rfl rfl ?_
    refine r_iconst (q := 20) (nI 1) dX12_join_19 rfl (by decide) ?_
    refine r_iload_n (q := 21) dX12_join_20 rfl rfl rfl ?_
    refine r_ishl (q := 22) dX12_join_21 rfl ?_
    refine r_topi (y := nI (4 ^ u.length)) (by rw [shl_N (by rw [a4]; omega) (by omega), a4, Nat.one_mul]) ?_
    refine r_iconst (q := 23) (nI 1) dX12_join_22 rfl (by decide) ?_
    refine r_isubN (q := 24) (by omega) dX12_join_23 rfl ?_
    refine r_iand (q := 25) dX12_join_24 rfl ?_
    refine r_topi (y := nI (dv u)) (by rw [pk_andN (by omega) (2 * u.length) (by rw [pk_tn (by omega), a4]), a4, b1]) ?_
    refine r_ior (q := 26) dX12_join_25 rfl ?_
    refine r_topi (y := nI (cd (t ++ u))) (by rw [← a4, or_addN (by rw [a4]; exact a3), a4, a5, a2]) ?_
    refine r_ireturn dX12_join_26 rfl ?_
    exact ⟨rfl, rfl⟩
  | succ d ih =>
    intro j hj
    have h8 := cd_take g3 (u.length - j) (by omega)
    rw [show u.length - (u.length - j) = j by omega] at h8
    have h9 := cd_takeS (t := u) (j := u.length - j - 1) (by omega)
    rw [show u.length - j - 1 + 1 = u.length - j by omega] at h9
    have h6 := cd_pos (u.take (u.length - j - 1))
    have h7 := cd_mono (t := u) (j := u.length - j)
    refine r_iload_n (q := 3) dX12_join_2 rfl rfl rfl ?_
    refine r_iload_n (q := 4) dX12_join_3 rfl rfl rfl ?_
    refine r_ishr (q := 5) dX12_join_4 rfl ?_
    refine r_topi (y := nI (cd (u.take (u.length - j)))) (by rw [shr_N (by omega) (by omega), h8]) ?_
    refine r_iconst (q := 6) (nI 1) dX12_join_5 rfl (by decide) ?_
    refine r_icmp_leN (q := 9) (t := 15) (by omega) (by omega) dX12_join_6 (by decide) rfl (fun h6 => absurd h6 (by omega)) (fun h6 => ?_)
    refine r_iincN (q := 12) (L' := [some (zi (nI (cd t))), some (zi (nI (cd u))), some (zi (nI (2 * j + 2)))]) 2 rfl dX12_join_9 rfl rfl (by decide) rfl ?_
    refine r_goto (q := 2) dX12_join_12 (by decide) ?_
    exact ih (j + 1) (by omega)

set_option maxRecDepth 100000 in
theorem ok_X12_join {S : zS} {t u : List Nat} (h3 : ∀ k, k ∈ t → k ≤ 3) (g3 : ∀ k, k ∈ u → k ≤ 3) (hl : t.length + u.length ≤ 14) : Ok mX12_join 0 (ent 3 [zi (nI (cd t)), zi (nI (cd u))]) [] S (fun r S1 => r = some (zi (nI (cd (t ++ u)))) ∧ S1 = S) := by
  show Ok mX12_join 0 [some (zi (nI (cd t))), some (zi (nI (cd u))), none] [] S _
  refine r_iconst (q := 1) (nI 0) dX12_join_0 rfl (by decide) ?_
  refine r_istore_n (q := 2) (L' := [some (zi (nI (cd t))), some (zi (nI (cd u))), some (zi (nI 0))]) dX12_join_1 rfl rfl (by decide) rfl ?_
  exact lp_join h3 g3 hl u.length 0 (by omega)

