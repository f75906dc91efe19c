/-- a tree put in a leaf, token by token: n leaves were passed -/
def gp : List Nat → Nat → Nat → List Nat → List Nat
  | [], _, _, _ => []
  | k :: r, n, i, u => if k = 0 then (if n = i then u ++ gp r (n + 1) i u else 0 :: gp r (n + 1) i u) else k :: gp r n i u
theorem gp_past : ∀ (r : List Nat) (n i : Nat) (u : List Nat), i < n → gp r n i u = r
  | [], _, _, _, _ => rfl
  | k :: r, n, i, u, h => by
    rw [gp]
    split
    · rename_i h0; rw [if_neg (by omega), gp_past r _ _ _ (by omega), h0]
    · rw [gp_past r _ _ _ h]
theorem gp_gr : ∀ (r : List Nat) (n i : Nat) (u : List Nat), n ≤ i → gp r n i u = gr r (i - n) u
  | [], _, _, _, _ => rfl
  | k :: r, n, i, u, h => by
    rw [gp, gr.eq_def]
    show _ = if k = 0 then _ else _
    by_cases h0 : k = 0
    · rw [if_pos h0, if_pos h0]
      by_cases h1 : n = i
      · subst h1
        rw [if_pos rfl, Nat.sub_self, gp_past r _ _ _ (by omega)]
      · rw [if_neg h1, gp_gr r _ _ _ (by omega), show i - n = (i - (n + 1)) + 1 by omega]
    · rw [if_neg h0, if_neg h0, gp_gr r _ _ _ h]
theorem gp_tok : ∀ (r : List Nat) (n i : Nat) (u : List Nat), (∀ k, k ∈ r → k ≤ 3) → (∀ k, k ∈ u → k ≤ 3) → ∀ k, k ∈ gp r n i u → k ≤ 3
  | [], _, _, _, _, _, k, hk => absurd hk List.not_mem_nil
  | x :: r, n, i, u, h, hu, k, hk => by
    have h' := fun q hq => h q (List.mem_cons_of_mem _ hq)
    rw [gp] at hk
    split at hk
    · split at hk
      · rcases List.mem_append.mp hk with z | z
        · exact hu k z
        · exact gp_tok r _ _ _ h' hu k z
      · rcases List.mem_cons.mp hk with z | z
        · omega
        · exact gp_tok r _ _ _ h' hu k z
    · rcases List.mem_cons.mp hk with z | z
      · rw [z]; exact h x List.mem_cons_self
      · exact gp_tok r _ _ _ h' hu k z

set_option maxRecDepth 100000 in
theorem lp_plugged {S : zS} (hs : Sd S) {i cnt : Nat} (hi : i ≤ 7) (hcnt : cnt ≤ 13) {c : Int32} {u : List Nat} (hu3 : ∀ k, k ∈ u → k ≤ 3) (hul : u.length ≤ 13) (hm : gI S 12 0 20 = nI cnt) : ∀ (r acc : List Nat) (n k : Nat), k + r.length = cnt → n ≤ 100 → n + r.length ≤ 100 → (∀ x, x ∈ r → x ≤ 3) → (∀ x, x ∈ acc → x ≤ 3) → acc.length + (gp r n i u).length ≤ 13 → (∀ j, j < r.length → gI S 1316 0 (k + j) = nI (r.getD j 0)) → Ok mX12_plugged 14 [some (zr 12 0), some (zi c), some (zi (nI i)), some (zi (nI (cd u))), some (zi (nI (cd acc))), some (zi (nI n)), some (zi (nI k)), none] [] S (fun x S1 => x = some (zi (nI (cd (acc ++ gp r n i u)))) ∧ S1 = S) := by
  intro r
  induction r with
  | nil =>
    intro acc n k hk hn hn2 h3 ha3 hl hr
    obtain rfl : k = cnt := by simpa using hk
    rw [gp, List.append_nil]
    refine r_iload (q := 16) dX12_plugged_14 rfl rfl ?_
    refine r_aload_n (q := 17) dX12_plugged_16 rfl rfl rfl ?_
    refine r_geti (q := 20) ck12 dX12_plugged_17 rfl (k := 20) (by decide) wt1298 (Or.inl rfl) (hs.e (by decide)) ?_
    refine r_topi (y := nI k) hm ?_
    refine r_icmp_geN (q := 23) (t := 100) (by omega) (by omega) dX12_plugged_20 (by decide) rfl (fun h20 => ?_) (fun h20 => absurd h20 (by omega))
    refine r_iload (q := 102) dX12_plugged_100 rfl rfl ?_
    refine r_ireturn dX12_plugged_102 rfl ?_
    exact ⟨rfl, rfl⟩
  | cons x r ih =>
    intro acc n k hk hn hn2 h3 ha3 hl hr
    rw [List.length_cons] at hk hn2
    have hx := h3 x List.mem_cons_self
    have h3' := fun q hq => h3 q (List.mem_cons_of_mem _ hq)
    have r0 : gI S 1316 0 k = nI x := by have := hr 0 (by simp); rw [Nat.add_zero] at this; exact this
    have hr' : ∀ j, j < r.length → gI S 1316 0 (k + 1 + j) = nI (r.getD j 0) := fun j hj => by have := hr (j + 1) (by simp; omega); rw [show k + 1 + j = k + (j + 1) by omega]; exact this
    have hb := cd_le ha3 (by omega)
    rw [gp] at hl ⊢
    by_cases h0 : x = 0
    · subst h0
      rw [if_pos rfl] at hl ⊢
      by_cases h1 : n = i
      · rw [if_pos h1] at hl ⊢
        rw [List.length_append] at hl
        refine r_iload (q := 16) dX12_plugged_14 rfl rfl ?_
        refine r_aload_n (q := 17) dX12_plugged_16 rfl rfl rfl ?_
        refine r_geti (q := 20) ck12 dX12_plugged_17 rfl (k := 20) (by decide) wt1298 (Or.inl rfl) (hs.e (by decide)) ?_
        refine r_topi (y := nI cnt) hm ?_
        refine r_icmp_geN (q := 23) (t := 100) (by omega) (by omega) dX12_plugged_20 (by decide) rfl (fun h20 => absurd h20 (by omega)) (fun h20 => ?_)
        refine r_aload_n (q := 24) dX12_plugged_23 rfl rfl rfl ?_
        refine r_getr (q := 27) (some (1316, 0)) ck12 dX12_plugged_24 rfl (k := 16) (by decide) wt1294 rfl (hs.e (by decide)) (hs.r (by decide) (by decide)) ?_
        refine r_iload (q := 29) dX12_plugged_27 rfl rfl ?_
        refine r_ialdN (q := 30) 16 (by decide) rfl dX12_plugged_29 rfl (hs.e (by decide)) (hs.n rfl (by decide)) (by omega) (by decide) ?_
        refine r_topi (y := nI 0) r0 ?_
        refine r_if_neN (q := 33) (t := 43) (by omega) dX12_plugged_30 (by decide) rfl (fun h30 => absurd h30 (by omega)) (fun h30 => ?_)
        refine r_iload (q := 35) dX12_plugged_33 rfl rfl ?_
        refine r_iload_n (q := 36) dX12_plugged_35 rfl rfl rfl ?_
        refine r_icmp_neN (q := 39) (t := 43) (by omega) (by omega) dX12_plugged_36 (by decide) rfl (fun h36 => absurd h36 (by omega)) (fun h36 => ?_)
        refine r_iconst (q := 40) (nI 1) dX12_plugged_39 rfl (by decide) ?_
        refine r_goto (q := 44) dX12_plugged_40 (by decide) ?_
        refine r_istore (q := 46) (L' := [some (zr 12 0), some (zi c), some (zi (nI i)), some (zi (nI (cd u))), some (zi (nI (cd acc))), some (zi (nI n)), some (zi (nI k)), some (zi (nI 1))]) dX12_plugged_44 rfl (by decide) rfl ?_
        refine r_iload (q := 48) dX12_plugged_46 rfl rfl ?_
        refine r_if_eqN (q := 51) (t := 60) (by omega) dX12_plugged_48 (by decide) rfl (fun h48 => absurd h48 (by omega)) (fun h48 => ?_)
        refine r_iload (q := 53) dX12_plugged_51 rfl rfl ?_
        refine r_iload_n (q := 54) dX12_plugged_53 rfl rfl rfl ?_
        refine r_callS (Mc := mX12_join) (q := 57) (As := [zi (nI (cd acc)), zi (nI (cd u))]) (st := []) dX12_plugged_54 rfl rfl mkX12_join wt1792 wt1793 rfl (Nat.le_of_ble_eq_true rfl) (Nat.le_of_ble_eq_true rfl) (by decide) (by decide) (by decide) (Or.inl rfl) hs.some (ok_X12_join ha3 hu3 (by omega)) (fun r54 S54 hp54 => ?_)
        obtain ⟨rfl, hq54⟩ := hp54
        rw [hq54]
        show Ok _ _ _ [zi (nI (cd (acc ++ u)))] _ _
        refine r_goto (q := 72) dX12_plugged_57 (by decide) ?_
        refine r_istore (q := 74) (L' := [some (zr 12 0), some (zi c), some (zi (nI i)), some (zi (nI (cd u))), some (zi (nI (cd (acc ++ u)))), some (zi (nI n)), some (zi (nI k)), some (zi (nI 1))]) dX12_plugged_72 rfl (by decide) rfl ?_
        refine r_iload (q := 76) dX12_plugged_74 rfl rfl ?_
        refine r_aload_n (q := 77) dX12_plugged_76 rfl rfl rfl ?_
        refine r_getr (q := 80) (some (1316, 0)) ck12 dX12_plugged_77 rfl (k := 16) (by decide) wt1294 rfl (hs.e (by decide)) (hs.r (by decide) (by decide)) ?_
        refine r_iload (q := 82) dX12_plugged_80 rfl rfl ?_
        refine r_ialdN (q := 83) 16 (by decide) rfl dX12_plugged_82 rfl (hs.e (by decide)) (hs.n rfl (by decide)) (by omega) (by decide) ?_
        refine r_topi (y := nI 0) r0 ?_
        refine r_if_neN (q := 86) (t := 90) (by omega) dX12_plugged_83 (by decide) rfl (fun h83 => absurd h83 (by omega)) (fun h83 => ?_)
        refine r_iconst (q := 87) (nI 1) dX12_plugged_86 rfl (by decide) ?_
        refine r_goto (q := 91) dX12_plugged_87 (by decide) ?_
        refine r_iaddN (q := 92) dX12_plugged_91 rfl ?_
        refine r_istore (q := 94) (L' := [some (zr 12 0), some (zi c), some (zi (nI i)), some (zi (nI (cd u))), some (zi (nI (cd (acc ++ u)))), some (zi (nI (n + 1))), some (zi (nI k)), some (zi (nI 1))]) dX12_plugged_92 rfl (by decide) rfl ?_
        refine r_iincN (q := 97) (L' := [some (zr 12 0), some (zi c), some (zi (nI i)), some (zi (nI (cd u))), some (zi (nI (cd (acc ++ u)))), some (zi (nI (n + 1))), some (zi (nI (k + 1))), some (zi (nI 1))]) 1 rfl dX12_plugged_94 rfl rfl (by decide) rfl ?_
        refine r_goto (q := 14) dX12_plugged_97 (by decide) ?_
        refine r_mask [true, true, true, true, true, true, true, false] rfl ?_
        have q := ih (acc ++ u) (n + 1) (k + 1) (by omega) (by omega) (by omega) h3' (fun y hy => by rcases List.mem_append.mp hy with z | z; exact ha3 y z; exact hu3 y z) (by rw [List.length_append]; omega) hr'
        rw [List.append_assoc] at q
        exact q
      · rw [if_neg h1] at hl ⊢
        rw [List.length_cons] at hl
        refine r_iload (q := 16) dX12_plugged_14 rfl rfl ?_
        refine r_aload_n (q := 17) dX12_plugged_16 rfl rfl rfl ?_
        refine r_geti (q := 20) ck12 dX12_plugged_17 rfl (k := 20) (by decide) wt1298 (Or.inl rfl) (hs.e (by decide)) ?_
        refine r_topi (y := nI cnt) hm ?_
        refine r_icmp_geN (q := 23) (t := 100) (by omega) (by omega) dX12_plugged_20 (by decide) rfl (fun h20 => absurd h20 (by omega)) (fun h20 => ?_)
        refine r_aload_n (q := 24) dX12_plugged_23 rfl rfl rfl ?_
        refine r_getr (q := 27) (some (1316, 0)) ck12 dX12_plugged_24 rfl (k := 16) (by decide) wt1294 rfl (hs.e (by decide)) (hs.r (by decide) (by decide)) ?_
        refine r_iload (q := 29) dX12_plugged_27 rfl rfl ?_
        refine r_ialdN (q := 30) 16 (by decide) rfl dX12_plugged_29 rfl (hs.e (by decide)) (hs.n rfl (by decide)) (by omega) (by decide) ?_
        refine r_topi (y := nI 0) r0 ?_
        refine r_if_neN (q := 33) (t := 43) (by omega) dX12_plugged_30 (by decide) rfl (fun h30 => absurd h30 (by omega)) (fun h30 => ?_)
        refine r_iload (q := 35) dX12_plugged_33 rfl rfl ?_
        refine r_iload_n (q := 36) dX12_plugged_35 rfl rfl rfl ?_
        refine r_icmp_neN (q := 39) (t := 43) (by omega) (by omega) dX12_plugged_36 (by decide) rfl (fun h36 => ?_) (fun h36 => absurd h36 (by omega))
        refine r_iconst (q := 44) (nI 0) dX12_plugged_43 rfl (by decide) ?_
        refine r_istore (q := 46) (L' := [some (zr 12 0), some (zi c), some (zi (nI i)), some (zi (nI (cd u))), some (zi (nI (cd acc))), some (zi (nI n)), some (zi (nI k)), some (zi (nI 0))]) dX12_plugged_44 rfl (by decide) rfl ?_
        refine r_iload (q := 48) dX12_plugged_46 rfl rfl ?_
        refine r_if_eqN (q := 51) (t := 60) (by omega) dX12_plugged_48 (by decide) rfl (fun h48 => ?_) (fun h48 => absurd h48 (by omega))
        refine r_iload (q := 62) dX12_plugged_60 rfl rfl ?_
        refine r_iconst (q := 63) (nI 2) dX12_plugged_62 rfl (by decide) ?_
        refine r_ishl (q := 64) dX12_plugged_63 rfl ?_
        refine r_topi (y := nI ((cd acc) * 4)) (pk_shlN _ 2 (by decide) (show (cd acc) * 2 ^ 2 < 2 ^ 32 by omega)) ?_
        refine r_aload_n (q := 65) dX12_plugged_64 rfl rfl rfl ?_
        refine r_getr (q := 68) (some (1316, 0)) ck12 dX12_plugged_65 rfl (k := 16) (by decide) wt1294 rfl (hs.e (by decide)) (hs.r (by decide) (by decide)) ?_
        refine r_iload (q := 70) dX12_plugged_68 rfl rfl ?_
        refine r_ialdN (q := 71) 16 (by decide) rfl dX12_plugged_70 rfl (hs.e (by decide)) (hs.n rfl (by decide)) (by omega) (by decide) ?_
        refine r_topi (y := nI 0) r0 ?_
        refine r_ior (q := 72) dX12_plugged_71 rfl ?_
        refine r_topi (y := nI (4 * cd acc + 0)) (by rw [show cd acc * 4 = cd acc * 2 ^ 2 from rfl, or_addN (by omega)]; congr 1; omega) ?_
        refine r_istore (q := 74) (L' := [some (zr 12 0), some (zi c), some (zi (nI i)), some (zi (nI (cd u))), some (zi (nI (4 * cd acc + 0))), some (zi (nI n)), some (zi (nI k)), some (zi (nI 0))]) dX12_plugged_72 rfl (by decide) rfl ?_
        refine r_iload (q := 76) dX12_plugged_74 rfl rfl ?_
        refine r_aload_n (q := 77) dX12_plugged_76 rfl rfl rfl ?_
        refine r_getr (q := 80) (some (1316, 0)) ck12 dX12_plugged_77 rfl (k := 16) (by decide) wt1294 rfl (hs.e (by decide)) (hs.r (by decide) (by decide)) ?_
        refine r_iload (q := 82) dX12_plugged_80 rfl rfl ?_
        refine r_ialdN (q := 83) 16 (by decide) rfl dX12_plugged_82 rfl (hs.e (by decide)) (hs.n rfl (by decide)) (by omega) (by decide) ?_
        refine r_topi (y := nI 0) r0 ?_
        refine r_if_neN (q := 86) (t := 90) (by omega) dX12_plugged_83 (by decide) rfl (fun h83 => absurd h83 (by omega)) (fun h83 => ?_)
        refine r_iconst (q := 87) (nI 1) dX12_plugged_86 rfl (by decide) ?_
        refine r_goto (q := 91) dX12_plugged_87 (by decide) ?_
        refine r_iaddN (q := 92) dX12_plugged_91 rfl ?_
        refine r_istore (q := 94) (L' := [some (zr 12 0), some (zi c), some (zi (nI i)), some (zi (nI (cd u))), some (zi (nI (4 * cd acc + 0))), some (zi (nI (n + 1))), some (zi (nI k)), some (zi (nI 0))]) dX12_plugged_92 rfl (by decide) rfl ?_
        refine r_iincN (q := 97) (L' := [some (zr 12 0), some (zi c), some (zi (nI i)), some (zi (nI (cd u))), some (zi (nI (4 * cd acc + 0))), some (zi (nI (n + 1))), some (zi (nI (k + 1))), some (zi (nI 0))]) 1 rfl dX12_plugged_94 rfl rfl (by decide) rfl ?_
        refine r_goto (q := 14) dX12_plugged_97 (by decide) ?_
        refine r_mask [true, true, true, true, true, true, true, false] rfl ?_
        have q := ih (acc ++ [0]) (n + 1) (k + 1) (by omega) (by omega) (by omega) h3' (fun y hy => by rcases List.mem_append.mp hy with z | z; exact ha3 y z; rw [List.mem_singleton.mp z]; omega) (by rw [List.length_append, List.length_singleton]; omega) hr'
        rw [cd_snoc, List.append_assoc, List.singleton_append] at q
        exact q
    · rw [if_neg h0] at hl ⊢
      rw [List.length_cons] at hl
      refine r_iload (q := 16) dX12_plugged_14 rfl rfl ?_
      refine r_aload_n (q := 17) dX12_plugged_16 rfl rfl rfl ?_
      refine r_geti (q := 20) ck12 dX12_plugged_17 rfl (k := 20) (by decide) wt1298 (Or.inl rfl) (hs.e (by decide)) ?_
      refine r_topi (y := nI cnt) hm ?_
      refine r_icmp_geN (q := 23) (t := 100) (by omega) (by omega) dX12_plugged_20 (by decide) rfl (fun h20 => absurd h20 (by omega)) (fun h20 => ?_)
      refine r_aload_n (q := 24) dX12_plugged_23 rfl rfl rfl ?_
      refine r_getr (q := 27) (some (1316, 0)) ck12 dX12_plugged_24 rfl (k := 16) (by decide) wt1294 rfl (hs.e (by decide)) (hs.r (by decide) (by decide)) ?_
      refine r_iload (q := 29) dX12_plugged_27 rfl rfl ?_
      refine r_ialdN (q := 30) 16 (by decide) rfl dX12_plugged_29 rfl (hs.e (by decide)) (hs.n rfl (by decide)) (by omega) (by decide) ?_
      refine r_topi (y := nI x) r0 ?_
      refine r_if_neN (q := 33) (t := 43) (by omega) dX12_plugged_30 (by decide) rfl (fun h30 => ?_) (fun h30 => absurd h30 (by omega))
      refine r_iconst (q := 44) (nI 0) dX12_plugged_43 rfl (by decide) ?_
      refine r_istore (q := 46) (L' := [some (zr 12 0), some (zi c), some (zi (nI i)), some (zi (nI (cd u))), some (zi (nI (cd acc))), some (zi (nI n)), some (zi (nI k)), some (zi (nI 0))]) dX12_plugged_44 rfl (by decide) rfl ?_
      refine r_iload (q := 48) dX12_plugged_46 rfl rfl ?_
      refine r_if_eqN (q := 51) (t := 60) (by omega) dX12_plugged_48 (by decide) rfl (fun h48 => ?_) (fun h48 => absurd h48 (by omega))
      refine r_iload (q := 62) dX12_plugged_60 rfl rfl ?_
      refine r_iconst (q := 63) (nI 2) dX12_plugged_62 rfl (by decide) ?_
      refine r_ishl (q := 64) dX12_plugged_63 rfl ?_
      refine r_topi (y := nI ((cd acc) * 4)) (pk_shlN _ 2 (by decide) (show (cd acc) * 2 ^ 2 < 2 ^ 32 by omega)) ?_
      refine r_aload_n (q := 65) dX12_plugged_64 rfl rfl rfl ?_
      refine r_getr (q := 68) (some (1316, 0)) ck12 dX12_plugged_65 rfl (k := 16) (by decide) wt1294 rfl (hs.e (by decide)) (hs.r (by decide) (by decide)) ?_
      refine r_iload (q := 70) dX12_plugged_68 rfl rfl ?_
      refine r_ialdN (q := 71) 16 (by decide) rfl dX12_plugged_70 rfl (hs.e (by decide)) (hs.n rfl (by decide)) (by omega) (by decide) ?_
      refine r_topi (y := nI x) r0 ?_
      refine r_ior (q := 72) dX12_plugged_71 rfl ?_
      refine r_topi (y := nI (4 * cd acc + x)) (by rw [show cd acc * 4 = cd acc * 2 ^ 2 from rfl, or_addN (by omega)]; congr 1; omega) ?_
      refine r_istore (q := 74) (L' := [some (zr 12 0), some (zi c), some (zi (nI i)), some (zi (nI (cd u))), some (zi (nI (4 * cd acc + x))), some (zi (nI n)), some (zi (nI k)), some (zi (nI 0))]) dX12_plugged_72 rfl (by decide) rfl ?_
      refine r_iload (q := 76) dX12_plugged_74 rfl rfl ?_
      refine r_aload_n (q := 77) dX12_plugged_76 rfl rfl rfl ?_
      refine r_getr (q := 80) (some (1316, 0)) ck12 dX12_plugged_77 rfl (k := 16) (by decide) wt1294 rfl (hs.e (by decide)) (hs.r (by decide) (by decide)) ?_
      refine r_iload (q := 82) dX12_plugged_80 rfl rfl ?_
      refine r_ialdN (q := 83) 16 (by decide) rfl dX12_plugged_82 rfl (hs.e (by decide)) (hs.n rfl (by decide)) (by omega) (by decide) ?_
      refine r_topi (y := nI x) r0 ?_
      refine r_if_neN (q := 86) (t := 90) (by omega) dX12_plugged_83 (by decide) rfl (fun h83 => ?_) (fun h83 => absurd h83 (by omega))
      refine r_iconst (q := 91) (nI 0) dX12_plugged_90 rfl (by decide) ?_
      refine r_iaddN (q := 92) dX12_plugged_91 rfl ?_
      refine r_istore (q := 94) (L' := [some (zr 12 0), some (zi c), some (zi (nI i)), some (zi (nI (cd u))), some (zi (nI (4 * cd acc + x))), some (zi (nI (n + 0))), some (zi (nI k)), some (zi (nI 0))]) dX12_plugged_92 rfl (by decide) rfl ?_
      refine r_iincN (q := 97) (L' := [some (zr 12 0), some (zi c), some (zi (nI i)), some (zi (nI (cd u))), some (zi (nI (4 * cd acc + x))), some (zi (nI (n + 0))), some (zi (nI (k + 1))), some (zi (nI 0))]) 1 rfl dX12_plugged_94 rfl rfl (by decide) rfl ?_
      refine r_goto (q := 14) dX12_plugged_97 (by decide) ?_
      refine r_mask [true, true, true, true, true, true, true, false] rfl ?_
      have q := ih (acc ++ [x]) n (k + 1) (by omega) (by omega) (by omega) h3' (fun y hy => by rcases List.mem_append.mp hy with z | z; exact ha3 y z; rw [List.mem_singleton.mp z]; omega) (by rw [List.length_append, List.length_singleton]; omega) hr'
      rw [cd_snoc, List.append_assoc, List.singleton_append] at q
      exact q

set_option maxRecDepth 100000 in
theorem ok_plugged {S : zS} (hs : Sd S) {A n m i : Nat} {e : Nat → Nat} (hE : Eok A e) {t u : List Nat} (ht : Tr A e n t) (hu : Tr A e m u) (hi : i < n) (hn : n + m - 1 ≤ 7) : Ok mX12_plugged 0 (ent 8 [zr 12 0, zi (nI (cd t)), zi (nI i), zi (nI (cd u))]) [] S (fun r S1 => r = some (zi (nI (cd (gr t i u)))) ∧ Fr tPa S S1) := by
  have hlt := ht.len hE
  have hlu := hu.len hE
  have hg := ht.gr hu hi
  have hlg := hg.len hE
  have hbu := cd_le (hu.tok hE) (by omega)
  have hbt := cd_le (ht.tok hE) (by omega)
  show Ok mX12_plugged 0 [some (zr 12 0), some (zi (nI (cd t))), some (zi (nI i)), some (zi (nI (cd u))), none, none, none, none] [] S _
  refine r_aload_n (q := 1) dX12_plugged_0 rfl rfl rfl ?_
  refine r_iload_n (q := 2) dX12_plugged_1 rfl rfl rfl ?_
  refine r_callV (Mc := mX12_tokens) (q := 5) (As := [zi (nI (cd t))]) (st := []) ck12 dX12_plugged_2 rfl rfl mkX12_tokens wt1649 wt1651 wp85 rfl (Nat.le_of_ble_eq_true rfl) (Nat.le_of_ble_eq_true rfl) (by decide) (by decide) (by decide) (Or.inl rfl) (hs.e (by decide)) (ok_X12_tokens hs (ht.tok hE) (by omega)) (fun r2 S2 hp2 => ?_)
  obtain ⟨rfl, hq2⟩ := hp2
  rw [hq2]
  show Ok _ _ _ [] _ _
  refine r_iconst (q := 6) (nI 1) dX12_plugged_5 rfl (by decide) ?_
  refine r_istore (q := 8) (L' := [some (zr 12 0), some (zi (nI (cd t))), some (zi (nI i)), some (zi (nI (cd u))), some (zi (nI 1)), none, none, none]) dX12_plugged_6 rfl (by decide) rfl ?_
  refine r_iconst (q := 9) (nI 0) dX12_plugged_8 rfl (by decide) ?_
  refine r_istore (q := 11) (L' := [some (zr 12 0), some (zi (nI (cd t))), some (zi (nI i)), some (zi (nI (cd u))), some (zi (nI 1)), some (zi (nI 0)), none, none]) dX12_plugged_9 rfl (by decide) rfl ?_
  refine r_iconst (q := 12) (nI 0) dX12_plugged_11 rfl (by decide) ?_
  refine r_istore (q := 14) (L' := [some (zr 12 0), some (zi (nI (cd t))), some (zi (nI i)), some (zi (nI (cd u))), some (zi (nI 1)), some (zi (nI 0)), some (zi (nI 0)), none]) dX12_plugged_12 rfl (by decide) rfl ?_
  have q := lp_plugged (S := stR (sI S 12 0 20 (nI t.length)) 1316 0 t) hs (c := nI (cd t)) (i := i) (cnt := t.length) (by omega) (by omega) (hu.tok hE) (by omega) (by rw [gI_stR_x (by omega), gI_sI, if_pos ⟨rfl, rfl, rfl⟩]) t [] 0 0 (by omega) (by omega) (by omega) (ht.tok hE) (fun x hx => absurd hx List.not_mem_nil) (by rw [gp_gr t 0 i u (by omega)]; simp; omega) (fun j hj => by rw [Nat.zero_add]; exact gI_stR_k hj)
  rw [List.nil_append, gp_gr t 0 i u (by omega), Nat.sub_zero] at q
  exact Ok.mono q (fun r S1 z => ⟨z.1, by rw [z.2]; exact Fr.stR (Fr.i Fr.rf rfl) (fun _ => rfl)⟩)

/-- the products of two sums, term by term -/
def prd (i : Nat) (p : zT) (l : List zT) : List zT := l.map (fun q => (gr p.1 i q.1, p.2 * q.2))
def prds (i : Nat) (o l : List zT) : List zT := o.flatMap (fun p => prd i p l)
def tJn (b j a x k : Nat) : Prop := tTy j a x k ∨ tSh b a x k = true
theorem prd_get {i k : Nat} {p : zT} {l : List zT} (h : k < l.length) : (prd i p l).drop k = (gr p.1 i (l.getD k zd).1, p.2 * (l.getD k zd).2) :: (prd i p l).drop (k + 1) := by
  unfold prd
  rw [← List.map_drop, ← List.map_drop, List.drop_eq_getElem_cons h, List.map_cons, List.getD_eq_getElem?_getD, List.getElem?_eq_getElem h]; rfl
theorem puts_app {P b : Nat} {c l1 l2 : List zT} : puts P b c (l1 ++ l2) = puts P b (puts P b c l1) l2 := by unfold puts; rw [List.foldl_append]

def Jn (S : zS) (jo ji n m : Nat) (o l : List zT) : Prop := gI S 8 jo 0 = nI n ∧ gI S 8 ji 0 = nI m ∧ Ty S jo o ∧ Ty S ji l
theorem Ty.fg {T : Nat → Nat → Nat → Prop} {S S1 : zS} {j : Nat} {c : List zT} (h : Ty S j c) (f : Fg T S S1) (t : ∀ k, ¬ T 8 j 1 ∧ ¬ T 902 j k ∧ ¬ T 903 j k) : Ty S1 j c := by
  obtain ⟨h1, h2, m, h3, h4, h5⟩ := h
  exact ⟨(f.I (by omega) (t 0).1).trans h1, fun k hk => ⟨(f.I (by omega) (t k).2.1).trans (h2 k hk).1, (f.I (by omega) (t k).2.2).trans (h2 k hk).2⟩, m, (f.N (by omega) (t 0).2.1).trans h3, (f.N (by omega) (t 0).2.2).trans h4, h5⟩
theorem Jn.fg {b j : Nat} {S S1 : zS} {jo ji n m : Nat} {o l : List zT} (h : Jn S jo ji n m o l) (f : Fg (tJn b j) S S1) (h1 : jo ≠ j) (h3 : ji ≠ j) : Jn S1 jo ji n m o l := by
  have ha : ∀ x k, x ≠ j → ¬ tJn b j 8 x k ∧ ¬ tJn b j 902 x k ∧ ¬ tJn b j 903 x k := fun x k hx => by
    unfold tJn tTy
    simp [tSh]
    omega
  exact ⟨(f.I (by omega) (ha _ _ h1).1).trans h.1, (f.I (by omega) (ha _ _ h3).1).trans h.2.1, h.2.2.1.fg f (fun k => ⟨(ha _ 1 h1).1, (ha _ k h1).2⟩), h.2.2.2.fg f (fun k => ⟨(ha _ 1 h3).1, (ha _ k h3).2⟩)⟩

theorem Ty.fr22 {S S1 : zS} {j : Nat} {c : List zT} {T : Nat → Nat → Nat → Bool} (h : Ty S j c) (f : Fr T S S1) (t : ∀ x k, T 8 x k = false ∧ T 902 x k = false ∧ T 903 x k = false) : Ty S1 j c := by
  obtain ⟨h1, h2, m, h3, h4, h5⟩ := h
  exact ⟨(f.1 _ _ _ (t _ _).1).trans h1, fun k hk => ⟨(f.1 _ _ _ (t _ _).2.1).trans (h2 k hk).1, (f.1 _ _ _ (t _ _).2.2).trans (h2 k hk).2⟩, m, (gN_22 f.2.2).trans h3, (gN_22 f.2.2).trans h4, h5⟩

set_option maxRecDepth 100000 in
theorem lp_join2 {A n m P i : Nat} {e : Nat → Nat} (hE : Eok A e) (hn1 : 1 ≤ n) (hm1 : 1 ≤ m) (hn : n + m - 1 ≤ 7) (hi : i < n) (h2 : 2 ≤ P) (hP : P ≤ 97) {b jo ji j : Nat} (hb5 : b < 5) (hjo : jo < 19) (hji : ji < 19) (hj : j < 19) (h1 : jo ≠ j) (h3 : ji ≠ j) {o l : List zT} (ho : ∀ p, p ∈ o → Tr A e n p.1 ∧ p.2 < P) (hl : ∀ p, p ∈ l → Tr A e m p.1 ∧ p.2 < P) {U : List (List Nat)} (hU : U.length ≤ 1200) (hpU : ∀ p, p ∈ prds i o l → p.1 ∈ U) {a : Nat} (ha : a < o.length) : ∀ (d k : Nat) (S : zS) (c : List zT), k + d = l.length → Sd S → Jn S jo ji n m o l → Ty S j c → Ce A e P (n + m - 1) c → (∀ p, p ∈ c → p.1 ∈ U) → (∀ Po : Option zV → zS → Prop, (∀ S1, Fg (tJn b j) S S1 → Ty S1 j (puts P 1 c ((prd i (o.getD a zd) l).drop k)) → Ok mX6_join 99 [some (zr 6 b), some (zr 8 jo), some (zi (nI i)), some (zr 8 ji), some (zr 8 j), some (zi (nI P)), some (zi (nI a)), some (zi (nI l.length)), none] [] S1 Po) → Ok mX6_join 31 [some (zr 6 b), some (zr 8 jo), some (zi (nI i)), some (zr 8 ji), some (zr 8 j), some (zi (nI P)), some (zi (nI a)), some (zi (nI k)), none] [] S Po) := by
  intro d
  induction d with
  | zero =>
    intro k S c hk hs hJ hc hC hcU Po K
    obtain rfl : l.length = k := by omega
    have K := K S (Fg.rf hs) (by rw [List.drop_eq_nil_of_le (by unfold prd; rw [List.length_map]; exact Nat.le_refl _)]; exact hc)
    obtain ⟨j1, j2, j3, j4⟩ := hJ
    obtain ⟨ml, l1, l2, l3, l4, l5⟩ := j4.2.2
    refine r_iload (q := 33) dX6_join_31 rfl rfl ?_
    refine r_aload_n (q := 34) dX6_join_33 rfl rfl rfl ?_
    refine r_geti (q := 37) ck8 dX6_join_34 rfl (k := 1) (by decide) wt66 (Or.inl rfl) (hs.e (show ji < 19 by omega)) ?_
    refine r_topi (y := nI l.length) j4.1 ?_
    refine r_icmp_geN (q := 40) (t := 99) (by omega) (by omega) dX6_join_37 (by decide) rfl (fun h37 => ?_) (fun h37 => absurd h37 (by omega))
    exact K
  | succ d ih =>
    intro k S c hk hs hJ hc hC hcU Po K
    have hkl : k < l.length := by omega
    obtain ⟨j1, j2, j3, j4⟩ := id hJ
    obtain ⟨mo, o1, o2, o3, o4, o5⟩ := j3.2.2
    obtain ⟨ml, l1, l2, l3, l4, l5⟩ := j4.2.2
    have hpo := ho _ (mem_getD ha)
    have hpl := hl _ (mem_getD hkl)
    have ht := hpo.1.gr hpl.1 hi
    have r1 := j3.2.1 a ha
    have r2 := j4.2.1 k hkl
    have hmem : (gr (o.getD a zd).1 i (l.getD k zd).1, (o.getD a zd).2 * (l.getD k zd).2) ∈ prds i o l := List.mem_flatMap.mpr ⟨_, mem_getD ha, List.mem_map.mpr ⟨_, mem_getD hkl, rfl⟩⟩
    have hmul : (o.getD a zd).2 * (l.getD k zd).2 ≤ 96 * 96 := Nat.mul_le_mul (by omega) (by omega)
    rw [prd_get hkl, puts_cons] at K
    refine r_iload (q := 33) dX6_join_31 rfl rfl ?_
    refine r_aload_n (q := 34) dX6_join_33 rfl rfl rfl ?_
    refine r_geti (q := 37) ck8 dX6_join_34 rfl (k := 1) (by decide) wt66 (Or.inl rfl) (hs.e (show ji < 19 by omega)) ?_
    refine r_topi (y := nI l.length) j4.1 ?_
    refine r_icmp_geN (q := 40) (t := 99) (by omega) (by omega) dX6_join_37 (by decide) rfl (fun h37 => absurd h37 (by omega)) (fun h37 => ?_)
    refine r_aload_n (q := 41) dX6_join_40 rfl rfl rfl ?_
    refine r_aload_n (q := 42) dX6_join_41 rfl rfl rfl ?_
    refine r_getr (q := 45) (some (902, jo)) ck8 dX6_join_42 rfl (k := 2) (by decide) wt72 rfl (hs.e (show jo < 19 by omega)) (hs.r (show jo < 19 by omega) (by decide)) ?_
    refine r_iload (q := 47) dX6_join_45 rfl rfl ?_
    refine r_ialdN (q := 48) mo (by decide) rfl dX6_join_47 rfl (hs.e (show jo < 19 by omega)) o1 (by omega) (by omega) ?_
    refine r_topi (y := nI (ky (o.getD a zd).1)) r1.1 ?_
    refine r_aload_n (q := 49) dX6_join_48 rfl rfl rfl ?_
    refine r_geti (q := 52) ck8 dX6_join_49 rfl (k := 0) (by decide) wt58 (Or.inl rfl) (hs.e (show jo < 19 by omega)) ?_
    refine r_topi (y := nI n) j1 ?_
    refine r_iload_n (q := 53) dX6_join_52 rfl rfl rfl ?_
    refine r_aload_n (q := 54) dX6_join_53 rfl rfl rfl ?_
    refine r_getr (q := 57) (some (902, ji)) ck8 dX6_join_54 rfl (k := 2) (by decide) wt72 rfl (hs.e (show ji < 19 by omega)) (hs.r (show ji < 19 by omega) (by decide)) ?_
    refine r_iload (q := 59) dX6_join_57 rfl rfl ?_
    refine r_ialdN (q := 60) ml (by decide) rfl dX6_join_59 rfl (hs.e (show ji < 19 by omega)) l1 (by omega) (by omega) ?_
    refine r_topi (y := nI (ky (l.getD k zd).1)) r2.1 ?_
    refine r_aload_n (q := 61) dX6_join_60 rfl rfl rfl ?_
    refine r_geti (q := 64) ck8 dX6_join_61 rfl (k := 0) (by decide) wt58 (Or.inl rfl) (hs.e (show ji < 19 by omega)) ?_
    refine r_topi (y := nI m) j2 ?_
    refine r_callV (Mc := mX6_grafted) (q := 67) (As := [zi (nI (ky (o.getD a zd).1)), zi (nI n), zi (nI i), zi (nI (ky (l.getD k zd).1)), zi (nI m)]) (st := []) ck6 dX6_join_64 rfl rfl mkX6_grafted wt949 wt801 wt802 rfl (Nat.le_of_ble_eq_true rfl) (Nat.le_of_ble_eq_true rfl) (by decide) (by decide) (by decide) (Or.inl rfl) (hs.e (show b < 5 by omega)) (ok_grafted hs hb5 hE hpo.1 hpl.1 hi hn) (fun r64 S64 hp64 => ?_)
    obtain ⟨rfl, g1⟩ := hp64
    have gS := hs.fr g1
    have gF : Fg (tJn b j) S S64 := g1.fg hs (fun a x k z => Or.inr z)
    show Ok _ _ _ [zi (nI (ky (gr (o.getD a zd).1 i (l.getD k zd).1)))] _ _
    refine r_istore (q := 69) (L' := [some (zr 6 b), some (zr 8 jo), some (zi (nI i)), some (zr 8 ji), some (zr 8 j), some (zi (nI P)), some (zi (nI a)), some (zi (nI k)), some (zi (nI (ky (gr (o.getD a zd).1 i (l.getD k zd).1))))]) dX6_join_67 rfl (by decide) rfl ?_
    refine r_aload (q := 71) dX6_join_69 rfl rfl ?_
    refine r_iload (q := 73) dX6_join_71 rfl rfl ?_
    refine r_aload_n (q := 74) dX6_join_73 rfl rfl rfl ?_
    refine r_getr (q := 77) (some (903, jo)) ck8 dX6_join_74 rfl (k := 3) (by decide) wt78 rfl (gS.e (show jo < 19 by omega)) (gS.r (show jo < 19 by omega) (by decide)) ?_
    refine r_iload (q := 79) dX6_join_77 rfl rfl ?_
    refine r_ialdN (q := 80) mo (by decide) rfl dX6_join_79 rfl (gS.e (show jo < 19 by omega)) ((gN_22 g1.2.2).trans o2) (by omega) (by omega) ?_
    refine r_topi (y := nI ((o.getD a zd).2)) ((g1.1 _ _ _ rfl).trans r1.2) ?_
    refine r_aload_n (q := 81) dX6_join_80 rfl rfl rfl ?_
    refine r_getr (q := 84) (some (903, ji)) ck8 dX6_join_81 rfl (k := 3) (by decide) wt78 rfl (gS.e (show ji < 19 by omega)) (gS.r (show ji < 19 by omega) (by decide)) ?_
    refine r_iload (q := 86) dX6_join_84 rfl rfl ?_
    refine r_ialdN (q := 87) ml (by decide) rfl dX6_join_86 rfl (gS.e (show ji < 19 by omega)) ((gN_22 g1.2.2).trans l2) (by omega) (by omega) ?_
    refine r_topi (y := nI ((l.getD k zd).2)) ((g1.1 _ _ _ rfl).trans r2.2) ?_
    refine r_imulN (q := 88) dX6_join_87 rfl ?_
    refine r_iload (q := 90) dX6_join_88 rfl rfl ?_
    refine r_callV (Mc := mX8_put) (q := 93) (As := [zi (nI (ky (gr (o.getD a zd).1 i (l.getD k zd).1))), zi (nI (((o.getD a zd).2) * ((l.getD k zd).2))), zi (nI P)]) (st := []) ck8 dX6_join_90 rfl rfl mkX8_put wt950 wt610 wt611 rfl (Nat.le_of_ble_eq_true rfl) (Nat.le_of_ble_eq_true rfl) (by decide) (by decide) (by decide) (Or.inr ⟨Nat.le_of_ble_eq_true rfl, rfl, rfl⟩) (gS.e (show j < 19 by omega)) (ok_X8_put gS hj hE ht hn (hc.fr22 g1 (fun _ _ => ⟨rfl, rfl, rfl⟩)) hC h2 hP hU (hpU _ hmem) hcU (nI ((o.getD a zd).2 * (l.getD k zd).2))) (fun r90 S90 hp90 => ?_)
    obtain ⟨rfl, g2, g3⟩ := hp90
    rw [rsN_nI (by omega) (by omega)] at g3
    have gF2 : Fg (tJn b j) S S90 := gF.tr (g2.mono fun a x k z => Or.inl z)
    show Ok _ _ _ [] _ _
    refine r_iincN (q := 96) (L' := [some (zr 6 b), some (zr 8 jo), some (zi (nI i)), some (zr 8 ji), some (zr 8 j), some (zi (nI P)), some (zi (nI a)), some (zi (nI (k + 1))), some (zi (nI (ky (gr (o.getD a zd).1 i (l.getD k zd).1))))]) 1 rfl dX6_join_93 rfl rfl (by decide) rfl ?_
    refine r_goto (q := 31) dX6_join_96 (by decide) ?_
    refine r_mask [true, true, true, true, true, true, true, true, false] rfl ?_
    have e1 : cl (addT P (gr (o.getD a zd).1 i (l.getD k zd).1) ((o.getD a zd).2 * (l.getD k zd).2 % P) c) = cl (addT P (gr (o.getD a zd).1 i (l.getD k zd).1) ((o.getD a zd).2 * (l.getD k zd).2 * 1 % P) c) := by rw [Nat.mul_one]
    rw [e1] at g3
    exact ih (k + 1) S90 _ (by omega) gF2.sd (hJ.fg gF2 h1 h3) g3 (hC.put hE (by omega) hn ht) (fun p hp' => by rcases mem_addT (mem_cl hp') with z | z; exact hcU p z; rw [z.1]; exact hpU _ hmem) Po (fun S1 f1 f2 => K S1 (gF2.tr f1) f2)

