set_option maxRecDepth 100000 in
theorem lp_placeOf {S : zS} (hs : Sd S) {j e n : Nat} (hj : j < 19) (h2 : gN S 902 j = n) (hn9 : n ≤ 1200) (hen : e ≤ n) (hdn : ∀ i k, i ≤ k → k < e → gI S 902 j k ≤ gI S 902 j i) (key : Int32) : ∀ (d lo hi : Nat), hi ≤ lo + d → lo ≤ hi → hi ≤ e → (∀ k, k < lo → key < gI S 902 j k) → (∀ k, hi ≤ k → k < e → gI S 902 j k ≤ key) → Ok mX8_placeOf 7 [some (zr 8 j), some (zi key), some (zi (nI lo)), some (zi (nI hi)), none] [] S (fun r S1 => S1 = S ∧ ∃ a, a ≤ e ∧ r = some (zi (nI a)) ∧ (∀ k, k < a → key < gI S 902 j k) ∧ ∀ k, a ≤ k → k < e → gI S 902 j k ≤ key) := by
  intro d
  induction d with
  | zero =>
    intro lo hi hd hle hie hl hh
    refine r_iload_n (q := 8) dX8_placeOf_7 rfl rfl rfl ?_
    refine r_iload_n (q := 9) dX8_placeOf_8 rfl rfl rfl ?_
    refine r_icmp_geN (q := 12) (t := 44) (by omega) (by omega) dX8_placeOf_9 (by decide) rfl (fun h9 => ?_) (fun h9 => absurd h9 (by omega))
    refine r_iload_n (q := 45) dX8_placeOf_44 rfl rfl rfl ?_
    refine r_ireturn dX8_placeOf_45 rfl ?_
    exact ⟨rfl, lo, by omega, rfl, hl, fun k h1 h2 => hh k (by omega) h2⟩
  | succ d ih =>
    intro lo hi hd hle hie hl hh
    refine r_iload_n (q := 8) dX8_placeOf_7 rfl rfl rfl ?_
    refine r_iload_n (q := 9) dX8_placeOf_8 rfl rfl rfl ?_
    refine r_icmp_geN (q := 12) (t := 44) (by omega) (by omega) dX8_placeOf_9 (by decide) rfl (fun h9 => ?_) (fun h9 => ?_)
    · skip
      refine r_iload_n (q := 45) dX8_placeOf_44 rfl rfl rfl ?_
      refine r_ireturn dX8_placeOf_45 rfl ?_
      exact ⟨rfl, lo, by omega, rfl, hl, fun k h1 h2 => hh k (by omega) h2⟩
    · skip
      refine r_iload_n (q := 13) dX8_placeOf_12 rfl rfl rfl ?_
      refine r_iload_n (q := 14) dX8_placeOf_13 rfl rfl rfl ?_
      refine r_iaddN (q := 15) dX8_placeOf_14 rfl ?_
      refine r_iconst (q := 16) (nI 1) dX8_placeOf_15 rfl (by decide) ?_
      refine r_iushr (q := 17) dX8_placeOf_16 rfl ?_
      refine r_topi (y := nI ((lo + hi) / 2)) (pk_ushrN (by omega) _ 1 (by decide)) ?_
      refine r_istore (q := 19) (L' := [some (zr 8 j), some (zi key), some (zi (nI lo)), some (zi (nI hi)), some (zi (nI ((lo + hi) / 2)))]) dX8_placeOf_17 rfl (by decide) rfl ?_
      refine r_aload_n (q := 20) dX8_placeOf_19 rfl rfl rfl ?_
      refine r_getr (q := 23) (some (902, j)) ck8 dX8_placeOf_20 rfl (k := 2) (by decide) wt69 rfl (hs.e (show j < 19 by omega)) (hs.r (show j < 19 by omega) (by decide)) ?_
      refine r_iload (q := 25) dX8_placeOf_23 rfl rfl ?_
      refine r_ialdN (q := 26) n (by decide) rfl dX8_placeOf_25 rfl (hs.e (show j < 19 by omega)) h2 (by omega) (by omega) ?_
      refine r_iload_n (q := 27) dX8_placeOf_26 rfl rfl rfl ?_
      refine r_icmp_le (q := 30) (t := 38) dX8_placeOf_27 (by decide) rfl (fun h27 => ?_) (fun h27 => ?_)
      · skip
        refine r_iload (q := 40) dX8_placeOf_38 rfl rfl ?_
        refine r_istore_n (q := 41) (L' := [some (zr 8 j), some (zi key), some (zi (nI lo)), some (zi (nI ((lo + hi) / 2))), some (zi (nI ((lo + hi) / 2)))]) dX8_placeOf_40 rfl rfl (by decide) rfl ?_
        refine r_goto (q := 7) dX8_placeOf_41 (by decide) ?_
        refine r_mask [true, true, true, true, false] rfl ?_
        exact ih lo ((lo + hi) / 2) (by omega) (by omega) (by omega) hl (fun k h1 h2 => Int32.le_trans (hdn ((lo + hi) / 2) k h1 h2) h27)
      · skip
        refine r_iload (q := 32) dX8_placeOf_30 rfl rfl ?_
        refine r_iconst (q := 33) (nI 1) dX8_placeOf_32 rfl (by decide) ?_
        refine r_iaddN (q := 34) dX8_placeOf_33 rfl ?_
        refine r_istore_n (q := 35) (L' := [some (zr 8 j), some (zi key), some (zi (nI (((lo + hi) / 2) + 1))), some (zi (nI hi)), some (zi (nI ((lo + hi) / 2)))]) dX8_placeOf_34 rfl rfl (by decide) rfl ?_
        refine r_goto (q := 41) dX8_placeOf_35 (by decide) ?_
        refine r_goto (q := 7) dX8_placeOf_41 (by decide) ?_
        refine r_mask [true, true, true, true, false] rfl ?_
        exact ih ((lo + hi) / 2 + 1) hi (by omega) (by omega) hie (fun k hk => Int32.lt_of_lt_of_le (Int32.not_le.mp h27) (hdn k ((lo + hi) / 2) (by omega) (by omega))) hh

set_option maxRecDepth 100000 in
theorem ok_X8_placeOf {S : zS} (hs : Sd S) {j e n : Nat} (hj : j < 19) (h2 : gN S 902 j = n) (hn9 : n ≤ 1200) (hen : e ≤ n) (hdn : ∀ i k, i ≤ k → k < e → gI S 902 j k ≤ gI S 902 j i) (key : Int32) (hte : gI S 8 j 1 = nI e) : Ok mX8_placeOf 0 (ent 5 [zr 8 j, zi key]) [] S (fun r S1 => S1 = S ∧ ∃ a, a ≤ e ∧ r = some (zi (nI a)) ∧ (∀ k, k < a → key < gI S 902 j k) ∧ ∀ k, a ≤ k → k < e → gI S 902 j k ≤ key) := by
  show Ok mX8_placeOf 0 [some (zr 8 j), some (zi key), none, none, none] [] S _
  refine r_iconst (q := 1) (nI 0) dX8_placeOf_0 rfl (by decide) ?_
  refine r_istore_n (q := 2) (L' := [some (zr 8 j), some (zi key), some (zi (nI 0)), none, none]) dX8_placeOf_1 rfl rfl (by decide) rfl ?_
  refine r_aload_n (q := 3) dX8_placeOf_2 rfl rfl rfl ?_
  refine r_geti (q := 6) ck8 dX8_placeOf_3 rfl (k := 1) (by decide) wt62 (Or.inl rfl) (hs.e (show j < 19 by omega)) ?_
  refine r_topi (y := nI e) hte ?_
  refine r_istore_n (q := 7) (L' := [some (zr 8 j), some (zi key), some (zi (nI 0)), some (zi (nI e)), none]) dX8_placeOf_6 rfl rfl (by decide) rfl ?_
  exact lp_placeOf hs hj h2 hn9 hen hdn key e 0 e (by omega) (by omega) (by omega) (fun k hk => absurd hk (by omega)) (fun k h1 h2 => absurd h1 (by omega))

