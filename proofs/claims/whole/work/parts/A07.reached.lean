theorem tc_smB : (allE.all fun l => (List.range 8).all fun n => decide ((tcl l 7).getD n 0 < 1000000000)) = true := by decide +kernel
theorem tc_small {W : zWd} (hE : Eok (wA W) (we W)) {n : Nat} (hn : n ≤ 7) : tc W n < 1000000000 := by
  have h1 := List.all_eq_true.mp tc_smB _ (ent_all hE)
  have h2 := List.all_eq_true.mp h1 n (List.mem_range.mpr (by omega))
  rw [tcl_tc hE 7 n hn] at h2
  exact of_decide_eq_true h2
def Tcs (S : zS) (b : Nat) (W : zWd) : Prop := ∀ m, 1 ≤ m → m ≤ 10 → gJ S 1009 b m = lN (tc W m)
theorem Tcs.fg {S S1 : zS} {b : Nat} {W : zWd} (h : Tcs S b W) (f : Fg (tRe b) S S1) : Tcs S1 b W := fun m h1 h2 => (f.J (by omega) (by unfold tRe; omega)).trans (h m h1 h2)
/-- what reach tells -/
def ReR (S S1 : zS) (b : Nat) (W : zWd) (N : Nat) (r : Option zV) : Prop := Fg (tRe b) S S1 ∧ WC S1 b W ∧ ∃ n mk rl, CB S1 b W n mk rl ∧ (tc W N ≤ 300 ∧ N ≤ n ∧ r = some (zi (nI 1)) ∨ 300 < tc W N ∧ r = some (zi (nI 0)))

set_option maxRecDepth 100000 in
theorem lp_reach {W : zWd} (hW : Wok W) {b N : Nat} (hb4 : b < 4) (hN7 : N ≤ 7) : ∀ (d n : Nat) (S : zS) (mk : Nat → Nat → Nat) (rl : Nat → Nat → Nat → Nat), N ≤ n + d → n ≤ 7 → Sd S → WC S b W → Tcs S b W → CB S b W n mk rl → Ok mX0_reach 20 [some (zr 0 b), some (zi (nI N)), some (zi (nI (n + 1)))] [] S (fun r S1 => ReR S S1 b W N r) := by
  have hE := hW.2.1
  intro d
  induction d with
  | zero =>
    intro n S mk rl hd hn7 hs hc hT hB
    refine r_iload_n (q := 21) dX0_reach_20 rfl rfl rfl ?_
    refine r_iload_n (q := 22) dX0_reach_21 rfl rfl rfl ?_
    refine r_icmp_gtN (q := 25) (t := 79) (by omega) (by omega) dX0_reach_22 (by decide) rfl (fun h22 => ?_) (fun h22 => absurd h22 (by omega))
    refine r_iconst (q := 80) (nI 1) dX0_reach_79 rfl (by decide) ?_
    refine r_zreturn (by decide) dX0_reach_80 rfl ?_
    exact ⟨Fg.rf hs, hc, n, mk, rl, hB, Or.inl ⟨hB.2.2.1 N (by omega), by omega, rfl⟩⟩
  | succ d ih =>
    intro n S mk rl hd hn7 hs hc hT hB
    by_cases hNn : N ≤ n
    · skip
      refine r_iload_n (q := 21) dX0_reach_20 rfl rfl rfl ?_
      refine r_iload_n (q := 22) dX0_reach_21 rfl rfl rfl ?_
      refine r_icmp_gtN (q := 25) (t := 79) (by omega) (by omega) dX0_reach_22 (by decide) rfl (fun h22 => ?_) (fun h22 => absurd h22 (by omega))
      refine r_iconst (q := 80) (nI 1) dX0_reach_79 rfl (by decide) ?_
      refine r_zreturn (by decide) dX0_reach_80 rfl ?_
      exact ⟨Fg.rf hs, hc, n, mk, rl, hB, Or.inl ⟨hB.2.2.1 N (by omega), by omega, rfl⟩⟩
    · have hsm := tc_small hE (show n + 1 ≤ 7 by omega)
      have t9 := hT (n + 1) (by omega) (by omega)
      by_cases h3 : tc W (n + 1) ≤ 300
      · skip
        refine r_iload_n (q := 21) dX0_reach_20 rfl rfl rfl ?_
        refine r_iload_n (q := 22) dX0_reach_21 rfl rfl rfl ?_
        refine r_icmp_gtN (q := 25) (t := 79) (by omega) (by omega) dX0_reach_22 (by decide) rfl (fun h22 => absurd h22 (by omega)) (fun h22 => ?_)
        refine r_aload_n (q := 26) dX0_reach_25 rfl rfl rfl ?_
        refine r_getr (q := 29) (some (9, b)) ck0 dX0_reach_26 rfl (k := 0) (by decide) wt374 rfl (hs.e (show b < 4 by omega)) (hs.r (show b < 4 by omega) (by decide)) ?_
        refine r_getr (q := 32) (some (1009, b)) ck9 dX0_reach_29 rfl (k := 9) (by decide) wt339 rfl (hs.e (show b < 4 by omega)) (hs.r (show b < 4 by omega) (by decide)) ?_
        refine r_iload_n (q := 33) dX0_reach_32 rfl rfl rfl ?_
        refine r_laldN (q := 34) 11 (by decide) rfl dX0_reach_33 rfl (hs.e (show b < 4 by omega)) (hs.n rfl (show b < 4 by omega)) (by omega) (by decide) ?_
        refine r_topl (y := lN (tc W (n + 1))) t9 ?_
        refine r_ldc2 (q := 37) (300 : Int64) dX0_reach_34 rfl wt774 ?_
        refine r_topl (y := lN 300) rfl ?_
        refine r_lcmp (q := 38) dX0_reach_37 rfl ?_
        refine r_if_le (q := 41) (t := 43) dX0_reach_38 (by decide) rfl (fun h38 => ?_) (fun h38 => absurd h38 (fun z => z ((lcmp_le (by omega) (by omega)).mpr h3)))
        refine lp_level hW hb4 hs hc hB (by omega) h3 (fun S1 mk1 rl1 f1 g1 g2 => ?_)
        refine r_iincN (q := 76) (L' := [some (zr 0 b), some (zi (nI N)), some (zi (nI (n + 1 + 1)))]) 1 rfl dX0_reach_73 rfl rfl (by decide) rfl ?_
        refine r_goto (q := 20) dX0_reach_76 (by decide) ?_
        exact Ok.mono (ih (n + 1) S1 mk1 rl1 (by omega) (by omega) f1.sd g1 (hT.fg f1) g2) fun r S2 z => ⟨f1.tr z.1, z.2⟩
      · skip
        refine r_iload_n (q := 21) dX0_reach_20 rfl rfl rfl ?_
        refine r_iload_n (q := 22) dX0_reach_21 rfl rfl rfl ?_
        refine r_icmp_gtN (q := 25) (t := 79) (by omega) (by omega) dX0_reach_22 (by decide) rfl (fun h22 => absurd h22 (by omega)) (fun h22 => ?_)
        refine r_aload_n (q := 26) dX0_reach_25 rfl rfl rfl ?_
        refine r_getr (q := 29) (some (9, b)) ck0 dX0_reach_26 rfl (k := 0) (by decide) wt374 rfl (hs.e (show b < 4 by omega)) (hs.r (show b < 4 by omega) (by decide)) ?_
        refine r_getr (q := 32) (some (1009, b)) ck9 dX0_reach_29 rfl (k := 9) (by decide) wt339 rfl (hs.e (show b < 4 by omega)) (hs.r (show b < 4 by omega) (by decide)) ?_
        refine r_iload_n (q := 33) dX0_reach_32 rfl rfl rfl ?_
        refine r_laldN (q := 34) 11 (by decide) rfl dX0_reach_33 rfl (hs.e (show b < 4 by omega)) (hs.n rfl (show b < 4 by omega)) (by omega) (by decide) ?_
        refine r_topl (y := lN (tc W (n + 1))) t9 ?_
        refine r_ldc2 (q := 37) (300 : Int64) dX0_reach_34 rfl wt774 ?_
        refine r_topl (y := lN 300) rfl ?_
        refine r_lcmp (q := 38) dX0_reach_37 rfl ?_
        refine r_if_le (q := 41) (t := 43) dX0_reach_38 (by decide) rfl (fun h38 => absurd h38 (fun z => h3 ((lcmp_le (by omega) (by omega)).mp z))) (fun h38 => ?_)
        refine r_iconst (q := 42) (nI 0) dX0_reach_41 rfl (by decide) ?_
        refine r_zreturn (by decide) dX0_reach_42 rfl ?_
        exact ⟨Fg.rf hs, hc, n, mk, rl, hB, Or.inr ⟨Nat.lt_of_not_le (fun z => h3 (tc_down hE hN7 z (by omega))), rfl⟩⟩

set_option maxRecDepth 100000 in
theorem ok_reach_in {S : zS} (hs : Sd S) {W : zWd} (hW : Wok W) {b N n : Nat} (hb4 : b < 4) (hN1 : 1 ≤ N) (hN7 : N ≤ 7) (hc : WC S b W) (hT : Tcs S b W) {mk : Nat → Nat → Nat} {rl : Nat → Nat → Nat → Nat} (hB : CB S b W n mk rl) : Ok mX0_reach 0 (ent 3 [zr 0 b, zi (nI N)]) [] S (fun r S1 => ReR S S1 b W N r) := by
  have hn7 := hB.2.1
  show Ok mX0_reach 0 [some (zr 0 b), some (zi (nI N)), none] [] S _
  refine r_iload_n (q := 1) dX0_reach_0 rfl rfl rfl ?_
  refine r_iconst (q := 2) (nI 1) dX0_reach_1 rfl (by decide) ?_
  refine r_icmp_ltN (q := 5) (t := 11) (by omega) (by omega) dX0_reach_2 (by decide) rfl (fun h2 => absurd h2 (by omega)) (fun h2 => ?_)
  refine r_iload_n (q := 6) dX0_reach_5 rfl rfl rfl ?_
  refine r_bipush (q := 8) (nI 7) dX0_reach_6 rfl (by decide) ?_
  refine r_icmp_leN (q := 11) (t := 13) (by omega) (by omega) dX0_reach_8 (by decide) rfl (fun h8 => ?_) (fun h8 => absurd h8 (by omega))
  refine r_aload_n (q := 14) dX0_reach_13 rfl rfl rfl ?_
  refine r_geti (q := 17) ck0 dX0_reach_14 rfl (k := 2) (by decide) wt379 (Or.inl rfl) (hs.e (show b < 4 by omega)) ?_
  refine r_topi (y := nI n) hB.1 ?_
  refine r_iconst (q := 18) (nI 1) dX0_reach_17 rfl (by decide) ?_
  refine r_iaddN (q := 19) dX0_reach_18 rfl ?_
  refine r_istore_n (q := 20) (L' := [some (zr 0 b), some (zi (nI N)), some (zi (nI (n + 1)))]) dX0_reach_19 rfl rfl (by decide) rfl ?_
  exact lp_reach hW hb4 (by omega) N n S mk rl (by omega) hB.2.1 hs hc hT hB

set_option maxRecDepth 100000 in
theorem ok_reach_out {S : zS} (hs : Sd S) {b : Nat} (hb4 : b < 4) {x : Int32} (hx : ¬ (nI 1 ≤ x ∧ x ≤ nI 7)) : Ok mX0_reach 0 (ent 3 [zr 0 b, zi x]) [] S (fun r S1 => r = some (zi (nI 0)) ∧ S1 = S) := by
  show Ok mX0_reach 0 [some (zr 0 b), some (zi x), none] [] S _
  refine r_iload_n (q := 1) dX0_reach_0 rfl rfl rfl ?_
  refine r_iconst (q := 2) (nI 1) dX0_reach_1 rfl (by decide) ?_
  refine r_icmp_lt (q := 5) (t := 11) dX0_reach_2 (by decide) rfl (fun h2 => ?_) (fun h2 => ?_)
  · skip
    refine r_iconst (q := 12) (nI 0) dX0_reach_11 rfl (by decide) ?_
    refine r_zreturn (by decide) dX0_reach_12 rfl ?_
    exact ⟨rfl, rfl⟩
  · skip
    refine r_iload_n (q := 6) dX0_reach_5 rfl rfl rfl ?_
    refine r_bipush (q := 8) (nI 7) dX0_reach_6 rfl (by decide) ?_
    refine r_icmp_le (q := 11) (t := 13) dX0_reach_8 (by decide) rfl (fun h8 => ?_) (fun h8 => ?_)
    · skip
      exact absurd ⟨Int32.not_lt.mp h2, h8⟩ hx
    · skip
      refine r_iconst (q := 12) (nI 0) dX0_reach_11 rfl (by decide) ?_
      refine r_zreturn (by decide) dX0_reach_12 rfl ?_
      exact ⟨rfl, rfl⟩

theorem in17 {x : Int32} (h : nI 1 ≤ x ∧ x ≤ nI 7) : ∃ n, x = nI n ∧ 1 ≤ n ∧ n ≤ 7 := by
  have h1 := Int32.le_iff_toInt_le.mp h.1
  have h2 := Int32.le_iff_toInt_le.mp h.2
  rw [nI_toInt (by omega)] at h1 h2
  obtain ⟨n, hn⟩ : ∃ n : Nat, x.toInt = (n : Int) := ⟨x.toInt.toNat, by omega⟩
  refine ⟨n, ?_, by omega, by omega⟩
  apply Int32.toInt_inj.mp
  rw [hn, nI_toInt (by omega)]

