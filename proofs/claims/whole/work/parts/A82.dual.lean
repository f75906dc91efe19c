/-! hasDual, both sides -/

set_option maxRecDepth 100000 in
theorem lp_hdc1 {S : zS} (hs : Sd S) {W : zWd} (hW : Wok W) {b : Nat} (hb4 : b < 4) (hc : WC S b W) {Po : Option zV → zS → Prop} (Kn : (∃ i, i < wA W ∧ we W i ≠ 2) → Po (some (zi (nI 0))) S) (K : (∀ i, i < wA W → we W i = 2) → Ok mX9_hasDual 28 [some (zr 9 b), some (zi (nI (wA W)))] [] S Po) : ∀ (d i : Nat), i + d = wA W → (∀ j, j < i → we W j = 2) → Ok mX9_hasDual 2 [some (zr 9 b), some (zi (nI i))] [] S Po := by
  have hL18 := hW.2.2.2.1
  have hA3 := hW.2.1.1
  have hcnt := hc.2.1
  intro d
  induction d with
  | zero =>
    intro i hi hlo
    obtain rfl : i = wA W := by omega
    refine r_iload_n (q := 3) dX9_hasDual_2 rfl rfl rfl ?_
    refine r_aload_n (q := 4) dX9_hasDual_3 rfl rfl rfl ?_
    refine r_geti (q := 7) ck9 dX9_hasDual_4 rfl (k := 1) (by decide) wt296 (Or.inl rfl) (hs.e (show b < 4 by omega)) ?_
    refine r_topi (y := nI (wA W)) hcnt ?_
    refine r_icmp_geN (q := 10) (t := 28) (by omega) (by omega) dX9_hasDual_7 (by decide) rfl (fun h7 => ?_) (fun h7 => absurd h7 (by omega))
    exact K hlo
  | succ d ih =>
    intro i hi hlo
    have hic : i < wA W := by omega
    have hval := (hc.2.2.2.1 i hic).1
    have hbd : we W i ≤ 7 := by have := (hW.2.1.2 i hic).2; omega
    by_cases z0 : we W i = 2
    · skip
      refine r_iload_n (q := 3) dX9_hasDual_2 rfl rfl rfl ?_
      refine r_aload_n (q := 4) dX9_hasDual_3 rfl rfl rfl ?_
      refine r_geti (q := 7) ck9 dX9_hasDual_4 rfl (k := 1) (by decide) wt296 (Or.inl rfl) (hs.e (show b < 4 by omega)) ?_
      refine r_topi (y := nI (wA W)) hcnt ?_
      refine r_icmp_geN (q := 10) (t := 28) (by omega) (by omega) dX9_hasDual_7 (by decide) rfl (fun h7 => absurd h7 (by omega)) (fun h7 => ?_)
      refine r_aload_n (q := 11) dX9_hasDual_10 rfl rfl rfl ?_
      refine r_getr (q := 14) (some (1003, b)) ck9 dX9_hasDual_11 rfl (k := 3) (by decide) wt304 rfl (hs.e (show b < 4 by omega)) (hs.r (show b < 4 by omega) (by decide)) ?_
      refine r_iload_n (q := 15) dX9_hasDual_14 rfl rfl rfl ?_
      refine r_ialdN (q := 16) 3 (by decide) rfl dX9_hasDual_15 rfl (hs.e (show b < 4 by omega)) (hs.n rfl (show b < 4 by omega)) (by omega) (by decide) ?_
      refine r_topi (y := nI (we W i)) hval ?_
      refine r_iconst (q := 17) (nI 2) dX9_hasDual_16 rfl (by decide) ?_
      refine r_icmp_eqN (q := 20) (t := 22) (by omega) (by omega) dX9_hasDual_17 (by decide) rfl (fun h17 => ?_) (fun h17 => absurd h17 (by omega))
      refine r_iincN (q := 25) (L' := [some (zr 9 b), some (zi (nI (i + 1)))]) 1 rfl dX9_hasDual_22 rfl rfl (by decide) rfl ?_
      refine r_goto (q := 2) dX9_hasDual_25 (by decide) ?_
      exact ih (i + 1) (by omega) (fun j hj => by by_cases e : j = i; (rw [e]; exact z0); exact hlo j (by omega))
    · skip
      refine r_iload_n (q := 3) dX9_hasDual_2 rfl rfl rfl ?_
      refine r_aload_n (q := 4) dX9_hasDual_3 rfl rfl rfl ?_
      refine r_geti (q := 7) ck9 dX9_hasDual_4 rfl (k := 1) (by decide) wt296 (Or.inl rfl) (hs.e (show b < 4 by omega)) ?_
      refine r_topi (y := nI (wA W)) hcnt ?_
      refine r_icmp_geN (q := 10) (t := 28) (by omega) (by omega) dX9_hasDual_7 (by decide) rfl (fun h7 => absurd h7 (by omega)) (fun h7 => ?_)
      refine r_aload_n (q := 11) dX9_hasDual_10 rfl rfl rfl ?_
      refine r_getr (q := 14) (some (1003, b)) ck9 dX9_hasDual_11 rfl (k := 3) (by decide) wt304 rfl (hs.e (show b < 4 by omega)) (hs.r (show b < 4 by omega) (by decide)) ?_
      refine r_iload_n (q := 15) dX9_hasDual_14 rfl rfl rfl ?_
      refine r_ialdN (q := 16) 3 (by decide) rfl dX9_hasDual_15 rfl (hs.e (show b < 4 by omega)) (hs.n rfl (show b < 4 by omega)) (by omega) (by decide) ?_
      refine r_topi (y := nI (we W i)) hval ?_
      refine r_iconst (q := 17) (nI 2) dX9_hasDual_16 rfl (by decide) ?_
      refine r_icmp_eqN (q := 20) (t := 22) (by omega) (by omega) dX9_hasDual_17 (by decide) rfl (fun h17 => absurd h17 (by omega)) (fun h17 => ?_)
      refine r_iconst (q := 21) (nI 0) dX9_hasDual_20 rfl (by decide) ?_
      refine r_zreturn (by decide) dX9_hasDual_21 rfl ?_
      exact Kn ⟨i, hic, z0⟩
set_option maxRecDepth 100000 in
theorem lp_hdc2 {S : zS} (hs : Sd S) {W : zWd} (hW : Wok W) {b : Nat} (hb4 : b < 4) (hc : WC S b W) {Po : Option zV → zS → Prop} (Kn : (∃ i, i < wL W ∧ (lw W i).1 ≠ 3) → Po (some (zi (nI 0))) S) (K : (∀ i, i < wL W → (lw W i).1 = 3) → Ok mX9_hasDual 56 [some (zr 9 b), some (zi (nI (wL W)))] [] S Po) : ∀ (d i : Nat), i + d = wL W → (∀ j, j < i → (lw W j).1 = 3) → Ok mX9_hasDual 30 [some (zr 9 b), some (zi (nI i))] [] S Po := by
  have hL18 := hW.2.2.2.1
  have hA3 := hW.2.1.1
  have hcnt := hc.2.2.1
  intro d
  induction d with
  | zero =>
    intro i hi hlo
    obtain rfl : i = wL W := by omega
    refine r_iload_n (q := 31) dX9_hasDual_30 rfl rfl rfl ?_
    refine r_aload_n (q := 32) dX9_hasDual_31 rfl rfl rfl ?_
    refine r_geti (q := 35) ck9 dX9_hasDual_32 rfl (k := 4) (by decide) wt312 (Or.inl rfl) (hs.e (show b < 4 by omega)) ?_
    refine r_topi (y := nI (wL W)) hcnt ?_
    refine r_icmp_geN (q := 38) (t := 56) (by omega) (by omega) dX9_hasDual_35 (by decide) rfl (fun h35 => ?_) (fun h35 => absurd h35 (by omega))
    exact K hlo
  | succ d ih =>
    intro i hi hlo
    have hic : i < wL W := by omega
    have hval := hc.2.2.2.2.1 i hic
    have hbd : (lw W i).1 ≤ 7 := by have := hW.2.2.2.2.2 i hic; omega
    by_cases z0 : (lw W i).1 = 3
    · skip
      refine r_iload_n (q := 31) dX9_hasDual_30 rfl rfl rfl ?_
      refine r_aload_n (q := 32) dX9_hasDual_31 rfl rfl rfl ?_
      refine r_geti (q := 35) ck9 dX9_hasDual_32 rfl (k := 4) (by decide) wt312 (Or.inl rfl) (hs.e (show b < 4 by omega)) ?_
      refine r_topi (y := nI (wL W)) hcnt ?_
      refine r_icmp_geN (q := 38) (t := 56) (by omega) (by omega) dX9_hasDual_35 (by decide) rfl (fun h35 => absurd h35 (by omega)) (fun h35 => ?_)
      refine r_aload_n (q := 39) dX9_hasDual_38 rfl rfl rfl ?_
      refine r_getr (q := 42) (some (1005, b)) ck9 dX9_hasDual_39 rfl (k := 5) (by decide) wt317 rfl (hs.e (show b < 4 by omega)) (hs.r (show b < 4 by omega) (by decide)) ?_
      refine r_iload_n (q := 43) dX9_hasDual_42 rfl rfl rfl ?_
      refine r_ialdN (q := 44) 18 (by decide) rfl dX9_hasDual_43 rfl (hs.e (show b < 4 by omega)) (hs.n rfl (show b < 4 by omega)) (by omega) (by decide) ?_
      refine r_topi (y := nI ((lw W i).1)) hval ?_
      refine r_iconst (q := 45) (nI 3) dX9_hasDual_44 rfl (by decide) ?_
      refine r_icmp_eqN (q := 48) (t := 50) (by omega) (by omega) dX9_hasDual_45 (by decide) rfl (fun h45 => ?_) (fun h45 => absurd h45 (by omega))
      refine r_iincN (q := 53) (L' := [some (zr 9 b), some (zi (nI (i + 1)))]) 1 rfl dX9_hasDual_50 rfl rfl (by decide) rfl ?_
      refine r_goto (q := 30) dX9_hasDual_53 (by decide) ?_
      exact ih (i + 1) (by omega) (fun j hj => by by_cases e : j = i; (rw [e]; exact z0); exact hlo j (by omega))
    · skip
      refine r_iload_n (q := 31) dX9_hasDual_30 rfl rfl rfl ?_
      refine r_aload_n (q := 32) dX9_hasDual_31 rfl rfl rfl ?_
      refine r_geti (q := 35) ck9 dX9_hasDual_32 rfl (k := 4) (by decide) wt312 (Or.inl rfl) (hs.e (show b < 4 by omega)) ?_
      refine r_topi (y := nI (wL W)) hcnt ?_
      refine r_icmp_geN (q := 38) (t := 56) (by omega) (by omega) dX9_hasDual_35 (by decide) rfl (fun h35 => absurd h35 (by omega)) (fun h35 => ?_)
      refine r_aload_n (q := 39) dX9_hasDual_38 rfl rfl rfl ?_
      refine r_getr (q := 42) (some (1005, b)) ck9 dX9_hasDual_39 rfl (k := 5) (by decide) wt317 rfl (hs.e (show b < 4 by omega)) (hs.r (show b < 4 by omega) (by decide)) ?_
      refine r_iload_n (q := 43) dX9_hasDual_42 rfl rfl rfl ?_
      refine r_ialdN (q := 44) 18 (by decide) rfl dX9_hasDual_43 rfl (hs.e (show b < 4 by omega)) (hs.n rfl (show b < 4 by omega)) (by omega) (by decide) ?_
      refine r_topi (y := nI ((lw W i).1)) hval ?_
      refine r_iconst (q := 45) (nI 3) dX9_hasDual_44 rfl (by decide) ?_
      refine r_icmp_eqN (q := 48) (t := 50) (by omega) (by omega) dX9_hasDual_45 (by decide) rfl (fun h45 => absurd h45 (by omega)) (fun h45 => ?_)
      refine r_iconst (q := 49) (nI 0) dX9_hasDual_48 rfl (by decide) ?_
      refine r_zreturn (by decide) dX9_hasDual_49 rfl ?_
      exact Kn ⟨i, hic, z0⟩

set_option maxRecDepth 100000 in
theorem lp_hdr1 {S : zS} (hs : Sd S) {W : zWd} (hW : Wok W) {n9 : Nat → Int64} (hR : wqR W (fun k => gI S 1306 0 k) n9) {Po : Option zV → zS → Prop} (Kn : (∃ i, i < wA W ∧ we W i ≠ 2) → Po (some (zi (nI 0))) S) (K : (∀ i, i < wA W → we W i = 2) → Ok mX12_hasDual 32 [some (zr 12 0), some (zi (nI (wA W)))] [] S Po) : ∀ (d i : Nat), i + d = wA W → (∀ j, j < i → we W j = 2) → Ok mX12_hasDual 2 [some (zr 12 0), some (zi (nI i))] [] S Po := by
  have hL18 := hW.2.2.2.1
  have hA3 := hW.2.1.1
  have hcnt := hR.2.1
  intro d
  induction d with
  | zero =>
    intro i hi hlo
    obtain rfl : i = wA W := by omega
    refine r_iload_n (q := 3) dX12_hasDual_2 rfl rfl rfl ?_
    refine r_aload_n (q := 4) dX12_hasDual_3 rfl rfl rfl ?_
    refine r_getr (q := 7) (some (1306, 0)) ck12 dX12_hasDual_4 rfl (k := 6) (by decide) wt1284 rfl (hs.e (by decide)) (hs.r (by decide) (by decide)) ?_
    refine r_iconst (q := 8) (nI 1) dX12_hasDual_7 rfl (by decide) ?_
    refine r_ialdN (q := 9) 3775 (by decide) rfl dX12_hasDual_8 rfl (hs.e (by decide)) (hs.n rfl (by decide)) (by omega) (by decide) ?_
    refine r_topi (y := nI (wA W)) hcnt ?_
    refine r_icmp_geN (q := 12) (t := 32) (by omega) (by omega) dX12_hasDual_9 (by decide) rfl (fun h9 => ?_) (fun h9 => absurd h9 (by omega))
    exact K hlo
  | succ d ih =>
    intro i hi hlo
    have hic : i < wA W := by omega
    have hval := (hR.2.2.2.1 i hic).1
    have hbd : we W i ≤ 7 := by have := (hW.2.1.2 i hic).2; omega
    by_cases z0 : we W i = 2
    · skip
      refine r_iload_n (q := 3) dX12_hasDual_2 rfl rfl rfl ?_
      refine r_aload_n (q := 4) dX12_hasDual_3 rfl rfl rfl ?_
      refine r_getr (q := 7) (some (1306, 0)) ck12 dX12_hasDual_4 rfl (k := 6) (by decide) wt1284 rfl (hs.e (by decide)) (hs.r (by decide) (by decide)) ?_
      refine r_iconst (q := 8) (nI 1) dX12_hasDual_7 rfl (by decide) ?_
      refine r_ialdN (q := 9) 3775 (by decide) rfl dX12_hasDual_8 rfl (hs.e (by decide)) (hs.n rfl (by decide)) (by omega) (by decide) ?_
      refine r_topi (y := nI (wA W)) hcnt ?_
      refine r_icmp_geN (q := 12) (t := 32) (by omega) (by omega) dX12_hasDual_9 (by decide) rfl (fun h9 => absurd h9 (by omega)) (fun h9 => ?_)
      refine r_aload_n (q := 13) dX12_hasDual_12 rfl rfl rfl ?_
      refine r_getr (q := 16) (some (1306, 0)) ck12 dX12_hasDual_13 rfl (k := 6) (by decide) wt1284 rfl (hs.e (by decide)) (hs.r (by decide) (by decide)) ?_
      refine r_iconst (q := 17) (nI 4) dX12_hasDual_16 rfl (by decide) ?_
      refine r_iload_n (q := 18) dX12_hasDual_17 rfl rfl rfl ?_
      refine r_iaddN (q := 19) dX12_hasDual_18 rfl ?_
      refine r_ialdN (q := 20) 3775 (by decide) rfl dX12_hasDual_19 rfl (hs.e (by decide)) (hs.n rfl (by decide)) (by omega) (by decide) ?_
      refine r_topi (y := nI (we W i)) hval ?_
      refine r_iconst (q := 21) (nI 2) dX12_hasDual_20 rfl (by decide) ?_
      refine r_icmp_eqN (q := 24) (t := 26) (by omega) (by omega) dX12_hasDual_21 (by decide) rfl (fun h21 => ?_) (fun h21 => absurd h21 (by omega))
      refine r_iincN (q := 29) (L' := [some (zr 12 0), some (zi (nI (i + 1)))]) 1 rfl dX12_hasDual_26 rfl rfl (by decide) rfl ?_
      refine r_goto (q := 2) dX12_hasDual_29 (by decide) ?_
      exact ih (i + 1) (by omega) (fun j hj => by by_cases e : j = i; (rw [e]; exact z0); exact hlo j (by omega))
    · skip
      refine r_iload_n (q := 3) dX12_hasDual_2 rfl rfl rfl ?_
      refine r_aload_n (q := 4) dX12_hasDual_3 rfl rfl rfl ?_
      refine r_getr (q := 7) (some (1306, 0)) ck12 dX12_hasDual_4 rfl (k := 6) (by decide) wt1284 rfl (hs.e (by decide)) (hs.r (by decide) (by decide)) ?_
      refine r_iconst (q := 8) (nI 1) dX12_hasDual_7 rfl (by decide) ?_
      refine r_ialdN (q := 9) 3775 (by decide) rfl dX12_hasDual_8 rfl (hs.e (by decide)) (hs.n rfl (by decide)) (by omega) (by decide) ?_
      refine r_topi (y := nI (wA W)) hcnt ?_
      refine r_icmp_geN (q := 12) (t := 32) (by omega) (by omega) dX12_hasDual_9 (by decide) rfl (fun h9 => absurd h9 (by omega)) (fun h9 => ?_)
      refine r_aload_n (q := 13) dX12_hasDual_12 rfl rfl rfl ?_
      refine r_getr (q := 16) (some (1306, 0)) ck12 dX12_hasDual_13 rfl (k := 6) (by decide) wt1284 rfl (hs.e (by decide)) (hs.r (by decide) (by decide)) ?_
      refine r_iconst (q := 17) (nI 4) dX12_hasDual_16 rfl (by decide) ?_
      refine r_iload_n (q := 18) dX12_hasDual_17 rfl rfl rfl ?_
      refine r_iaddN (q := 19) dX12_hasDual_18 rfl ?_
      refine r_ialdN (q := 20) 3775 (by decide) rfl dX12_hasDual_19 rfl (hs.e (by decide)) (hs.n rfl (by decide)) (by omega) (by decide) ?_
      refine r_topi (y := nI (we W i)) hval ?_
      refine r_iconst (q := 21) (nI 2) dX12_hasDual_20 rfl (by decide) ?_
      refine r_icmp_eqN (q := 24) (t := 26) (by omega) (by omega) dX12_hasDual_21 (by decide) rfl (fun h21 => absurd h21 (by omega)) (fun h21 => ?_)
      refine r_iconst (q := 25) (nI 0) dX12_hasDual_24 rfl (by decide) ?_
      refine r_zreturn (by decide) dX12_hasDual_25 rfl ?_
      exact Kn ⟨i, hic, z0⟩
set_option maxRecDepth 100000 in
theorem lp_hdr2 {S : zS} (hs : Sd S) {W : zWd} (hW : Wok W) {n9 : Nat → Int64} (hR : wqR W (fun k => gI S 1306 0 k) n9) {Po : Option zV → zS → Prop} (Kn : (∃ i, i < wL W ∧ (lw W i).1 ≠ 3) → Po (some (zi (nI 0))) S) (K : (∀ i, i < wL W → (lw W i).1 = 3) → Ok mX12_hasDual 65 [some (zr 12 0), some (zi (nI (wL W)))] [] S Po) : ∀ (d i : Nat), i + d = wL W → (∀ j, j < i → (lw W j).1 = 3) → Ok mX12_hasDual 34 [some (zr 12 0), some (zi (nI i))] [] S Po := by
  have hL18 := hW.2.2.2.1
  have hA3 := hW.2.1.1
  have hcnt := hR.2.2.1
  intro d
  induction d with
  | zero =>
    intro i hi hlo
    obtain rfl : i = wL W := by omega
    refine r_iload_n (q := 35) dX12_hasDual_34 rfl rfl rfl ?_
    refine r_aload_n (q := 36) dX12_hasDual_35 rfl rfl rfl ?_
    refine r_getr (q := 39) (some (1306, 0)) ck12 dX12_hasDual_36 rfl (k := 6) (by decide) wt1284 rfl (hs.e (by decide)) (hs.r (by decide) (by decide)) ?_
    refine r_iconst (q := 40) (nI 2) dX12_hasDual_39 rfl (by decide) ?_
    refine r_ialdN (q := 41) 3775 (by decide) rfl dX12_hasDual_40 rfl (hs.e (by decide)) (hs.n rfl (by decide)) (by omega) (by decide) ?_
    refine r_topi (y := nI (wL W)) hcnt ?_
    refine r_icmp_geN (q := 44) (t := 65) (by omega) (by omega) dX12_hasDual_41 (by decide) rfl (fun h41 => ?_) (fun h41 => absurd h41 (by omega))
    exact K hlo
  | succ d ih =>
    intro i hi hlo
    have hic : i < wL W := by omega
    have hval := hR.2.2.2.2.1 i hic
    have hbd : (lw W i).1 ≤ 7 := by have := hW.2.2.2.2.2 i hic; omega
    by_cases z0 : (lw W i).1 = 3
    · skip
      refine r_iload_n (q := 35) dX12_hasDual_34 rfl rfl rfl ?_
      refine r_aload_n (q := 36) dX12_hasDual_35 rfl rfl rfl ?_
      refine r_getr (q := 39) (some (1306, 0)) ck12 dX12_hasDual_36 rfl (k := 6) (by decide) wt1284 rfl (hs.e (by decide)) (hs.r (by decide) (by decide)) ?_
      refine r_iconst (q := 40) (nI 2) dX12_hasDual_39 rfl (by decide) ?_
      refine r_ialdN (q := 41) 3775 (by decide) rfl dX12_hasDual_40 rfl (hs.e (by decide)) (hs.n rfl (by decide)) (by omega) (by decide) ?_
      refine r_topi (y := nI (wL W)) hcnt ?_
      refine r_icmp_geN (q := 44) (t := 65) (by omega) (by omega) dX12_hasDual_41 (by decide) rfl (fun h41 => absurd h41 (by omega)) (fun h41 => ?_)
      refine r_aload_n (q := 45) dX12_hasDual_44 rfl rfl rfl ?_
      refine r_getr (q := 48) (some (1306, 0)) ck12 dX12_hasDual_45 rfl (k := 6) (by decide) wt1284 rfl (hs.e (by decide)) (hs.r (by decide) (by decide)) ?_
      refine r_bipush (q := 50) (nI 7) dX12_hasDual_48 rfl (by decide) ?_
      refine r_iload_n (q := 51) dX12_hasDual_50 rfl rfl rfl ?_
      refine r_iaddN (q := 52) dX12_hasDual_51 rfl ?_
      refine r_ialdN (q := 53) 3775 (by decide) rfl dX12_hasDual_52 rfl (hs.e (by decide)) (hs.n rfl (by decide)) (by omega) (by decide) ?_
      refine r_topi (y := nI ((lw W i).1)) hval ?_
      refine r_iconst (q := 54) (nI 3) dX12_hasDual_53 rfl (by decide) ?_
      refine r_icmp_eqN (q := 57) (t := 59) (by omega) (by omega) dX12_hasDual_54 (by decide) rfl (fun h54 => ?_) (fun h54 => absurd h54 (by omega))
      refine r_iincN (q := 62) (L' := [some (zr 12 0), some (zi (nI (i + 1)))]) 1 rfl dX12_hasDual_59 rfl rfl (by decide) rfl ?_
      refine r_goto (q := 34) dX12_hasDual_62 (by decide) ?_
      exact ih (i + 1) (by omega) (fun j hj => by by_cases e : j = i; (rw [e]; exact z0); exact hlo j (by omega))
    · skip
      refine r_iload_n (q := 35) dX12_hasDual_34 rfl rfl rfl ?_
      refine r_aload_n (q := 36) dX12_hasDual_35 rfl rfl rfl ?_
      refine r_getr (q := 39) (some (1306, 0)) ck12 dX12_hasDual_36 rfl (k := 6) (by decide) wt1284 rfl (hs.e (by decide)) (hs.r (by decide) (by decide)) ?_
      refine r_iconst (q := 40) (nI 2) dX12_hasDual_39 rfl (by decide) ?_
      refine r_ialdN (q := 41) 3775 (by decide) rfl dX12_hasDual_40 rfl (hs.e (by decide)) (hs.n rfl (by decide)) (by omega) (by decide) ?_
      refine r_topi (y := nI (wL W)) hcnt ?_
      refine r_icmp_geN (q := 44) (t := 65) (by omega) (by omega) dX12_hasDual_41 (by decide) rfl (fun h41 => absurd h41 (by omega)) (fun h41 => ?_)
      refine r_aload_n (q := 45) dX12_hasDual_44 rfl rfl rfl ?_
      refine r_getr (q := 48) (some (1306, 0)) ck12 dX12_hasDual_45 rfl (k := 6) (by decide) wt1284 rfl (hs.e (by decide)) (hs.r (by decide) (by decide)) ?_
      refine r_bipush (q := 50) (nI 7) dX12_hasDual_48 rfl (by decide) ?_
      refine r_iload_n (q := 51) dX12_hasDual_50 rfl rfl rfl ?_
      refine r_iaddN (q := 52) dX12_hasDual_51 rfl ?_
      refine r_ialdN (q := 53) 3775 (by decide) rfl dX12_hasDual_52 rfl (hs.e (by decide)) (hs.n rfl (by decide)) (by omega) (by decide) ?_
      refine r_topi (y := nI ((lw W i).1)) hval ?_
      refine r_iconst (q := 54) (nI 3) dX12_hasDual_53 rfl (by decide) ?_
      refine r_icmp_eqN (q := 57) (t := 59) (by omega) (by omega) dX12_hasDual_54 (by decide) rfl (fun h54 => absurd h54 (by omega)) (fun h54 => ?_)
      refine r_iconst (q := 58) (nI 0) dX12_hasDual_57 rfl (by decide) ?_
      refine r_zreturn (by decide) dX12_hasDual_58 rfl ?_
      exact Kn ⟨i, hic, z0⟩

set_option maxRecDepth 100000 in
theorem ok_X9_hasDual {S : zS} (hs : Sd S) {W : zWd} (hW : Wok W) {b : Nat} (hb4 : b < 4) (hc : WC S b W) : Ok mX9_hasDual 0 (ent 2 [zr 9 b]) [] S (fun z S1 => S1 = S ∧ ∃ v, v ≤ 1 ∧ z = some (zi (nI v)) ∧ (v = 1 ↔ Qd W)) := by
  show Ok mX9_hasDual 0 [some (zr 9 b), none] [] S _
  refine r_iconst (q := 1) (nI 0) dX9_hasDual_0 rfl (by decide) ?_
  refine r_istore_n (q := 2) (L' := [some (zr 9 b), some (zi (nI 0))]) dX9_hasDual_1 rfl rfl (by decide) rfl ?_
  refine lp_hdc1 hs hW hb4 hc (fun z => ⟨rfl, 0, Nat.zero_le _, rfl, fun y => absurd y (by decide), fun y => by obtain ⟨i, i1, i2⟩ := z; exact absurd (y.1 i i1) i2⟩) (fun q1 => ?_) (wA W) 0 (by omega) (fun j hj => absurd hj (Nat.not_lt_zero j))
  refine r_iconst (q := 29) (nI 0) dX9_hasDual_28 rfl (by decide) ?_
  refine r_istore_n (q := 30) (L' := [some (zr 9 b), some (zi (nI 0))]) dX9_hasDual_29 rfl rfl (by decide) rfl ?_
  refine lp_hdc2 hs hW hb4 hc (fun z => ⟨rfl, 0, Nat.zero_le _, rfl, fun y => absurd y (by decide), fun y => by obtain ⟨i, i1, i2⟩ := z; exact absurd (y.2 i i1) i2⟩) (fun q2 => ?_) (wL W) 0 (by omega) (fun j hj => absurd hj (Nat.not_lt_zero j))
  refine r_iconst (q := 57) (nI 1) dX9_hasDual_56 rfl (by decide) ?_
  refine r_zreturn (by decide) dX9_hasDual_57 rfl ?_
  exact ⟨rfl, 1, Nat.le_refl _, rfl, fun _ => ⟨q1, q2⟩, fun _ => rfl⟩

set_option maxRecDepth 100000 in
theorem ok_X12_hasDual {S : zS} (hs : Sd S) {W : zWd} (hW : Wok W) {n9 : Nat → Int64} (hR : wqR W (fun k => gI S 1306 0 k) n9) : Ok mX12_hasDual 0 (ent 2 [zr 12 0]) [] S (fun z S1 => S1 = S ∧ ∃ v, v ≤ 1 ∧ z = some (zi (nI v)) ∧ (v = 1 ↔ Qd W)) := by
  show Ok mX12_hasDual 0 [some (zr 12 0), none] [] S _
  refine r_iconst (q := 1) (nI 0) dX12_hasDual_0 rfl (by decide) ?_
  refine r_istore_n (q := 2) (L' := [some (zr 12 0), some (zi (nI 0))]) dX12_hasDual_1 rfl rfl (by decide) rfl ?_
  refine lp_hdr1 hs hW hR (fun z => ⟨rfl, 0, Nat.zero_le _, rfl, fun y => absurd y (by decide), fun y => by obtain ⟨i, i1, i2⟩ := z; exact absurd (y.1 i i1) i2⟩) (fun q1 => ?_) (wA W) 0 (by omega) (fun j hj => absurd hj (Nat.not_lt_zero j))
  refine r_iconst (q := 33) (nI 0) dX12_hasDual_32 rfl (by decide) ?_
  refine r_istore_n (q := 34) (L' := [some (zr 12 0), some (zi (nI 0))]) dX12_hasDual_33 rfl rfl (by decide) rfl ?_
  refine lp_hdr2 hs hW hR (fun z => ⟨rfl, 0, Nat.zero_le _, rfl, fun y => absurd y (by decide), fun y => by obtain ⟨i, i1, i2⟩ := z; exact absurd (y.2 i i1) i2⟩) (fun q2 => ?_) (wL W) 0 (by omega) (fun j hj => absurd hj (Nat.not_lt_zero j))
  refine r_iconst (q := 66) (nI 1) dX12_hasDual_65 rfl (by decide) ?_
  refine r_zreturn (by decide) dX12_hasDual_66 rfl ?_
  exact ⟨rfl, 1, Nat.le_refl _, rfl, fun _ => ⟨q1, q2⟩, fun _ => rfl⟩

def t06 (a b k : Nat) : Bool := a == 1306 && b == 0 && decide (k < 1173)
def tDv (a b k : Nat) : Bool := tMd2 a b k || t06 a b k || a == 12 && b == 0 && (k == 0 || k == 33 || k == 58)

set_option maxRecDepth 100000 in
theorem lp_du20 {Po : Option zV → zS → Prop} : ∀ (d i : Nat) (S : zS), i + d = 1173 → Sd S → (∀ j, j < i → gI S 1306 0 j = gI S 1307 0 j) → (∀ S1, Fr t06 S S1 → (∀ j, j < 1173 → gI S1 1306 0 j = gI S 1307 0 j) → Ok mX12_dual 45 [some (zr 12 0), some (zi (nI 1173))] [] S1 Po) → Ok mX12_dual 20 [some (zr 12 0), some (zi (nI i))] [] S Po := by
  intro d
  induction d with
  | zero =>
    intro i S hi hs hlo K
    obtain rfl : i = 1173 := by omega
    refine r_iload_n (q := 21) dX12_dual_20 rfl rfl rfl ?_
    refine r_sipush (q := 24) (nI 1173) dX12_dual_21 rfl (by decide) ?_
    refine r_icmp_geN (q := 27) (t := 45) (by omega) (by omega) dX12_dual_24 (by decide) rfl (fun h24 => ?_) (fun h24 => absurd h24 (by omega))
    exact K S Fr.rf hlo
  | succ d ih =>
    intro i S hi hs hlo K
    refine r_iload_n (q := 21) dX12_dual_20 rfl rfl rfl ?_
    refine r_sipush (q := 24) (nI 1173) dX12_dual_21 rfl (by decide) ?_
    refine r_icmp_geN (q := 27) (t := 45) (by omega) (by omega) dX12_dual_24 (by decide) rfl (fun h24 => absurd h24 (by omega)) (fun h24 => ?_)
    refine r_aload_n (q := 28) dX12_dual_27 rfl rfl rfl ?_
    refine r_getr (q := 31) (some (1306, 0)) ck12 dX12_dual_28 rfl (k := 6) (by decide) wt1284 rfl (hs.e (by decide)) (hs.r (by decide) (by decide)) ?_
    refine r_iload_n (q := 32) dX12_dual_31 rfl rfl rfl ?_
    refine r_aload_n (q := 33) dX12_dual_32 rfl rfl rfl ?_
    refine r_getr (q := 36) (some (1307, 0)) ck12 dX12_dual_33 rfl (k := 7) (by decide) wt1285 rfl (hs.e (by decide)) (hs.r (by decide) (by decide)) ?_
    refine r_iload_n (q := 37) dX12_dual_36 rfl rfl rfl ?_
    refine r_ialdN (q := 38) 1173 (by decide) rfl dX12_dual_37 rfl (hs.e (by decide)) (hs.n rfl (by decide)) (by omega) (by decide) ?_
    refine r_iastN (q := 39) 3775 (by decide) rfl dX12_dual_38 rfl (hs.e (by decide)) (hs.n rfl (by decide)) (by omega) (by decide) ?_
    refine r_iincN (q := 42) (L' := [some (zr 12 0), some (zi (nI (i + 1)))]) 1 rfl dX12_dual_39 rfl rfl (by decide) rfl ?_
    refine r_goto (q := 20) dX12_dual_42 (by decide) ?_
    have f1 : Fr t06 S (sI S 1306 0 i (gI S 1307 0 i)) := Fr.rf.i (by simp [t06]; omega)
    have e07 : ∀ j, gI (sI S 1306 0 i (gI S 1307 0 i)) 1307 0 j = gI S 1307 0 j := fun j => f1.1 _ _ _ rfl
    refine ih (i + 1) (sI S 1306 0 i (gI S 1307 0 i)) (by omega) hs (fun j hj => ?_) (fun S1 f2 y => K S1 (f1.tr f2) (fun j hj => (y j hj).trans (e07 j)))
    rw [e07, gI_sI]
    by_cases e : j = i
    · rw [if_pos ⟨rfl, rfl, e⟩, e]
    · rw [if_neg (fun z => e z.2.2)]; exact hlo j (by omega)

set_option maxRecDepth 100000 in
theorem rm_dual_n {S : zS} (hs : Sd S) {W : zWd} (hW : Wok W) {n9 : Nat → Int64} (hR : wqR W (fun k => gI S 1306 0 k) n9) (hQ : ¬ Qd W) : Ok mX12_dual 0 (ent 2 [zr 12 0]) [] S (fun r S1 => r = some (zi (-1)) ∧ S1 = sI S 12 0 0 (nI 0)) := by
  show Ok mX12_dual 0 [some (zr 12 0), none] [] S _
  refine r_aload_n (q := 1) dX12_dual_0 rfl rfl rfl ?_
  refine r_iconst (q := 2) (nI 0) dX12_dual_1 rfl (by decide) ?_
  refine r_puti (q := 5) ck12 dX12_dual_2 rfl (k := 0) (by decide) wt1278 (Or.inl rfl) rfl (hs.e (by decide)) ?_
  refine r_aload_n (q := 6) dX12_dual_5 rfl rfl rfl ?_
  refine r_callV (Mc := mX12_hasDual) (q := 9) (As := []) (st := []) ck12 dX12_dual_6 rfl rfl mkX12_hasDual wt1900 wt1902 wp127 rfl (Nat.le_of_ble_eq_true rfl) (Nat.le_of_ble_eq_true rfl) (by decide) (by decide) (by decide) (Or.inl rfl) (hs.e (by decide)) (ok_X12_hasDual (S := sI S 12 0 0 (nI 0)) hs hW hR) (fun r6 S6 hp6 => ?_)
  obtain ⟨hq6, v, v1, rfl, v2⟩ := hp6
  rw [hq6]
  obtain rfl : v = 0 := by have hv1 : v ≠ 1 := fun z => hQ (v2.mp z); omega
  show Ok _ _ _ [zi (nI 0)] _ _
  refine r_if_neN (q := 12) (t := 14) (by omega) dX12_dual_9 (by decide) rfl (fun h9 => absurd h9 (by omega)) (fun h9 => ?_)
  refine r_iconst (q := 13) ((-1 : Int32)) dX12_dual_12 rfl (by decide) ?_
  refine r_ireturn dX12_dual_13 rfl ?_
  exact ⟨rfl, rfl⟩

set_option maxRecDepth 100000 in
theorem rm_dual_y {S : zS} (hs : Sd S) {W : zWd} (hW : Wok W) {n9 : Nat → Int64} (hR : wqR W (fun k => gI S 1306 0 k) n9) (hQ : Qd W) (hO : Cw S) (hcr : CR S W) (hI : IvI S) : Ok mX12_dual 0 (ent 2 [zr 12 0]) [] S (fun r S1 => ∃ mk R, IsD W mk R ∧ r = some (zi (nI (wL (dW W mk R)))) ∧ Fr tDv S S1 ∧ wqR (dW W mk R) (fun k => gI S1 1306 0 k) n9 ∧ gI S1 1306 0 3 = nI 1 ∧ (∀ k, k < 729 → gI S1 1306 0 (444 + k) = nI 0) ∧ gI S1 12 0 33 = -1 ∧ gI S1 12 0 58 = nI 0 ∧ IvI S1) := by
  show Ok mX12_dual 0 [some (zr 12 0), none] [] S _
  refine r_aload_n (q := 1) dX12_dual_0 rfl rfl rfl ?_
  refine r_iconst (q := 2) (nI 0) dX12_dual_1 rfl (by decide) ?_
  refine r_puti (q := 5) ck12 dX12_dual_2 rfl (k := 0) (by decide) wt1278 (Or.inl rfl) rfl (hs.e (by decide)) ?_
  refine r_aload_n (q := 6) dX12_dual_5 rfl rfl rfl ?_
  refine r_callV (Mc := mX12_hasDual) (q := 9) (As := []) (st := []) ck12 dX12_dual_6 rfl rfl mkX12_hasDual wt1900 wt1902 wp127 rfl (Nat.le_of_ble_eq_true rfl) (Nat.le_of_ble_eq_true rfl) (by decide) (by decide) (by decide) (Or.inl rfl) (hs.e (by decide)) (ok_X12_hasDual (S := sI S 12 0 0 (nI 0)) hs hW hR) (fun r6 S6 hp6 => ?_)
  obtain ⟨hq6, v, v1, rfl, v2⟩ := hp6
  rw [hq6]
  obtain rfl : v = 1 := by exact v2.mpr hQ
  show Ok _ _ _ [zi (nI 1)] _ _
  refine r_if_neN (q := 12) (t := 14) (by omega) dX12_dual_9 (by decide) rfl (fun h9 => ?_) (fun h9 => absurd h9 (by omega))
  refine r_aload_n (q := 15) dX12_dual_14 rfl rfl rfl ?_
  refine r_callV (Mc := mX12_makeDual) (q := 18) (As := []) (st := []) ck12 dX12_dual_15 rfl rfl mkX12_makeDual wt1904 wt1906 wp128 rfl (Nat.le_of_ble_eq_true rfl) (Nat.le_of_ble_eq_true rfl) (by decide) (by decide) (by decide) (Or.inl rfl) (hs.e (by decide)) (ok_makeDual (S := sI S 12 0 0 (nI 0)) hs hW hQ hR ((rc_thr.rc (W := W)).2.1 hO) (rc_thr.rc.1 hcr) ((rc_thr.rc (W := W)).2.2 hI)) (fun r15 S15 hp15 => ?_)
  obtain ⟨rfl, f1, h33, hO1, hcr1, hI1, mk, R, hD, hw1, h3, hz⟩ := hp15
  have hs1 : Sd S15 := Sd.fr (S := sI S 12 0 0 (nI 0)) hs f1
  show Ok _ _ _ [] _ _
  refine r_iconst (q := 19) (nI 0) dX12_dual_18 rfl (by decide) ?_
  refine r_istore_n (q := 20) (L' := [some (zr 12 0), some (zi (nI 0))]) dX12_dual_19 rfl rfl (by decide) rfl ?_
  refine lp_du20 1173 0 S15 (by omega) hs1 (fun j hj => absurd hj (Nat.not_lt_zero j)) (fun S2 f2 hcp => ?_)
  have hs2 : Sd S2 := hs1.fr f2
  have h22 : gI S2 1306 0 2 = nI (wL (dW W mk R)) := (hcp 2 (by omega)).trans hw1.2.2.1
  have hWd := dW_ok hW hQ hD
  have hw2 : wqR (dW W mk R) (fun k => gI S2 1306 0 k) n9 := wqR.cong hWd (fun k a b => (hcp k (by omega)).symm) (fun _ _ => rfl) hw1
  have h23 : gI S2 1306 0 3 = nI 1 := (hcp 3 (by omega)).trans h3
  have h2z : ∀ k, k < 729 → gI S2 1306 0 (444 + k) = nI 0 := fun k hk => (hcp _ (by omega)).trans (hz _ (by omega) (by omega))
  refine r_aload_n (q := 46) dX12_dual_45 rfl rfl rfl ?_
  refine r_iconst (q := 47) ((-1 : Int32)) dX12_dual_46 rfl (by decide) ?_
  refine r_puti (q := 50) ck12 dX12_dual_47 rfl (k := 33) (by decide) wt1311 (Or.inl rfl) rfl (hs2.e (by decide)) ?_
  refine r_aload_n (q := 51) dX12_dual_50 rfl rfl rfl ?_
  refine r_iconst (q := 52) (nI 0) dX12_dual_51 rfl (by decide) ?_
  refine r_puti (q := 55) ck12 dX12_dual_52 rfl (k := 58) (by decide) wt1336 (Or.inl rfl) rfl (hs2.e (by decide)) ?_
  refine r_aload_n (q := 56) dX12_dual_55 rfl rfl rfl ?_
  refine r_getr (q := 59) (some (1306, 0)) ck12 dX12_dual_56 rfl (k := 6) (by decide) wt1284 rfl (hs2.e (by decide)) (hs2.r (by decide) (by decide)) ?_
  refine r_iconst (q := 60) (nI 2) dX12_dual_59 rfl (by decide) ?_
  refine r_ialdN (q := 61) 3775 (by decide) rfl dX12_dual_60 rfl (hs2.e (by decide)) (hs2.n rfl (by decide)) (by omega) (by decide) ?_
  refine r_topi (y := gI S2 1306 0 2) (by simp [gI_sI, gJ_sJ, gI_sJ, gJ_sI]) ?_
  refine r_topi (y := nI (wL (dW W mk R))) h22 ?_
  refine r_ireturn dX12_dual_61 rfl ?_
  have f3 : Fr tDv S2 (sI (sI S2 12 0 33 (-1 : Int32)) 12 0 58 (nI 0)) := (Fr.rf.i (by simp [tDv])).i (by simp [tDv])
  have f0 : Fr tDv S (sI S 12 0 0 (nI 0)) := Fr.rf.i (by simp [tDv])
  exact ⟨mk, R, hD, rfl, ((f0.tr (f1.mono fun a b k z => by simp [tDv, z])).tr (f2.mono fun a b k z => by simp [tDv, z])).tr f3, hw2, h23, h2z, by rw [gI_sI, if_neg (by omega), gI_sI, if_pos ⟨rfl, rfl, rfl⟩], by rw [gI_sI, if_pos ⟨rfl, rfl, rfl⟩], (hI1.fr f2 ⟨rfl, fun _ => rfl⟩).fr (Fr.rf.i (S := S2) (S1 := S2) (T := fun x y k => x == 12 && y == 0 && (k == 33 || k == 58)) rfl |>.i rfl) ⟨rfl, fun _ => rfl⟩⟩

