/-- the rest by P, 0 to P - 1 -/
def rsN (x : Int32) (P : Nat) : Nat := (x.toInt % (P : Int)).toNat
theorem rsN_lt {x : Int32} {P : Nat} (h : 0 < P) : rsN x P < P := by
  unfold rsN
  have h1 := Int.emod_nonneg x.toInt (show (P : Int) ≠ 0 by omega)
  have h2 := Int.emod_lt_of_pos x.toInt (show (0 : Int) < P by omega)
  omega
theorem rsN_of {x : Int32} {P : Nat} {v q : Int} (h : 0 < P) (hv : x.toInt = v + P * q) (h0 : 0 ≤ v) (h1 : v < P) : (rsN x P : Int) = v := by
  unfold rsN
  rw [hv, Int.add_mul_emod_self_left, Int.emod_eq_of_lt h0 h1]
  omega
theorem rsN_ge {x : Int32} {P : Nat} (h2 : 2 ≤ P) (hP : P ≤ 97) (h : 0 ≤ x - x / nI P * nI P) : x - x / nI P * nI P = nI (rsN x P) := by
  have hp : (nI P).toInt = (P : Int) := nI_toInt (by omega)
  have ht := rem_toInt x (nI P)
  rw [hp] at ht
  have h0 := Int32.le_iff_toInt_le.mp h
  rw [i0, ht] at h0
  have hm : (P : Int) * x.toInt.tdiv P + x.toInt.tmod P = x.toInt := Int.mul_tdiv_add_tmod x.toInt P
  have hl : x.toInt.tmod P < P := Int.tmod_lt_of_pos _ (by omega)
  have e := rsN_of (x := x) (P := P) (v := x.toInt.tmod P) (q := x.toInt.tdiv P) (by omega) (by omega) h0 hl
  apply Int32.toInt_inj.mp
  rw [ht, nI_toInt (Nat.lt_trans (rsN_lt (by omega)) (by omega)), e]
theorem rsN_nge {x : Int32} {P : Nat} (h2 : 2 ≤ P) (hP : P ≤ 97) (h : ¬ 0 ≤ x - x / nI P * nI P) : x - x / nI P * nI P + nI P = nI (rsN x P) := by
  have hp : (nI P).toInt = (P : Int) := nI_toInt (by omega)
  have ht := rem_toInt x (nI P)
  rw [hp] at ht
  have h0 := Int32.lt_iff_toInt_lt.mp (Int32.not_le.mp h)
  rw [i0, ht] at h0
  have hm : (P : Int) * x.toInt.tdiv P + x.toInt.tmod P = x.toInt := Int.mul_tdiv_add_tmod x.toInt P
  have hl : -(P : Int) < x.toInt.tmod P := by
    have := Int.tmod_lt_of_pos (-x.toInt) (show (0 : Int) < P by omega)
    rw [Int.neg_tmod] at this
    omega
  have hz : (P : Int) * (x.toInt.tdiv P - 1) = P * x.toInt.tdiv P - P := by rw [Int.mul_sub, Int.mul_one]
  have e := rsN_of (x := x) (P := P) (v := x.toInt.tmod P + P) (q := x.toInt.tdiv P - 1) (by omega) (by omega) (by omega) (by omega)
  apply Int32.toInt_inj.mp
  rw [Int32.toInt_add, ht, hp, nI_toInt (Nat.lt_trans (rsN_lt (by omega)) (by omega)), e]
  exact Int.bmod_eq_of_le (by omega) (by omega)
set_option maxRecDepth 100000 in
theorem ok_X11_rest_i {S : zS} {x : Int32} {P : Nat} (h2 : 2 ≤ P) (hP : P ≤ 97) : Ok mX11_rest 0 (ent 3 [zi x, zi (nI P)]) [] S (fun r S1 => r = some (zi (nI (rsN x P))) ∧ S1 = S) := by
  show Ok mX11_rest 0 [some (zi x), some (zi (nI P)), none] [] S _
  refine r_iload_n (q := 1) dX11_rest_0 rfl rfl rfl ?_
  refine r_iconst (q := 2) (nI 2) dX11_rest_1 rfl (by decide) ?_
  refine r_icmp_geN (q := 5) (t := 7) (by omega) (by omega) dX11_rest_2 (by decide) rfl (fun h2 => ?_) (fun h2 => absurd h2 (by omega))
  refine r_iload_n (q := 8) dX11_rest_7 rfl rfl rfl ?_
  refine r_iload_n (q := 9) dX11_rest_8 rfl rfl rfl ?_
  refine r_irem (q := 10) dX11_rest_9 rfl (nI_nz (by omega) (by omega)) ?_
  refine r_istore_n (q := 11) (L' := [some (zi x), some (zi (nI P)), some (zi (x - x / (nI P) * (nI P)))]) dX11_rest_10 rfl rfl (by decide) rfl ?_
  refine r_iload_n (q := 12) dX11_rest_11 rfl rfl rfl ?_
  refine r_if_ge (q := 15) (t := 21) dX11_rest_12 (by decide) rfl (fun h12 => ?_) (fun h12 => ?_)
  · skip
    refine r_iload_n (q := 22) dX11_rest_21 rfl rfl rfl ?_
    refine r_ireturn dX11_rest_22 rfl ?_
    exact ⟨congrArg (fun z => some (zi z)) (rsN_ge h2 hP h12), rfl⟩
  · skip
    refine r_iload_n (q := 16) dX11_rest_15 rfl rfl rfl ?_
    refine r_iload_n (q := 17) dX11_rest_16 rfl rfl rfl ?_
    refine r_iadd (q := 18) dX11_rest_17 rfl ?_
    refine r_goto (q := 22) dX11_rest_18 (by decide) ?_
    refine r_ireturn dX11_rest_22 rfl ?_
    exact ⟨congrArg (fun z => some (zi z)) (rsN_nge h2 hP h12), rfl⟩

