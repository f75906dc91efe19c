set_option maxRecDepth 100000 in
theorem ok_X11_rest {S : zS} {b P : Nat} (hb : b < 2147483648) (h2 : 2 ≤ P) (hP : P < 2147483648) : Ok mX11_rest 0 (ent 3 [zi (nI b), zi (nI P)]) [] S (fun r S1 => r = some (zi (nI (b % P))) ∧ S1 = S) := by
  have hbm : b % P < 2147483648 := Nat.lt_of_le_of_lt (Nat.mod_le b P) hb
  show Ok mX11_rest 0 [some (zi (nI b)), some (zi (nI P)), none] [] S _
  refine r_iload_n (q := 1) dX11_rest_0 rfl rfl rfl ?_
  refine r_iconst (q := 2) (nI 2) dX11_rest_1 rfl (by decide) ?_
  refine r_icmp_geN (q := 5) (t := 7) (by omega) (by omega) dX11_rest_2 (by decide) rfl (fun h2 => ?_) (fun h2 => absurd h2 (by omega))
  refine r_iload_n (q := 8) dX11_rest_7 rfl rfl rfl ?_
  refine r_iload_n (q := 9) dX11_rest_8 rfl rfl rfl ?_
  refine r_iremN (q := 10) (by omega) (by omega) (by omega) dX11_rest_9 rfl ?_
  refine r_istore_n (q := 11) (L' := [some (zi (nI b)), some (zi (nI P)), some (zi (nI (b % P)))]) dX11_rest_10 rfl rfl (by decide) rfl ?_
  refine r_iload_n (q := 12) dX11_rest_11 rfl rfl rfl ?_
  refine r_if_geN (q := 15) (t := 21) (by omega) dX11_rest_12 (by decide) rfl ?_
  refine r_iload_n (q := 22) dX11_rest_21 rfl rfl rfl ?_
  refine r_ireturn dX11_rest_22 rfl ?_
  exact ⟨rfl, rfl⟩

set_option maxRecDepth 100000 in
theorem ok_X11_power_1_3 {S : zS} : Ok mX11_power 0 (ent 4 [zi (nI 1), zi (nI 3)]) [] S (fun r S1 => r = some (zi (nI 1)) ∧ S1 = S) := by
  show Ok mX11_power 0 [some (zi (nI 1)), some (zi (nI 3)), none, none] [] S _
  refine r_iconst (q := 1) (nI 1) dX11_power_0 rfl (by decide) ?_
  refine r_istore_n (q := 2) (L' := [some (zi (nI 1)), some (zi (nI 3)), some (zi (nI 1)), none]) dX11_power_1 rfl rfl (by decide) rfl ?_
  refine r_iconst (q := 3) (nI 0) dX11_power_2 rfl (by decide) ?_
  refine r_istore_n (q := 4) (L' := [some (zi (nI 1)), some (zi (nI 3)), some (zi (nI 1)), some (zi (nI 0))]) dX11_power_3 rfl rfl (by decide) rfl ?_
  refine r_iload_n (q := 5) dX11_power_4 rfl rfl rfl ?_
  refine r_iload_n (q := 6) dX11_power_5 rfl rfl rfl ?_
  refine r_icmp_geN (q := 9) (t := 19) (by omega) (by omega) dX11_power_6 (by decide) rfl (fun h6 => absurd h6 (by omega)) (fun h6 => ?_)
  refine r_iload_n (q := 10) dX11_power_9 rfl rfl rfl ?_
  refine r_iload_n (q := 11) dX11_power_10 rfl rfl rfl ?_
  refine r_imulN (q := 12) dX11_power_11 rfl ?_
  refine r_istore_n (q := 13) (L' := [some (zi (nI 1)), some (zi (nI 3)), some (zi (nI 1)), some (zi (nI 0))]) dX11_power_12 rfl rfl (by decide) rfl ?_
  refine r_iincN (q := 16) (L' := [some (zi (nI 1)), some (zi (nI 3)), some (zi (nI 1)), some (zi (nI 1))]) 1 rfl dX11_power_13 rfl rfl (by decide) rfl ?_
  refine r_goto (q := 4) dX11_power_16 (by decide) ?_
  refine r_iload_n (q := 5) dX11_power_4 rfl rfl rfl ?_
  refine r_iload_n (q := 6) dX11_power_5 rfl rfl rfl ?_
  refine r_icmp_geN (q := 9) (t := 19) (by omega) (by omega) dX11_power_6 (by decide) rfl (fun h6 => absurd h6 (by omega)) (fun h6 => ?_)
  refine r_iload_n (q := 10) dX11_power_9 rfl rfl rfl ?_
  refine r_iload_n (q := 11) dX11_power_10 rfl rfl rfl ?_
  refine r_imulN (q := 12) dX11_power_11 rfl ?_
  refine r_istore_n (q := 13) (L' := [some (zi (nI 1)), some (zi (nI 3)), some (zi (nI 1)), some (zi (nI 1))]) dX11_power_12 rfl rfl (by decide) rfl ?_
  refine r_iincN (q := 16) (L' := [some (zi (nI 1)), some (zi (nI 3)), some (zi (nI 1)), some (zi (nI 2))]) 1 rfl dX11_power_13 rfl rfl (by decide) rfl ?_
  refine r_goto (q := 4) dX11_power_16 (by decide) ?_
  refine r_iload_n (q := 5) dX11_power_4 rfl rfl rfl ?_
  refine r_iload_n (q := 6) dX11_power_5 rfl rfl rfl ?_
  refine r_icmp_geN (q := 9) (t := 19) (by omega) (by omega) dX11_power_6 (by decide) rfl (fun h6 => absurd h6 (by omega)) (fun h6 => ?_)
  refine r_iload_n (q := 10) dX11_power_9 rfl rfl rfl ?_
  refine r_iload_n (q := 11) dX11_power_10 rfl rfl rfl ?_
  refine r_imulN (q := 12) dX11_power_11 rfl ?_
  refine r_istore_n (q := 13) (L' := [some (zi (nI 1)), some (zi (nI 3)), some (zi (nI 1)), some (zi (nI 2))]) dX11_power_12 rfl rfl (by decide) rfl ?_
  refine r_iincN (q := 16) (L' := [some (zi (nI 1)), some (zi (nI 3)), some (zi (nI 1)), some (zi (nI 3))]) 1 rfl dX11_power_13 rfl rfl (by decide) rfl ?_
  refine r_goto (q := 4) dX11_power_16 (by decide) ?_
  refine r_iload_n (q := 5) dX11_power_4 rfl rfl rfl ?_
  refine r_iload_n (q := 6) dX11_power_5 rfl rfl rfl ?_
  refine r_icmp_geN (q := 9) (t := 19) (by omega) (by omega) dX11_power_6 (by decide) rfl (fun h6 => ?_) (fun h6 => absurd h6 (by omega))
  refine r_iload_n (q := 20) dX11_power_19 rfl rfl rfl ?_
  refine r_ireturn dX11_power_20 rfl ?_
  exact ⟨rfl, rfl⟩

set_option maxRecDepth 100000 in
theorem ok_X11_power_1_4 {S : zS} : Ok mX11_power 0 (ent 4 [zi (nI 1), zi (nI 4)]) [] S (fun r S1 => r = some (zi (nI 1)) ∧ S1 = S) := by
  show Ok mX11_power 0 [some (zi (nI 1)), some (zi (nI 4)), none, none] [] S _
  refine r_iconst (q := 1) (nI 1) dX11_power_0 rfl (by decide) ?_
  refine r_istore_n (q := 2) (L' := [some (zi (nI 1)), some (zi (nI 4)), some (zi (nI 1)), none]) dX11_power_1 rfl rfl (by decide) rfl ?_
  refine r_iconst (q := 3) (nI 0) dX11_power_2 rfl (by decide) ?_
  refine r_istore_n (q := 4) (L' := [some (zi (nI 1)), some (zi (nI 4)), some (zi (nI 1)), some (zi (nI 0))]) dX11_power_3 rfl rfl (by decide) rfl ?_
  refine r_iload_n (q := 5) dX11_power_4 rfl rfl rfl ?_
  refine r_iload_n (q := 6) dX11_power_5 rfl rfl rfl ?_
  refine r_icmp_geN (q := 9) (t := 19) (by omega) (by omega) dX11_power_6 (by decide) rfl (fun h6 => absurd h6 (by omega)) (fun h6 => ?_)
  refine r_iload_n (q := 10) dX11_power_9 rfl rfl rfl ?_
  refine r_iload_n (q := 11) dX11_power_10 rfl rfl rfl ?_
  refine r_imulN (q := 12) dX11_power_11 rfl ?_
  refine r_istore_n (q := 13) (L' := [some (zi (nI 1)), some (zi (nI 4)), some (zi (nI 1)), some (zi (nI 0))]) dX11_power_12 rfl rfl (by decide) rfl ?_
  refine r_iincN (q := 16) (L' := [some (zi (nI 1)), some (zi (nI 4)), some (zi (nI 1)), some (zi (nI 1))]) 1 rfl dX11_power_13 rfl rfl (by decide) rfl ?_
  refine r_goto (q := 4) dX11_power_16 (by decide) ?_
  refine r_iload_n (q := 5) dX11_power_4 rfl rfl rfl ?_
  refine r_iload_n (q := 6) dX11_power_5 rfl rfl rfl ?_
  refine r_icmp_geN (q := 9) (t := 19) (by omega) (by omega) dX11_power_6 (by decide) rfl (fun h6 => absurd h6 (by omega)) (fun h6 => ?_)
  refine r_iload_n (q := 10) dX11_power_9 rfl rfl rfl ?_
  refine r_iload_n (q := 11) dX11_power_10 rfl rfl rfl ?_
  refine r_imulN (q := 12) dX11_power_11 rfl ?_
  refine r_istore_n (q := 13) (L' := [some (zi (nI 1)), some (zi (nI 4)), some (zi (nI 1)), some (zi (nI 1))]) dX11_power_12 rfl rfl (by decide) rfl ?_
  refine r_iincN (q := 16) (L' := [some (zi (nI 1)), some (zi (nI 4)), some (zi (nI 1)), some (zi (nI 2))]) 1 rfl dX11_power_13 rfl rfl (by decide) rfl ?_
  refine r_goto (q := 4) dX11_power_16 (by decide) ?_
  refine r_iload_n (q := 5) dX11_power_4 rfl rfl rfl ?_
  refine r_iload_n (q := 6) dX11_power_5 rfl rfl rfl ?_
  refine r_icmp_geN (q := 9) (t := 19) (by omega) (by omega) dX11_power_6 (by decide) rfl (fun h6 => absurd h6 (by omega)) (fun h6 => ?_)
  refine r_iload_n (q := 10) dX11_power_9 rfl rfl rfl ?_
  refine r_iload_n (q := 11) dX11_power_10 rfl rfl rfl ?_
  refine r_imulN (q := 12) dX11_power_11 rfl ?_
  refine r_istore_n (q := 13) (L' := [some (zi (nI 1)), some (zi (nI 4)), some (zi (nI 1)), some (zi (nI 2))]) dX11_power_12 rfl rfl (by decide) rfl ?_
  refine r_iincN (q := 16) (L' := [some (zi (nI 1)), some (zi (nI 4)), some (zi (nI 1)), some (zi (nI 3))]) 1 rfl dX11_power_13 rfl rfl (by decide) rfl ?_
  refine r_goto (q := 4) dX11_power_16 (by decide) ?_
  refine r_iload_n (q := 5) dX11_power_4 rfl rfl rfl ?_
  refine r_iload_n (q := 6) dX11_power_5 rfl rfl rfl ?_
  refine r_icmp_geN (q := 9) (t := 19) (by omega) (by omega) dX11_power_6 (by decide) rfl (fun h6 => absurd h6 (by omega)) (fun h6 => ?_)
  refine r_iload_n (q := 10) dX11_power_9 rfl rfl rfl ?_
  refine r_iload_n (q := 11) dX11_power_10 rfl rfl rfl ?_
  refine r_imulN (q := 12) dX11_power_11 rfl ?_
  refine r_istore_n (q := 13) (L' := [some (zi (nI 1)), some (zi (nI 4)), some (zi (nI 1)), some (zi (nI 3))]) dX11_power_12 rfl rfl (by decide) rfl ?_
  refine r_iincN (q := 16) (L' := [some (zi (nI 1)), some (zi (nI 4)), some (zi (nI 1)), some (zi (nI 4))]) 1 rfl dX11_power_13 rfl rfl (by decide) rfl ?_
  refine r_goto (q := 4) dX11_power_16 (by decide) ?_
  refine r_iload_n (q := 5) dX11_power_4 rfl rfl rfl ?_
  refine r_iload_n (q := 6) dX11_power_5 rfl rfl rfl ?_
  refine r_icmp_geN (q := 9) (t := 19) (by omega) (by omega) dX11_power_6 (by decide) rfl (fun h6 => ?_) (fun h6 => absurd h6 (by omega))
  refine r_iload_n (q := 20) dX11_power_19 rfl rfl rfl ?_
  refine r_ireturn dX11_power_20 rfl ?_
  exact ⟨rfl, rfl⟩

set_option maxRecDepth 100000 in
theorem ok_X11_power_1_5 {S : zS} : Ok mX11_power 0 (ent 4 [zi (nI 1), zi (nI 5)]) [] S (fun r S1 => r = some (zi (nI 1)) ∧ S1 = S) := by
  show Ok mX11_power 0 [some (zi (nI 1)), some (zi (nI 5)), none, none] [] S _
  refine r_iconst (q := 1) (nI 1) dX11_power_0 rfl (by decide) ?_
  refine r_istore_n (q := 2) (L' := [some (zi (nI 1)), some (zi (nI 5)), some (zi (nI 1)), none]) dX11_power_1 rfl rfl (by decide) rfl ?_
  refine r_iconst (q := 3) (nI 0) dX11_power_2 rfl (by decide) ?_
  refine r_istore_n (q := 4) (L' := [some (zi (nI 1)), some (zi (nI 5)), some (zi (nI 1)), some (zi (nI 0))]) dX11_power_3 rfl rfl (by decide) rfl ?_
  refine r_iload_n (q := 5) dX11_power_4 rfl rfl rfl ?_
  refine r_iload_n (q := 6) dX11_power_5 rfl rfl rfl ?_
  refine r_icmp_geN (q := 9) (t := 19) (by omega) (by omega) dX11_power_6 (by decide) rfl (fun h6 => absurd h6 (by omega)) (fun h6 => ?_)
  refine r_iload_n (q := 10) dX11_power_9 rfl rfl rfl ?_
  refine r_iload_n (q := 11) dX11_power_10 rfl rfl rfl ?_
  refine r_imulN (q := 12) dX11_power_11 rfl ?_
  refine r_istore_n (q := 13) (L' := [some (zi (nI 1)), some (zi (nI 5)), some (zi (nI 1)), some (zi (nI 0))]) dX11_power_12 rfl rfl (by decide) rfl ?_
  refine r_iincN (q := 16) (L' := [some (zi (nI 1)), some (zi (nI 5)), some (zi (nI 1)), some (zi (nI 1))]) 1 rfl dX11_power_13 rfl rfl (by decide) rfl ?_
  refine r_goto (q := 4) dX11_power_16 (by decide) ?_
  refine r_iload_n (q := 5) dX11_power_4 rfl rfl rfl ?_
  refine r_iload_n (q := 6) dX11_power_5 rfl rfl rfl ?_
  refine r_icmp_geN (q := 9) (t := 19) (by omega) (by omega) dX11_power_6 (by decide) rfl (fun h6 => absurd h6 (by omega)) (fun h6 => ?_)
  refine r_iload_n (q := 10) dX11_power_9 rfl rfl rfl ?_
  refine r_iload_n (q := 11) dX11_power_10 rfl rfl rfl ?_
  refine r_imulN (q := 12) dX11_power_11 rfl ?_
  refine r_istore_n (q := 13) (L' := [some (zi (nI 1)), some (zi (nI 5)), some (zi (nI 1)), some (zi (nI 1))]) dX11_power_12 rfl rfl (by decide) rfl ?_
  refine r_iincN (q := 16) (L' := [some (zi (nI 1)), some (zi (nI 5)), some (zi (nI 1)), some (zi (nI 2))]) 1 rfl dX11_power_13 rfl rfl (by decide) rfl ?_
  refine r_goto (q := 4) dX11_power_16 (by decide) ?_
  refine r_iload_n (q := 5) dX11_power_4 rfl rfl rfl ?_
  refine r_iload_n (q := 6) dX11_power_5 rfl rfl rfl ?_
  refine r_icmp_geN (q := 9) (t := 19) (by omega) (by omega) dX11_power_6 (by decide) rfl (fun h6 => absurd h6 (by omega)) (fun h6 => ?_)
  refine r_iload_n (q := 10) dX11_power_9 rfl rfl rfl ?_
  refine r_iload_n (q := 11) dX11_power_10 rfl rfl rfl ?_
  refine r_imulN (q := 12) dX11_power_11 rfl ?_
  refine r_istore_n (q := 13) (L' := [some (zi (nI 1)), some (zi (nI 5)), some (zi (nI 1)), some (zi (nI 2))]) dX11_power_12 rfl rfl (by decide) rfl ?_
  refine r_iincN (q := 16) (L' := [some (zi (nI 1)), some (zi (nI 5)), some (zi (nI 1)), some (zi (nI 3))]) 1 rfl dX11_power_13 rfl rfl (by decide) rfl ?_
  refine r_goto (q := 4) dX11_power_16 (by decide) ?_
  refine r_iload_n (q := 5) dX11_power_4 rfl rfl rfl ?_
  refine r_iload_n (q := 6) dX11_power_5 rfl rfl rfl ?_
  refine r_icmp_geN (q := 9) (t := 19) (by omega) (by omega) dX11_power_6 (by decide) rfl (fun h6 => absurd h6 (by omega)) (fun h6 => ?_)
  refine r_iload_n (q := 10) dX11_power_9 rfl rfl rfl ?_
  refine r_iload_n (q := 11) dX11_power_10 rfl rfl rfl ?_
  refine r_imulN (q := 12) dX11_power_11 rfl ?_
  refine r_istore_n (q := 13) (L' := [some (zi (nI 1)), some (zi (nI 5)), some (zi (nI 1)), some (zi (nI 3))]) dX11_power_12 rfl rfl (by decide) rfl ?_
  refine r_iincN (q := 16) (L' := [some (zi (nI 1)), some (zi (nI 5)), some (zi (nI 1)), some (zi (nI 4))]) 1 rfl dX11_power_13 rfl rfl (by decide) rfl ?_
  refine r_goto (q := 4) dX11_power_16 (by decide) ?_
  refine r_iload_n (q := 5) dX11_power_4 rfl rfl rfl ?_
  refine r_iload_n (q := 6) dX11_power_5 rfl rfl rfl ?_
  refine r_icmp_geN (q := 9) (t := 19) (by omega) (by omega) dX11_power_6 (by decide) rfl (fun h6 => absurd h6 (by omega)) (fun h6 => ?_)
  refine r_iload_n (q := 10) dX11_power_9 rfl rfl rfl ?_
  refine r_iload_n (q := 11) dX11_power_10 rfl rfl rfl ?_
  refine r_imulN (q := 12) dX11_power_11 rfl ?_
  refine r_istore_n (q := 13) (L' := [some (zi (nI 1)), some (zi (nI 5)), some (zi (nI 1)), some (zi (nI 4))]) dX11_power_12 rfl rfl (by decide) rfl ?_
  refine r_iincN (q := 16) (L' := [some (zi (nI 1)), some (zi (nI 5)), some (zi (nI 1)), some (zi (nI 5))]) 1 rfl dX11_power_13 rfl rfl (by decide) rfl ?_
  refine r_goto (q := 4) dX11_power_16 (by decide) ?_
  refine r_iload_n (q := 5) dX11_power_4 rfl rfl rfl ?_
  refine r_iload_n (q := 6) dX11_power_5 rfl rfl rfl ?_
  refine r_icmp_geN (q := 9) (t := 19) (by omega) (by omega) dX11_power_6 (by decide) rfl (fun h6 => ?_) (fun h6 => absurd h6 (by omega))
  refine r_iload_n (q := 20) dX11_power_19 rfl rfl rfl ?_
  refine r_ireturn dX11_power_20 rfl ?_
  exact ⟨rfl, rfl⟩

set_option maxRecDepth 100000 in
theorem ok_X11_power_2_3 {S : zS} : Ok mX11_power 0 (ent 4 [zi (nI 2), zi (nI 3)]) [] S (fun r S1 => r = some (zi (nI 8)) ∧ S1 = S) := by
  show Ok mX11_power 0 [some (zi (nI 2)), some (zi (nI 3)), none, none] [] S _
  refine r_iconst (q := 1) (nI 1) dX11_power_0 rfl (by decide) ?_
  refine r_istore_n (q := 2) (L' := [some (zi (nI 2)), some (zi (nI 3)), some (zi (nI 1)), none]) dX11_power_1 rfl rfl (by decide) rfl ?_
  refine r_iconst (q := 3) (nI 0) dX11_power_2 rfl (by decide) ?_
  refine r_istore_n (q := 4) (L' := [some (zi (nI 2)), some (zi (nI 3)), some (zi (nI 1)), some (zi (nI 0))]) dX11_power_3 rfl rfl (by decide) rfl ?_
  refine r_iload_n (q := 5) dX11_power_4 rfl rfl rfl ?_
  refine r_iload_n (q := 6) dX11_power_5 rfl rfl rfl ?_
  refine r_icmp_geN (q := 9) (t := 19) (by omega) (by omega) dX11_power_6 (by decide) rfl (fun h6 => absurd h6 (by omega)) (fun h6 => ?_)
  refine r_iload_n (q := 10) dX11_power_9 rfl rfl rfl ?_
  refine r_iload_n (q := 11) dX11_power_10 rfl rfl rfl ?_
  refine r_imulN (q := 12) dX11_power_11 rfl ?_
  refine r_istore_n (q := 13) (L' := [some (zi (nI 2)), some (zi (nI 3)), some (zi (nI 2)), some (zi (nI 0))]) dX11_power_12 rfl rfl (by decide) rfl ?_
  refine r_iincN (q := 16) (L' := [some (zi (nI 2)), some (zi (nI 3)), some (zi (nI 2)), some (zi (nI 1))]) 1 rfl dX11_power_13 rfl rfl (by decide) rfl ?_
  refine r_goto (q := 4) dX11_power_16 (by decide) ?_
  refine r_iload_n (q := 5) dX11_power_4 rfl rfl rfl ?_
  refine r_iload_n (q := 6) dX11_power_5 rfl rfl rfl ?_
  refine r_icmp_geN (q := 9) (t := 19) (by omega) (by omega) dX11_power_6 (by decide) rfl (fun h6 => absurd h6 (by omega)) (fun h6 => ?_)
  refine r_iload_n (q := 10) dX11_power_9 rfl rfl rfl ?_
  refine r_iload_n (q := 11) dX11_power_10 rfl rfl rfl ?_
  refine r_imulN (q := 12) dX11_power_11 rfl ?_
  refine r_istore_n (q := 13) (L' := [some (zi (nI 2)), some (zi (nI 3)), some (zi (nI 4)), some (zi (nI 1))]) dX11_power_12 rfl rfl (by decide) rfl ?_
  refine r_iincN (q := 16) (L' := [some (zi (nI 2)), some (zi (nI 3)), some (zi (nI 4)), some (zi (nI 2))]) 1 rfl dX11_power_13 rfl rfl (by decide) rfl ?_
  refine r_goto (q := 4) dX11_power_16 (by decide) ?_
  refine r_iload_n (q := 5) dX11_power_4 rfl rfl rfl ?_
  refine r_iload_n (q := 6) dX11_power_5 rfl rfl rfl ?_
  refine r_icmp_geN (q := 9) (t := 19) (by omega) (by omega) dX11_power_6 (by decide) rfl (fun h6 => absurd h6 (by omega)) (fun h6 => ?_)
  refine r_iload_n (q := 10) dX11_power_9 rfl rfl rfl ?_
  refine r_iload_n (q := 11) dX11_power_10 rfl rfl rfl ?_
  refine r_imulN (q := 12) dX11_power_11 rfl ?_
  refine r_istore_n (q := 13) (L' := [some (zi (nI 2)), some (zi (nI 3)), some (zi (nI 8)), some (zi (nI 2))]) dX11_power_12 rfl rfl (by decide) rfl ?_
  refine r_iincN (q := 16) (L' := [some (zi (nI 2)), some (zi (nI 3)), some (zi (nI 8)), some (zi (nI 3))]) 1 rfl dX11_power_13 rfl rfl (by decide) rfl ?_
  refine r_goto (q := 4) dX11_power_16 (by decide) ?_
  refine r_iload_n (q := 5) dX11_power_4 rfl rfl rfl ?_
  refine r_iload_n (q := 6) dX11_power_5 rfl rfl rfl ?_
  refine r_icmp_geN (q := 9) (t := 19) (by omega) (by omega) dX11_power_6 (by decide) rfl (fun h6 => ?_) (fun h6 => absurd h6 (by omega))
  refine r_iload_n (q := 20) dX11_power_19 rfl rfl rfl ?_
  refine r_ireturn dX11_power_20 rfl ?_
  exact ⟨rfl, rfl⟩

set_option maxRecDepth 100000 in
theorem ok_X11_power_2_4 {S : zS} : Ok mX11_power 0 (ent 4 [zi (nI 2), zi (nI 4)]) [] S (fun r S1 => r = some (zi (nI 16)) ∧ S1 = S) := by
  show Ok mX11_power 0 [some (zi (nI 2)), some (zi (nI 4)), none, none] [] S _
  refine r_iconst (q := 1) (nI 1) dX11_power_0 rfl (by decide) ?_
  refine r_istore_n (q := 2) (L' := [some (zi (nI 2)), some (zi (nI 4)), some (zi (nI 1)), none]) dX11_power_1 rfl rfl (by decide) rfl ?_
  refine r_iconst (q := 3) (nI 0) dX11_power_2 rfl (by decide) ?_
  refine r_istore_n (q := 4) (L' := [some (zi (nI 2)), some (zi (nI 4)), some (zi (nI 1)), some (zi (nI 0))]) dX11_power_3 rfl rfl (by decide) rfl ?_
  refine r_iload_n (q := 5) dX11_power_4 rfl rfl rfl ?_
  refine r_iload_n (q := 6) dX11_power_5 rfl rfl rfl ?_
  refine r_icmp_geN (q := 9) (t := 19) (by omega) (by omega) dX11_power_6 (by decide) rfl (fun h6 => absurd h6 (by omega)) (fun h6 => ?_)
  refine r_iload_n (q := 10) dX11_power_9 rfl rfl rfl ?_
  refine r_iload_n (q := 11) dX11_power_10 rfl rfl rfl ?_
  refine r_imulN (q := 12) dX11_power_11 rfl ?_
  refine r_istore_n (q := 13) (L' := [some (zi (nI 2)), some (zi (nI 4)), some (zi (nI 2)), some (zi (nI 0))]) dX11_power_12 rfl rfl (by decide) rfl ?_
  refine r_iincN (q := 16) (L' := [some (zi (nI 2)), some (zi (nI 4)), some (zi (nI 2)), some (zi (nI 1))]) 1 rfl dX11_power_13 rfl rfl (by decide) rfl ?_
  refine r_goto (q := 4) dX11_power_16 (by decide) ?_
  refine r_iload_n (q := 5) dX11_power_4 rfl rfl rfl ?_
  refine r_iload_n (q := 6) dX11_power_5 rfl rfl rfl ?_
  refine r_icmp_geN (q := 9) (t := 19) (by omega) (by omega) dX11_power_6 (by decide) rfl (fun h6 => absurd h6 (by omega)) (fun h6 => ?_)
  refine r_iload_n (q := 10) dX11_power_9 rfl rfl rfl ?_
  refine r_iload_n (q := 11) dX11_power_10 rfl rfl rfl ?_
  refine r_imulN (q := 12) dX11_power_11 rfl ?_
  refine r_istore_n (q := 13) (L' := [some (zi (nI 2)), some (zi (nI 4)), some (zi (nI 4)), some (zi (nI 1))]) dX11_power_12 rfl rfl (by decide) rfl ?_
  refine r_iincN (q := 16) (L' := [some (zi (nI 2)), some (zi (nI 4)), some (zi (nI 4)), some (zi (nI 2))]) 1 rfl dX11_power_13 rfl rfl (by decide) rfl ?_
  refine r_goto (q := 4) dX11_power_16 (by decide) ?_
  refine r_iload_n (q := 5) dX11_power_4 rfl rfl rfl ?_
  refine r_iload_n (q := 6) dX11_power_5 rfl rfl rfl ?_
  refine r_icmp_geN (q := 9) (t := 19) (by omega) (by omega) dX11_power_6 (by decide) rfl (fun h6 => absurd h6 (by omega)) (fun h6 => ?_)
  refine r_iload_n (q := 10) dX11_power_9 rfl rfl rfl ?_
  refine r_iload_n (q := 11) dX11_power_10 rfl rfl rfl ?_
  refine r_imulN (q := 12) dX11_power_11 rfl ?_
  refine r_istore_n (q := 13) (L' := [some (zi (nI 2)), some (zi (nI 4)), some (zi (nI 8)), some (zi (nI 2))]) dX11_power_12 rfl rfl (by decide) rfl ?_
  refine r_iincN (q := 16) (L' := [some (zi (nI 2)), some (zi (nI 4)), some (zi (nI 8)), some (zi (nI 3))]) 1 rfl dX11_power_13 rfl rfl (by decide) rfl ?_
  refine r_goto (q := 4) dX11_power_16 (by decide) ?_
  refine r_iload_n (q := 5) dX11_power_4 rfl rfl rfl ?_
  refine r_iload_n (q := 6) dX11_power_5 rfl rfl rfl ?_
  refine r_icmp_geN (q := 9) (t := 19) (by omega) (by omega) dX11_power_6 (by decide) rfl (fun h6 => absurd h6 (by omega)) (fun h6 => ?_)
  refine r_iload_n (q := 10) dX11_power_9 rfl rfl rfl ?_
  refine r_iload_n (q := 11) dX11_power_10 rfl rfl rfl ?_
  refine r_imulN (q := 12) dX11_power_11 rfl ?_
  refine r_istore_n (q := 13) (L' := [some (zi (nI 2)), some (zi (nI 4)), some (zi (nI 16)), some (zi (nI 3))]) dX11_power_12 rfl rfl (by decide) rfl ?_
  refine r_iincN (q := 16) (L' := [some (zi (nI 2)), some (zi (nI 4)), some (zi (nI 16)), some (zi (nI 4))]) 1 rfl dX11_power_13 rfl rfl (by decide) rfl ?_
  refine r_goto (q := 4) dX11_power_16 (by decide) ?_
  refine r_iload_n (q := 5) dX11_power_4 rfl rfl rfl ?_
  refine r_iload_n (q := 6) dX11_power_5 rfl rfl rfl ?_
  refine r_icmp_geN (q := 9) (t := 19) (by omega) (by omega) dX11_power_6 (by decide) rfl (fun h6 => ?_) (fun h6 => absurd h6 (by omega))
  refine r_iload_n (q := 20) dX11_power_19 rfl rfl rfl ?_
  refine r_ireturn dX11_power_20 rfl ?_
  exact ⟨rfl, rfl⟩

set_option maxRecDepth 100000 in
theorem ok_X11_power_2_5 {S : zS} : Ok mX11_power 0 (ent 4 [zi (nI 2), zi (nI 5)]) [] S (fun r S1 => r = some (zi (nI 32)) ∧ S1 = S) := by
  show Ok mX11_power 0 [some (zi (nI 2)), some (zi (nI 5)), none, none] [] S _
  refine r_iconst (q := 1) (nI 1) dX11_power_0 rfl (by decide) ?_
  refine r_istore_n (q := 2) (L' := [some (zi (nI 2)), some (zi (nI 5)), some (zi (nI 1)), none]) dX11_power_1 rfl rfl (by decide) rfl ?_
  refine r_iconst (q := 3) (nI 0) dX11_power_2 rfl (by decide) ?_
  refine r_istore_n (q := 4) (L' := [some (zi (nI 2)), some (zi (nI 5)), some (zi (nI 1)), some (zi (nI 0))]) dX11_power_3 rfl rfl (by decide) rfl ?_
  refine r_iload_n (q := 5) dX11_power_4 rfl rfl rfl ?_
  refine r_iload_n (q := 6) dX11_power_5 rfl rfl rfl ?_
  refine r_icmp_geN (q := 9) (t := 19) (by omega) (by omega) dX11_power_6 (by decide) rfl (fun h6 => absurd h6 (by omega)) (fun h6 => ?_)
  refine r_iload_n (q := 10) dX11_power_9 rfl rfl rfl ?_
  refine r_iload_n (q := 11) dX11_power_10 rfl rfl rfl ?_
  refine r_imulN (q := 12) dX11_power_11 rfl ?_
  refine r_istore_n (q := 13) (L' := [some (zi (nI 2)), some (zi (nI 5)), some (zi (nI 2)), some (zi (nI 0))]) dX11_power_12 rfl rfl (by decide) rfl ?_
  refine r_iincN (q := 16) (L' := [some (zi (nI 2)), some (zi (nI 5)), some (zi (nI 2)), some (zi (nI 1))]) 1 rfl dX11_power_13 rfl rfl (by decide) rfl ?_
  refine r_goto (q := 4) dX11_power_16 (by decide) ?_
  refine r_iload_n (q := 5) dX11_power_4 rfl rfl rfl ?_
  refine r_iload_n (q := 6) dX11_power_5 rfl rfl rfl ?_
  refine r_icmp_geN (q := 9) (t := 19) (by omega) (by omega) dX11_power_6 (by decide) rfl (fun h6 => absurd h6 (by omega)) (fun h6 => ?_)
  refine r_iload_n (q := 10) dX11_power_9 rfl rfl rfl ?_
  refine r_iload_n (q := 11) dX11_power_10 rfl rfl rfl ?_
  refine r_imulN (q := 12) dX11_power_11 rfl ?_
  refine r_istore_n (q := 13) (L' := [some (zi (nI 2)), some (zi (nI 5)), some (zi (nI 4)), some (zi (nI 1))]) dX11_power_12 rfl rfl (by decide) rfl ?_
  refine r_iincN (q := 16) (L' := [some (zi (nI 2)), some (zi (nI 5)), some (zi (nI 4)), some (zi (nI 2))]) 1 rfl dX11_power_13 rfl rfl (by decide) rfl ?_
  refine r_goto (q := 4) dX11_power_16 (by decide) ?_
  refine r_iload_n (q := 5) dX11_power_4 rfl rfl rfl ?_
  refine r_iload_n (q := 6) dX11_power_5 rfl rfl rfl ?_
  refine r_icmp_geN (q := 9) (t := 19) (by omega) (by omega) dX11_power_6 (by decide) rfl (fun h6 => absurd h6 (by omega)) (fun h6 => ?_)
  refine r_iload_n (q := 10) dX11_power_9 rfl rfl rfl ?_
  refine r_iload_n (q := 11) dX11_power_10 rfl rfl rfl ?_
  refine r_imulN (q := 12) dX11_power_11 rfl ?_
  refine r_istore_n (q := 13) (L' := [some (zi (nI 2)), some (zi (nI 5)), some (zi (nI 8)), some (zi (nI 2))]) dX11_power_12 rfl rfl (by decide) rfl ?_
  refine r_iincN (q := 16) (L' := [some (zi (nI 2)), some (zi (nI 5)), some (zi (nI 8)), some (zi (nI 3))]) 1 rfl dX11_power_13 rfl rfl (by decide) rfl ?_
  refine r_goto (q := 4) dX11_power_16 (by decide) ?_
  refine r_iload_n (q := 5) dX11_power_4 rfl rfl rfl ?_
  refine r_iload_n (q := 6) dX11_power_5 rfl rfl rfl ?_
  refine r_icmp_geN (q := 9) (t := 19) (by omega) (by omega) dX11_power_6 (by decide) rfl (fun h6 => absurd h6 (by omega)) (fun h6 => ?_)
  refine r_iload_n (q := 10) dX11_power_9 rfl rfl rfl ?_
  refine r_iload_n (q := 11) dX11_power_10 rfl rfl rfl ?_
  refine r_imulN (q := 12) dX11_power_11 rfl ?_
  refine r_istore_n (q := 13) (L' := [some (zi (nI 2)), some (zi (nI 5)), some (zi (nI 16)), some (zi (nI 3))]) dX11_power_12 rfl rfl (by decide) rfl ?_
  refine r_iincN (q := 16) (L' := [some (zi (nI 2)), some (zi (nI 5)), some (zi (nI 16)), some (zi (nI 4))]) 1 rfl dX11_power_13 rfl rfl (by decide) rfl ?_
  refine r_goto (q := 4) dX11_power_16 (by decide) ?_
  refine r_iload_n (q := 5) dX11_power_4 rfl rfl rfl ?_
  refine r_iload_n (q := 6) dX11_power_5 rfl rfl rfl ?_
  refine r_icmp_geN (q := 9) (t := 19) (by omega) (by omega) dX11_power_6 (by decide) rfl (fun h6 => absurd h6 (by omega)) (fun h6 => ?_)
  refine r_iload_n (q := 10) dX11_power_9 rfl rfl rfl ?_
  refine r_iload_n (q := 11) dX11_power_10 rfl rfl rfl ?_
  refine r_imulN (q := 12) dX11_power_11 rfl ?_
  refine r_istore_n (q := 13) (L' := [some (zi (nI 2)), some (zi (nI 5)), some (zi (nI 32)), some (zi (nI 4))]) dX11_power_12 rfl rfl (by decide) rfl ?_
  refine r_iincN (q := 16) (L' := [some (zi (nI 2)), some (zi (nI 5)), some (zi (nI 32)), some (zi (nI 5))]) 1 rfl dX11_power_13 rfl rfl (by decide) rfl ?_
  refine r_goto (q := 4) dX11_power_16 (by decide) ?_
  refine r_iload_n (q := 5) dX11_power_4 rfl rfl rfl ?_
  refine r_iload_n (q := 6) dX11_power_5 rfl rfl rfl ?_
  refine r_icmp_geN (q := 9) (t := 19) (by omega) (by omega) dX11_power_6 (by decide) rfl (fun h6 => ?_) (fun h6 => absurd h6 (by omega))
  refine r_iload_n (q := 20) dX11_power_19 rfl rfl rfl ?_
  refine r_ireturn dX11_power_20 rfl ?_
  exact ⟨rfl, rfl⟩

set_option maxRecDepth 100000 in
theorem ok_X11_power_3_3 {S : zS} : Ok mX11_power 0 (ent 4 [zi (nI 3), zi (nI 3)]) [] S (fun r S1 => r = some (zi (nI 27)) ∧ S1 = S) := by
  show Ok mX11_power 0 [some (zi (nI 3)), some (zi (nI 3)), none, none] [] S _
  refine r_iconst (q := 1) (nI 1) dX11_power_0 rfl (by decide) ?_
  refine r_istore_n (q := 2) (L' := [some (zi (nI 3)), some (zi (nI 3)), some (zi (nI 1)), none]) dX11_power_1 rfl rfl (by decide) rfl ?_
  refine r_iconst (q := 3) (nI 0) dX11_power_2 rfl (by decide) ?_
  refine r_istore_n (q := 4) (L' := [some (zi (nI 3)), some (zi (nI 3)), some (zi (nI 1)), some (zi (nI 0))]) dX11_power_3 rfl rfl (by decide) rfl ?_
  refine r_iload_n (q := 5) dX11_power_4 rfl rfl rfl ?_
  refine r_iload_n (q := 6) dX11_power_5 rfl rfl rfl ?_
  refine r_icmp_geN (q := 9) (t := 19) (by omega) (by omega) dX11_power_6 (by decide) rfl (fun h6 => absurd h6 (by omega)) (fun h6 => ?_)
  refine r_iload_n (q := 10) dX11_power_9 rfl rfl rfl ?_
  refine r_iload_n (q := 11) dX11_power_10 rfl rfl rfl ?_
  refine r_imulN (q := 12) dX11_power_11 rfl ?_
  refine r_istore_n (q := 13) (L' := [some (zi (nI 3)), some (zi (nI 3)), some (zi (nI 3)), some (zi (nI 0))]) dX11_power_12 rfl rfl (by decide) rfl ?_
  refine r_iincN (q := 16) (L' := [some (zi (nI 3)), some (zi (nI 3)), some (zi (nI 3)), some (zi (nI 1))]) 1 rfl dX11_power_13 rfl rfl (by decide) rfl ?_
  refine r_goto (q := 4) dX11_power_16 (by decide) ?_
  refine r_iload_n (q := 5) dX11_power_4 rfl rfl rfl ?_
  refine r_iload_n (q := 6) dX11_power_5 rfl rfl rfl ?_
  refine r_icmp_geN (q := 9) (t := 19) (by omega) (by omega) dX11_power_6 (by decide) rfl (fun h6 => absurd h6 (by omega)) (fun h6 => ?_)
  refine r_iload_n (q := 10) dX11_power_9 rfl rfl rfl ?_
  refine r_iload_n (q := 11) dX11_power_10 rfl rfl rfl ?_
  refine r_imulN (q := 12) dX11_power_11 rfl ?_
  refine r_istore_n (q := 13) (L' := [some (zi (nI 3)), some (zi (nI 3)), some (zi (nI 9)), some (zi (nI 1))]) dX11_power_12 rfl rfl (by decide) rfl ?_
  refine r_iincN (q := 16) (L' := [some (zi (nI 3)), some (zi (nI 3)), some (zi (nI 9)), some (zi (nI 2))]) 1 rfl dX11_power_13 rfl rfl (by decide) rfl ?_
  refine r_goto (q := 4) dX11_power_16 (by decide) ?_
  refine r_iload_n (q := 5) dX11_power_4 rfl rfl rfl ?_
  refine r_iload_n (q := 6) dX11_power_5 rfl rfl rfl ?_
  refine r_icmp_geN (q := 9) (t := 19) (by omega) (by omega) dX11_power_6 (by decide) rfl (fun h6 => absurd h6 (by omega)) (fun h6 => ?_)
  refine r_iload_n (q := 10) dX11_power_9 rfl rfl rfl ?_
  refine r_iload_n (q := 11) dX11_power_10 rfl rfl rfl ?_
  refine r_imulN (q := 12) dX11_power_11 rfl ?_
  refine r_istore_n (q := 13) (L' := [some (zi (nI 3)), some (zi (nI 3)), some (zi (nI 27)), some (zi (nI 2))]) dX11_power_12 rfl rfl (by decide) rfl ?_
  refine r_iincN (q := 16) (L' := [some (zi (nI 3)), some (zi (nI 3)), some (zi (nI 27)), some (zi (nI 3))]) 1 rfl dX11_power_13 rfl rfl (by decide) rfl ?_
  refine r_goto (q := 4) dX11_power_16 (by decide) ?_
  refine r_iload_n (q := 5) dX11_power_4 rfl rfl rfl ?_
  refine r_iload_n (q := 6) dX11_power_5 rfl rfl rfl ?_
  refine r_icmp_geN (q := 9) (t := 19) (by omega) (by omega) dX11_power_6 (by decide) rfl (fun h6 => ?_) (fun h6 => absurd h6 (by omega))
  refine r_iload_n (q := 20) dX11_power_19 rfl rfl rfl ?_
  refine r_ireturn dX11_power_20 rfl ?_
  exact ⟨rfl, rfl⟩

set_option maxRecDepth 100000 in
theorem ok_X11_power_3_4 {S : zS} : Ok mX11_power 0 (ent 4 [zi (nI 3), zi (nI 4)]) [] S (fun r S1 => r = some (zi (nI 81)) ∧ S1 = S) := by
  show Ok mX11_power 0 [some (zi (nI 3)), some (zi (nI 4)), none, none] [] S _
  refine r_iconst (q := 1) (nI 1) dX11_power_0 rfl (by decide) ?_
  refine r_istore_n (q := 2) (L' := [some (zi (nI 3)), some (zi (nI 4)), some (zi (nI 1)), none]) dX11_power_1 rfl rfl (by decide) rfl ?_
  refine r_iconst (q := 3) (nI 0) dX11_power_2 rfl (by decide) ?_
  refine r_istore_n (q := 4) (L' := [some (zi (nI 3)), some (zi (nI 4)), some (zi (nI 1)), some (zi (nI 0))]) dX11_power_3 rfl rfl (by decide) rfl ?_
  refine r_iload_n (q := 5) dX11_power_4 rfl rfl rfl ?_
  refine r_iload_n (q := 6) dX11_power_5 rfl rfl rfl ?_
  refine r_icmp_geN (q := 9) (t := 19) (by omega) (by omega) dX11_power_6 (by decide) rfl (fun h6 => absurd h6 (by omega)) (fun h6 => ?_)
  refine r_iload_n (q := 10) dX11_power_9 rfl rfl rfl ?_
  refine r_iload_n (q := 11) dX11_power_10 rfl rfl rfl ?_
  refine r_imulN (q := 12) dX11_power_11 rfl ?_
  refine r_istore_n (q := 13) (L' := [some (zi (nI 3)), some (zi (nI 4)), some (zi (nI 3)), some (zi (nI 0))]) dX11_power_12 rfl rfl (by decide) rfl ?_
  refine r_iincN (q := 16) (L' := [some (zi (nI 3)), some (zi (nI 4)), some (zi (nI 3)), some (zi (nI 1))]) 1 rfl dX11_power_13 rfl rfl (by decide) rfl ?_
  refine r_goto (q := 4) dX11_power_16 (by decide) ?_
  refine r_iload_n (q := 5) dX11_power_4 rfl rfl rfl ?_
  refine r_iload_n (q := 6) dX11_power_5 rfl rfl rfl ?_
  refine r_icmp_geN (q := 9) (t := 19) (by omega) (by omega) dX11_power_6 (by decide) rfl (fun h6 => absurd h6 (by omega)) (fun h6 => ?_)
  refine r_iload_n (q := 10) dX11_power_9 rfl rfl rfl ?_
  refine r_iload_n (q := 11) dX11_power_10 rfl rfl rfl ?_
  refine r_imulN (q := 12) dX11_power_11 rfl ?_
  refine r_istore_n (q := 13) (L' := [some (zi (nI 3)), some (zi (nI 4)), some (zi (nI 9)), some (zi (nI 1))]) dX11_power_12 rfl rfl (by decide) rfl ?_
  refine r_iincN (q := 16) (L' := [some (zi (nI 3)), some (zi (nI 4)), some (zi (nI 9)), some (zi (nI 2))]) 1 rfl dX11_power_13 rfl rfl (by decide) rfl ?_
  refine r_goto (q := 4) dX11_power_16 (by decide) ?_
  refine r_iload_n (q := 5) dX11_power_4 rfl rfl rfl ?_
  refine r_iload_n (q := 6) dX11_power_5 rfl rfl rfl ?_
  refine r_icmp_geN (q := 9) (t := 19) (by omega) (by omega) dX11_power_6 (by decide) rfl (fun h6 => absurd h6 (by omega)) (fun h6 => ?_)
  refine r_iload_n (q := 10) dX11_power_9 rfl rfl rfl ?_
  refine r_iload_n (q := 11) dX11_power_10 rfl rfl rfl ?_
  refine r_imulN (q := 12) dX11_power_11 rfl ?_
  refine r_istore_n (q := 13) (L' := [some (zi (nI 3)), some (zi (nI 4)), some (zi (nI 27)), some (zi (nI 2))]) dX11_power_12 rfl rfl (by decide) rfl ?_
  refine r_iincN (q := 16) (L' := [some (zi (nI 3)), some (zi (nI 4)), some (zi (nI 27)), some (zi (nI 3))]) 1 rfl dX11_power_13 rfl rfl (by decide) rfl ?_
  refine r_goto (q := 4) dX11_power_16 (by decide) ?_
  refine r_iload_n (q := 5) dX11_power_4 rfl rfl rfl ?_
  refine r_iload_n (q := 6) dX11_power_5 rfl rfl rfl ?_
  refine r_icmp_geN (q := 9) (t := 19) (by omega) (by omega) dX11_power_6 (by decide) rfl (fun h6 => absurd h6 (by omega)) (fun h6 => ?_)
  refine r_iload_n (q := 10) dX11_power_9 rfl rfl rfl ?_
  refine r_iload_n (q := 11) dX11_power_10 rfl rfl rfl ?_
  refine r_imulN (q := 12) dX11_power_11 rfl ?_
  refine r_istore_n (q := 13) (L' := [some (zi (nI 3)), some (zi (nI 4)), some (zi (nI 81)), some (zi (nI 3))]) dX11_power_12 rfl rfl (by decide) rfl ?_
  refine r_iincN (q := 16) (L' := [some (zi (nI 3)), some (zi (nI 4)), some (zi (nI 81)), some (zi (nI 4))]) 1 rfl dX11_power_13 rfl rfl (by decide) rfl ?_
  refine r_goto (q := 4) dX11_power_16 (by decide) ?_
  refine r_iload_n (q := 5) dX11_power_4 rfl rfl rfl ?_
  refine r_iload_n (q := 6) dX11_power_5 rfl rfl rfl ?_
  refine r_icmp_geN (q := 9) (t := 19) (by omega) (by omega) dX11_power_6 (by decide) rfl (fun h6 => ?_) (fun h6 => absurd h6 (by omega))
  refine r_iload_n (q := 20) dX11_power_19 rfl rfl rfl ?_
  refine r_ireturn dX11_power_20 rfl ?_
  exact ⟨rfl, rfl⟩

set_option maxRecDepth 100000 in
theorem ok_X11_power_3_5 {S : zS} : Ok mX11_power 0 (ent 4 [zi (nI 3), zi (nI 5)]) [] S (fun r S1 => r = some (zi (nI 243)) ∧ S1 = S) := by
  show Ok mX11_power 0 [some (zi (nI 3)), some (zi (nI 5)), none, none] [] S _
  refine r_iconst (q := 1) (nI 1) dX11_power_0 rfl (by decide) ?_
  refine r_istore_n (q := 2) (L' := [some (zi (nI 3)), some (zi (nI 5)), some (zi (nI 1)), none]) dX11_power_1 rfl rfl (by decide) rfl ?_
  refine r_iconst (q := 3) (nI 0) dX11_power_2 rfl (by decide) ?_
  refine r_istore_n (q := 4) (L' := [some (zi (nI 3)), some (zi (nI 5)), some (zi (nI 1)), some (zi (nI 0))]) dX11_power_3 rfl rfl (by decide) rfl ?_
  refine r_iload_n (q := 5) dX11_power_4 rfl rfl rfl ?_
  refine r_iload_n (q := 6) dX11_power_5 rfl rfl rfl ?_
  refine r_icmp_geN (q := 9) (t := 19) (by omega) (by omega) dX11_power_6 (by decide) rfl (fun h6 => absurd h6 (by omega)) (fun h6 => ?_)
  refine r_iload_n (q := 10) dX11_power_9 rfl rfl rfl ?_
  refine r_iload_n (q := 11) dX11_power_10 rfl rfl rfl ?_
  refine r_imulN (q := 12) dX11_power_11 rfl ?_
  refine r_istore_n (q := 13) (L' := [some (zi (nI 3)), some (zi (nI 5)), some (zi (nI 3)), some (zi (nI 0))]) dX11_power_12 rfl rfl (by decide) rfl ?_
  refine r_iincN (q := 16) (L' := [some (zi (nI 3)), some (zi (nI 5)), some (zi (nI 3)), some (zi (nI 1))]) 1 rfl dX11_power_13 rfl rfl (by decide) rfl ?_
  refine r_goto (q := 4) dX11_power_16 (by decide) ?_
  refine r_iload_n (q := 5) dX11_power_4 rfl rfl rfl ?_
  refine r_iload_n (q := 6) dX11_power_5 rfl rfl rfl ?_
  refine r_icmp_geN (q := 9) (t := 19) (by omega) (by omega) dX11_power_6 (by decide) rfl (fun h6 => absurd h6 (by omega)) (fun h6 => ?_)
  refine r_iload_n (q := 10) dX11_power_9 rfl rfl rfl ?_
  refine r_iload_n (q := 11) dX11_power_10 rfl rfl rfl ?_
  refine r_imulN (q := 12) dX11_power_11 rfl ?_
  refine r_istore_n (q := 13) (L' := [some (zi (nI 3)), some (zi (nI 5)), some (zi (nI 9)), some (zi (nI 1))]) dX11_power_12 rfl rfl (by decide) rfl ?_
  refine r_iincN (q := 16) (L' := [some (zi (nI 3)), some (zi (nI 5)), some (zi (nI 9)), some (zi (nI 2))]) 1 rfl dX11_power_13 rfl rfl (by decide) rfl ?_
  refine r_goto (q := 4) dX11_power_16 (by decide) ?_
  refine r_iload_n (q := 5) dX11_power_4 rfl rfl rfl ?_
  refine r_iload_n (q := 6) dX11_power_5 rfl rfl rfl ?_
  refine r_icmp_geN (q := 9) (t := 19) (by omega) (by omega) dX11_power_6 (by decide) rfl (fun h6 => absurd h6 (by omega)) (fun h6 => ?_)
  refine r_iload_n (q := 10) dX11_power_9 rfl rfl rfl ?_
  refine r_iload_n (q := 11) dX11_power_10 rfl rfl rfl ?_
  refine r_imulN (q := 12) dX11_power_11 rfl ?_
  refine r_istore_n (q := 13) (L' := [some (zi (nI 3)), some (zi (nI 5)), some (zi (nI 27)), some (zi (nI 2))]) dX11_power_12 rfl rfl (by decide) rfl ?_
  refine r_iincN (q := 16) (L' := [some (zi (nI 3)), some (zi (nI 5)), some (zi (nI 27)), some (zi (nI 3))]) 1 rfl dX11_power_13 rfl rfl (by decide) rfl ?_
  refine r_goto (q := 4) dX11_power_16 (by decide) ?_
  refine r_iload_n (q := 5) dX11_power_4 rfl rfl rfl ?_
  refine r_iload_n (q := 6) dX11_power_5 rfl rfl rfl ?_
  refine r_icmp_geN (q := 9) (t := 19) (by omega) (by omega) dX11_power_6 (by decide) rfl (fun h6 => absurd h6 (by omega)) (fun h6 => ?_)
  refine r_iload_n (q := 10) dX11_power_9 rfl rfl rfl ?_
  refine r_iload_n (q := 11) dX11_power_10 rfl rfl rfl ?_
  refine r_imulN (q := 12) dX11_power_11 rfl ?_
  refine r_istore_n (q := 13) (L' := [some (zi (nI 3)), some (zi (nI 5)), some (zi (nI 81)), some (zi (nI 3))]) dX11_power_12 rfl rfl (by decide) rfl ?_
  refine r_iincN (q := 16) (L' := [some (zi (nI 3)), some (zi (nI 5)), some (zi (nI 81)), some (zi (nI 4))]) 1 rfl dX11_power_13 rfl rfl (by decide) rfl ?_
  refine r_goto (q := 4) dX11_power_16 (by decide) ?_
  refine r_iload_n (q := 5) dX11_power_4 rfl rfl rfl ?_
  refine r_iload_n (q := 6) dX11_power_5 rfl rfl rfl ?_
  refine r_icmp_geN (q := 9) (t := 19) (by omega) (by omega) dX11_power_6 (by decide) rfl (fun h6 => absurd h6 (by omega)) (fun h6 => ?_)
  refine r_iload_n (q := 10) dX11_power_9 rfl rfl rfl ?_
  refine r_iload_n (q := 11) dX11_power_10 rfl rfl rfl ?_
  refine r_imulN (q := 12) dX11_power_11 rfl ?_
  refine r_istore_n (q := 13) (L' := [some (zi (nI 3)), some (zi (nI 5)), some (zi (nI 243)), some (zi (nI 4))]) dX11_power_12 rfl rfl (by decide) rfl ?_
  refine r_iincN (q := 16) (L' := [some (zi (nI 3)), some (zi (nI 5)), some (zi (nI 243)), some (zi (nI 5))]) 1 rfl dX11_power_13 rfl rfl (by decide) rfl ?_
  refine r_goto (q := 4) dX11_power_16 (by decide) ?_
  refine r_iload_n (q := 5) dX11_power_4 rfl rfl rfl ?_
  refine r_iload_n (q := 6) dX11_power_5 rfl rfl rfl ?_
  refine r_icmp_geN (q := 9) (t := 19) (by omega) (by omega) dX11_power_6 (by decide) rfl (fun h6 => ?_) (fun h6 => absurd h6 (by omega))
  refine r_iload_n (q := 20) dX11_power_19 rfl rfl rfl ?_
  refine r_ireturn dX11_power_20 rfl ?_
  exact ⟨rfl, rfl⟩

set_option maxRecDepth 100000 in
theorem ok_X7_set {S : zS} (hs : Sd S) {j a i : Nat} (hj : j < 3) (ha : a < 3) (hi : i < 243) (v : Int32) : Ok mX7_set 0 (ent 4 [zr 7 j, zi (nI a), zi (nI i), zi v]) [] S (fun r S1 => r = none ∧ S1 = sI S 801 j (a * 243 + i) v) := by
  show Ok mX7_set 0 [some (zr 7 j), some (zi (nI a)), some (zi (nI i)), some (zi v)] [] S _
  refine r_iload_n (q := 1) dX7_set_0 rfl rfl rfl ?_
  refine r_if_ltN (q := 4) (t := 33) (by omega) dX7_set_1 (by decide) rfl ?_
  refine r_iload_n (q := 5) dX7_set_4 rfl rfl rfl ?_
  refine r_iconst (q := 6) (nI 3) dX7_set_5 rfl (by decide) ?_
  refine r_icmp_geN (q := 9) (t := 33) (by omega) (by omega) dX7_set_6 (by decide) rfl (fun h6 => absurd h6 (by omega)) (fun h6 => ?_)
  refine r_iload_n (q := 10) dX7_set_9 rfl rfl rfl ?_
  refine r_if_ltN (q := 13) (t := 33) (by omega) dX7_set_10 (by decide) rfl ?_
  refine r_iload_n (q := 14) dX7_set_13 rfl rfl rfl ?_
  refine r_sipush (q := 17) (nI 243) dX7_set_14 rfl (by decide) ?_
  refine r_icmp_geN (q := 20) (t := 33) (by omega) (by omega) dX7_set_17 (by decide) rfl (fun h17 => absurd h17 (by omega)) (fun h17 => ?_)
  refine r_aload_n (q := 21) dX7_set_20 rfl rfl rfl ?_
  refine r_getr (q := 24) (some (801, j)) ck7 dX7_set_21 rfl (k := 1) (by decide) wt40 rfl (hs.e (show j < 3 by omega)) (hs.r (show j < 3 by omega) (by decide)) ?_
  refine r_iload_n (q := 25) dX7_set_24 rfl rfl rfl ?_
  refine r_sipush (q := 28) (nI 243) dX7_set_25 rfl (by decide) ?_
  refine r_imulN (q := 29) dX7_set_28 rfl ?_
  refine r_iload_n (q := 30) dX7_set_29 rfl rfl rfl ?_
  refine r_iaddN (q := 31) dX7_set_30 rfl ?_
  refine r_iload_n (q := 32) dX7_set_31 rfl rfl rfl ?_
  refine r_iastN (q := 33) 729 (by decide) rfl dX7_set_32 rfl (hs.e (show j < 3 by omega)) (hs.n rfl (show j < 3 by omega)) (by omega) (by decide) ?_
  refine r_return dX7_set_33 rfl ?_
  exact ⟨rfl, rfl⟩

set_option maxRecDepth 100000 in
theorem ok_X7_get {S : zS} (hs : Sd S) {j a i : Nat} (hj : j < 3) (ha : a < 3) (hi : i < 243) : Ok mX7_get 0 (ent 3 [zr 7 j, zi (nI a), zi (nI i)]) [] S (fun r S1 => r = some (zi (gI S 801 j (a * 243 + i))) ∧ S1 = S) := by
  show Ok mX7_get 0 [some (zr 7 j), some (zi (nI a)), some (zi (nI i))] [] S _
  refine r_iload_n (q := 1) dX7_get_0 rfl rfl rfl ?_
  refine r_if_ltN (q := 4) (t := 35) (by omega) dX7_get_1 (by decide) rfl ?_
  refine r_iload_n (q := 5) dX7_get_4 rfl rfl rfl ?_
  refine r_iconst (q := 6) (nI 3) dX7_get_5 rfl (by decide) ?_
  refine r_icmp_geN (q := 9) (t := 35) (by omega) (by omega) dX7_get_6 (by decide) rfl (fun h6 => absurd h6 (by omega)) (fun h6 => ?_)
  refine r_iload_n (q := 10) dX7_get_9 rfl rfl rfl ?_
  refine r_if_ltN (q := 13) (t := 35) (by omega) dX7_get_10 (by decide) rfl ?_
  refine r_iload_n (q := 14) dX7_get_13 rfl rfl rfl ?_
  refine r_sipush (q := 17) (nI 243) dX7_get_14 rfl (by decide) ?_
  refine r_icmp_geN (q := 20) (t := 35) (by omega) (by omega) dX7_get_17 (by decide) rfl (fun h17 => absurd h17 (by omega)) (fun h17 => ?_)
  refine r_aload_n (q := 21) dX7_get_20 rfl rfl rfl ?_
  refine r_getr (q := 24) (some (801, j)) ck7 dX7_get_21 rfl (k := 1) (by decide) wt40 rfl (hs.e (show j < 3 by omega)) (hs.r (show j < 3 by omega) (by decide)) ?_
  refine r_iload_n (q := 25) dX7_get_24 rfl rfl rfl ?_
  refine r_sipush (q := 28) (nI 243) dX7_get_25 rfl (by decide) ?_
  refine r_imulN (q := 29) dX7_get_28 rfl ?_
  refine r_iload_n (q := 30) dX7_get_29 rfl rfl rfl ?_
  refine r_iaddN (q := 31) dX7_get_30 rfl ?_
  refine r_ialdN (q := 32) 729 (by decide) rfl dX7_get_31 rfl (hs.e (show j < 3 by omega)) (hs.n rfl (show j < 3 by omega)) (by omega) (by decide) ?_
  refine r_goto (q := 36) dX7_get_32 (by decide) ?_
  refine r_ireturn dX7_get_36 rfl ?_
  exact ⟨rfl, rfl⟩

set_option maxRecDepth 100000 in
theorem ok_X12_octet {S : zS} (hs : Sd S) {i : Nat} (hi : i < 940) : Ok mX12_octet 0 (ent 2 [zr 12 0, zi (nI i)]) [] S (fun r S1 => r = some (zi (gI S 1301 0 i &&& nI 255)) ∧ S1 = S) := by
  show Ok mX12_octet 0 [some (zr 12 0), some (zi (nI i))] [] S _
  refine r_aload_n (q := 1) dX12_octet_0 rfl rfl rfl ?_
  refine r_getr (q := 4) (some (1301, 0)) ck12 dX12_octet_1 rfl (k := 1) (by decide) wt1279 rfl (hs.e (by decide)) (hs.r (by decide) (by decide)) ?_
  refine r_iload_n (q := 5) dX12_octet_4 rfl rfl rfl ?_
  refine r_baldN (q := 6) 940 (by decide) rfl dX12_octet_5 rfl (hs.e (by decide)) (hs.n rfl (by decide)) (by omega) (by decide) ?_
  refine r_sipush (q := 9) (nI 255) dX12_octet_6 rfl (by decide) ?_
  refine r_iand (q := 10) dX12_octet_9 rfl ?_
  refine r_ireturn dX12_octet_10 rfl ?_
  exact ⟨rfl, rfl⟩

set_option maxRecDepth 100000 in
theorem ok_X12_table0_1_2 {S : zS} (hs : Sd S) {a : Nat} (ha : a < 3) (hw : gI S 1306 0 3 = nI 1) (he : gI S 1306 0 (4 + a) = nI 2) : Ok mX12_table0 0 (ent 4 [zr 12 0, zi (nI a)]) [] S (fun r S1 => r = some (zi (nI 1)) ∧ S1 = S) := by
  show Ok mX12_table0 0 [some (zr 12 0), some (zi (nI a)), none, none] [] S _
  refine r_aload_n (q := 1) dX12_table0_0 rfl rfl rfl ?_
  refine r_getr (q := 4) (some (1306, 0)) ck12 dX12_table0_1 rfl (k := 6) (by decide) wt1284 rfl (hs.e (by decide)) (hs.r (by decide) (by decide)) ?_
  refine r_iconst (q := 5) (nI 3) dX12_table0_4 rfl (by decide) ?_
  refine r_ialdN (q := 6) 3775 (by decide) rfl dX12_table0_5 rfl (hs.e (by decide)) (hs.n rfl (by decide)) (by omega) (by decide) ?_
  refine r_topi (y := nI 1) hw ?_
  refine r_istore_n (q := 7) (L' := [some (zr 12 0), some (zi (nI a)), some (zi (nI 1)), none]) dX12_table0_6 rfl rfl (by decide) rfl ?_
  refine r_iconst (q := 8) (nI 0) dX12_table0_7 rfl (by decide) ?_
  refine r_istore_n (q := 9) (L' := [some (zr 12 0), some (zi (nI a)), some (zi (nI 1)), some (zi (nI 0))]) dX12_table0_8 rfl rfl (by decide) rfl ?_
  refine r_iload_n (q := 10) dX12_table0_9 rfl rfl rfl ?_
  refine r_aload_n (q := 11) dX12_table0_10 rfl rfl rfl ?_
  refine r_getr (q := 14) (some (1306, 0)) ck12 dX12_table0_11 rfl (k := 6) (by decide) wt1284 rfl (hs.e (by decide)) (hs.r (by decide) (by decide)) ?_
  refine r_iconst (q := 15) (nI 4) dX12_table0_14 rfl (by decide) ?_
  refine r_iload_n (q := 16) dX12_table0_15 rfl rfl rfl ?_
  refine r_iaddN (q := 17) dX12_table0_16 rfl ?_
  refine r_ialdN (q := 18) 3775 (by decide) rfl dX12_table0_17 rfl (hs.e (by decide)) (hs.n rfl (by decide)) (by omega) (by decide) ?_
  refine r_topi (y := nI 2) he ?_
  refine r_icmp_geN (q := 21) (t := 36) (by omega) (by omega) dX12_table0_18 (by decide) rfl (fun h18 => absurd h18 (by omega)) (fun h18 => ?_)
  refine r_iload_n (q := 22) dX12_table0_21 rfl rfl rfl ?_
  refine r_aload_n (q := 23) dX12_table0_22 rfl rfl rfl ?_
  refine r_getr (q := 26) (some (1306, 0)) ck12 dX12_table0_23 rfl (k := 6) (by decide) wt1284 rfl (hs.e (by decide)) (hs.r (by decide) (by decide)) ?_
  refine r_iconst (q := 27) (nI 3) dX12_table0_26 rfl (by decide) ?_
  refine r_ialdN (q := 28) 3775 (by decide) rfl dX12_table0_27 rfl (hs.e (by decide)) (hs.n rfl (by decide)) (by omega) (by decide) ?_
  refine r_topi (y := nI 1) hw ?_
  refine r_imulN (q := 29) dX12_table0_28 rfl ?_
  refine r_istore_n (q := 30) (L' := [some (zr 12 0), some (zi (nI a)), some (zi (nI 1)), some (zi (nI 0))]) dX12_table0_29 rfl rfl (by decide) rfl ?_
  refine r_iincN (q := 33) (L' := [some (zr 12 0), some (zi (nI a)), some (zi (nI 1)), some (zi (nI 1))]) 1 rfl dX12_table0_30 rfl rfl (by decide) rfl ?_
  refine r_goto (q := 9) dX12_table0_33 (by decide) ?_
  refine r_iload_n (q := 10) dX12_table0_9 rfl rfl rfl ?_
  refine r_aload_n (q := 11) dX12_table0_10 rfl rfl rfl ?_
  refine r_getr (q := 14) (some (1306, 0)) ck12 dX12_table0_11 rfl (k := 6) (by decide) wt1284 rfl (hs.e (by decide)) (hs.r (by decide) (by decide)) ?_
  refine r_iconst (q := 15) (nI 4) dX12_table0_14 rfl (by decide) ?_
  refine r_iload_n (q := 16) dX12_table0_15 rfl rfl rfl ?_
  refine r_iaddN (q := 17) dX12_table0_16 rfl ?_
  refine r_ialdN (q := 18) 3775 (by decide) rfl dX12_table0_17 rfl (hs.e (by decide)) (hs.n rfl (by decide)) (by omega) (by decide) ?_
  refine r_topi (y := nI 2) he ?_
  refine r_icmp_geN (q := 21) (t := 36) (by omega) (by omega) dX12_table0_18 (by decide) rfl (fun h18 => absurd h18 (by omega)) (fun h18 => ?_)
  refine r_iload_n (q := 22) dX12_table0_21 rfl rfl rfl ?_
  refine r_aload_n (q := 23) dX12_table0_22 rfl rfl rfl ?_
  refine r_getr (q := 26) (some (1306, 0)) ck12 dX12_table0_23 rfl (k := 6) (by decide) wt1284 rfl (hs.e (by decide)) (hs.r (by decide) (by decide)) ?_
  refine r_iconst (q := 27) (nI 3) dX12_table0_26 rfl (by decide) ?_
  refine r_ialdN (q := 28) 3775 (by decide) rfl dX12_table0_27 rfl (hs.e (by decide)) (hs.n rfl (by decide)) (by omega) (by decide) ?_
  refine r_topi (y := nI 1) hw ?_
  refine r_imulN (q := 29) dX12_table0_28 rfl ?_
  refine r_istore_n (q := 30) (L' := [some (zr 12 0), some (zi (nI a)), some (zi (nI 1)), some (zi (nI 1))]) dX12_table0_29 rfl rfl (by decide) rfl ?_
  refine r_iincN (q := 33) (L' := [some (zr 12 0), some (zi (nI a)), some (zi (nI 1)), some (zi (nI 2))]) 1 rfl dX12_table0_30 rfl rfl (by decide) rfl ?_
  refine r_goto (q := 9) dX12_table0_33 (by decide) ?_
  refine r_iload_n (q := 10) dX12_table0_9 rfl rfl rfl ?_
  refine r_aload_n (q := 11) dX12_table0_10 rfl rfl rfl ?_
  refine r_getr (q := 14) (some (1306, 0)) ck12 dX12_table0_11 rfl (k := 6) (by decide) wt1284 rfl (hs.e (by decide)) (hs.r (by decide) (by decide)) ?_
  refine r_iconst (q := 15) (nI 4) dX12_table0_14 rfl (by decide) ?_
  refine r_iload_n (q := 16) dX12_table0_15 rfl rfl rfl ?_
  refine r_iaddN (q := 17) dX12_table0_16 rfl ?_
  refine r_ialdN (q := 18) 3775 (by decide) rfl dX12_table0_17 rfl (hs.e (by decide)) (hs.n rfl (by decide)) (by omega) (by decide) ?_
  refine r_topi (y := nI 2) he ?_
  refine r_icmp_geN (q := 21) (t := 36) (by omega) (by omega) dX12_table0_18 (by decide) rfl (fun h18 => ?_) (fun h18 => absurd h18 (by omega))
  refine r_iload_n (q := 37) dX12_table0_36 rfl rfl rfl ?_
  refine r_ireturn dX12_table0_37 rfl ?_
  exact ⟨rfl, rfl⟩

set_option maxRecDepth 100000 in
theorem ok_X12_table0_1_3 {S : zS} (hs : Sd S) {a : Nat} (ha : a < 3) (hw : gI S 1306 0 3 = nI 1) (he : gI S 1306 0 (4 + a) = nI 3) : Ok mX12_table0 0 (ent 4 [zr 12 0, zi (nI a)]) [] S (fun r S1 => r = some (zi (nI 1)) ∧ S1 = S) := by
  show Ok mX12_table0 0 [some (zr 12 0), some (zi (nI a)), none, none] [] S _
  refine r_aload_n (q := 1) dX12_table0_0 rfl rfl rfl ?_
  refine r_getr (q := 4) (some (1306, 0)) ck12 dX12_table0_1 rfl (k := 6) (by decide) wt1284 rfl (hs.e (by decide)) (hs.r (by decide) (by decide)) ?_
  refine r_iconst (q := 5) (nI 3) dX12_table0_4 rfl (by decide) ?_
  refine r_ialdN (q := 6) 3775 (by decide) rfl dX12_table0_5 rfl (hs.e (by decide)) (hs.n rfl (by decide)) (by omega) (by decide) ?_
  refine r_topi (y := nI 1) hw ?_
  refine r_istore_n (q := 7) (L' := [some (zr 12 0), some (zi (nI a)), some (zi (nI 1)), none]) dX12_table0_6 rfl rfl (by decide) rfl ?_
  refine r_iconst (q := 8) (nI 0) dX12_table0_7 rfl (by decide) ?_
  refine r_istore_n (q := 9) (L' := [some (zr 12 0), some (zi (nI a)), some (zi (nI 1)), some (zi (nI 0))]) dX12_table0_8 rfl rfl (by decide) rfl ?_
  refine r_iload_n (q := 10) dX12_table0_9 rfl rfl rfl ?_
  refine r_aload_n (q := 11) dX12_table0_10 rfl rfl rfl ?_
  refine r_getr (q := 14) (some (1306, 0)) ck12 dX12_table0_11 rfl (k := 6) (by decide) wt1284 rfl (hs.e (by decide)) (hs.r (by decide) (by decide)) ?_
  refine r_iconst (q := 15) (nI 4) dX12_table0_14 rfl (by decide) ?_
  refine r_iload_n (q := 16) dX12_table0_15 rfl rfl rfl ?_
  refine r_iaddN (q := 17) dX12_table0_16 rfl ?_
  refine r_ialdN (q := 18) 3775 (by decide) rfl dX12_table0_17 rfl (hs.e (by decide)) (hs.n rfl (by decide)) (by omega) (by decide) ?_
  refine r_topi (y := nI 3) he ?_
  refine r_icmp_geN (q := 21) (t := 36) (by omega) (by omega) dX12_table0_18 (by decide) rfl (fun h18 => absurd h18 (by omega)) (fun h18 => ?_)
  refine r_iload_n (q := 22) dX12_table0_21 rfl rfl rfl ?_
  refine r_aload_n (q := 23) dX12_table0_22 rfl rfl rfl ?_
  refine r_getr (q := 26) (some (1306, 0)) ck12 dX12_table0_23 rfl (k := 6) (by decide) wt1284 rfl (hs.e (by decide)) (hs.r (by decide) (by decide)) ?_
  refine r_iconst (q := 27) (nI 3) dX12_table0_26 rfl (by decide) ?_
  refine r_ialdN (q := 28) 3775 (by decide) rfl dX12_table0_27 rfl (hs.e (by decide)) (hs.n rfl (by decide)) (by omega) (by decide) ?_
  refine r_topi (y := nI 1) hw ?_
  refine r_imulN (q := 29) dX12_table0_28 rfl ?_
  refine r_istore_n (q := 30) (L' := [some (zr 12 0), some (zi (nI a)), some (zi (nI 1)), some (zi (nI 0))]) dX12_table0_29 rfl rfl (by decide) rfl ?_
  refine r_iincN (q := 33) (L' := [some (zr 12 0), some (zi (nI a)), some (zi (nI 1)), some (zi (nI 1))]) 1 rfl dX12_table0_30 rfl rfl (by decide) rfl ?_
  refine r_goto (q := 9) dX12_table0_33 (by decide) ?_
  refine r_iload_n (q := 10) dX12_table0_9 rfl rfl rfl ?_
  refine r_aload_n (q := 11) dX12_table0_10 rfl rfl rfl ?_
  refine r_getr (q := 14) (some (1306, 0)) ck12 dX12_table0_11 rfl (k := 6) (by decide) wt1284 rfl (hs.e (by decide)) (hs.r (by decide) (by decide)) ?_
  refine r_iconst (q := 15) (nI 4) dX12_table0_14 rfl (by decide) ?_
  refine r_iload_n (q := 16) dX12_table0_15 rfl rfl rfl ?_
  refine r_iaddN (q := 17) dX12_table0_16 rfl ?_
  refine r_ialdN (q := 18) 3775 (by decide) rfl dX12_table0_17 rfl (hs.e (by decide)) (hs.n rfl (by decide)) (by omega) (by decide) ?_
  refine r_topi (y := nI 3) he ?_
  refine r_icmp_geN (q := 21) (t := 36) (by omega) (by omega) dX12_table0_18 (by decide) rfl (fun h18 => absurd h18 (by omega)) (fun h18 => ?_)
  refine r_iload_n (q := 22) dX12_table0_21 rfl rfl rfl ?_
  refine r_aload_n (q := 23) dX12_table0_22 rfl rfl rfl ?_
  refine r_getr (q := 26) (some (1306, 0)) ck12 dX12_table0_23 rfl (k := 6) (by decide) wt1284 rfl (hs.e (by decide)) (hs.r (by decide) (by decide)) ?_
  refine r_iconst (q := 27) (nI 3) dX12_table0_26 rfl (by decide) ?_
  refine r_ialdN (q := 28) 3775 (by decide) rfl dX12_table0_27 rfl (hs.e (by decide)) (hs.n rfl (by decide)) (by omega) (by decide) ?_
  refine r_topi (y := nI 1) hw ?_
  refine r_imulN (q := 29) dX12_table0_28 rfl ?_
  refine r_istore_n (q := 30) (L' := [some (zr 12 0), some (zi (nI a)), some (zi (nI 1)), some (zi (nI 1))]) dX12_table0_29 rfl rfl (by decide) rfl ?_
  refine r_iincN (q := 33) (L' := [some (zr 12 0), some (zi (nI a)), some (zi (nI 1)), some (zi (nI 2))]) 1 rfl dX12_table0_30 rfl rfl (by decide) rfl ?_
  refine r_goto (q := 9) dX12_table0_33 (by decide) ?_
  refine r_iload_n (q := 10) dX12_table0_9 rfl rfl rfl ?_
  refine r_aload_n (q := 11) dX12_table0_10 rfl rfl rfl ?_
  refine r_getr (q := 14) (some (1306, 0)) ck12 dX12_table0_11 rfl (k := 6) (by decide) wt1284 rfl (hs.e (by decide)) (hs.r (by decide) (by decide)) ?_
  refine r_iconst (q := 15) (nI 4) dX12_table0_14 rfl (by decide) ?_
  refine r_iload_n (q := 16) dX12_table0_15 rfl rfl rfl ?_
  refine r_iaddN (q := 17) dX12_table0_16 rfl ?_
  refine r_ialdN (q := 18) 3775 (by decide) rfl dX12_table0_17 rfl (hs.e (by decide)) (hs.n rfl (by decide)) (by omega) (by decide) ?_
  refine r_topi (y := nI 3) he ?_
  refine r_icmp_geN (q := 21) (t := 36) (by omega) (by omega) dX12_table0_18 (by decide) rfl (fun h18 => absurd h18 (by omega)) (fun h18 => ?_)
  refine r_iload_n (q := 22) dX12_table0_21 rfl rfl rfl ?_
  refine r_aload_n (q := 23) dX12_table0_22 rfl rfl rfl ?_
  refine r_getr (q := 26) (some (1306, 0)) ck12 dX12_table0_23 rfl (k := 6) (by decide) wt1284 rfl (hs.e (by decide)) (hs.r (by decide) (by decide)) ?_
  refine r_iconst (q := 27) (nI 3) dX12_table0_26 rfl (by decide) ?_
  refine r_ialdN (q := 28) 3775 (by decide) rfl dX12_table0_27 rfl (hs.e (by decide)) (hs.n rfl (by decide)) (by omega) (by decide) ?_
  refine r_topi (y := nI 1) hw ?_
  refine r_imulN (q := 29) dX12_table0_28 rfl ?_
  refine r_istore_n (q := 30) (L' := [some (zr 12 0), some (zi (nI a)), some (zi (nI 1)), some (zi (nI 2))]) dX12_table0_29 rfl rfl (by decide) rfl ?_
  refine r_iincN (q := 33) (L' := [some (zr 12 0), some (zi (nI a)), some (zi (nI 1)), some (zi (nI 3))]) 1 rfl dX12_table0_30 rfl rfl (by decide) rfl ?_
  refine r_goto (q := 9) dX12_table0_33 (by decide) ?_
  refine r_iload_n (q := 10) dX12_table0_9 rfl rfl rfl ?_
  refine r_aload_n (q := 11) dX12_table0_10 rfl rfl rfl ?_
  refine r_getr (q := 14) (some (1306, 0)) ck12 dX12_table0_11 rfl (k := 6) (by decide) wt1284 rfl (hs.e (by decide)) (hs.r (by decide) (by decide)) ?_
  refine r_iconst (q := 15) (nI 4) dX12_table0_14 rfl (by decide) ?_
  refine r_iload_n (q := 16) dX12_table0_15 rfl rfl rfl ?_
  refine r_iaddN (q := 17) dX12_table0_16 rfl ?_
  refine r_ialdN (q := 18) 3775 (by decide) rfl dX12_table0_17 rfl (hs.e (by decide)) (hs.n rfl (by decide)) (by omega) (by decide) ?_
  refine r_topi (y := nI 3) he ?_
  refine r_icmp_geN (q := 21) (t := 36) (by omega) (by omega) dX12_table0_18 (by decide) rfl (fun h18 => ?_) (fun h18 => absurd h18 (by omega))
  refine r_iload_n (q := 37) dX12_table0_36 rfl rfl rfl ?_
  refine r_ireturn dX12_table0_37 rfl ?_
  exact ⟨rfl, rfl⟩

set_option maxRecDepth 100000 in
theorem ok_X12_table0_1_4 {S : zS} (hs : Sd S) {a : Nat} (ha : a < 3) (hw : gI S 1306 0 3 = nI 1) (he : gI S 1306 0 (4 + a) = nI 4) : Ok mX12_table0 0 (ent 4 [zr 12 0, zi (nI a)]) [] S (fun r S1 => r = some (zi (nI 1)) ∧ S1 = S) := by
  show Ok mX12_table0 0 [some (zr 12 0), some (zi (nI a)), none, none] [] S _
  refine r_aload_n (q := 1) dX12_table0_0 rfl rfl rfl ?_
  refine r_getr (q := 4) (some (1306, 0)) ck12 dX12_table0_1 rfl (k := 6) (by decide) wt1284 rfl (hs.e (by decide)) (hs.r (by decide) (by decide)) ?_
  refine r_iconst (q := 5) (nI 3) dX12_table0_4 rfl (by decide) ?_
  refine r_ialdN (q := 6) 3775 (by decide) rfl dX12_table0_5 rfl (hs.e (by decide)) (hs.n rfl (by decide)) (by omega) (by decide) ?_
  refine r_topi (y := nI 1) hw ?_
  refine r_istore_n (q := 7) (L' := [some (zr 12 0), some (zi (nI a)), some (zi (nI 1)), none]) dX12_table0_6 rfl rfl (by decide) rfl ?_
  refine r_iconst (q := 8) (nI 0) dX12_table0_7 rfl (by decide) ?_
  refine r_istore_n (q := 9) (L' := [some (zr 12 0), some (zi (nI a)), some (zi (nI 1)), some (zi (nI 0))]) dX12_table0_8 rfl rfl (by decide) rfl ?_
  refine r_iload_n (q := 10) dX12_table0_9 rfl rfl rfl ?_
  refine r_aload_n (q := 11) dX12_table0_10 rfl rfl rfl ?_
  refine r_getr (q := 14) (some (1306, 0)) ck12 dX12_table0_11 rfl (k := 6) (by decide) wt1284 rfl (hs.e (by decide)) (hs.r (by decide) (by decide)) ?_
  refine r_iconst (q := 15) (nI 4) dX12_table0_14 rfl (by decide) ?_
  refine r_iload_n (q := 16) dX12_table0_15 rfl rfl rfl ?_
  refine r_iaddN (q := 17) dX12_table0_16 rfl ?_
  refine r_ialdN (q := 18) 3775 (by decide) rfl dX12_table0_17 rfl (hs.e (by decide)) (hs.n rfl (by decide)) (by omega) (by decide) ?_
  refine r_topi (y := nI 4) he ?_
  refine r_icmp_geN (q := 21) (t := 36) (by omega) (by omega) dX12_table0_18 (by decide) rfl (fun h18 => absurd h18 (by omega)) (fun h18 => ?_)
  refine r_iload_n (q := 22) dX12_table0_21 rfl rfl rfl ?_
  refine r_aload_n (q := 23) dX12_table0_22 rfl rfl rfl ?_
  refine r_getr (q := 26) (some (1306, 0)) ck12 dX12_table0_23 rfl (k := 6) (by decide) wt1284 rfl (hs.e (by decide)) (hs.r (by decide) (by decide)) ?_
  refine r_iconst (q := 27) (nI 3) dX12_table0_26 rfl (by decide) ?_
  refine r_ialdN (q := 28) 3775 (by decide) rfl dX12_table0_27 rfl (hs.e (by decide)) (hs.n rfl (by decide)) (by omega) (by decide) ?_
  refine r_topi (y := nI 1) hw ?_
  refine r_imulN (q := 29) dX12_table0_28 rfl ?_
  refine r_istore_n (q := 30) (L' := [some (zr 12 0), some (zi (nI a)), some (zi (nI 1)), some (zi (nI 0))]) dX12_table0_29 rfl rfl (by decide) rfl ?_
  refine r_iincN (q := 33) (L' := [some (zr 12 0), some (zi (nI a)), some (zi (nI 1)), some (zi (nI 1))]) 1 rfl dX12_table0_30 rfl rfl (by decide) rfl ?_
  refine r_goto (q := 9) dX12_table0_33 (by decide) ?_
  refine r_iload_n (q := 10) dX12_table0_9 rfl rfl rfl ?_
  refine r_aload_n (q := 11) dX12_table0_10 rfl rfl rfl ?_
  refine r_getr (q := 14) (some (1306, 0)) ck12 dX12_table0_11 rfl (k := 6) (by decide) wt1284 rfl (hs.e (by decide)) (hs.r (by decide) (by decide)) ?_
  refine r_iconst (q := 15) (nI 4) dX12_table0_14 rfl (by decide) ?_
  refine r_iload_n (q := 16) dX12_table0_15 rfl rfl rfl ?_
  refine r_iaddN (q := 17) dX12_table0_16 rfl ?_
  refine r_ialdN (q := 18) 3775 (by decide) rfl dX12_table0_17 rfl (hs.e (by decide)) (hs.n rfl (by decide)) (by omega) (by decide) ?_
  refine r_topi (y := nI 4) he ?_
  refine r_icmp_geN (q := 21) (t := 36) (by omega) (by omega) dX12_table0_18 (by decide) rfl (fun h18 => absurd h18 (by omega)) (fun h18 => ?_)
  refine r_iload_n (q := 22) dX12_table0_21 rfl rfl rfl ?_
  refine r_aload_n (q := 23) dX12_table0_22 rfl rfl rfl ?_
  refine r_getr (q := 26) (some (1306, 0)) ck12 dX12_table0_23 rfl (k := 6) (by decide) wt1284 rfl (hs.e (by decide)) (hs.r (by decide) (by decide)) ?_
  refine r_iconst (q := 27) (nI 3) dX12_table0_26 rfl (by decide) ?_
  refine r_ialdN (q := 28) 3775 (by decide) rfl dX12_table0_27 rfl (hs.e (by decide)) (hs.n rfl (by decide)) (by omega) (by decide) ?_
  refine r_topi (y := nI 1) hw ?_
  refine r_imulN (q := 29) dX12_table0_28 rfl ?_
  refine r_istore_n (q := 30) (L' := [some (zr 12 0), some (zi (nI a)), some (zi (nI 1)), some (zi (nI 1))]) dX12_table0_29 rfl rfl (by decide) rfl ?_
  refine r_iincN (q := 33) (L' := [some (zr 12 0), some (zi (nI a)), some (zi (nI 1)), some (zi (nI 2))]) 1 rfl dX12_table0_30 rfl rfl (by decide) rfl ?_
  refine r_goto (q := 9) dX12_table0_33 (by decide) ?_
  refine r_iload_n (q := 10) dX12_table0_9 rfl rfl rfl ?_
  refine r_aload_n (q := 11) dX12_table0_10 rfl rfl rfl ?_
  refine r_getr (q := 14) (some (1306, 0)) ck12 dX12_table0_11 rfl (k := 6) (by decide) wt1284 rfl (hs.e (by decide)) (hs.r (by decide) (by decide)) ?_
  refine r_iconst (q := 15) (nI 4) dX12_table0_14 rfl (by decide) ?_
  refine r_iload_n (q := 16) dX12_table0_15 rfl rfl rfl ?_
  refine r_iaddN (q := 17) dX12_table0_16 rfl ?_
  refine r_ialdN (q := 18) 3775 (by decide) rfl dX12_table0_17 rfl (hs.e (by decide)) (hs.n rfl (by decide)) (by omega) (by decide) ?_
  refine r_topi (y := nI 4) he ?_
  refine r_icmp_geN (q := 21) (t := 36) (by omega) (by omega) dX12_table0_18 (by decide) rfl (fun h18 => absurd h18 (by omega)) (fun h18 => ?_)
  refine r_iload_n (q := 22) dX12_table0_21 rfl rfl rfl ?_
  refine r_aload_n (q := 23) dX12_table0_22 rfl rfl rfl ?_
  refine r_getr (q := 26) (some (1306, 0)) ck12 dX12_table0_23 rfl (k := 6) (by decide) wt1284 rfl (hs.e (by decide)) (hs.r (by decide) (by decide)) ?_
  refine r_iconst (q := 27) (nI 3) dX12_table0_26 rfl (by decide) ?_
  refine r_ialdN (q := 28) 3775 (by decide) rfl dX12_table0_27 rfl (hs.e (by decide)) (hs.n rfl (by decide)) (by omega) (by decide) ?_
  refine r_topi (y := nI 1) hw ?_
  refine r_imulN (q := 29) dX12_table0_28 rfl ?_
  refine r_istore_n (q := 30) (L' := [some (zr 12 0), some (zi (nI a)), some (zi (nI 1)), some (zi (nI 2))]) dX12_table0_29 rfl rfl (by decide) rfl ?_
  refine r_iincN (q := 33) (L' := [some (zr 12 0), some (zi (nI a)), some (zi (nI 1)), some (zi (nI 3))]) 1 rfl dX12_table0_30 rfl rfl (by decide) rfl ?_
  refine r_goto (q := 9) dX12_table0_33 (by decide) ?_
  refine r_iload_n (q := 10) dX12_table0_9 rfl rfl rfl ?_
  refine r_aload_n (q := 11) dX12_table0_10 rfl rfl rfl ?_
  refine r_getr (q := 14) (some (1306, 0)) ck12 dX12_table0_11 rfl (k := 6) (by decide) wt1284 rfl (hs.e (by decide)) (hs.r (by decide) (by decide)) ?_
  refine r_iconst (q := 15) (nI 4) dX12_table0_14 rfl (by decide) ?_
  refine r_iload_n (q := 16) dX12_table0_15 rfl rfl rfl ?_
  refine r_iaddN (q := 17) dX12_table0_16 rfl ?_
  refine r_ialdN (q := 18) 3775 (by decide) rfl dX12_table0_17 rfl (hs.e (by decide)) (hs.n rfl (by decide)) (by omega) (by decide) ?_
  refine r_topi (y := nI 4) he ?_
  refine r_icmp_geN (q := 21) (t := 36) (by omega) (by omega) dX12_table0_18 (by decide) rfl (fun h18 => absurd h18 (by omega)) (fun h18 => ?_)
  refine r_iload_n (q := 22) dX12_table0_21 rfl rfl rfl ?_
  refine r_aload_n (q := 23) dX12_table0_22 rfl rfl rfl ?_
  refine r_getr (q := 26) (some (1306, 0)) ck12 dX12_table0_23 rfl (k := 6) (by decide) wt1284 rfl (hs.e (by decide)) (hs.r (by decide) (by decide)) ?_
  refine r_iconst (q := 27) (nI 3) dX12_table0_26 rfl (by decide) ?_
  refine r_ialdN (q := 28) 3775 (by decide) rfl dX12_table0_27 rfl (hs.e (by decide)) (hs.n rfl (by decide)) (by omega) (by decide) ?_
  refine r_topi (y := nI 1) hw ?_
  refine r_imulN (q := 29) dX12_table0_28 rfl ?_
  refine r_istore_n (q := 30) (L' := [some (zr 12 0), some (zi (nI a)), some (zi (nI 1)), some (zi (nI 3))]) dX12_table0_29 rfl rfl (by decide) rfl ?_
  refine r_iincN (q := 33) (L' := [some (zr 12 0), some (zi (nI a)), some (zi (nI 1)), some (zi (nI 4))]) 1 rfl dX12_table0_30 rfl rfl (by decide) rfl ?_
  refine r_goto (q := 9) dX12_table0_33 (by decide) ?_
  refine r_iload_n (q := 10) dX12_table0_9 rfl rfl rfl ?_
  refine r_aload_n (q := 11) dX12_table0_10 rfl rfl rfl ?_
  refine r_getr (q := 14) (some (1306, 0)) ck12 dX12_table0_11 rfl (k := 6) (by decide) wt1284 rfl (hs.e (by decide)) (hs.r (by decide) (by decide)) ?_
  refine r_iconst (q := 15) (nI 4) dX12_table0_14 rfl (by decide) ?_
  refine r_iload_n (q := 16) dX12_table0_15 rfl rfl rfl ?_
  refine r_iaddN (q := 17) dX12_table0_16 rfl ?_
  refine r_ialdN (q := 18) 3775 (by decide) rfl dX12_table0_17 rfl (hs.e (by decide)) (hs.n rfl (by decide)) (by omega) (by decide) ?_
  refine r_topi (y := nI 4) he ?_
  refine r_icmp_geN (q := 21) (t := 36) (by omega) (by omega) dX12_table0_18 (by decide) rfl (fun h18 => ?_) (fun h18 => absurd h18 (by omega))
  refine r_iload_n (q := 37) dX12_table0_36 rfl rfl rfl ?_
  refine r_ireturn dX12_table0_37 rfl ?_
  exact ⟨rfl, rfl⟩

set_option maxRecDepth 100000 in
theorem ok_X12_table0_2_2 {S : zS} (hs : Sd S) {a : Nat} (ha : a < 3) (hw : gI S 1306 0 3 = nI 2) (he : gI S 1306 0 (4 + a) = nI 2) : Ok mX12_table0 0 (ent 4 [zr 12 0, zi (nI a)]) [] S (fun r S1 => r = some (zi (nI 8)) ∧ S1 = S) := by
  show Ok mX12_table0 0 [some (zr 12 0), some (zi (nI a)), none, none] [] S _
  refine r_aload_n (q := 1) dX12_table0_0 rfl rfl rfl ?_
  refine r_getr (q := 4) (some (1306, 0)) ck12 dX12_table0_1 rfl (k := 6) (by decide) wt1284 rfl (hs.e (by decide)) (hs.r (by decide) (by decide)) ?_
  refine r_iconst (q := 5) (nI 3) dX12_table0_4 rfl (by decide) ?_
  refine r_ialdN (q := 6) 3775 (by decide) rfl dX12_table0_5 rfl (hs.e (by decide)) (hs.n rfl (by decide)) (by omega) (by decide) ?_
  refine r_topi (y := nI 2) hw ?_
  refine r_istore_n (q := 7) (L' := [some (zr 12 0), some (zi (nI a)), some (zi (nI 2)), none]) dX12_table0_6 rfl rfl (by decide) rfl ?_
  refine r_iconst (q := 8) (nI 0) dX12_table0_7 rfl (by decide) ?_
  refine r_istore_n (q := 9) (L' := [some (zr 12 0), some (zi (nI a)), some (zi (nI 2)), some (zi (nI 0))]) dX12_table0_8 rfl rfl (by decide) rfl ?_
  refine r_iload_n (q := 10) dX12_table0_9 rfl rfl rfl ?_
  refine r_aload_n (q := 11) dX12_table0_10 rfl rfl rfl ?_
  refine r_getr (q := 14) (some (1306, 0)) ck12 dX12_table0_11 rfl (k := 6) (by decide) wt1284 rfl (hs.e (by decide)) (hs.r (by decide) (by decide)) ?_
  refine r_iconst (q := 15) (nI 4) dX12_table0_14 rfl (by decide) ?_
  refine r_iload_n (q := 16) dX12_table0_15 rfl rfl rfl ?_
  refine r_iaddN (q := 17) dX12_table0_16 rfl ?_
  refine r_ialdN (q := 18) 3775 (by decide) rfl dX12_table0_17 rfl (hs.e (by decide)) (hs.n rfl (by decide)) (by omega) (by decide) ?_
  refine r_topi (y := nI 2) he ?_
  refine r_icmp_geN (q := 21) (t := 36) (by omega) (by omega) dX12_table0_18 (by decide) rfl (fun h18 => absurd h18 (by omega)) (fun h18 => ?_)
  refine r_iload_n (q := 22) dX12_table0_21 rfl rfl rfl ?_
  refine r_aload_n (q := 23) dX12_table0_22 rfl rfl rfl ?_
  refine r_getr (q := 26) (some (1306, 0)) ck12 dX12_table0_23 rfl (k := 6) (by decide) wt1284 rfl (hs.e (by decide)) (hs.r (by decide) (by decide)) ?_
  refine r_iconst (q := 27) (nI 3) dX12_table0_26 rfl (by decide) ?_
  refine r_ialdN (q := 28) 3775 (by decide) rfl dX12_table0_27 rfl (hs.e (by decide)) (hs.n rfl (by decide)) (by omega) (by decide) ?_
  refine r_topi (y := nI 2) hw ?_
  refine r_imulN (q := 29) dX12_table0_28 rfl ?_
  refine r_istore_n (q := 30) (L' := [some (zr 12 0), some (zi (nI a)), some (zi (nI 4)), some (zi (nI 0))]) dX12_table0_29 rfl rfl (by decide) rfl ?_
  refine r_iincN (q := 33) (L' := [some (zr 12 0), some (zi (nI a)), some (zi (nI 4)), some (zi (nI 1))]) 1 rfl dX12_table0_30 rfl rfl (by decide) rfl ?_
  refine r_goto (q := 9) dX12_table0_33 (by decide) ?_
  refine r_iload_n (q := 10) dX12_table0_9 rfl rfl rfl ?_
  refine r_aload_n (q := 11) dX12_table0_10 rfl rfl rfl ?_
  refine r_getr (q := 14) (some (1306, 0)) ck12 dX12_table0_11 rfl (k := 6) (by decide) wt1284 rfl (hs.e (by decide)) (hs.r (by decide) (by decide)) ?_
  refine r_iconst (q := 15) (nI 4) dX12_table0_14 rfl (by decide) ?_
  refine r_iload_n (q := 16) dX12_table0_15 rfl rfl rfl ?_
  refine r_iaddN (q := 17) dX12_table0_16 rfl ?_
  refine r_ialdN (q := 18) 3775 (by decide) rfl dX12_table0_17 rfl (hs.e (by decide)) (hs.n rfl (by decide)) (by omega) (by decide) ?_
  refine r_topi (y := nI 2) he ?_
  refine r_icmp_geN (q := 21) (t := 36) (by omega) (by omega) dX12_table0_18 (by decide) rfl (fun h18 => absurd h18 (by omega)) (fun h18 => ?_)
  refine r_iload_n (q := 22) dX12_table0_21 rfl rfl rfl ?_
  refine r_aload_n (q := 23) dX12_table0_22 rfl rfl rfl ?_
  refine r_getr (q := 26) (some (1306, 0)) ck12 dX12_table0_23 rfl (k := 6) (by decide) wt1284 rfl (hs.e (by decide)) (hs.r (by decide) (by decide)) ?_
  refine r_iconst (q := 27) (nI 3) dX12_table0_26 rfl (by decide) ?_
  refine r_ialdN (q := 28) 3775 (by decide) rfl dX12_table0_27 rfl (hs.e (by decide)) (hs.n rfl (by decide)) (by omega) (by decide) ?_
  refine r_topi (y := nI 2) hw ?_
  refine r_imulN (q := 29) dX12_table0_28 rfl ?_
  refine r_istore_n (q := 30) (L' := [some (zr 12 0), some (zi (nI a)), some (zi (nI 8)), some (zi (nI 1))]) dX12_table0_29 rfl rfl (by decide) rfl ?_
  refine r_iincN (q := 33) (L' := [some (zr 12 0), some (zi (nI a)), some (zi (nI 8)), some (zi (nI 2))]) 1 rfl dX12_table0_30 rfl rfl (by decide) rfl ?_
  refine r_goto (q := 9) dX12_table0_33 (by decide) ?_
  refine r_iload_n (q := 10) dX12_table0_9 rfl rfl rfl ?_
  refine r_aload_n (q := 11) dX12_table0_10 rfl rfl rfl ?_
  refine r_getr (q := 14) (some (1306, 0)) ck12 dX12_table0_11 rfl (k := 6) (by decide) wt1284 rfl (hs.e (by decide)) (hs.r (by decide) (by decide)) ?_
  refine r_iconst (q := 15) (nI 4) dX12_table0_14 rfl (by decide) ?_
  refine r_iload_n (q := 16) dX12_table0_15 rfl rfl rfl ?_
  refine r_iaddN (q := 17) dX12_table0_16 rfl ?_
  refine r_ialdN (q := 18) 3775 (by decide) rfl dX12_table0_17 rfl (hs.e (by decide)) (hs.n rfl (by decide)) (by omega) (by decide) ?_
  refine r_topi (y := nI 2) he ?_
  refine r_icmp_geN (q := 21) (t := 36) (by omega) (by omega) dX12_table0_18 (by decide) rfl (fun h18 => ?_) (fun h18 => absurd h18 (by omega))
  refine r_iload_n (q := 37) dX12_table0_36 rfl rfl rfl ?_
  refine r_ireturn dX12_table0_37 rfl ?_
  exact ⟨rfl, rfl⟩

set_option maxRecDepth 100000 in
theorem ok_X12_table0_2_3 {S : zS} (hs : Sd S) {a : Nat} (ha : a < 3) (hw : gI S 1306 0 3 = nI 2) (he : gI S 1306 0 (4 + a) = nI 3) : Ok mX12_table0 0 (ent 4 [zr 12 0, zi (nI a)]) [] S (fun r S1 => r = some (zi (nI 16)) ∧ S1 = S) := by
  show Ok mX12_table0 0 [some (zr 12 0), some (zi (nI a)), none, none] [] S _
  refine r_aload_n (q := 1) dX12_table0_0 rfl rfl rfl ?_
  refine r_getr (q := 4) (some (1306, 0)) ck12 dX12_table0_1 rfl (k := 6) (by decide) wt1284 rfl (hs.e (by decide)) (hs.r (by decide) (by decide)) ?_
  refine r_iconst (q := 5) (nI 3) dX12_table0_4 rfl (by decide) ?_
  refine r_ialdN (q := 6) 3775 (by decide) rfl dX12_table0_5 rfl (hs.e (by decide)) (hs.n rfl (by decide)) (by omega) (by decide) ?_
  refine r_topi (y := nI 2) hw ?_
  refine r_istore_n (q := 7) (L' := [some (zr 12 0), some (zi (nI a)), some (zi (nI 2)), none]) dX12_table0_6 rfl rfl (by decide) rfl ?_
  refine r_iconst (q := 8) (nI 0) dX12_table0_7 rfl (by decide) ?_
  refine r_istore_n (q := 9) (L' := [some (zr 12 0), some (zi (nI a)), some (zi (nI 2)), some (zi (nI 0))]) dX12_table0_8 rfl rfl (by decide) rfl ?_
  refine r_iload_n (q := 10) dX12_table0_9 rfl rfl rfl ?_
  refine r_aload_n (q := 11) dX12_table0_10 rfl rfl rfl ?_
  refine r_getr (q := 14) (some (1306, 0)) ck12 dX12_table0_11 rfl (k := 6) (by decide) wt1284 rfl (hs.e (by decide)) (hs.r (by decide) (by decide)) ?_
  refine r_iconst (q := 15) (nI 4) dX12_table0_14 rfl (by decide) ?_
  refine r_iload_n (q := 16) dX12_table0_15 rfl rfl rfl ?_
  refine r_iaddN (q := 17) dX12_table0_16 rfl ?_
  refine r_ialdN (q := 18) 3775 (by decide) rfl dX12_table0_17 rfl (hs.e (by decide)) (hs.n rfl (by decide)) (by omega) (by decide) ?_
  refine r_topi (y := nI 3) he ?_
  refine r_icmp_geN (q := 21) (t := 36) (by omega) (by omega) dX12_table0_18 (by decide) rfl (fun h18 => absurd h18 (by omega)) (fun h18 => ?_)
  refine r_iload_n (q := 22) dX12_table0_21 rfl rfl rfl ?_
  refine r_aload_n (q := 23) dX12_table0_22 rfl rfl rfl ?_
  refine r_getr (q := 26) (some (1306, 0)) ck12 dX12_table0_23 rfl (k := 6) (by decide) wt1284 rfl (hs.e (by decide)) (hs.r (by decide) (by decide)) ?_
  refine r_iconst (q := 27) (nI 3) dX12_table0_26 rfl (by decide) ?_
  refine r_ialdN (q := 28) 3775 (by decide) rfl dX12_table0_27 rfl (hs.e (by decide)) (hs.n rfl (by decide)) (by omega) (by decide) ?_
  refine r_topi (y := nI 2) hw ?_
  refine r_imulN (q := 29) dX12_table0_28 rfl ?_
  refine r_istore_n (q := 30) (L' := [some (zr 12 0), some (zi (nI a)), some (zi (nI 4)), some (zi (nI 0))]) dX12_table0_29 rfl rfl (by decide) rfl ?_
  refine r_iincN (q := 33) (L' := [some (zr 12 0), some (zi (nI a)), some (zi (nI 4)), some (zi (nI 1))]) 1 rfl dX12_table0_30 rfl rfl (by decide) rfl ?_
  refine r_goto (q := 9) dX12_table0_33 (by decide) ?_
  refine r_iload_n (q := 10) dX12_table0_9 rfl rfl rfl ?_
  refine r_aload_n (q := 11) dX12_table0_10 rfl rfl rfl ?_
  refine r_getr (q := 14) (some (1306, 0)) ck12 dX12_table0_11 rfl (k := 6) (by decide) wt1284 rfl (hs.e (by decide)) (hs.r (by decide) (by decide)) ?_
  refine r_iconst (q := 15) (nI 4) dX12_table0_14 rfl (by decide) ?_
  refine r_iload_n (q := 16) dX12_table0_15 rfl rfl rfl ?_
  refine r_iaddN (q := 17) dX12_table0_16 rfl ?_
  refine r_ialdN (q := 18) 3775 (by decide) rfl dX12_table0_17 rfl (hs.e (by decide)) (hs.n rfl (by decide)) (by omega) (by decide) ?_
  refine r_topi (y := nI 3) he ?_
  refine r_icmp_geN (q := 21) (t := 36) (by omega) (by omega) dX12_table0_18 (by decide) rfl (fun h18 => absurd h18 (by omega)) (fun h18 => ?_)
  refine r_iload_n (q := 22) dX12_table0_21 rfl rfl rfl ?_
  refine r_aload_n (q := 23) dX12_table0_22 rfl rfl rfl ?_
  refine r_getr (q := 26) (some (1306, 0)) ck12 dX12_table0_23 rfl (k := 6) (by decide) wt1284 rfl (hs.e (by decide)) (hs.r (by decide) (by decide)) ?_
  refine r_iconst (q := 27) (nI 3) dX12_table0_26 rfl (by decide) ?_
  refine r_ialdN (q := 28) 3775 (by decide) rfl dX12_table0_27 rfl (hs.e (by decide)) (hs.n rfl (by decide)) (by omega) (by decide) ?_
  refine r_topi (y := nI 2) hw ?_
  refine r_imulN (q := 29) dX12_table0_28 rfl ?_
  refine r_istore_n (q := 30) (L' := [some (zr 12 0), some (zi (nI a)), some (zi (nI 8)), some (zi (nI 1))]) dX12_table0_29 rfl rfl (by decide) rfl ?_
  refine r_iincN (q := 33) (L' := [some (zr 12 0), some (zi (nI a)), some (zi (nI 8)), some (zi (nI 2))]) 1 rfl dX12_table0_30 rfl rfl (by decide) rfl ?_
  refine r_goto (q := 9) dX12_table0_33 (by decide) ?_
  refine r_iload_n (q := 10) dX12_table0_9 rfl rfl rfl ?_
  refine r_aload_n (q := 11) dX12_table0_10 rfl rfl rfl ?_
  refine r_getr (q := 14) (some (1306, 0)) ck12 dX12_table0_11 rfl (k := 6) (by decide) wt1284 rfl (hs.e (by decide)) (hs.r (by decide) (by decide)) ?_
  refine r_iconst (q := 15) (nI 4) dX12_table0_14 rfl (by decide) ?_
  refine r_iload_n (q := 16) dX12_table0_15 rfl rfl rfl ?_
  refine r_iaddN (q := 17) dX12_table0_16 rfl ?_
  refine r_ialdN (q := 18) 3775 (by decide) rfl dX12_table0_17 rfl (hs.e (by decide)) (hs.n rfl (by decide)) (by omega) (by decide) ?_
  refine r_topi (y := nI 3) he ?_
  refine r_icmp_geN (q := 21) (t := 36) (by omega) (by omega) dX12_table0_18 (by decide) rfl (fun h18 => absurd h18 (by omega)) (fun h18 => ?_)
  refine r_iload_n (q := 22) dX12_table0_21 rfl rfl rfl ?_
  refine r_aload_n (q := 23) dX12_table0_22 rfl rfl rfl ?_
  refine r_getr (q := 26) (some (1306, 0)) ck12 dX12_table0_23 rfl (k := 6) (by decide) wt1284 rfl (hs.e (by decide)) (hs.r (by decide) (by decide)) ?_
  refine r_iconst (q := 27) (nI 3) dX12_table0_26 rfl (by decide) ?_
  refine r_ialdN (q := 28) 3775 (by decide) rfl dX12_table0_27 rfl (hs.e (by decide)) (hs.n rfl (by decide)) (by omega) (by decide) ?_
  refine r_topi (y := nI 2) hw ?_
  refine r_imulN (q := 29) dX12_table0_28 rfl ?_
  refine r_istore_n (q := 30) (L' := [some (zr 12 0), some (zi (nI a)), some (zi (nI 16)), some (zi (nI 2))]) dX12_table0_29 rfl rfl (by decide) rfl ?_
  refine r_iincN (q := 33) (L' := [some (zr 12 0), some (zi (nI a)), some (zi (nI 16)), some (zi (nI 3))]) 1 rfl dX12_table0_30 rfl rfl (by decide) rfl ?_
  refine r_goto (q := 9) dX12_table0_33 (by decide) ?_
  refine r_iload_n (q := 10) dX12_table0_9 rfl rfl rfl ?_
  refine r_aload_n (q := 11) dX12_table0_10 rfl rfl rfl ?_
  refine r_getr (q := 14) (some (1306, 0)) ck12 dX12_table0_11 rfl (k := 6) (by decide) wt1284 rfl (hs.e (by decide)) (hs.r (by decide) (by decide)) ?_
  refine r_iconst (q := 15) (nI 4) dX12_table0_14 rfl (by decide) ?_
  refine r_iload_n (q := 16) dX12_table0_15 rfl rfl rfl ?_
  refine r_iaddN (q := 17) dX12_table0_16 rfl ?_
  refine r_ialdN (q := 18) 3775 (by decide) rfl dX12_table0_17 rfl (hs.e (by decide)) (hs.n rfl (by decide)) (by omega) (by decide) ?_
  refine r_topi (y := nI 3) he ?_
  refine r_icmp_geN (q := 21) (t := 36) (by omega) (by omega) dX12_table0_18 (by decide) rfl (fun h18 => ?_) (fun h18 => absurd h18 (by omega))
  refine r_iload_n (q := 37) dX12_table0_36 rfl rfl rfl ?_
  refine r_ireturn dX12_table0_37 rfl ?_
  exact ⟨rfl, rfl⟩

set_option maxRecDepth 100000 in
theorem ok_X12_table0_2_4 {S : zS} (hs : Sd S) {a : Nat} (ha : a < 3) (hw : gI S 1306 0 3 = nI 2) (he : gI S 1306 0 (4 + a) = nI 4) : Ok mX12_table0 0 (ent 4 [zr 12 0, zi (nI a)]) [] S (fun r S1 => r = some (zi (nI 32)) ∧ S1 = S) := by
  show Ok mX12_table0 0 [some (zr 12 0), some (zi (nI a)), none, none] [] S _
  refine r_aload_n (q := 1) dX12_table0_0 rfl rfl rfl ?_
  refine r_getr (q := 4) (some (1306, 0)) ck12 dX12_table0_1 rfl (k := 6) (by decide) wt1284 rfl (hs.e (by decide)) (hs.r (by decide) (by decide)) ?_
  refine r_iconst (q := 5) (nI 3) dX12_table0_4 rfl (by decide) ?_
  refine r_ialdN (q := 6) 3775 (by decide) rfl dX12_table0_5 rfl (hs.e (by decide)) (hs.n rfl (by decide)) (by omega) (by decide) ?_
  refine r_topi (y := nI 2) hw ?_
  refine r_istore_n (q := 7) (L' := [some (zr 12 0), some (zi (nI a)), some (zi (nI 2)), none]) dX12_table0_6 rfl rfl (by decide) rfl ?_
  refine r_iconst (q := 8) (nI 0) dX12_table0_7 rfl (by decide) ?_
  refine r_istore_n (q := 9) (L' := [some (zr 12 0), some (zi (nI a)), some (zi (nI 2)), some (zi (nI 0))]) dX12_table0_8 rfl rfl (by decide) rfl ?_
  refine r_iload_n (q := 10) dX12_table0_9 rfl rfl rfl ?_
  refine r_aload_n (q := 11) dX12_table0_10 rfl rfl rfl ?_
  refine r_getr (q := 14) (some (1306, 0)) ck12 dX12_table0_11 rfl (k := 6) (by decide) wt1284 rfl (hs.e (by decide)) (hs.r (by decide) (by decide)) ?_
  refine r_iconst (q := 15) (nI 4) dX12_table0_14 rfl (by decide) ?_
  refine r_iload_n (q := 16) dX12_table0_15 rfl rfl rfl ?_
  refine r_iaddN (q := 17) dX12_table0_16 rfl ?_
  refine r_ialdN (q := 18) 3775 (by decide) rfl dX12_table0_17 rfl (hs.e (by decide)) (hs.n rfl (by decide)) (by omega) (by decide) ?_
  refine r_topi (y := nI 4) he ?_
  refine r_icmp_geN (q := 21) (t := 36) (by omega) (by omega) dX12_table0_18 (by decide) rfl (fun h18 => absurd h18 (by omega)) (fun h18 => ?_)
  refine r_iload_n (q := 22) dX12_table0_21 rfl rfl rfl ?_
  refine r_aload_n (q := 23) dX12_table0_22 rfl rfl rfl ?_
  refine r_getr (q := 26) (some (1306, 0)) ck12 dX12_table0_23 rfl (k := 6) (by decide) wt1284 rfl (hs.e (by decide)) (hs.r (by decide) (by decide)) ?_
  refine r_iconst (q := 27) (nI 3) dX12_table0_26 rfl (by decide) ?_
  refine r_ialdN (q := 28) 3775 (by decide) rfl dX12_table0_27 rfl (hs.e (by decide)) (hs.n rfl (by decide)) (by omega) (by decide) ?_
  refine r_topi (y := nI 2) hw ?_
  refine r_imulN (q := 29) dX12_table0_28 rfl ?_
  refine r_istore_n (q := 30) (L' := [some (zr 12 0), some (zi (nI a)), some (zi (nI 4)), some (zi (nI 0))]) dX12_table0_29 rfl rfl (by decide) rfl ?_
  refine r_iincN (q := 33) (L' := [some (zr 12 0), some (zi (nI a)), some (zi (nI 4)), some (zi (nI 1))]) 1 rfl dX12_table0_30 rfl rfl (by decide) rfl ?_
  refine r_goto (q := 9) dX12_table0_33 (by decide) ?_
  refine r_iload_n (q := 10) dX12_table0_9 rfl rfl rfl ?_
  refine r_aload_n (q := 11) dX12_table0_10 rfl rfl rfl ?_
  refine r_getr (q := 14) (some (1306, 0)) ck12 dX12_table0_11 rfl (k := 6) (by decide) wt1284 rfl (hs.e (by decide)) (hs.r (by decide) (by decide)) ?_
  refine r_iconst (q := 15) (nI 4) dX12_table0_14 rfl (by decide) ?_
  refine r_iload_n (q := 16) dX12_table0_15 rfl rfl rfl ?_
  refine r_iaddN (q := 17) dX12_table0_16 rfl ?_
  refine r_ialdN (q := 18) 3775 (by decide) rfl dX12_table0_17 rfl (hs.e (by decide)) (hs.n rfl (by decide)) (by omega) (by decide) ?_
  refine r_topi (y := nI 4) he ?_
  refine r_icmp_geN (q := 21) (t := 36) (by omega) (by omega) dX12_table0_18 (by decide) rfl (fun h18 => absurd h18 (by omega)) (fun h18 => ?_)
  refine r_iload_n (q := 22) dX12_table0_21 rfl rfl rfl ?_
  refine r_aload_n (q := 23) dX12_table0_22 rfl rfl rfl ?_
  refine r_getr (q := 26) (some (1306, 0)) ck12 dX12_table0_23 rfl (k := 6) (by decide) wt1284 rfl (hs.e (by decide)) (hs.r (by decide) (by decide)) ?_
  refine r_iconst (q := 27) (nI 3) dX12_table0_26 rfl (by decide) ?_
  refine r_ialdN (q := 28) 3775 (by decide) rfl dX12_table0_27 rfl (hs.e (by decide)) (hs.n rfl (by decide)) (by omega) (by decide) ?_
  refine r_topi (y := nI 2) hw ?_
  refine r_imulN (q := 29) dX12_table0_28 rfl ?_
  refine r_istore_n (q := 30) (L' := [some (zr 12 0), some (zi (nI a)), some (zi (nI 8)), some (zi (nI 1))]) dX12_table0_29 rfl rfl (by decide) rfl ?_
  refine r_iincN (q := 33) (L' := [some (zr 12 0), some (zi (nI a)), some (zi (nI 8)), some (zi (nI 2))]) 1 rfl dX12_table0_30 rfl rfl (by decide) rfl ?_
  refine r_goto (q := 9) dX12_table0_33 (by decide) ?_
  refine r_iload_n (q := 10) dX12_table0_9 rfl rfl rfl ?_
  refine r_aload_n (q := 11) dX12_table0_10 rfl rfl rfl ?_
  refine r_getr (q := 14) (some (1306, 0)) ck12 dX12_table0_11 rfl (k := 6) (by decide) wt1284 rfl (hs.e (by decide)) (hs.r (by decide) (by decide)) ?_
  refine r_iconst (q := 15) (nI 4) dX12_table0_14 rfl (by decide) ?_
  refine r_iload_n (q := 16) dX12_table0_15 rfl rfl rfl ?_
  refine r_iaddN (q := 17) dX12_table0_16 rfl ?_
  refine r_ialdN (q := 18) 3775 (by decide) rfl dX12_table0_17 rfl (hs.e (by decide)) (hs.n rfl (by decide)) (by omega) (by decide) ?_
  refine r_topi (y := nI 4) he ?_
  refine r_icmp_geN (q := 21) (t := 36) (by omega) (by omega) dX12_table0_18 (by decide) rfl (fun h18 => absurd h18 (by omega)) (fun h18 => ?_)
  refine r_iload_n (q := 22) dX12_table0_21 rfl rfl rfl ?_
  refine r_aload_n (q := 23) dX12_table0_22 rfl rfl rfl ?_
  refine r_getr (q := 26) (some (1306, 0)) ck12 dX12_table0_23 rfl (k := 6) (by decide) wt1284 rfl (hs.e (by decide)) (hs.r (by decide) (by decide)) ?_
  refine r_iconst (q := 27) (nI 3) dX12_table0_26 rfl (by decide) ?_
  refine r_ialdN (q := 28) 3775 (by decide) rfl dX12_table0_27 rfl (hs.e (by decide)) (hs.n rfl (by decide)) (by omega) (by decide) ?_
  refine r_topi (y := nI 2) hw ?_
  refine r_imulN (q := 29) dX12_table0_28 rfl ?_
  refine r_istore_n (q := 30) (L' := [some (zr 12 0), some (zi (nI a)), some (zi (nI 16)), some (zi (nI 2))]) dX12_table0_29 rfl rfl (by decide) rfl ?_
  refine r_iincN (q := 33) (L' := [some (zr 12 0), some (zi (nI a)), some (zi (nI 16)), some (zi (nI 3))]) 1 rfl dX12_table0_30 rfl rfl (by decide) rfl ?_
  refine r_goto (q := 9) dX12_table0_33 (by decide) ?_
  refine r_iload_n (q := 10) dX12_table0_9 rfl rfl rfl ?_
  refine r_aload_n (q := 11) dX12_table0_10 rfl rfl rfl ?_
  refine r_getr (q := 14) (some (1306, 0)) ck12 dX12_table0_11 rfl (k := 6) (by decide) wt1284 rfl (hs.e (by decide)) (hs.r (by decide) (by decide)) ?_
  refine r_iconst (q := 15) (nI 4) dX12_table0_14 rfl (by decide) ?_
  refine r_iload_n (q := 16) dX12_table0_15 rfl rfl rfl ?_
  refine r_iaddN (q := 17) dX12_table0_16 rfl ?_
  refine r_ialdN (q := 18) 3775 (by decide) rfl dX12_table0_17 rfl (hs.e (by decide)) (hs.n rfl (by decide)) (by omega) (by decide) ?_
  refine r_topi (y := nI 4) he ?_
  refine r_icmp_geN (q := 21) (t := 36) (by omega) (by omega) dX12_table0_18 (by decide) rfl (fun h18 => absurd h18 (by omega)) (fun h18 => ?_)
  refine r_iload_n (q := 22) dX12_table0_21 rfl rfl rfl ?_
  refine r_aload_n (q := 23) dX12_table0_22 rfl rfl rfl ?_
  refine r_getr (q := 26) (some (1306, 0)) ck12 dX12_table0_23 rfl (k := 6) (by decide) wt1284 rfl (hs.e (by decide)) (hs.r (by decide) (by decide)) ?_
  refine r_iconst (q := 27) (nI 3) dX12_table0_26 rfl (by decide) ?_
  refine r_ialdN (q := 28) 3775 (by decide) rfl dX12_table0_27 rfl (hs.e (by decide)) (hs.n rfl (by decide)) (by omega) (by decide) ?_
  refine r_topi (y := nI 2) hw ?_
  refine r_imulN (q := 29) dX12_table0_28 rfl ?_
  refine r_istore_n (q := 30) (L' := [some (zr 12 0), some (zi (nI a)), some (zi (nI 32)), some (zi (nI 3))]) dX12_table0_29 rfl rfl (by decide) rfl ?_
  refine r_iincN (q := 33) (L' := [some (zr 12 0), some (zi (nI a)), some (zi (nI 32)), some (zi (nI 4))]) 1 rfl dX12_table0_30 rfl rfl (by decide) rfl ?_
  refine r_goto (q := 9) dX12_table0_33 (by decide) ?_
  refine r_iload_n (q := 10) dX12_table0_9 rfl rfl rfl ?_
  refine r_aload_n (q := 11) dX12_table0_10 rfl rfl rfl ?_
  refine r_getr (q := 14) (some (1306, 0)) ck12 dX12_table0_11 rfl (k := 6) (by decide) wt1284 rfl (hs.e (by decide)) (hs.r (by decide) (by decide)) ?_
  refine r_iconst (q := 15) (nI 4) dX12_table0_14 rfl (by decide) ?_
  refine r_iload_n (q := 16) dX12_table0_15 rfl rfl rfl ?_
  refine r_iaddN (q := 17) dX12_table0_16 rfl ?_
  refine r_ialdN (q := 18) 3775 (by decide) rfl dX12_table0_17 rfl (hs.e (by decide)) (hs.n rfl (by decide)) (by omega) (by decide) ?_
  refine r_topi (y := nI 4) he ?_
  refine r_icmp_geN (q := 21) (t := 36) (by omega) (by omega) dX12_table0_18 (by decide) rfl (fun h18 => ?_) (fun h18 => absurd h18 (by omega))
  refine r_iload_n (q := 37) dX12_table0_36 rfl rfl rfl ?_
  refine r_ireturn dX12_table0_37 rfl ?_
  exact ⟨rfl, rfl⟩

set_option maxRecDepth 100000 in
theorem ok_X12_table0_3_2 {S : zS} (hs : Sd S) {a : Nat} (ha : a < 3) (hw : gI S 1306 0 3 = nI 3) (he : gI S 1306 0 (4 + a) = nI 2) : Ok mX12_table0 0 (ent 4 [zr 12 0, zi (nI a)]) [] S (fun r S1 => r = some (zi (nI 27)) ∧ S1 = S) := by
  show Ok mX12_table0 0 [some (zr 12 0), some (zi (nI a)), none, none] [] S _
  refine r_aload_n (q := 1) dX12_table0_0 rfl rfl rfl ?_
  refine r_getr (q := 4) (some (1306, 0)) ck12 dX12_table0_1 rfl (k := 6) (by decide) wt1284 rfl (hs.e (by decide)) (hs.r (by decide) (by decide)) ?_
  refine r_iconst (q := 5) (nI 3) dX12_table0_4 rfl (by decide) ?_
  refine r_ialdN (q := 6) 3775 (by decide) rfl dX12_table0_5 rfl (hs.e (by decide)) (hs.n rfl (by decide)) (by omega) (by decide) ?_
  refine r_topi (y := nI 3) hw ?_
  refine r_istore_n (q := 7) (L' := [some (zr 12 0), some (zi (nI a)), some (zi (nI 3)), none]) dX12_table0_6 rfl rfl (by decide) rfl ?_
  refine r_iconst (q := 8) (nI 0) dX12_table0_7 rfl (by decide) ?_
  refine r_istore_n (q := 9) (L' := [some (zr 12 0), some (zi (nI a)), some (zi (nI 3)), some (zi (nI 0))]) dX12_table0_8 rfl rfl (by decide) rfl ?_
  refine r_iload_n (q := 10) dX12_table0_9 rfl rfl rfl ?_
  refine r_aload_n (q := 11) dX12_table0_10 rfl rfl rfl ?_
  refine r_getr (q := 14) (some (1306, 0)) ck12 dX12_table0_11 rfl (k := 6) (by decide) wt1284 rfl (hs.e (by decide)) (hs.r (by decide) (by decide)) ?_
  refine r_iconst (q := 15) (nI 4) dX12_table0_14 rfl (by decide) ?_
  refine r_iload_n (q := 16) dX12_table0_15 rfl rfl rfl ?_
  refine r_iaddN (q := 17) dX12_table0_16 rfl ?_
  refine r_ialdN (q := 18) 3775 (by decide) rfl dX12_table0_17 rfl (hs.e (by decide)) (hs.n rfl (by decide)) (by omega) (by decide) ?_
  refine r_topi (y := nI 2) he ?_
  refine r_icmp_geN (q := 21) (t := 36) (by omega) (by omega) dX12_table0_18 (by decide) rfl (fun h18 => absurd h18 (by omega)) (fun h18 => ?_)
  refine r_iload_n (q := 22) dX12_table0_21 rfl rfl rfl ?_
  refine r_aload_n (q := 23) dX12_table0_22 rfl rfl rfl ?_
  refine r_getr (q := 26) (some (1306, 0)) ck12 dX12_table0_23 rfl (k := 6) (by decide) wt1284 rfl (hs.e (by decide)) (hs.r (by decide) (by decide)) ?_
  refine r_iconst (q := 27) (nI 3) dX12_table0_26 rfl (by decide) ?_
  refine r_ialdN (q := 28) 3775 (by decide) rfl dX12_table0_27 rfl (hs.e (by decide)) (hs.n rfl (by decide)) (by omega) (by decide) ?_
  refine r_topi (y := nI 3) hw ?_
  refine r_imulN (q := 29) dX12_table0_28 rfl ?_
  refine r_istore_n (q := 30) (L' := [some (zr 12 0), some (zi (nI a)), some (zi (nI 9)), some (zi (nI 0))]) dX12_table0_29 rfl rfl (by decide) rfl ?_
  refine r_iincN (q := 33) (L' := [some (zr 12 0), some (zi (nI a)), some (zi (nI 9)), some (zi (nI 1))]) 1 rfl dX12_table0_30 rfl rfl (by decide) rfl ?_
  refine r_goto (q := 9) dX12_table0_33 (by decide) ?_
  refine r_iload_n (q := 10) dX12_table0_9 rfl rfl rfl ?_
  refine r_aload_n (q := 11) dX12_table0_10 rfl rfl rfl ?_
  refine r_getr (q := 14) (some (1306, 0)) ck12 dX12_table0_11 rfl (k := 6) (by decide) wt1284 rfl (hs.e (by decide)) (hs.r (by decide) (by decide)) ?_
  refine r_iconst (q := 15) (nI 4) dX12_table0_14 rfl (by decide) ?_
  refine r_iload_n (q := 16) dX12_table0_15 rfl rfl rfl ?_
  refine r_iaddN (q := 17) dX12_table0_16 rfl ?_
  refine r_ialdN (q := 18) 3775 (by decide) rfl dX12_table0_17 rfl (hs.e (by decide)) (hs.n rfl (by decide)) (by omega) (by decide) ?_
  refine r_topi (y := nI 2) he ?_
  refine r_icmp_geN (q := 21) (t := 36) (by omega) (by omega) dX12_table0_18 (by decide) rfl (fun h18 => absurd h18 (by omega)) (fun h18 => ?_)
  refine r_iload_n (q := 22) dX12_table0_21 rfl rfl rfl ?_
  refine r_aload_n (q := 23) dX12_table0_22 rfl rfl rfl ?_
  refine r_getr (q := 26) (some (1306, 0)) ck12 dX12_table0_23 rfl (k := 6) (by decide) wt1284 rfl (hs.e (by decide)) (hs.r (by decide) (by decide)) ?_
  refine r_iconst (q := 27) (nI 3) dX12_table0_26 rfl (by decide) ?_
  refine r_ialdN (q := 28) 3775 (by decide) rfl dX12_table0_27 rfl (hs.e (by decide)) (hs.n rfl (by decide)) (by omega) (by decide) ?_
  refine r_topi (y := nI 3) hw ?_
  refine r_imulN (q := 29) dX12_table0_28 rfl ?_
  refine r_istore_n (q := 30) (L' := [some (zr 12 0), some (zi (nI a)), some (zi (nI 27)), some (zi (nI 1))]) dX12_table0_29 rfl rfl (by decide) rfl ?_
  refine r_iincN (q := 33) (L' := [some (zr 12 0), some (zi (nI a)), some (zi (nI 27)), some (zi (nI 2))]) 1 rfl dX12_table0_30 rfl rfl (by decide) rfl ?_
  refine r_goto (q := 9) dX12_table0_33 (by decide) ?_
  refine r_iload_n (q := 10) dX12_table0_9 rfl rfl rfl ?_
  refine r_aload_n (q := 11) dX12_table0_10 rfl rfl rfl ?_
  refine r_getr (q := 14) (some (1306, 0)) ck12 dX12_table0_11 rfl (k := 6) (by decide) wt1284 rfl (hs.e (by decide)) (hs.r (by decide) (by decide)) ?_
  refine r_iconst (q := 15) (nI 4) dX12_table0_14 rfl (by decide) ?_
  refine r_iload_n (q := 16) dX12_table0_15 rfl rfl rfl ?_
  refine r_iaddN (q := 17) dX12_table0_16 rfl ?_
  refine r_ialdN (q := 18) 3775 (by decide) rfl dX12_table0_17 rfl (hs.e (by decide)) (hs.n rfl (by decide)) (by omega) (by decide) ?_
  refine r_topi (y := nI 2) he ?_
  refine r_icmp_geN (q := 21) (t := 36) (by omega) (by omega) dX12_table0_18 (by decide) rfl (fun h18 => ?_) (fun h18 => absurd h18 (by omega))
  refine r_iload_n (q := 37) dX12_table0_36 rfl rfl rfl ?_
  refine r_ireturn dX12_table0_37 rfl ?_
  exact ⟨rfl, rfl⟩

set_option maxRecDepth 100000 in
theorem ok_X12_table0_3_3 {S : zS} (hs : Sd S) {a : Nat} (ha : a < 3) (hw : gI S 1306 0 3 = nI 3) (he : gI S 1306 0 (4 + a) = nI 3) : Ok mX12_table0 0 (ent 4 [zr 12 0, zi (nI a)]) [] S (fun r S1 => r = some (zi (nI 81)) ∧ S1 = S) := by
  show Ok mX12_table0 0 [some (zr 12 0), some (zi (nI a)), none, none] [] S _
  refine r_aload_n (q := 1) dX12_table0_0 rfl rfl rfl ?_
  refine r_getr (q := 4) (some (1306, 0)) ck12 dX12_table0_1 rfl (k := 6) (by decide) wt1284 rfl (hs.e (by decide)) (hs.r (by decide) (by decide)) ?_
  refine r_iconst (q := 5) (nI 3) dX12_table0_4 rfl (by decide) ?_
  refine r_ialdN (q := 6) 3775 (by decide) rfl dX12_table0_5 rfl (hs.e (by decide)) (hs.n rfl (by decide)) (by omega) (by decide) ?_
  refine r_topi (y := nI 3) hw ?_
  refine r_istore_n (q := 7) (L' := [some (zr 12 0), some (zi (nI a)), some (zi (nI 3)), none]) dX12_table0_6 rfl rfl (by decide) rfl ?_
  refine r_iconst (q := 8) (nI 0) dX12_table0_7 rfl (by decide) ?_
  refine r_istore_n (q := 9) (L' := [some (zr 12 0), some (zi (nI a)), some (zi (nI 3)), some (zi (nI 0))]) dX12_table0_8 rfl rfl (by decide) rfl ?_
  refine r_iload_n (q := 10) dX12_table0_9 rfl rfl rfl ?_
  refine r_aload_n (q := 11) dX12_table0_10 rfl rfl rfl ?_
  refine r_getr (q := 14) (some (1306, 0)) ck12 dX12_table0_11 rfl (k := 6) (by decide) wt1284 rfl (hs.e (by decide)) (hs.r (by decide) (by decide)) ?_
  refine r_iconst (q := 15) (nI 4) dX12_table0_14 rfl (by decide) ?_
  refine r_iload_n (q := 16) dX12_table0_15 rfl rfl rfl ?_
  refine r_iaddN (q := 17) dX12_table0_16 rfl ?_
  refine r_ialdN (q := 18) 3775 (by decide) rfl dX12_table0_17 rfl (hs.e (by decide)) (hs.n rfl (by decide)) (by omega) (by decide) ?_
  refine r_topi (y := nI 3) he ?_
  refine r_icmp_geN (q := 21) (t := 36) (by omega) (by omega) dX12_table0_18 (by decide) rfl (fun h18 => absurd h18 (by omega)) (fun h18 => ?_)
  refine r_iload_n (q := 22) dX12_table0_21 rfl rfl rfl ?_
  refine r_aload_n (q := 23) dX12_table0_22 rfl rfl rfl ?_
  refine r_getr (q := 26) (some (1306, 0)) ck12 dX12_table0_23 rfl (k := 6) (by decide) wt1284 rfl (hs.e (by decide)) (hs.r (by decide) (by decide)) ?_
  refine r_iconst (q := 27) (nI 3) dX12_table0_26 rfl (by decide) ?_
  refine r_ialdN (q := 28) 3775 (by decide) rfl dX12_table0_27 rfl (hs.e (by decide)) (hs.n rfl (by decide)) (by omega) (by decide) ?_
  refine r_topi (y := nI 3) hw ?_
  refine r_imulN (q := 29) dX12_table0_28 rfl ?_
  refine r_istore_n (q := 30) (L' := [some (zr 12 0), some (zi (nI a)), some (zi (nI 9)), some (zi (nI 0))]) dX12_table0_29 rfl rfl (by decide) rfl ?_
  refine r_iincN (q := 33) (L' := [some (zr 12 0), some (zi (nI a)), some (zi (nI 9)), some (zi (nI 1))]) 1 rfl dX12_table0_30 rfl rfl (by decide) rfl ?_
  refine r_goto (q := 9) dX12_table0_33 (by decide) ?_
  refine r_iload_n (q := 10) dX12_table0_9 rfl rfl rfl ?_
  refine r_aload_n (q := 11) dX12_table0_10 rfl rfl rfl ?_
  refine r_getr (q := 14) (some (1306, 0)) ck12 dX12_table0_11 rfl (k := 6) (by decide) wt1284 rfl (hs.e (by decide)) (hs.r (by decide) (by decide)) ?_
  refine r_iconst (q := 15) (nI 4) dX12_table0_14 rfl (by decide) ?_
  refine r_iload_n (q := 16) dX12_table0_15 rfl rfl rfl ?_
  refine r_iaddN (q := 17) dX12_table0_16 rfl ?_
  refine r_ialdN (q := 18) 3775 (by decide) rfl dX12_table0_17 rfl (hs.e (by decide)) (hs.n rfl (by decide)) (by omega) (by decide) ?_
  refine r_topi (y := nI 3) he ?_
  refine r_icmp_geN (q := 21) (t := 36) (by omega) (by omega) dX12_table0_18 (by decide) rfl (fun h18 => absurd h18 (by omega)) (fun h18 => ?_)
  refine r_iload_n (q := 22) dX12_table0_21 rfl rfl rfl ?_
  refine r_aload_n (q := 23) dX12_table0_22 rfl rfl rfl ?_
  refine r_getr (q := 26) (some (1306, 0)) ck12 dX12_table0_23 rfl (k := 6) (by decide) wt1284 rfl (hs.e (by decide)) (hs.r (by decide) (by decide)) ?_
  refine r_iconst (q := 27) (nI 3) dX12_table0_26 rfl (by decide) ?_
  refine r_ialdN (q := 28) 3775 (by decide) rfl dX12_table0_27 rfl (hs.e (by decide)) (hs.n rfl (by decide)) (by omega) (by decide) ?_
  refine r_topi (y := nI 3) hw ?_
  refine r_imulN (q := 29) dX12_table0_28 rfl ?_
  refine r_istore_n (q := 30) (L' := [some (zr 12 0), some (zi (nI a)), some (zi (nI 27)), some (zi (nI 1))]) dX12_table0_29 rfl rfl (by decide) rfl ?_
  refine r_iincN (q := 33) (L' := [some (zr 12 0), some (zi (nI a)), some (zi (nI 27)), some (zi (nI 2))]) 1 rfl dX12_table0_30 rfl rfl (by decide) rfl ?_
  refine r_goto (q := 9) dX12_table0_33 (by decide) ?_
  refine r_iload_n (q := 10) dX12_table0_9 rfl rfl rfl ?_
  refine r_aload_n (q := 11) dX12_table0_10 rfl rfl rfl ?_
  refine r_getr (q := 14) (some (1306, 0)) ck12 dX12_table0_11 rfl (k := 6) (by decide) wt1284 rfl (hs.e (by decide)) (hs.r (by decide) (by decide)) ?_
  refine r_iconst (q := 15) (nI 4) dX12_table0_14 rfl (by decide) ?_
  refine r_iload_n (q := 16) dX12_table0_15 rfl rfl rfl ?_
  refine r_iaddN (q := 17) dX12_table0_16 rfl ?_
  refine r_ialdN (q := 18) 3775 (by decide) rfl dX12_table0_17 rfl (hs.e (by decide)) (hs.n rfl (by decide)) (by omega) (by decide) ?_
  refine r_topi (y := nI 3) he ?_
  refine r_icmp_geN (q := 21) (t := 36) (by omega) (by omega) dX12_table0_18 (by decide) rfl (fun h18 => absurd h18 (by omega)) (fun h18 => ?_)
  refine r_iload_n (q := 22) dX12_table0_21 rfl rfl rfl ?_
  refine r_aload_n (q := 23) dX12_table0_22 rfl rfl rfl ?_
  refine r_getr (q := 26) (some (1306, 0)) ck12 dX12_table0_23 rfl (k := 6) (by decide) wt1284 rfl (hs.e (by decide)) (hs.r (by decide) (by decide)) ?_
  refine r_iconst (q := 27) (nI 3) dX12_table0_26 rfl (by decide) ?_
  refine r_ialdN (q := 28) 3775 (by decide) rfl dX12_table0_27 rfl (hs.e (by decide)) (hs.n rfl (by decide)) (by omega) (by decide) ?_
  refine r_topi (y := nI 3) hw ?_
  refine r_imulN (q := 29) dX12_table0_28 rfl ?_
  refine r_istore_n (q := 30) (L' := [some (zr 12 0), some (zi (nI a)), some (zi (nI 81)), some (zi (nI 2))]) dX12_table0_29 rfl rfl (by decide) rfl ?_
  refine r_iincN (q := 33) (L' := [some (zr 12 0), some (zi (nI a)), some (zi (nI 81)), some (zi (nI 3))]) 1 rfl dX12_table0_30 rfl rfl (by decide) rfl ?_
  refine r_goto (q := 9) dX12_table0_33 (by decide) ?_
  refine r_iload_n (q := 10) dX12_table0_9 rfl rfl rfl ?_
  refine r_aload_n (q := 11) dX12_table0_10 rfl rfl rfl ?_
  refine r_getr (q := 14) (some (1306, 0)) ck12 dX12_table0_11 rfl (k := 6) (by decide) wt1284 rfl (hs.e (by decide)) (hs.r (by decide) (by decide)) ?_
  refine r_iconst (q := 15) (nI 4) dX12_table0_14 rfl (by decide) ?_
  refine r_iload_n (q := 16) dX12_table0_15 rfl rfl rfl ?_
  refine r_iaddN (q := 17) dX12_table0_16 rfl ?_
  refine r_ialdN (q := 18) 3775 (by decide) rfl dX12_table0_17 rfl (hs.e (by decide)) (hs.n rfl (by decide)) (by omega) (by decide) ?_
  refine r_topi (y := nI 3) he ?_
  refine r_icmp_geN (q := 21) (t := 36) (by omega) (by omega) dX12_table0_18 (by decide) rfl (fun h18 => ?_) (fun h18 => absurd h18 (by omega))
  refine r_iload_n (q := 37) dX12_table0_36 rfl rfl rfl ?_
  refine r_ireturn dX12_table0_37 rfl ?_
  exact ⟨rfl, rfl⟩

set_option maxRecDepth 100000 in
theorem ok_X12_table0_3_4 {S : zS} (hs : Sd S) {a : Nat} (ha : a < 3) (hw : gI S 1306 0 3 = nI 3) (he : gI S 1306 0 (4 + a) = nI 4) : Ok mX12_table0 0 (ent 4 [zr 12 0, zi (nI a)]) [] S (fun r S1 => r = some (zi (nI 243)) ∧ S1 = S) := by
  show Ok mX12_table0 0 [some (zr 12 0), some (zi (nI a)), none, none] [] S _
  refine r_aload_n (q := 1) dX12_table0_0 rfl rfl rfl ?_
  refine r_getr (q := 4) (some (1306, 0)) ck12 dX12_table0_1 rfl (k := 6) (by decide) wt1284 rfl (hs.e (by decide)) (hs.r (by decide) (by decide)) ?_
  refine r_iconst (q := 5) (nI 3) dX12_table0_4 rfl (by decide) ?_
  refine r_ialdN (q := 6) 3775 (by decide) rfl dX12_table0_5 rfl (hs.e (by decide)) (hs.n rfl (by decide)) (by omega) (by decide) ?_
  refine r_topi (y := nI 3) hw ?_
  refine r_istore_n (q := 7) (L' := [some (zr 12 0), some (zi (nI a)), some (zi (nI 3)), none]) dX12_table0_6 rfl rfl (by decide) rfl ?_
  refine r_iconst (q := 8) (nI 0) dX12_table0_7 rfl (by decide) ?_
  refine r_istore_n (q := 9) (L' := [some (zr 12 0), some (zi (nI a)), some (zi (nI 3)), some (zi (nI 0))]) dX12_table0_8 rfl rfl (by decide) rfl ?_
  refine r_iload_n (q := 10) dX12_table0_9 rfl rfl rfl ?_
  refine r_aload_n (q := 11) dX12_table0_10 rfl rfl rfl ?_
  refine r_getr (q := 14) (some (1306, 0)) ck12 dX12_table0_11 rfl (k := 6) (by decide) wt1284 rfl (hs.e (by decide)) (hs.r (by decide) (by decide)) ?_
  refine r_iconst (q := 15) (nI 4) dX12_table0_14 rfl (by decide) ?_
  refine r_iload_n (q := 16) dX12_table0_15 rfl rfl rfl ?_
  refine r_iaddN (q := 17) dX12_table0_16 rfl ?_
  refine r_ialdN (q := 18) 3775 (by decide) rfl dX12_table0_17 rfl (hs.e (by decide)) (hs.n rfl (by decide)) (by omega) (by decide) ?_
  refine r_topi (y := nI 4) he ?_
  refine r_icmp_geN (q := 21) (t := 36) (by omega) (by omega) dX12_table0_18 (by decide) rfl (fun h18 => absurd h18 (by omega)) (fun h18 => ?_)
  refine r_iload_n (q := 22) dX12_table0_21 rfl rfl rfl ?_
  refine r_aload_n (q := 23) dX12_table0_22 rfl rfl rfl ?_
  refine r_getr (q := 26) (some (1306, 0)) ck12 dX12_table0_23 rfl (k := 6) (by decide) wt1284 rfl (hs.e (by decide)) (hs.r (by decide) (by decide)) ?_
  refine r_iconst (q := 27) (nI 3) dX12_table0_26 rfl (by decide) ?_
  refine r_ialdN (q := 28) 3775 (by decide) rfl dX12_table0_27 rfl (hs.e (by decide)) (hs.n rfl (by decide)) (by omega) (by decide) ?_
  refine r_topi (y := nI 3) hw ?_
  refine r_imulN (q := 29) dX12_table0_28 rfl ?_
  refine r_istore_n (q := 30) (L' := [some (zr 12 0), some (zi (nI a)), some (zi (nI 9)), some (zi (nI 0))]) dX12_table0_29 rfl rfl (by decide) rfl ?_
  refine r_iincN (q := 33) (L' := [some (zr 12 0), some (zi (nI a)), some (zi (nI 9)), some (zi (nI 1))]) 1 rfl dX12_table0_30 rfl rfl (by decide) rfl ?_
  refine r_goto (q := 9) dX12_table0_33 (by decide) ?_
  refine r_iload_n (q := 10) dX12_table0_9 rfl rfl rfl ?_
  refine r_aload_n (q := 11) dX12_table0_10 rfl rfl rfl ?_
  refine r_getr (q := 14) (some (1306, 0)) ck12 dX12_table0_11 rfl (k := 6) (by decide) wt1284 rfl (hs.e (by decide)) (hs.r (by decide) (by decide)) ?_
  refine r_iconst (q := 15) (nI 4) dX12_table0_14 rfl (by decide) ?_
  refine r_iload_n (q := 16) dX12_table0_15 rfl rfl rfl ?_
  refine r_iaddN (q := 17) dX12_table0_16 rfl ?_
  refine r_ialdN (q := 18) 3775 (by decide) rfl dX12_table0_17 rfl (hs.e (by decide)) (hs.n rfl (by decide)) (by omega) (by decide) ?_
  refine r_topi (y := nI 4) he ?_
  refine r_icmp_geN (q := 21) (t := 36) (by omega) (by omega) dX12_table0_18 (by decide) rfl (fun h18 => absurd h18 (by omega)) (fun h18 => ?_)
  refine r_iload_n (q := 22) dX12_table0_21 rfl rfl rfl ?_
  refine r_aload_n (q := 23) dX12_table0_22 rfl rfl rfl ?_
  refine r_getr (q := 26) (some (1306, 0)) ck12 dX12_table0_23 rfl (k := 6) (by decide) wt1284 rfl (hs.e (by decide)) (hs.r (by decide) (by decide)) ?_
  refine r_iconst (q := 27) (nI 3) dX12_table0_26 rfl (by decide) ?_
  refine r_ialdN (q := 28) 3775 (by decide) rfl dX12_table0_27 rfl (hs.e (by decide)) (hs.n rfl (by decide)) (by omega) (by decide) ?_
  refine r_topi (y := nI 3) hw ?_
  refine r_imulN (q := 29) dX12_table0_28 rfl ?_
  refine r_istore_n (q := 30) (L' := [some (zr 12 0), some (zi (nI a)), some (zi (nI 27)), some (zi (nI 1))]) dX12_table0_29 rfl rfl (by decide) rfl ?_
  refine r_iincN (q := 33) (L' := [some (zr 12 0), some (zi (nI a)), some (zi (nI 27)), some (zi (nI 2))]) 1 rfl dX12_table0_30 rfl rfl (by decide) rfl ?_
  refine r_goto (q := 9) dX12_table0_33 (by decide) ?_
  refine r_iload_n (q := 10) dX12_table0_9 rfl rfl rfl ?_
  refine r_aload_n (q := 11) dX12_table0_10 rfl rfl rfl ?_
  refine r_getr (q := 14) (some (1306, 0)) ck12 dX12_table0_11 rfl (k := 6) (by decide) wt1284 rfl (hs.e (by decide)) (hs.r (by decide) (by decide)) ?_
  refine r_iconst (q := 15) (nI 4) dX12_table0_14 rfl (by decide) ?_
  refine r_iload_n (q := 16) dX12_table0_15 rfl rfl rfl ?_
  refine r_iaddN (q := 17) dX12_table0_16 rfl ?_
  refine r_ialdN (q := 18) 3775 (by decide) rfl dX12_table0_17 rfl (hs.e (by decide)) (hs.n rfl (by decide)) (by omega) (by decide) ?_
  refine r_topi (y := nI 4) he ?_
  refine r_icmp_geN (q := 21) (t := 36) (by omega) (by omega) dX12_table0_18 (by decide) rfl (fun h18 => absurd h18 (by omega)) (fun h18 => ?_)
  refine r_iload_n (q := 22) dX12_table0_21 rfl rfl rfl ?_
  refine r_aload_n (q := 23) dX12_table0_22 rfl rfl rfl ?_
  refine r_getr (q := 26) (some (1306, 0)) ck12 dX12_table0_23 rfl (k := 6) (by decide) wt1284 rfl (hs.e (by decide)) (hs.r (by decide) (by decide)) ?_
  refine r_iconst (q := 27) (nI 3) dX12_table0_26 rfl (by decide) ?_
  refine r_ialdN (q := 28) 3775 (by decide) rfl dX12_table0_27 rfl (hs.e (by decide)) (hs.n rfl (by decide)) (by omega) (by decide) ?_
  refine r_topi (y := nI 3) hw ?_
  refine r_imulN (q := 29) dX12_table0_28 rfl ?_
  refine r_istore_n (q := 30) (L' := [some (zr 12 0), some (zi (nI a)), some (zi (nI 81)), some (zi (nI 2))]) dX12_table0_29 rfl rfl (by decide) rfl ?_
  refine r_iincN (q := 33) (L' := [some (zr 12 0), some (zi (nI a)), some (zi (nI 81)), some (zi (nI 3))]) 1 rfl dX12_table0_30 rfl rfl (by decide) rfl ?_
  refine r_goto (q := 9) dX12_table0_33 (by decide) ?_
  refine r_iload_n (q := 10) dX12_table0_9 rfl rfl rfl ?_
  refine r_aload_n (q := 11) dX12_table0_10 rfl rfl rfl ?_
  refine r_getr (q := 14) (some (1306, 0)) ck12 dX12_table0_11 rfl (k := 6) (by decide) wt1284 rfl (hs.e (by decide)) (hs.r (by decide) (by decide)) ?_
  refine r_iconst (q := 15) (nI 4) dX12_table0_14 rfl (by decide) ?_
  refine r_iload_n (q := 16) dX12_table0_15 rfl rfl rfl ?_
  refine r_iaddN (q := 17) dX12_table0_16 rfl ?_
  refine r_ialdN (q := 18) 3775 (by decide) rfl dX12_table0_17 rfl (hs.e (by decide)) (hs.n rfl (by decide)) (by omega) (by decide) ?_
  refine r_topi (y := nI 4) he ?_
  refine r_icmp_geN (q := 21) (t := 36) (by omega) (by omega) dX12_table0_18 (by decide) rfl (fun h18 => absurd h18 (by omega)) (fun h18 => ?_)
  refine r_iload_n (q := 22) dX12_table0_21 rfl rfl rfl ?_
  refine r_aload_n (q := 23) dX12_table0_22 rfl rfl rfl ?_
  refine r_getr (q := 26) (some (1306, 0)) ck12 dX12_table0_23 rfl (k := 6) (by decide) wt1284 rfl (hs.e (by decide)) (hs.r (by decide) (by decide)) ?_
  refine r_iconst (q := 27) (nI 3) dX12_table0_26 rfl (by decide) ?_
  refine r_ialdN (q := 28) 3775 (by decide) rfl dX12_table0_27 rfl (hs.e (by decide)) (hs.n rfl (by decide)) (by omega) (by decide) ?_
  refine r_topi (y := nI 3) hw ?_
  refine r_imulN (q := 29) dX12_table0_28 rfl ?_
  refine r_istore_n (q := 30) (L' := [some (zr 12 0), some (zi (nI a)), some (zi (nI 243)), some (zi (nI 3))]) dX12_table0_29 rfl rfl (by decide) rfl ?_
  refine r_iincN (q := 33) (L' := [some (zr 12 0), some (zi (nI a)), some (zi (nI 243)), some (zi (nI 4))]) 1 rfl dX12_table0_30 rfl rfl (by decide) rfl ?_
  refine r_goto (q := 9) dX12_table0_33 (by decide) ?_
  refine r_iload_n (q := 10) dX12_table0_9 rfl rfl rfl ?_
  refine r_aload_n (q := 11) dX12_table0_10 rfl rfl rfl ?_
  refine r_getr (q := 14) (some (1306, 0)) ck12 dX12_table0_11 rfl (k := 6) (by decide) wt1284 rfl (hs.e (by decide)) (hs.r (by decide) (by decide)) ?_
  refine r_iconst (q := 15) (nI 4) dX12_table0_14 rfl (by decide) ?_
  refine r_iload_n (q := 16) dX12_table0_15 rfl rfl rfl ?_
  refine r_iaddN (q := 17) dX12_table0_16 rfl ?_
  refine r_ialdN (q := 18) 3775 (by decide) rfl dX12_table0_17 rfl (hs.e (by decide)) (hs.n rfl (by decide)) (by omega) (by decide) ?_
  refine r_topi (y := nI 4) he ?_
  refine r_icmp_geN (q := 21) (t := 36) (by omega) (by omega) dX12_table0_18 (by decide) rfl (fun h18 => ?_) (fun h18 => absurd h18 (by omega))
  refine r_iload_n (q := 37) dX12_table0_36 rfl rfl rfl ?_
  refine r_ireturn dX12_table0_37 rfl ?_
  exact ⟨rfl, rfl⟩

set_option maxRecDepth 100000 in
theorem ok_X12_noSum {S : zS} (hs : Sd S) (n : Int32) : Ok mX12_noSum 0 (ent 2 [zr 12 0, zi n]) [] S (fun r S1 => r = none ∧ S1 = sI (sI S 12 0 47 (nI 0)) 12 0 48 n) := by
  show Ok mX12_noSum 0 [some (zr 12 0), some (zi n)] [] S _
  refine r_aload_n (q := 1) dX12_noSum_0 rfl rfl rfl ?_
  refine r_iconst (q := 2) (nI 0) dX12_noSum_1 rfl (by decide) ?_
  refine r_puti (q := 5) ck12 dX12_noSum_2 rfl (k := 47) (by decide) wt1325 (Or.inl rfl) rfl (hs.e (by decide)) ?_
  refine r_aload_n (q := 6) dX12_noSum_5 rfl rfl rfl ?_
  refine r_iload_n (q := 7) dX12_noSum_6 rfl rfl rfl ?_
  refine r_puti (q := 10) ck12 dX12_noSum_7 rfl (k := 48) (by decide) wt1326 (Or.inl rfl) rfl (hs.e (by decide)) ?_
  refine r_return dX12_noSum_10 rfl ?_
  exact ⟨rfl, rfl⟩

set_option maxRecDepth 100000 in
theorem ok_X8_clear {S : zS} (hs : Sd S) {j : Nat} (hj : j < 19) (n : Int32) : Ok mX8_clear 0 (ent 2 [zr 8 j, zi n]) [] S (fun r S1 => r = none ∧ S1 = sI (sI S 8 j 0 n) 8 j 1 (nI 0)) := by
  show Ok mX8_clear 0 [some (zr 8 j), some (zi n)] [] S _
  refine r_aload_n (q := 1) dX8_clear_0 rfl rfl rfl ?_
  refine r_iload_n (q := 2) dX8_clear_1 rfl rfl rfl ?_
  refine r_puti (q := 5) ck8 dX8_clear_2 rfl (k := 0) (by decide) wt55 (Or.inl rfl) rfl (hs.e (show j < 19 by omega)) ?_
  refine r_aload_n (q := 6) dX8_clear_5 rfl rfl rfl ?_
  refine r_iconst (q := 7) (nI 0) dX8_clear_6 rfl (by decide) ?_
  refine r_puti (q := 10) ck8 dX8_clear_7 rfl (k := 1) (by decide) wt62 (Or.inl rfl) rfl (hs.e (show j < 19 by omega)) ?_
  refine r_return dX8_clear_10 rfl ?_
  exact ⟨rfl, rfl⟩

set_option maxRecDepth 100000 in
theorem ok_X11_emptyTape {S : zS} (hs : Sd S) : Ok mX11_emptyTape 0 (ent 2 [zr 11 0]) [] S (fun r S1 => r = some (zi (gI S 11 0 1)) ∧ S1 = sI S 11 0 1 (nI 0)) := by
  show Ok mX11_emptyTape 0 [some (zr 11 0), none] [] S _
  refine r_aload_n (q := 1) dX11_emptyTape_0 rfl rfl rfl ?_
  refine r_geti (q := 4) ck11 dX11_emptyTape_1 rfl (k := 1) (by decide) wt423 (Or.inl rfl) (hs.e (by decide)) ?_
  refine r_istore_n (q := 5) (L' := [some (zr 11 0), some (zi (gI S 11 0 1))]) dX11_emptyTape_4 rfl rfl (by decide) rfl ?_
  refine r_aload_n (q := 6) dX11_emptyTape_5 rfl rfl rfl ?_
  refine r_iconst (q := 7) (nI 0) dX11_emptyTape_6 rfl (by decide) ?_
  refine r_puti (q := 10) ck11 dX11_emptyTape_7 rfl (k := 1) (by decide) wt423 (Or.inl rfl) rfl (hs.e (by decide)) ?_
  refine r_iload_n (q := 11) dX11_emptyTape_10 rfl rfl rfl ?_
  refine r_ireturn dX11_emptyTape_11 rfl ?_
  exact ⟨rfl, rfl⟩

set_option maxRecDepth 100000 in
theorem ok_X12_taken {S : zS} (hs : Sd S) (n : Int32) : Ok mX12_taken 0 (ent 2 [zr 12 0, zi n]) [] S (fun r S1 => r = none ∧ S1 = sI (sI (sI (sI S 12 0 3 (gI S 12 0 2)) 12 0 2 (nI 0)) 12 0 4 (nI 0)) 12 0 5 n) := by
  show Ok mX12_taken 0 [some (zr 12 0), some (zi n)] [] S _
  refine r_aload_n (q := 1) dX12_taken_0 rfl rfl rfl ?_
  refine r_aload_n (q := 2) dX12_taken_1 rfl rfl rfl ?_
  refine r_geti (q := 5) ck12 dX12_taken_2 rfl (k := 2) (by decide) wt1280 (Or.inl rfl) (hs.e (by decide)) ?_
  refine r_puti (q := 8) ck12 dX12_taken_5 rfl (k := 3) (by decide) wt1281 (Or.inl rfl) rfl (hs.e (by decide)) ?_
  refine r_aload_n (q := 9) dX12_taken_8 rfl rfl rfl ?_
  refine r_iconst (q := 10) (nI 0) dX12_taken_9 rfl (by decide) ?_
  refine r_puti (q := 13) ck12 dX12_taken_10 rfl (k := 2) (by decide) wt1280 (Or.inl rfl) rfl (hs.e (by decide)) ?_
  refine r_aload_n (q := 14) dX12_taken_13 rfl rfl rfl ?_
  refine r_iconst (q := 15) (nI 0) dX12_taken_14 rfl (by decide) ?_
  refine r_puti (q := 18) ck12 dX12_taken_15 rfl (k := 4) (by decide) wt1282 (Or.inl rfl) rfl (hs.e (by decide)) ?_
  refine r_aload_n (q := 19) dX12_taken_18 rfl rfl rfl ?_
  refine r_iload_n (q := 20) dX12_taken_19 rfl rfl rfl ?_
  refine r_puti (q := 23) ck12 dX12_taken_20 rfl (k := 5) (by decide) wt1283 (Or.inl rfl) rfl (hs.e (by decide)) ?_
  refine r_return dX12_taken_23 rfl ?_
  exact ⟨rfl, rfl⟩

def tin (S : zS) (j e a : Nat) (key num : Int32) : zS := sI (sI (sI (cpS (cpS S 902 j 902 j a (a + 1) (e - a)) 903 j 903 j a (a + 1) (e - a)) 902 j a key) 903 j a num) 8 j 1 (nI (e + 1))
set_option maxRecDepth 100000 in
theorem ok_X8_insert {S : zS} (hs : Sd S) {j e n a : Nat} (hj : j < 19) (h2 : gN S 902 j = n) (h3 : gN S 903 j = n) (hn9 : n ≤ 1200) (hte : gI S 8 j 1 = nI e) (he : e < n) (ha : a ≤ e) (key num : Int32) : Ok mX8_insert 0 (ent 4 [zr 8 j, zi (nI a), zi key, zi num]) [] S (fun r S1 => r = none ∧ S1 = tin S j e a key num) := by
  show Ok mX8_insert 0 [some (zr 8 j), some (zi (nI a)), some (zi key), some (zi num)] [] S _
  refine r_iload_n (q := 1) dX8_insert_0 rfl rfl rfl ?_
  refine r_if_ltN (q := 4) (t := 24) (by omega) dX8_insert_1 (by decide) rfl ?_
  refine r_iload_n (q := 5) dX8_insert_4 rfl rfl rfl ?_
  refine r_aload_n (q := 6) dX8_insert_5 rfl rfl rfl ?_
  refine r_geti (q := 9) ck8 dX8_insert_6 rfl (k := 1) (by decide) wt62 (Or.inl rfl) (hs.e (show j < 19 by omega)) ?_
  refine r_topi (y := nI e) hte ?_
  refine r_icmp_gtN (q := 12) (t := 24) (by omega) (by omega) dX8_insert_9 (by decide) rfl (fun h9 => absurd h9 (by omega)) (fun h9 => ?_)
  refine r_aload_n (q := 13) dX8_insert_12 rfl rfl rfl ?_
  refine r_geti (q := 16) ck8 dX8_insert_13 rfl (k := 1) (by decide) wt62 (Or.inl rfl) (hs.e (show j < 19 by omega)) ?_
  refine r_topi (y := nI e) hte ?_
  refine r_aload_n (q := 17) dX8_insert_16 rfl rfl rfl ?_
  refine r_getr (q := 20) (some (902, j)) ck8 dX8_insert_17 rfl (k := 2) (by decide) wt69 rfl (hs.e (show j < 19 by omega)) (hs.r (show j < 19 by omega) (by decide)) ?_
  refine r_alen (q := 21) (by decide) (by decide) dX8_insert_20 rfl (hs.e (show j < 19 by omega)) ?_
  refine r_topi (y := nI n) (congrArg nI h2) ?_
  refine r_icmp_ltN (q := 24) (t := 25) (by omega) (by omega) dX8_insert_21 (by decide) rfl (fun h21 => ?_) (fun h21 => absurd h21 (by omega))
  refine r_aload_n (q := 26) dX8_insert_25 rfl rfl rfl ?_
  refine r_getr (q := 29) (some (902, j)) ck8 dX8_insert_26 rfl (k := 2) (by decide) wt69 rfl (hs.e (show j < 19 by omega)) (hs.r (show j < 19 by omega) (by decide)) ?_
  refine r_iload_n (q := 30) dX8_insert_29 rfl rfl rfl ?_
  refine r_aload_n (q := 31) dX8_insert_30 rfl rfl rfl ?_
  refine r_getr (q := 34) (some (902, j)) ck8 dX8_insert_31 rfl (k := 2) (by decide) wt69 rfl (hs.e (show j < 19 by omega)) (hs.r (show j < 19 by omega) (by decide)) ?_
  refine r_iload_n (q := 35) dX8_insert_34 rfl rfl rfl ?_
  refine r_iconst (q := 36) (nI 1) dX8_insert_35 rfl (by decide) ?_
  refine r_iaddN (q := 37) dX8_insert_36 rfl ?_
  refine r_aload_n (q := 38) dX8_insert_37 rfl rfl rfl ?_
  refine r_geti (q := 41) ck8 dX8_insert_38 rfl (k := 1) (by decide) wt62 (Or.inl rfl) (hs.e (show j < 19 by omega)) ?_
  refine r_topi (y := nI e) hte ?_
  refine r_iload_n (q := 42) dX8_insert_41 rfl rfl rfl ?_
  refine r_isubN (q := 43) (by omega) dX8_insert_42 rfl ?_
  refine r_copyi (q := 46) (by decide) (by decide) rfl rfl (hs.e (show j < 19 by omega)) (hs.e (show j < 19 by omega)) dX8_insert_43 rfl wt646 wt640 wt641 wt16 (Nat.le_of_ble_eq_true rfl) (by decide) (by decide) (by omega) (by omega) (by omega) (by rw [show gN S 902 j = n from h2]; omega) (by rw [show gN S 902 j = n from h2]; omega) ?_
  refine r_aload_n (q := 47) dX8_insert_46 rfl rfl rfl ?_
  refine r_getr (q := 50) (some (903, j)) ck8 dX8_insert_47 rfl (k := 3) (by decide) wt75 rfl (hs.e (show j < 19 by omega)) (hs.r (show j < 19 by omega) (by decide)) ?_
  refine r_iload_n (q := 51) dX8_insert_50 rfl rfl rfl ?_
  refine r_aload_n (q := 52) dX8_insert_51 rfl rfl rfl ?_
  refine r_getr (q := 55) (some (903, j)) ck8 dX8_insert_52 rfl (k := 3) (by decide) wt75 rfl (hs.e (show j < 19 by omega)) (hs.r (show j < 19 by omega) (by decide)) ?_
  refine r_iload_n (q := 56) dX8_insert_55 rfl rfl rfl ?_
  refine r_iconst (q := 57) (nI 1) dX8_insert_56 rfl (by decide) ?_
  refine r_iaddN (q := 58) dX8_insert_57 rfl ?_
  refine r_aload_n (q := 59) dX8_insert_58 rfl rfl rfl ?_
  refine r_geti (q := 62) ck8 dX8_insert_59 rfl (k := 1) (by decide) wt62 (Or.inl rfl) (hs.e (show j < 19 by omega)) ?_
  refine r_topi (y := gI S 8 j 1) (by simp [gI_sI, gJ_sJ, gI_sJ, gJ_sI, gI_cpS, gJ_cpS]) ?_
  refine r_topi (y := nI e) hte ?_
  refine r_iload_n (q := 63) dX8_insert_62 rfl rfl rfl ?_
  refine r_isubN (q := 64) (by omega) dX8_insert_63 rfl ?_
  refine r_copyi (q := 67) (by decide) (by decide) rfl rfl (hs.e (show j < 19 by omega)) (hs.e (show j < 19 by omega)) dX8_insert_64 rfl wt646 wt640 wt641 wt16 (Nat.le_of_ble_eq_true rfl) (by decide) (by decide) (by omega) (by omega) (by omega) (by rw [show gN (cpS S 902 j 902 j a (a + 1) (e - a)) 903 j = n from h3]; omega) (by rw [show gN (cpS S 902 j 902 j a (a + 1) (e - a)) 903 j = n from h3]; omega) ?_
  refine r_aload_n (q := 68) dX8_insert_67 rfl rfl rfl ?_
  refine r_getr (q := 71) (some (902, j)) ck8 dX8_insert_68 rfl (k := 2) (by decide) wt69 rfl (hs.e (show j < 19 by omega)) (hs.r (show j < 19 by omega) (by decide)) ?_
  refine r_iload_n (q := 72) dX8_insert_71 rfl rfl rfl ?_
  refine r_iload_n (q := 73) dX8_insert_72 rfl rfl rfl ?_
  refine r_iastN (q := 74) n (by decide) rfl dX8_insert_73 rfl (hs.e (show j < 19 by omega)) h2 (by omega) (by omega) ?_
  refine r_aload_n (q := 75) dX8_insert_74 rfl rfl rfl ?_
  refine r_getr (q := 78) (some (903, j)) ck8 dX8_insert_75 rfl (k := 3) (by decide) wt75 rfl (hs.e (show j < 19 by omega)) (hs.r (show j < 19 by omega) (by decide)) ?_
  refine r_iload_n (q := 79) dX8_insert_78 rfl rfl rfl ?_
  refine r_iload_n (q := 80) dX8_insert_79 rfl rfl rfl ?_
  refine r_iastN (q := 81) n (by decide) rfl dX8_insert_80 rfl (hs.e (show j < 19 by omega)) h3 (by omega) (by omega) ?_
  refine r_aload_n (q := 82) dX8_insert_81 rfl rfl rfl ?_
  refine r_dup (q := 83) dX8_insert_82 rfl rfl ?_
  refine r_geti (q := 86) ck8 dX8_insert_83 rfl (k := 1) (by decide) wt62 (Or.inl rfl) (hs.e (show j < 19 by omega)) ?_
  refine r_topi (y := gI S 8 j 1) (by simp [gI_sI, gJ_sJ, gI_sJ, gJ_sI, gI_cpS, gJ_cpS]) ?_
  refine r_topi (y := nI e) hte ?_
  refine r_iconst (q := 87) (nI 1) dX8_insert_86 rfl (by decide) ?_
  refine r_iaddN (q := 88) dX8_insert_87 rfl ?_
  refine r_puti (q := 91) ck8 dX8_insert_88 rfl (k := 1) (by decide) wt62 (Or.inl rfl) rfl (hs.e (show j < 19 by omega)) ?_
  refine r_return dX8_insert_91 rfl ?_
  exact ⟨rfl, rfl⟩

def trm (S : zS) (j e a : Nat) : zS := cpS (cpS (sI S 8 j 1 (nI (e - 1))) 902 j 902 j (a + 1) a ((e - 1) - a)) 903 j 903 j (a + 1) a ((e - 1) - a)
set_option maxRecDepth 100000 in
theorem ok_X8_remove {S : zS} (hs : Sd S) {j e n a : Nat} (hj : j < 19) (h2 : gN S 902 j = n) (h3 : gN S 903 j = n) (hn9 : n ≤ 1200) (hte : gI S 8 j 1 = nI e) (he : e ≤ n) (ha : a < e) : Ok mX8_remove 0 (ent 2 [zr 8 j, zi (nI a)]) [] S (fun r S1 => r = none ∧ S1 = trm S j e a) := by
  show Ok mX8_remove 0 [some (zr 8 j), some (zi (nI a))] [] S _
  refine r_aload_n (q := 1) dX8_remove_0 rfl rfl rfl ?_
  refine r_dup (q := 2) dX8_remove_1 rfl rfl ?_
  refine r_geti (q := 5) ck8 dX8_remove_2 rfl (k := 1) (by decide) wt62 (Or.inl rfl) (hs.e (show j < 19 by omega)) ?_
  refine r_topi (y := nI e) hte ?_
  refine r_iconst (q := 6) (nI 1) dX8_remove_5 rfl (by decide) ?_
  refine r_isubN (q := 7) (by omega) dX8_remove_6 rfl ?_
  refine r_puti (q := 10) ck8 dX8_remove_7 rfl (k := 1) (by decide) wt62 (Or.inl rfl) rfl (hs.e (show j < 19 by omega)) ?_
  refine r_aload_n (q := 11) dX8_remove_10 rfl rfl rfl ?_
  refine r_getr (q := 14) (some (902, j)) ck8 dX8_remove_11 rfl (k := 2) (by decide) wt69 rfl (hs.e (show j < 19 by omega)) (hs.r (show j < 19 by omega) (by decide)) ?_
  refine r_iload_n (q := 15) dX8_remove_14 rfl rfl rfl ?_
  refine r_iconst (q := 16) (nI 1) dX8_remove_15 rfl (by decide) ?_
  refine r_iaddN (q := 17) dX8_remove_16 rfl ?_
  refine r_aload_n (q := 18) dX8_remove_17 rfl rfl rfl ?_
  refine r_getr (q := 21) (some (902, j)) ck8 dX8_remove_18 rfl (k := 2) (by decide) wt69 rfl (hs.e (show j < 19 by omega)) (hs.r (show j < 19 by omega) (by decide)) ?_
  refine r_iload_n (q := 22) dX8_remove_21 rfl rfl rfl ?_
  refine r_aload_n (q := 23) dX8_remove_22 rfl rfl rfl ?_
  refine r_geti (q := 26) ck8 dX8_remove_23 rfl (k := 1) (by decide) wt62 (Or.inl rfl) (hs.e (show j < 19 by omega)) ?_
  refine r_topi (y := nI (e - 1)) (by simp [gI_sI, gJ_sJ, gI_sJ, gJ_sI]) ?_
  refine r_iload_n (q := 27) dX8_remove_26 rfl rfl rfl ?_
  refine r_isubN (q := 28) (by omega) dX8_remove_27 rfl ?_
  refine r_copyi (q := 31) (by decide) (by decide) rfl rfl (hs.e (show j < 19 by omega)) (hs.e (show j < 19 by omega)) dX8_remove_28 rfl wt646 wt640 wt641 wt16 (Nat.le_of_ble_eq_true rfl) (by decide) (by decide) (by omega) (by omega) (by omega) (by rw [show gN (sI S 8 j 1 (nI (e - 1))) 902 j = n from h2]; omega) (by rw [show gN (sI S 8 j 1 (nI (e - 1))) 902 j = n from h2]; omega) ?_
  refine r_aload_n (q := 32) dX8_remove_31 rfl rfl rfl ?_
  refine r_getr (q := 35) (some (903, j)) ck8 dX8_remove_32 rfl (k := 3) (by decide) wt75 rfl (hs.e (show j < 19 by omega)) (hs.r (show j < 19 by omega) (by decide)) ?_
  refine r_iload_n (q := 36) dX8_remove_35 rfl rfl rfl ?_
  refine r_iconst (q := 37) (nI 1) dX8_remove_36 rfl (by decide) ?_
  refine r_iaddN (q := 38) dX8_remove_37 rfl ?_
  refine r_aload_n (q := 39) dX8_remove_38 rfl rfl rfl ?_
  refine r_getr (q := 42) (some (903, j)) ck8 dX8_remove_39 rfl (k := 3) (by decide) wt75 rfl (hs.e (show j < 19 by omega)) (hs.r (show j < 19 by omega) (by decide)) ?_
  refine r_iload_n (q := 43) dX8_remove_42 rfl rfl rfl ?_
  refine r_aload_n (q := 44) dX8_remove_43 rfl rfl rfl ?_
  refine r_geti (q := 47) ck8 dX8_remove_44 rfl (k := 1) (by decide) wt62 (Or.inl rfl) (hs.e (show j < 19 by omega)) ?_
  refine r_topi (y := nI (e - 1)) (by simp [gI_sI, gJ_sJ, gI_sJ, gJ_sI, gI_cpS, gJ_cpS]) ?_
  refine r_iload_n (q := 48) dX8_remove_47 rfl rfl rfl ?_
  refine r_isubN (q := 49) (by omega) dX8_remove_48 rfl ?_
  refine r_copyi (q := 52) (by decide) (by decide) rfl rfl (hs.e (show j < 19 by omega)) (hs.e (show j < 19 by omega)) dX8_remove_49 rfl wt646 wt640 wt641 wt16 (Nat.le_of_ble_eq_true rfl) (by decide) (by decide) (by omega) (by omega) (by omega) (by rw [show gN (cpS (sI S 8 j 1 (nI (e - 1))) 902 j 902 j (a + 1) a ((e - 1) - a)) 903 j = n from h3]; omega) (by rw [show gN (cpS (sI S 8 j 1 (nI (e - 1))) 902 j 902 j (a + 1) a ((e - 1) - a)) 903 j = n from h3]; omega) ?_
  refine r_return dX8_remove_52 rfl ?_
  exact ⟨rfl, rfl⟩

