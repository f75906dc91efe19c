/-! nodes of a tree: acts as they are, 3 for a leaf -/
def nd (k : Nat) : Nat := if k = 0 then 3 else k - 1
theorem dig {key s t v y : Nat} (h : key % 2 ^ (s + t) = v * 2 ^ s + y) (hy : y < 2 ^ s) : key / 2 ^ s % 2 ^ t = v := by
  have := Nat.mod_mul_right_div_self key (2 ^ s) (2 ^ t)
  rw [← Nat.pow_add] at this
  rw [← this, h, Nat.mul_comm, Nat.mul_add_div (Nat.pow_pos (by omega)), Nat.div_eq_of_lt hy, Nat.add_zero]
theorem ac2_mod : ∀ (r : List Nat) (B : Nat), 2 * r.length ≤ B → ac2 B r % 2 ^ (B - 2 * r.length) = 0
  | [], B, _ => by simp [ac2]
  | k :: r, B, h => by
    rw [List.length_cons] at h ⊢
    have h1 := ac2_mod r (B - 2) (by omega)
    rw [show B - 2 * (r.length + 1) = B - 2 - 2 * r.length by omega, ac2, Nat.add_mod, h1, Nat.add_zero, Nat.mod_mod]
    have : 2 ^ (B - 2) = 2 ^ (2 * r.length) * 2 ^ (B - 2 - 2 * r.length) := by rw [← Nat.pow_add]; congr 1; omega
    rw [this, ← Nat.mul_assoc, Nat.mul_mod_left]
theorem low_mod {key B C x y : Nat} (hC : C ≤ B) (h : key % 2 ^ B = x + y) (hx : x % 2 ^ C = 0) (hy : y < 2 ^ C) : key % 2 ^ C = y := by
  have e : key % 2 ^ B % 2 ^ C = key % 2 ^ C := Nat.mod_mod_of_dvd _ (Nat.pow_dvd_pow 2 hC)
  rw [← e, h, Nat.add_mod, hx, Nat.zero_add, Nat.mod_mod, Nat.mod_eq_of_lt hy]
theorem mulpow_mod {v s C : Nat} (h : C ≤ s) : v * 2 ^ s % 2 ^ C = 0 := by
  rw [show s = s - C + C by omega, Nat.pow_add, ← Nat.mul_assoc, Nat.mul_mod_left]
theorem map_pred (r : List Nat) (h : ∀ k, k ∈ r → 1 ≤ k ∧ k ≤ 3) : r.map nd = r.map (fun k => k - 1) := List.map_congr_left fun k hk => by unfold nd; rw [if_neg (by have := h k hk; omega)]
theorem nd_tk (r : List Nat) (rs : List (List Nat)) (h : ∀ k, k ∈ r → 1 ≤ k ∧ k ≤ 3) : (tk (r :: rs)).map nd = r.map (fun k => k - 1) ++ 3 :: (tk rs).map nd := by
  rw [tk_cons, List.map_append, map_pred r h]; rfl

set_option maxRecDepth 100000 in
theorem lp_op2_700 {Po : Option zV → zS → Prop} {S : zS} (hs : Sd S) {b : Nat} (hb5 : b < 5) {key n i run x : Nat} (hkey : key < 2 ^ 30) (hrun : run ≤ 7) : ∀ (r l : List Nat) (B j : Nat), (∀ k, k ∈ r → 1 ≤ k ∧ k ≤ 3) → 2 * r.length ≤ B → B ≤ 30 → x < 2 ^ (B - 2 * r.length) → key % 2 ^ B = ac2 B r + x → l.length + r.length ≤ 12 → j + r.length = run → Ok mX6_open 76 [some (zi (nI key)), some (zi (nI n)), some (zr 700 b), some (zi (nI (B - 2 * r.length))), some (zi (nI (l.length + r.length))), some (zi (nI i)), some (zi (nI run)), some (zi (nI run))] [] (stR S 700 b (l ++ r.map (fun k => k - 1))) Po → Ok mX6_open 37 [some (zi (nI key)), some (zi (nI n)), some (zr 700 b), some (zi (nI B)), some (zi (nI l.length)), some (zi (nI i)), some (zi (nI run)), some (zi (nI j))] [] (stR S 700 b l) Po := by
  intro r
  induction r with
  | nil =>
    intro l B j h3 hB hB30 hx hm hl hj K
    obtain rfl : j = run := by simpa using hj
    rw [show l ++ ([] : List Nat).map (fun k => k - 1) = l by simp] at K
    refine r_iload (q := 39) dX6_open_37 rfl rfl ?_
    refine r_iload (q := 41) dX6_open_39 rfl rfl ?_
    refine r_icmp_geN (q := 44) (t := 76) (by omega) (by omega) dX6_open_41 (by decide) rfl (fun h41 => ?_) (fun h41 => absurd h41 (by omega))
    exact K
  | cons k r ih =>
    intro l B j h3 hB hB30 hx hm hl hj K
    rw [List.length_cons] at hB hx hl hj K
    have hk := h3 k List.mem_cons_self
    have h3' := fun q hq => h3 q (List.mem_cons_of_mem _ hq)
    have hx' : x < 2 ^ (B - 2 - 2 * r.length) := by rw [show B - 2 - 2 * r.length = B - 2 * (r.length + 1) by omega]; exact hx
    have hlow := ac2_lt r (B - 2) x h3' (by omega) hx'
    rw [ac2, Nat.add_assoc] at hm
    have hd : key / 2 ^ (B - 2) % 4 = k - 1 := dig (s := B - 2) (t := 2) (by rw [show B - 2 + 2 = B by omega]; exact hm) hlow
    have hm2 := low_mod (show B - 2 ≤ B by omega) hm (mulpow_mod (Nat.le_refl _)) hlow
    have hdb : key / 2 ^ (B - 2) ≤ key := Nat.div_le_self _ _
    refine r_iload (q := 39) dX6_open_37 rfl rfl ?_
    refine r_iload (q := 41) dX6_open_39 rfl rfl ?_
    refine r_icmp_geN (q := 44) (t := 76) (by omega) (by omega) dX6_open_41 (by decide) rfl (fun h41 => absurd h41 (by omega)) (fun h41 => ?_)
    refine r_idecN (q := 47) (L' := [some (zi (nI key)), some (zi (nI n)), some (zr 700 b), some (zi (nI (B - 2))), some (zi (nI l.length)), some (zi (nI i)), some (zi (nI run)), some (zi (nI j))]) 2 (by omega) rfl dX6_open_44 rfl rfl (by decide) rfl ?_
    refine r_iload_n (q := 48) dX6_open_47 rfl rfl rfl ?_
    refine r_if_ltN (q := 51) (t := 70) (by omega) dX6_open_48 (by decide) rfl ?_
    refine r_iload (q := 53) dX6_open_51 rfl rfl ?_
    refine r_aload_n (q := 54) dX6_open_53 rfl rfl rfl ?_
    refine r_alen (q := 55) (by decide) (by decide) dX6_open_54 rfl (hs.e (show b < 5 by omega)) ?_
    refine r_topi (y := nI 13) (congrArg nI (hs.n rfl (show b < 5 by omega))) ?_
    refine r_icmp_geN (q := 58) (t := 70) (by omega) (by omega) dX6_open_55 (by decide) rfl (fun h55 => absurd h55 (by omega)) (fun h55 => ?_)
    refine r_aload_n (q := 59) dX6_open_58 rfl rfl rfl ?_
    refine r_iload (q := 61) dX6_open_59 rfl rfl ?_
    refine r_iload_n (q := 62) dX6_open_61 rfl rfl rfl ?_
    refine r_iload_n (q := 63) dX6_open_62 rfl rfl rfl ?_
    refine r_iushr (q := 64) dX6_open_63 rfl ?_
    refine r_topi (y := nI (key / 2 ^ (B - 2))) (ushr_N (by omega) (by omega)) ?_
    refine r_iconst (q := 65) (nI 3) dX6_open_64 rfl (by decide) ?_
    refine r_iand (q := 66) dX6_open_65 rfl ?_
    refine r_topi (y := nI ((key / 2 ^ (B - 2)) % 4)) (pk_andN (show key / 2 ^ (B - 2) < 2 ^ 32 by omega) 2 (by decide)) ?_
    refine r_iastN (q := 67) 13 (by decide) rfl dX6_open_66 rfl (hs.e (show b < 5 by omega)) (hs.n rfl (show b < 5 by omega)) (by omega) (by decide) ?_
    refine r_iincN (q := 70) (L' := [some (zi (nI key)), some (zi (nI n)), some (zr 700 b), some (zi (nI (B - 2))), some (zi (nI (l.length + 1))), some (zi (nI i)), some (zi (nI run)), some (zi (nI j))]) 1 rfl dX6_open_67 rfl rfl (by decide) rfl ?_
    refine r_iincN (q := 73) (L' := [some (zi (nI key)), some (zi (nI n)), some (zr 700 b), some (zi (nI (B - 2))), some (zi (nI (l.length + 1))), some (zi (nI i)), some (zi (nI run)), some (zi (nI (j + 1)))]) 1 rfl dX6_open_70 rfl rfl (by decide) rfl ?_
    refine r_goto (q := 37) dX6_open_73 (by decide) ?_
    rw [hd, stR_snoc]
    have q := ih (l ++ [k - 1]) (B - 2) (j + 1) h3' (by omega) (by omega) hx' hm2 (by simp; omega) (by omega) ?_
    · rw [show (l ++ [k - 1]).length = l.length + 1 by simp] at q; exact q
    · rw [show (l ++ [k - 1]).length = l.length + 1 by simp, show l.length + 1 + r.length = l.length + (r.length + 1) by omega, show B - 2 - 2 * r.length = B - 2 * (r.length + 1) by omega, List.append_assoc]; exact K

set_option maxRecDepth 100000 in
theorem lp_op3_700 {S : zS} (hs : Sd S) {b : Nat} (hb5 : b < 5) {key n i : Nat} {l : List Nat} (hkey : key < 2 ^ 30) (hn : i + 1 = n) (hn7 : n ≤ 7) (hl : l.length ≤ 12) : ∀ (B : Nat), B ≤ 30 → key % 2 ^ B = 0 → Ok mX6_open 9 [some (zi (nI key)), some (zi (nI n)), some (zr 700 b), some (zi (nI B)), some (zi (nI l.length)), some (zi (nI i)), none, none] [] (stR S 700 b l) (fun r S1 => r = some (zi (nI (l ++ [3]).length)) ∧ S1 = stR S 700 b (l ++ [3])) := by
  intro B hB hm
  rcases (show B = 0 ∨ B = 1 ∨ B = 2 ∨ 3 ≤ B by omega) with rfl | rfl | rfl | h3
  · refine r_iload (q := 11) dX6_open_9 rfl rfl ?_
    refine r_iload_n (q := 12) dX6_open_11 rfl rfl rfl ?_
    refine r_icmp_geN (q := 15) (t := 97) (by omega) (by omega) dX6_open_12 (by decide) rfl (fun h12 => absurd h12 (by omega)) (fun h12 => ?_)
    refine r_iinc (q := 18) (L' := [some (zi (nI key)), some (zi (nI n)), some (zr 700 b), some (zi (-3 : Int32)), some (zi (nI l.length)), some (zi (nI i)), none, none]) (-3 : Int32) dX6_open_15 rfl rfl (by decide) (by decide) rfl ?_
    refine r_iload_n (q := 19) dX6_open_18 rfl rfl rfl ?_
    refine r_if_ge (q := 22) (t := 26) dX6_open_19 (by decide) rfl (fun h19 => absurd h19 (by decide)) (fun h19 => ?_)
    refine r_iconst (q := 23) (nI 0) dX6_open_22 rfl (by decide) ?_
    refine r_goto (q := 32) dX6_open_23 (by decide) ?_
    refine r_istore (q := 34) (L' := [some (zi (nI key)), some (zi (nI n)), some (zr 700 b), some (zi (-3 : Int32)), some (zi (nI l.length)), some (zi (nI i)), some (zi (nI 0)), none]) dX6_open_32 rfl (by decide) rfl ?_
    refine r_iconst (q := 35) (nI 0) dX6_open_34 rfl (by decide) ?_
    refine r_istore (q := 37) (L' := [some (zi (nI key)), some (zi (nI n)), some (zr 700 b), some (zi (-3 : Int32)), some (zi (nI l.length)), some (zi (nI i)), some (zi (nI 0)), some (zi (nI 0))]) dX6_open_35 rfl (by decide) rfl ?_
    refine r_iload (q := 39) dX6_open_37 rfl rfl ?_
    refine r_iload (q := 41) dX6_open_39 rfl rfl ?_
    refine r_icmp_geN (q := 44) (t := 76) (by omega) (by omega) dX6_open_41 (by decide) rfl (fun h41 => ?_) (fun h41 => absurd h41 (by omega))
    refine r_iload (q := 78) dX6_open_76 rfl rfl ?_
    refine r_aload_n (q := 79) dX6_open_78 rfl rfl rfl ?_
    refine r_alen (q := 80) (by decide) (by decide) dX6_open_79 rfl (hs.e (show b < 5 by omega)) ?_
    refine r_topi (y := nI 13) (congrArg nI (hs.n rfl (show b < 5 by omega))) ?_
    refine r_icmp_geN (q := 83) (t := 91) (by omega) (by omega) dX6_open_80 (by decide) rfl (fun h80 => absurd h80 (by omega)) (fun h80 => ?_)
    refine r_aload_n (q := 84) dX6_open_83 rfl rfl rfl ?_
    refine r_iload (q := 86) dX6_open_84 rfl rfl ?_
    refine r_iconst (q := 87) (nI 3) dX6_open_86 rfl (by decide) ?_
    refine r_iastN (q := 88) 13 (by decide) rfl dX6_open_87 rfl (hs.e (show b < 5 by omega)) (hs.n rfl (show b < 5 by omega)) (by omega) (by decide) ?_
    refine r_iincN (q := 91) (L' := [some (zi (nI key)), some (zi (nI n)), some (zr 700 b), some (zi (-3 : Int32)), some (zi (nI (l.length + 1))), some (zi (nI i)), some (zi (nI 0)), some (zi (nI 0))]) 1 rfl dX6_open_88 rfl rfl (by decide) rfl ?_
    refine r_iincN (q := 94) (L' := [some (zi (nI key)), some (zi (nI n)), some (zr 700 b), some (zi (-3 : Int32)), some (zi (nI (l.length + 1))), some (zi (nI (i + 1))), some (zi (nI 0)), some (zi (nI 0))]) 1 rfl dX6_open_91 rfl rfl (by decide) rfl ?_
    refine r_goto (q := 9) dX6_open_94 (by decide) ?_
    refine r_iload (q := 11) dX6_open_9 rfl rfl ?_
    refine r_iload_n (q := 12) dX6_open_11 rfl rfl rfl ?_
    refine r_icmp_geN (q := 15) (t := 97) (by omega) (by omega) dX6_open_12 (by decide) rfl (fun h12 => ?_) (fun h12 => absurd h12 (by omega))
    refine r_iload (q := 99) dX6_open_97 rfl rfl ?_
    refine r_ireturn dX6_open_99 rfl ?_
    exact ⟨by simp, stR_snoc⟩
  · refine r_iload (q := 11) dX6_open_9 rfl rfl ?_
    refine r_iload_n (q := 12) dX6_open_11 rfl rfl rfl ?_
    refine r_icmp_geN (q := 15) (t := 97) (by omega) (by omega) dX6_open_12 (by decide) rfl (fun h12 => absurd h12 (by omega)) (fun h12 => ?_)
    refine r_iinc (q := 18) (L' := [some (zi (nI key)), some (zi (nI n)), some (zr 700 b), some (zi (-2 : Int32)), some (zi (nI l.length)), some (zi (nI i)), none, none]) (-2 : Int32) dX6_open_15 rfl rfl (by decide) (by decide) rfl ?_
    refine r_iload_n (q := 19) dX6_open_18 rfl rfl rfl ?_
    refine r_if_ge (q := 22) (t := 26) dX6_open_19 (by decide) rfl (fun h19 => absurd h19 (by decide)) (fun h19 => ?_)
    refine r_iconst (q := 23) (nI 0) dX6_open_22 rfl (by decide) ?_
    refine r_goto (q := 32) dX6_open_23 (by decide) ?_
    refine r_istore (q := 34) (L' := [some (zi (nI key)), some (zi (nI n)), some (zr 700 b), some (zi (-2 : Int32)), some (zi (nI l.length)), some (zi (nI i)), some (zi (nI 0)), none]) dX6_open_32 rfl (by decide) rfl ?_
    refine r_iconst (q := 35) (nI 0) dX6_open_34 rfl (by decide) ?_
    refine r_istore (q := 37) (L' := [some (zi (nI key)), some (zi (nI n)), some (zr 700 b), some (zi (-2 : Int32)), some (zi (nI l.length)), some (zi (nI i)), some (zi (nI 0)), some (zi (nI 0))]) dX6_open_35 rfl (by decide) rfl ?_
    refine r_iload (q := 39) dX6_open_37 rfl rfl ?_
    refine r_iload (q := 41) dX6_open_39 rfl rfl ?_
    refine r_icmp_geN (q := 44) (t := 76) (by omega) (by omega) dX6_open_41 (by decide) rfl (fun h41 => ?_) (fun h41 => absurd h41 (by omega))
    refine r_iload (q := 78) dX6_open_76 rfl rfl ?_
    refine r_aload_n (q := 79) dX6_open_78 rfl rfl rfl ?_
    refine r_alen (q := 80) (by decide) (by decide) dX6_open_79 rfl (hs.e (show b < 5 by omega)) ?_
    refine r_topi (y := nI 13) (congrArg nI (hs.n rfl (show b < 5 by omega))) ?_
    refine r_icmp_geN (q := 83) (t := 91) (by omega) (by omega) dX6_open_80 (by decide) rfl (fun h80 => absurd h80 (by omega)) (fun h80 => ?_)
    refine r_aload_n (q := 84) dX6_open_83 rfl rfl rfl ?_
    refine r_iload (q := 86) dX6_open_84 rfl rfl ?_
    refine r_iconst (q := 87) (nI 3) dX6_open_86 rfl (by decide) ?_
    refine r_iastN (q := 88) 13 (by decide) rfl dX6_open_87 rfl (hs.e (show b < 5 by omega)) (hs.n rfl (show b < 5 by omega)) (by omega) (by decide) ?_
    refine r_iincN (q := 91) (L' := [some (zi (nI key)), some (zi (nI n)), some (zr 700 b), some (zi (-2 : Int32)), some (zi (nI (l.length + 1))), some (zi (nI i)), some (zi (nI 0)), some (zi (nI 0))]) 1 rfl dX6_open_88 rfl rfl (by decide) rfl ?_
    refine r_iincN (q := 94) (L' := [some (zi (nI key)), some (zi (nI n)), some (zr 700 b), some (zi (-2 : Int32)), some (zi (nI (l.length + 1))), some (zi (nI (i + 1))), some (zi (nI 0)), some (zi (nI 0))]) 1 rfl dX6_open_91 rfl rfl (by decide) rfl ?_
    refine r_goto (q := 9) dX6_open_94 (by decide) ?_
    refine r_iload (q := 11) dX6_open_9 rfl rfl ?_
    refine r_iload_n (q := 12) dX6_open_11 rfl rfl rfl ?_
    refine r_icmp_geN (q := 15) (t := 97) (by omega) (by omega) dX6_open_12 (by decide) rfl (fun h12 => ?_) (fun h12 => absurd h12 (by omega))
    refine r_iload (q := 99) dX6_open_97 rfl rfl ?_
    refine r_ireturn dX6_open_99 rfl ?_
    exact ⟨by simp, stR_snoc⟩
  · refine r_iload (q := 11) dX6_open_9 rfl rfl ?_
    refine r_iload_n (q := 12) dX6_open_11 rfl rfl rfl ?_
    refine r_icmp_geN (q := 15) (t := 97) (by omega) (by omega) dX6_open_12 (by decide) rfl (fun h12 => absurd h12 (by omega)) (fun h12 => ?_)
    refine r_iinc (q := 18) (L' := [some (zi (nI key)), some (zi (nI n)), some (zr 700 b), some (zi (-1 : Int32)), some (zi (nI l.length)), some (zi (nI i)), none, none]) (-1 : Int32) dX6_open_15 rfl rfl (by decide) (by decide) rfl ?_
    refine r_iload_n (q := 19) dX6_open_18 rfl rfl rfl ?_
    refine r_if_ge (q := 22) (t := 26) dX6_open_19 (by decide) rfl (fun h19 => absurd h19 (by decide)) (fun h19 => ?_)
    refine r_iconst (q := 23) (nI 0) dX6_open_22 rfl (by decide) ?_
    refine r_goto (q := 32) dX6_open_23 (by decide) ?_
    refine r_istore (q := 34) (L' := [some (zi (nI key)), some (zi (nI n)), some (zr 700 b), some (zi (-1 : Int32)), some (zi (nI l.length)), some (zi (nI i)), some (zi (nI 0)), none]) dX6_open_32 rfl (by decide) rfl ?_
    refine r_iconst (q := 35) (nI 0) dX6_open_34 rfl (by decide) ?_
    refine r_istore (q := 37) (L' := [some (zi (nI key)), some (zi (nI n)), some (zr 700 b), some (zi (-1 : Int32)), some (zi (nI l.length)), some (zi (nI i)), some (zi (nI 0)), some (zi (nI 0))]) dX6_open_35 rfl (by decide) rfl ?_
    refine r_iload (q := 39) dX6_open_37 rfl rfl ?_
    refine r_iload (q := 41) dX6_open_39 rfl rfl ?_
    refine r_icmp_geN (q := 44) (t := 76) (by omega) (by omega) dX6_open_41 (by decide) rfl (fun h41 => ?_) (fun h41 => absurd h41 (by omega))
    refine r_iload (q := 78) dX6_open_76 rfl rfl ?_
    refine r_aload_n (q := 79) dX6_open_78 rfl rfl rfl ?_
    refine r_alen (q := 80) (by decide) (by decide) dX6_open_79 rfl (hs.e (show b < 5 by omega)) ?_
    refine r_topi (y := nI 13) (congrArg nI (hs.n rfl (show b < 5 by omega))) ?_
    refine r_icmp_geN (q := 83) (t := 91) (by omega) (by omega) dX6_open_80 (by decide) rfl (fun h80 => absurd h80 (by omega)) (fun h80 => ?_)
    refine r_aload_n (q := 84) dX6_open_83 rfl rfl rfl ?_
    refine r_iload (q := 86) dX6_open_84 rfl rfl ?_
    refine r_iconst (q := 87) (nI 3) dX6_open_86 rfl (by decide) ?_
    refine r_iastN (q := 88) 13 (by decide) rfl dX6_open_87 rfl (hs.e (show b < 5 by omega)) (hs.n rfl (show b < 5 by omega)) (by omega) (by decide) ?_
    refine r_iincN (q := 91) (L' := [some (zi (nI key)), some (zi (nI n)), some (zr 700 b), some (zi (-1 : Int32)), some (zi (nI (l.length + 1))), some (zi (nI i)), some (zi (nI 0)), some (zi (nI 0))]) 1 rfl dX6_open_88 rfl rfl (by decide) rfl ?_
    refine r_iincN (q := 94) (L' := [some (zi (nI key)), some (zi (nI n)), some (zr 700 b), some (zi (-1 : Int32)), some (zi (nI (l.length + 1))), some (zi (nI (i + 1))), some (zi (nI 0)), some (zi (nI 0))]) 1 rfl dX6_open_91 rfl rfl (by decide) rfl ?_
    refine r_goto (q := 9) dX6_open_94 (by decide) ?_
    refine r_iload (q := 11) dX6_open_9 rfl rfl ?_
    refine r_iload_n (q := 12) dX6_open_11 rfl rfl rfl ?_
    refine r_icmp_geN (q := 15) (t := 97) (by omega) (by omega) dX6_open_12 (by decide) rfl (fun h12 => ?_) (fun h12 => absurd h12 (by omega))
    refine r_iload (q := 99) dX6_open_97 rfl rfl ?_
    refine r_ireturn dX6_open_99 rfl ?_
    exact ⟨by simp, stR_snoc⟩
  · have hd : key / 2 ^ (B - 3) % 8 = 0 := dig (s := B - 3) (t := 3) (y := 0) (by rw [show B - 3 + 3 = B by omega, hm]; omega) (Nat.pow_pos (by omega))
    have hdb : key / 2 ^ (B - 3) ≤ key := Nat.div_le_self _ _
    refine r_iload (q := 11) dX6_open_9 rfl rfl ?_
    refine r_iload_n (q := 12) dX6_open_11 rfl rfl rfl ?_
    refine r_icmp_geN (q := 15) (t := 97) (by omega) (by omega) dX6_open_12 (by decide) rfl (fun h12 => absurd h12 (by omega)) (fun h12 => ?_)
    refine r_idecN (q := 18) (L' := [some (zi (nI key)), some (zi (nI n)), some (zr 700 b), some (zi (nI (B - 3))), some (zi (nI l.length)), some (zi (nI i)), none, none]) 3 (by omega) rfl dX6_open_15 rfl rfl (by decide) rfl ?_
    refine r_iload_n (q := 19) dX6_open_18 rfl rfl rfl ?_
    refine r_if_geN (q := 22) (t := 26) (by omega) dX6_open_19 (by decide) rfl ?_
    refine r_iload_n (q := 27) dX6_open_26 rfl rfl rfl ?_
    refine r_iload_n (q := 28) dX6_open_27 rfl rfl rfl ?_
    refine r_iushr (q := 29) dX6_open_28 rfl ?_
    refine r_topi (y := nI (key / 2 ^ (B - 3))) (ushr_N (by omega) (by omega)) ?_
    refine r_bipush (q := 31) (nI 7) dX6_open_29 rfl (by decide) ?_
    refine r_iand (q := 32) dX6_open_31 rfl ?_
    refine r_topi (y := nI 0) (by rw [pk_andN (by omega) 3 (by decide), hd]) ?_
    refine r_istore (q := 34) (L' := [some (zi (nI key)), some (zi (nI n)), some (zr 700 b), some (zi (nI (B - 3))), some (zi (nI l.length)), some (zi (nI i)), some (zi (nI 0)), none]) dX6_open_32 rfl (by decide) rfl ?_
    refine r_iconst (q := 35) (nI 0) dX6_open_34 rfl (by decide) ?_
    refine r_istore (q := 37) (L' := [some (zi (nI key)), some (zi (nI n)), some (zr 700 b), some (zi (nI (B - 3))), some (zi (nI l.length)), some (zi (nI i)), some (zi (nI 0)), some (zi (nI 0))]) dX6_open_35 rfl (by decide) rfl ?_
    refine r_iload (q := 39) dX6_open_37 rfl rfl ?_
    refine r_iload (q := 41) dX6_open_39 rfl rfl ?_
    refine r_icmp_geN (q := 44) (t := 76) (by omega) (by omega) dX6_open_41 (by decide) rfl (fun h41 => ?_) (fun h41 => absurd h41 (by omega))
    refine r_iload (q := 78) dX6_open_76 rfl rfl ?_
    refine r_aload_n (q := 79) dX6_open_78 rfl rfl rfl ?_
    refine r_alen (q := 80) (by decide) (by decide) dX6_open_79 rfl (hs.e (show b < 5 by omega)) ?_
    refine r_topi (y := nI 13) (congrArg nI (hs.n rfl (show b < 5 by omega))) ?_
    refine r_icmp_geN (q := 83) (t := 91) (by omega) (by omega) dX6_open_80 (by decide) rfl (fun h80 => absurd h80 (by omega)) (fun h80 => ?_)
    refine r_aload_n (q := 84) dX6_open_83 rfl rfl rfl ?_
    refine r_iload (q := 86) dX6_open_84 rfl rfl ?_
    refine r_iconst (q := 87) (nI 3) dX6_open_86 rfl (by decide) ?_
    refine r_iastN (q := 88) 13 (by decide) rfl dX6_open_87 rfl (hs.e (show b < 5 by omega)) (hs.n rfl (show b < 5 by omega)) (by omega) (by decide) ?_
    refine r_iincN (q := 91) (L' := [some (zi (nI key)), some (zi (nI n)), some (zr 700 b), some (zi (nI (B - 3))), some (zi (nI (l.length + 1))), some (zi (nI i)), some (zi (nI 0)), some (zi (nI 0))]) 1 rfl dX6_open_88 rfl rfl (by decide) rfl ?_
    refine r_iincN (q := 94) (L' := [some (zi (nI key)), some (zi (nI n)), some (zr 700 b), some (zi (nI (B - 3))), some (zi (nI (l.length + 1))), some (zi (nI (i + 1))), some (zi (nI 0)), some (zi (nI 0))]) 1 rfl dX6_open_91 rfl rfl (by decide) rfl ?_
    refine r_goto (q := 9) dX6_open_94 (by decide) ?_
    refine r_iload (q := 11) dX6_open_9 rfl rfl ?_
    refine r_iload_n (q := 12) dX6_open_11 rfl rfl rfl ?_
    refine r_icmp_geN (q := 15) (t := 97) (by omega) (by omega) dX6_open_12 (by decide) rfl (fun h12 => ?_) (fun h12 => absurd h12 (by omega))
    refine r_iload (q := 99) dX6_open_97 rfl rfl ?_
    refine r_ireturn dX6_open_99 rfl ?_
    exact ⟨by simp, stR_snoc⟩

set_option maxRecDepth 100000 in
theorem lp_op1_700 {S : zS} (hs : Sd S) {b : Nat} (hb5 : b < 5) {key n : Nat} (hkey : key < 2 ^ 30) (hn7 : n ≤ 7) : ∀ (rs : List (List Nat)) (l : List Nat) (B i : Nat), rs ≠ [] → Ru rs → Bt B rs → B ≤ 30 → i + rs.length = n → key % 2 ^ B = kr B rs → l.length + (tk rs).length ≤ 13 → Ok mX6_open 9 [some (zi (nI key)), some (zi (nI n)), some (zr 700 b), some (zi (nI B)), some (zi (nI l.length)), some (zi (nI i)), none, none] [] (stR S 700 b l) (fun r S1 => r = some (zi (nI (l ++ (tk rs).map nd).length)) ∧ S1 = stR S 700 b (l ++ (tk rs).map nd)) := by
  intro rs
  induction rs with
  | nil => exact fun l B i h => absurd rfl h
  | cons r rs ih =>
    intro l B i _ hr hb hB hi hm hl
    have hr3 := hr.hd
    rw [List.length_cons] at hi
    by_cases he : rs = []
    · subst he
      have e0 := hb.1 rfl
      subst e0
      have q := lp_op3_700 (l := l) hs hb5 hkey (show i + 1 = n by simpa using hi) hn7 (by simp [tk] at hl; omega) B hB (by rw [hm]; simp [kr, ac2])
      exact q
    · obtain ⟨b1, b2, b3⟩ := hb.2 he
      have klt := kr_lt rs _ hr.tl b3
      have alt := ac2_lt r (B - 3) _ hr3 (by omega) klt
      rw [kr] at hm
      have hd : key / 2 ^ (B - 3) % 8 = r.length := dig (s := B - 3) (t := 3) (by rw [show B - 3 + 3 = B by omega]; exact hm) alt
      have hdb : key / 2 ^ (B - 3) ≤ key := Nat.div_le_self _ _
      have hm2 := low_mod (show B - 3 ≤ B by omega) hm (mulpow_mod (Nat.le_refl _)) alt
      have hm3 : key % 2 ^ (B - 3 - 2 * r.length) = kr (B - 3 - 2 * r.length) rs := low_mod (show B - 3 - 2 * r.length ≤ B - 3 by omega) hm2 (ac2_mod r (B - 3) (by omega)) klt
      rw [nd_tk r rs hr3]
      rw [tk_cons, List.length_append, List.length_cons] at hl
      have hl1 : 1 ≤ rs.length := by cases rs with | nil => exact absurd rfl he | cons _ _ => simp
      refine r_iload (q := 11) dX6_open_9 rfl rfl ?_
      refine r_iload_n (q := 12) dX6_open_11 rfl rfl rfl ?_
      refine r_icmp_geN (q := 15) (t := 97) (by omega) (by omega) dX6_open_12 (by decide) rfl (fun h12 => absurd h12 (by omega)) (fun h12 => ?_)
      refine r_idecN (q := 18) (L' := [some (zi (nI key)), some (zi (nI n)), some (zr 700 b), some (zi (nI (B - 3))), some (zi (nI l.length)), some (zi (nI i)), none, none]) 3 (by omega) rfl dX6_open_15 rfl rfl (by decide) rfl ?_
      refine r_iload_n (q := 19) dX6_open_18 rfl rfl rfl ?_
      refine r_if_geN (q := 22) (t := 26) (by omega) dX6_open_19 (by decide) rfl ?_
      refine r_iload_n (q := 27) dX6_open_26 rfl rfl rfl ?_
      refine r_iload_n (q := 28) dX6_open_27 rfl rfl rfl ?_
      refine r_iushr (q := 29) dX6_open_28 rfl ?_
      refine r_topi (y := nI (key / 2 ^ (B - 3))) (ushr_N (by omega) (by omega)) ?_
      refine r_bipush (q := 31) (nI 7) dX6_open_29 rfl (by decide) ?_
      refine r_iand (q := 32) dX6_open_31 rfl ?_
      refine r_topi (y := nI r.length) (by rw [pk_andN (by omega) 3 (by decide), hd]) ?_
      refine r_istore (q := 34) (L' := [some (zi (nI key)), some (zi (nI n)), some (zr 700 b), some (zi (nI (B - 3))), some (zi (nI l.length)), some (zi (nI i)), some (zi (nI r.length)), none]) dX6_open_32 rfl (by decide) rfl ?_
      refine r_iconst (q := 35) (nI 0) dX6_open_34 rfl (by decide) ?_
      refine r_istore (q := 37) (L' := [some (zi (nI key)), some (zi (nI n)), some (zr 700 b), some (zi (nI (B - 3))), some (zi (nI l.length)), some (zi (nI i)), some (zi (nI r.length)), some (zi (nI 0))]) dX6_open_35 rfl (by decide) rfl ?_
      refine lp_op2_700 hs hb5 hkey b2 r l (B - 3) 0 hr3 (by omega) (by omega) klt hm2 (by omega) (by omega) ?_
      refine r_iload (q := 78) dX6_open_76 rfl rfl ?_
      refine r_aload_n (q := 79) dX6_open_78 rfl rfl rfl ?_
      refine r_alen (q := 80) (by decide) (by decide) dX6_open_79 rfl (hs.e (show b < 5 by omega)) ?_
      refine r_topi (y := nI 13) (congrArg nI (hs.n rfl (show b < 5 by omega))) ?_
      refine r_icmp_geN (q := 83) (t := 91) (by omega) (by omega) dX6_open_80 (by decide) rfl (fun h80 => absurd h80 (by omega)) (fun h80 => ?_)
      refine r_aload_n (q := 84) dX6_open_83 rfl rfl rfl ?_
      refine r_iload (q := 86) dX6_open_84 rfl rfl ?_
      refine r_iconst (q := 87) (nI 3) dX6_open_86 rfl (by decide) ?_
      refine r_iastN (q := 88) 13 (by decide) rfl dX6_open_87 rfl (hs.e (show b < 5 by omega)) (hs.n rfl (show b < 5 by omega)) (by omega) (by decide) ?_
      refine r_iincN (q := 91) (L' := [some (zi (nI key)), some (zi (nI n)), some (zr 700 b), some (zi (nI (B - 3 - 2 * r.length))), some (zi (nI (l.length + r.length + 1))), some (zi (nI i)), some (zi (nI r.length)), some (zi (nI r.length))]) 1 rfl dX6_open_88 rfl rfl (by decide) rfl ?_
      refine r_iincN (q := 94) (L' := [some (zi (nI key)), some (zi (nI n)), some (zr 700 b), some (zi (nI (B - 3 - 2 * r.length))), some (zi (nI (l.length + r.length + 1))), some (zi (nI (i + 1))), some (zi (nI r.length)), some (zi (nI r.length))]) 1 rfl dX6_open_91 rfl rfl (by decide) rfl ?_
      refine r_goto (q := 9) dX6_open_94 (by decide) ?_
      refine r_mask [true, true, true, true, true, true, false, false] rfl ?_
      have q := ih (l ++ r.map (fun k => k - 1) ++ [3]) (B - 3 - 2 * r.length) (i + 1) he hr.tl b3 (by omega) (by omega) hm3 (by simp; omega)
      have e1 := stR_snoc (S := S) (a := 700) (b := b) (v := 3) (l := l ++ r.map (fun k => k - 1))
      rw [List.length_append, List.length_map] at e1
      rw [e1]
      have e2 : l ++ List.map (fun k : Nat => k - 1) r ++ [3] ++ (tk rs).map nd = l ++ (List.map (fun k : Nat => k - 1) r ++ 3 :: (tk rs).map nd) := by simp
      have e3 : List.length (l ++ List.map (fun k : Nat => k - 1) r ++ [3]) = l.length + r.length + 1 := by simp [Nat.add_assoc]
      rw [e2, e3] at q
      exact q

set_option maxRecDepth 100000 in
theorem ok_open_700 {S : zS} (hs : Sd S) {b : Nat} (hb5 : b < 5) {A n : Nat} {e : Nat → Nat} (hE : Eok A e) {t : List Nat} (ht : Tr A e n t) (hn : n ≤ 7) : Ok mX6_open 0 (ent 8 [zi (nI (ky t)), zi (nI n), zr 700 b]) [] S (fun r S1 => r = some (zi (nI t.length)) ∧ S1 = stR S 700 b (t.map nd)) := by
  obtain ⟨h1, h2, h3, h4⟩ := ht.rn hE hn
  have hky := ky_lt hE ht hn
  have hlen := ht.len hE
  show Ok mX6_open 0 [some (zi (nI (ky t))), some (zi (nI n)), some (zr 700 b), none, none, none, none, none] [] S _
  refine r_bipush (q := 2) (nI 30) dX6_open_0 rfl (by decide) ?_
  refine r_istore_n (q := 3) (L' := [some (zi (nI (ky t))), some (zi (nI n)), some (zr 700 b), some (zi (nI 30)), none, none, none, none]) dX6_open_2 rfl rfl (by decide) rfl ?_
  refine r_iconst (q := 4) (nI 0) dX6_open_3 rfl (by decide) ?_
  refine r_istore (q := 6) (L' := [some (zi (nI (ky t))), some (zi (nI n)), some (zr 700 b), some (zi (nI 30)), some (zi (nI 0)), none, none, none]) dX6_open_4 rfl (by decide) rfl ?_
  refine r_iconst (q := 7) (nI 0) dX6_open_6 rfl (by decide) ?_
  refine r_istore (q := 9) (L' := [some (zi (nI (ky t))), some (zi (nI n)), some (zr 700 b), some (zi (nI 30)), some (zi (nI 0)), some (zi (nI 0)), none, none]) dX6_open_7 rfl (by decide) rfl ?_
  have q := lp_op1_700 hs hb5 hky hn (rns t) [] 30 0 (fun z => by rw [z] at h3; simp at h3; omega) h2 h4 (by omega) (by omega) (by rw [Nat.mod_eq_of_lt hky]; rfl) (by rw [← h1]; simp; omega)
  rw [stR_nil, List.nil_append, ← h1, List.length_map] at q
  exact q

set_option maxRecDepth 100000 in
theorem lp_op2_701 {Po : Option zV → zS → Prop} {S : zS} (hs : Sd S) {b : Nat} (hb5 : b < 5) {key n i run x : Nat} (hkey : key < 2 ^ 30) (hrun : run ≤ 7) : ∀ (r l : List Nat) (B j : Nat), (∀ k, k ∈ r → 1 ≤ k ∧ k ≤ 3) → 2 * r.length ≤ B → B ≤ 30 → x < 2 ^ (B - 2 * r.length) → key % 2 ^ B = ac2 B r + x → l.length + r.length ≤ 12 → j + r.length = run → Ok mX6_open 76 [some (zi (nI key)), some (zi (nI n)), some (zr 701 b), some (zi (nI (B - 2 * r.length))), some (zi (nI (l.length + r.length))), some (zi (nI i)), some (zi (nI run)), some (zi (nI run))] [] (stR S 701 b (l ++ r.map (fun k => k - 1))) Po → Ok mX6_open 37 [some (zi (nI key)), some (zi (nI n)), some (zr 701 b), some (zi (nI B)), some (zi (nI l.length)), some (zi (nI i)), some (zi (nI run)), some (zi (nI j))] [] (stR S 701 b l) Po := by
  intro r
  induction r with
  | nil =>
    intro l B j h3 hB hB30 hx hm hl hj K
    obtain rfl : j = run := by simpa using hj
    rw [show l ++ ([] : List Nat).map (fun k => k - 1) = l by simp] at K
    refine r_iload (q := 39) dX6_open_37 rfl rfl ?_
    refine r_iload (q := 41) dX6_open_39 rfl rfl ?_
    refine r_icmp_geN (q := 44) (t := 76) (by omega) (by omega) dX6_open_41 (by decide) rfl (fun h41 => ?_) (fun h41 => absurd h41 (by omega))
    exact K
  | cons k r ih =>
    intro l B j h3 hB hB30 hx hm hl hj K
    rw [List.length_cons] at hB hx hl hj K
    have hk := h3 k List.mem_cons_self
    have h3' := fun q hq => h3 q (List.mem_cons_of_mem _ hq)
    have hx' : x < 2 ^ (B - 2 - 2 * r.length) := by rw [show B - 2 - 2 * r.length = B - 2 * (r.length + 1) by omega]; exact hx
    have hlow := ac2_lt r (B - 2) x h3' (by omega) hx'
    rw [ac2, Nat.add_assoc] at hm
    have hd : key / 2 ^ (B - 2) % 4 = k - 1 := dig (s := B - 2) (t := 2) (by rw [show B - 2 + 2 = B by omega]; exact hm) hlow
    have hm2 := low_mod (show B - 2 ≤ B by omega) hm (mulpow_mod (Nat.le_refl _)) hlow
    have hdb : key / 2 ^ (B - 2) ≤ key := Nat.div_le_self _ _
    refine r_iload (q := 39) dX6_open_37 rfl rfl ?_
    refine r_iload (q := 41) dX6_open_39 rfl rfl ?_
    refine r_icmp_geN (q := 44) (t := 76) (by omega) (by omega) dX6_open_41 (by decide) rfl (fun h41 => absurd h41 (by omega)) (fun h41 => ?_)
    refine r_idecN (q := 47) (L' := [some (zi (nI key)), some (zi (nI n)), some (zr 701 b), some (zi (nI (B - 2))), some (zi (nI l.length)), some (zi (nI i)), some (zi (nI run)), some (zi (nI j))]) 2 (by omega) rfl dX6_open_44 rfl rfl (by decide) rfl ?_
    refine r_iload_n (q := 48) dX6_open_47 rfl rfl rfl ?_
    refine r_if_ltN (q := 51) (t := 70) (by omega) dX6_open_48 (by decide) rfl ?_
    refine r_iload (q := 53) dX6_open_51 rfl rfl ?_
    refine r_aload_n (q := 54) dX6_open_53 rfl rfl rfl ?_
    refine r_alen (q := 55) (by decide) (by decide) dX6_open_54 rfl (hs.e (show b < 5 by omega)) ?_
    refine r_topi (y := nI 13) (congrArg nI (hs.n rfl (show b < 5 by omega))) ?_
    refine r_icmp_geN (q := 58) (t := 70) (by omega) (by omega) dX6_open_55 (by decide) rfl (fun h55 => absurd h55 (by omega)) (fun h55 => ?_)
    refine r_aload_n (q := 59) dX6_open_58 rfl rfl rfl ?_
    refine r_iload (q := 61) dX6_open_59 rfl rfl ?_
    refine r_iload_n (q := 62) dX6_open_61 rfl rfl rfl ?_
    refine r_iload_n (q := 63) dX6_open_62 rfl rfl rfl ?_
    refine r_iushr (q := 64) dX6_open_63 rfl ?_
    refine r_topi (y := nI (key / 2 ^ (B - 2))) (ushr_N (by omega) (by omega)) ?_
    refine r_iconst (q := 65) (nI 3) dX6_open_64 rfl (by decide) ?_
    refine r_iand (q := 66) dX6_open_65 rfl ?_
    refine r_topi (y := nI ((key / 2 ^ (B - 2)) % 4)) (pk_andN (show key / 2 ^ (B - 2) < 2 ^ 32 by omega) 2 (by decide)) ?_
    refine r_iastN (q := 67) 13 (by decide) rfl dX6_open_66 rfl (hs.e (show b < 5 by omega)) (hs.n rfl (show b < 5 by omega)) (by omega) (by decide) ?_
    refine r_iincN (q := 70) (L' := [some (zi (nI key)), some (zi (nI n)), some (zr 701 b), some (zi (nI (B - 2))), some (zi (nI (l.length + 1))), some (zi (nI i)), some (zi (nI run)), some (zi (nI j))]) 1 rfl dX6_open_67 rfl rfl (by decide) rfl ?_
    refine r_iincN (q := 73) (L' := [some (zi (nI key)), some (zi (nI n)), some (zr 701 b), some (zi (nI (B - 2))), some (zi (nI (l.length + 1))), some (zi (nI i)), some (zi (nI run)), some (zi (nI (j + 1)))]) 1 rfl dX6_open_70 rfl rfl (by decide) rfl ?_
    refine r_goto (q := 37) dX6_open_73 (by decide) ?_
    rw [hd, stR_snoc]
    have q := ih (l ++ [k - 1]) (B - 2) (j + 1) h3' (by omega) (by omega) hx' hm2 (by simp; omega) (by omega) ?_
    · rw [show (l ++ [k - 1]).length = l.length + 1 by simp] at q; exact q
    · rw [show (l ++ [k - 1]).length = l.length + 1 by simp, show l.length + 1 + r.length = l.length + (r.length + 1) by omega, show B - 2 - 2 * r.length = B - 2 * (r.length + 1) by omega, List.append_assoc]; exact K

set_option maxRecDepth 100000 in
theorem lp_op3_701 {S : zS} (hs : Sd S) {b : Nat} (hb5 : b < 5) {key n i : Nat} {l : List Nat} (hkey : key < 2 ^ 30) (hn : i + 1 = n) (hn7 : n ≤ 7) (hl : l.length ≤ 12) : ∀ (B : Nat), B ≤ 30 → key % 2 ^ B = 0 → Ok mX6_open 9 [some (zi (nI key)), some (zi (nI n)), some (zr 701 b), some (zi (nI B)), some (zi (nI l.length)), some (zi (nI i)), none, none] [] (stR S 701 b l) (fun r S1 => r = some (zi (nI (l ++ [3]).length)) ∧ S1 = stR S 701 b (l ++ [3])) := by
  intro B hB hm
  rcases (show B = 0 ∨ B = 1 ∨ B = 2 ∨ 3 ≤ B by omega) with rfl | rfl | rfl | h3
  · refine r_iload (q := 11) dX6_open_9 rfl rfl ?_
    refine r_iload_n (q := 12) dX6_open_11 rfl rfl rfl ?_
    refine r_icmp_geN (q := 15) (t := 97) (by omega) (by omega) dX6_open_12 (by decide) rfl (fun h12 => absurd h12 (by omega)) (fun h12 => ?_)
    refine r_iinc (q := 18) (L' := [some (zi (nI key)), some (zi (nI n)), some (zr 701 b), some (zi (-3 : Int32)), some (zi (nI l.length)), some (zi (nI i)), none, none]) (-3 : Int32) dX6_open_15 rfl rfl (by decide) (by decide) rfl ?_
    refine r_iload_n (q := 19) dX6_open_18 rfl rfl rfl ?_
    refine r_if_ge (q := 22) (t := 26) dX6_open_19 (by decide) rfl (fun h19 => absurd h19 (by decide)) (fun h19 => ?_)
    refine r_iconst (q := 23) (nI 0) dX6_open_22 rfl (by decide) ?_
    refine r_goto (q := 32) dX6_open_23 (by decide) ?_
    refine r_istore (q := 34) (L' := [some (zi (nI key)), some (zi (nI n)), some (zr 701 b), some (zi (-3 : Int32)), some (zi (nI l.length)), some (zi (nI i)), some (zi (nI 0)), none]) dX6_open_32 rfl (by decide) rfl ?_
    refine r_iconst (q := 35) (nI 0) dX6_open_34 rfl (by decide) ?_
    refine r_istore (q := 37) (L' := [some (zi (nI key)), some (zi (nI n)), some (zr 701 b), some (zi (-3 : Int32)), some (zi (nI l.length)), some (zi (nI i)), some (zi (nI 0)), some (zi (nI 0))]) dX6_open_35 rfl (by decide) rfl ?_
    refine r_iload (q := 39) dX6_open_37 rfl rfl ?_
    refine r_iload (q := 41) dX6_open_39 rfl rfl ?_
    refine r_icmp_geN (q := 44) (t := 76) (by omega) (by omega) dX6_open_41 (by decide) rfl (fun h41 => ?_) (fun h41 => absurd h41 (by omega))
    refine r_iload (q := 78) dX6_open_76 rfl rfl ?_
    refine r_aload_n (q := 79) dX6_open_78 rfl rfl rfl ?_
    refine r_alen (q := 80) (by decide) (by decide) dX6_open_79 rfl (hs.e (show b < 5 by omega)) ?_
    refine r_topi (y := nI 13) (congrArg nI (hs.n rfl (show b < 5 by omega))) ?_
    refine r_icmp_geN (q := 83) (t := 91) (by omega) (by omega) dX6_open_80 (by decide) rfl (fun h80 => absurd h80 (by omega)) (fun h80 => ?_)
    refine r_aload_n (q := 84) dX6_open_83 rfl rfl rfl ?_
    refine r_iload (q := 86) dX6_open_84 rfl rfl ?_
    refine r_iconst (q := 87) (nI 3) dX6_open_86 rfl (by decide) ?_
    refine r_iastN (q := 88) 13 (by decide) rfl dX6_open_87 rfl (hs.e (show b < 5 by omega)) (hs.n rfl (show b < 5 by omega)) (by omega) (by decide) ?_
    refine r_iincN (q := 91) (L' := [some (zi (nI key)), some (zi (nI n)), some (zr 701 b), some (zi (-3 : Int32)), some (zi (nI (l.length + 1))), some (zi (nI i)), some (zi (nI 0)), some (zi (nI 0))]) 1 rfl dX6_open_88 rfl rfl (by decide) rfl ?_
    refine r_iincN (q := 94) (L' := [some (zi (nI key)), some (zi (nI n)), some (zr 701 b), some (zi (-3 : Int32)), some (zi (nI (l.length + 1))), some (zi (nI (i + 1))), some (zi (nI 0)), some (zi (nI 0))]) 1 rfl dX6_open_91 rfl rfl (by decide) rfl ?_
    refine r_goto (q := 9) dX6_open_94 (by decide) ?_
    refine r_iload (q := 11) dX6_open_9 rfl rfl ?_
    refine r_iload_n (q := 12) dX6_open_11 rfl rfl rfl ?_
    refine r_icmp_geN (q := 15) (t := 97) (by omega) (by omega) dX6_open_12 (by decide) rfl (fun h12 => ?_) (fun h12 => absurd h12 (by omega))
    refine r_iload (q := 99) dX6_open_97 rfl rfl ?_
    refine r_ireturn dX6_open_99 rfl ?_
    exact ⟨by simp, stR_snoc⟩
  · refine r_iload (q := 11) dX6_open_9 rfl rfl ?_
    refine r_iload_n (q := 12) dX6_open_11 rfl rfl rfl ?_
    refine r_icmp_geN (q := 15) (t := 97) (by omega) (by omega) dX6_open_12 (by decide) rfl (fun h12 => absurd h12 (by omega)) (fun h12 => ?_)
    refine r_iinc (q := 18) (L' := [some (zi (nI key)), some (zi (nI n)), some (zr 701 b), some (zi (-2 : Int32)), some (zi (nI l.length)), some (zi (nI i)), none, none]) (-2 : Int32) dX6_open_15 rfl rfl (by decide) (by decide) rfl ?_
    refine r_iload_n (q := 19) dX6_open_18 rfl rfl rfl ?_
    refine r_if_ge (q := 22) (t := 26) dX6_open_19 (by decide) rfl (fun h19 => absurd h19 (by decide)) (fun h19 => ?_)
    refine r_iconst (q := 23) (nI 0) dX6_open_22 rfl (by decide) ?_
    refine r_goto (q := 32) dX6_open_23 (by decide) ?_
    refine r_istore (q := 34) (L' := [some (zi (nI key)), some (zi (nI n)), some (zr 701 b), some (zi (-2 : Int32)), some (zi (nI l.length)), some (zi (nI i)), some (zi (nI 0)), none]) dX6_open_32 rfl (by decide) rfl ?_
    refine r_iconst (q := 35) (nI 0) dX6_open_34 rfl (by decide) ?_
    refine r_istore (q := 37) (L' := [some (zi (nI key)), some (zi (nI n)), some (zr 701 b), some (zi (-2 : Int32)), some (zi (nI l.length)), some (zi (nI i)), some (zi (nI 0)), some (zi (nI 0))]) dX6_open_35 rfl (by decide) rfl ?_
    refine r_iload (q := 39) dX6_open_37 rfl rfl ?_
    refine r_iload (q := 41) dX6_open_39 rfl rfl ?_
    refine r_icmp_geN (q := 44) (t := 76) (by omega) (by omega) dX6_open_41 (by decide) rfl (fun h41 => ?_) (fun h41 => absurd h41 (by omega))
    refine r_iload (q := 78) dX6_open_76 rfl rfl ?_
    refine r_aload_n (q := 79) dX6_open_78 rfl rfl rfl ?_
    refine r_alen (q := 80) (by decide) (by decide) dX6_open_79 rfl (hs.e (show b < 5 by omega)) ?_
    refine r_topi (y := nI 13) (congrArg nI (hs.n rfl (show b < 5 by omega))) ?_
    refine r_icmp_geN (q := 83) (t := 91) (by omega) (by omega) dX6_open_80 (by decide) rfl (fun h80 => absurd h80 (by omega)) (fun h80 => ?_)
    refine r_aload_n (q := 84) dX6_open_83 rfl rfl rfl ?_
    refine r_iload (q := 86) dX6_open_84 rfl rfl ?_
    refine r_iconst (q := 87) (nI 3) dX6_open_86 rfl (by decide) ?_
    refine r_iastN (q := 88) 13 (by decide) rfl dX6_open_87 rfl (hs.e (show b < 5 by omega)) (hs.n rfl (show b < 5 by omega)) (by omega) (by decide) ?_
    refine r_iincN (q := 91) (L' := [some (zi (nI key)), some (zi (nI n)), some (zr 701 b), some (zi (-2 : Int32)), some (zi (nI (l.length + 1))), some (zi (nI i)), some (zi (nI 0)), some (zi (nI 0))]) 1 rfl dX6_open_88 rfl rfl (by decide) rfl ?_
    refine r_iincN (q := 94) (L' := [some (zi (nI key)), some (zi (nI n)), some (zr 701 b), some (zi (-2 : Int32)), some (zi (nI (l.length + 1))), some (zi (nI (i + 1))), some (zi (nI 0)), some (zi (nI 0))]) 1 rfl dX6_open_91 rfl rfl (by decide) rfl ?_
    refine r_goto (q := 9) dX6_open_94 (by decide) ?_
    refine r_iload (q := 11) dX6_open_9 rfl rfl ?_
    refine r_iload_n (q := 12) dX6_open_11 rfl rfl rfl ?_
    refine r_icmp_geN (q := 15) (t := 97) (by omega) (by omega) dX6_open_12 (by decide) rfl (fun h12 => ?_) (fun h12 => absurd h12 (by omega))
    refine r_iload (q := 99) dX6_open_97 rfl rfl ?_
    refine r_ireturn dX6_open_99 rfl ?_
    exact ⟨by simp, stR_snoc⟩
  · refine r_iload (q := 11) dX6_open_9 rfl rfl ?_
    refine r_iload_n (q := 12) dX6_open_11 rfl rfl rfl ?_
    refine r_icmp_geN (q := 15) (t := 97) (by omega) (by omega) dX6_open_12 (by decide) rfl (fun h12 => absurd h12 (by omega)) (fun h12 => ?_)
    refine r_iinc (q := 18) (L' := [some (zi (nI key)), some (zi (nI n)), some (zr 701 b), some (zi (-1 : Int32)), some (zi (nI l.length)), some (zi (nI i)), none, none]) (-1 : Int32) dX6_open_15 rfl rfl (by decide) (by decide) rfl ?_
    refine r_iload_n (q := 19) dX6_open_18 rfl rfl rfl ?_
    refine r_if_ge (q := 22) (t := 26) dX6_open_19 (by decide) rfl (fun h19 => absurd h19 (by decide)) (fun h19 => ?_)
    refine r_iconst (q := 23) (nI 0) dX6_open_22 rfl (by decide) ?_
    refine r_goto (q := 32) dX6_open_23 (by decide) ?_
    refine r_istore (q := 34) (L' := [some (zi (nI key)), some (zi (nI n)), some (zr 701 b), some (zi (-1 : Int32)), some (zi (nI l.length)), some (zi (nI i)), some (zi (nI 0)), none]) dX6_open_32 rfl (by decide) rfl ?_
    refine r_iconst (q := 35) (nI 0) dX6_open_34 rfl (by decide) ?_
    refine r_istore (q := 37) (L' := [some (zi (nI key)), some (zi (nI n)), some (zr 701 b), some (zi (-1 : Int32)), some (zi (nI l.length)), some (zi (nI i)), some (zi (nI 0)), some (zi (nI 0))]) dX6_open_35 rfl (by decide) rfl ?_
    refine r_iload (q := 39) dX6_open_37 rfl rfl ?_
    refine r_iload (q := 41) dX6_open_39 rfl rfl ?_
    refine r_icmp_geN (q := 44) (t := 76) (by omega) (by omega) dX6_open_41 (by decide) rfl (fun h41 => ?_) (fun h41 => absurd h41 (by omega))
    refine r_iload (q := 78) dX6_open_76 rfl rfl ?_
    refine r_aload_n (q := 79) dX6_open_78 rfl rfl rfl ?_
    refine r_alen (q := 80) (by decide) (by decide) dX6_open_79 rfl (hs.e (show b < 5 by omega)) ?_
    refine r_topi (y := nI 13) (congrArg nI (hs.n rfl (show b < 5 by omega))) ?_
    refine r_icmp_geN (q := 83) (t := 91) (by omega) (by omega) dX6_open_80 (by decide) rfl (fun h80 => absurd h80 (by omega)) (fun h80 => ?_)
    refine r_aload_n (q := 84) dX6_open_83 rfl rfl rfl ?_
    refine r_iload (q := 86) dX6_open_84 rfl rfl ?_
    refine r_iconst (q := 87) (nI 3) dX6_open_86 rfl (by decide) ?_
    refine r_iastN (q := 88) 13 (by decide) rfl dX6_open_87 rfl (hs.e (show b < 5 by omega)) (hs.n rfl (show b < 5 by omega)) (by omega) (by decide) ?_
    refine r_iincN (q := 91) (L' := [some (zi (nI key)), some (zi (nI n)), some (zr 701 b), some (zi (-1 : Int32)), some (zi (nI (l.length + 1))), some (zi (nI i)), some (zi (nI 0)), some (zi (nI 0))]) 1 rfl dX6_open_88 rfl rfl (by decide) rfl ?_
    refine r_iincN (q := 94) (L' := [some (zi (nI key)), some (zi (nI n)), some (zr 701 b), some (zi (-1 : Int32)), some (zi (nI (l.length + 1))), some (zi (nI (i + 1))), some (zi (nI 0)), some (zi (nI 0))]) 1 rfl dX6_open_91 rfl rfl (by decide) rfl ?_
    refine r_goto (q := 9) dX6_open_94 (by decide) ?_
    refine r_iload (q := 11) dX6_open_9 rfl rfl ?_
    refine r_iload_n (q := 12) dX6_open_11 rfl rfl rfl ?_
    refine r_icmp_geN (q := 15) (t := 97) (by omega) (by omega) dX6_open_12 (by decide) rfl (fun h12 => ?_) (fun h12 => absurd h12 (by omega))
    refine r_iload (q := 99) dX6_open_97 rfl rfl ?_
    refine r_ireturn dX6_open_99 rfl ?_
    exact ⟨by simp, stR_snoc⟩
  · have hd : key / 2 ^ (B - 3) % 8 = 0 := dig (s := B - 3) (t := 3) (y := 0) (by rw [show B - 3 + 3 = B by omega, hm]; omega) (Nat.pow_pos (by omega))
    have hdb : key / 2 ^ (B - 3) ≤ key := Nat.div_le_self _ _
    refine r_iload (q := 11) dX6_open_9 rfl rfl ?_
    refine r_iload_n (q := 12) dX6_open_11 rfl rfl rfl ?_
    refine r_icmp_geN (q := 15) (t := 97) (by omega) (by omega) dX6_open_12 (by decide) rfl (fun h12 => absurd h12 (by omega)) (fun h12 => ?_)
    refine r_idecN (q := 18) (L' := [some (zi (nI key)), some (zi (nI n)), some (zr 701 b), some (zi (nI (B - 3))), some (zi (nI l.length)), some (zi (nI i)), none, none]) 3 (by omega) rfl dX6_open_15 rfl rfl (by decide) rfl ?_
    refine r_iload_n (q := 19) dX6_open_18 rfl rfl rfl ?_
    refine r_if_geN (q := 22) (t := 26) (by omega) dX6_open_19 (by decide) rfl ?_
    refine r_iload_n (q := 27) dX6_open_26 rfl rfl rfl ?_
    refine r_iload_n (q := 28) dX6_open_27 rfl rfl rfl ?_
    refine r_iushr (q := 29) dX6_open_28 rfl ?_
    refine r_topi (y := nI (key / 2 ^ (B - 3))) (ushr_N (by omega) (by omega)) ?_
    refine r_bipush (q := 31) (nI 7) dX6_open_29 rfl (by decide) ?_
    refine r_iand (q := 32) dX6_open_31 rfl ?_
    refine r_topi (y := nI 0) (by rw [pk_andN (by omega) 3 (by decide), hd]) ?_
    refine r_istore (q := 34) (L' := [some (zi (nI key)), some (zi (nI n)), some (zr 701 b), some (zi (nI (B - 3))), some (zi (nI l.length)), some (zi (nI i)), some (zi (nI 0)), none]) dX6_open_32 rfl (by decide) rfl ?_
    refine r_iconst (q := 35) (nI 0) dX6_open_34 rfl (by decide) ?_
    refine r_istore (q := 37) (L' := [some (zi (nI key)), some (zi (nI n)), some (zr 701 b), some (zi (nI (B - 3))), some (zi (nI l.length)), some (zi (nI i)), some (zi (nI 0)), some (zi (nI 0))]) dX6_open_35 rfl (by decide) rfl ?_
    refine r_iload (q := 39) dX6_open_37 rfl rfl ?_
    refine r_iload (q := 41) dX6_open_39 rfl rfl ?_
    refine r_icmp_geN (q := 44) (t := 76) (by omega) (by omega) dX6_open_41 (by decide) rfl (fun h41 => ?_) (fun h41 => absurd h41 (by omega))
    refine r_iload (q := 78) dX6_open_76 rfl rfl ?_
    refine r_aload_n (q := 79) dX6_open_78 rfl rfl rfl ?_
    refine r_alen (q := 80) (by decide) (by decide) dX6_open_79 rfl (hs.e (show b < 5 by omega)) ?_
    refine r_topi (y := nI 13) (congrArg nI (hs.n rfl (show b < 5 by omega))) ?_
    refine r_icmp_geN (q := 83) (t := 91) (by omega) (by omega) dX6_open_80 (by decide) rfl (fun h80 => absurd h80 (by omega)) (fun h80 => ?_)
    refine r_aload_n (q := 84) dX6_open_83 rfl rfl rfl ?_
    refine r_iload (q := 86) dX6_open_84 rfl rfl ?_
    refine r_iconst (q := 87) (nI 3) dX6_open_86 rfl (by decide) ?_
    refine r_iastN (q := 88) 13 (by decide) rfl dX6_open_87 rfl (hs.e (show b < 5 by omega)) (hs.n rfl (show b < 5 by omega)) (by omega) (by decide) ?_
    refine r_iincN (q := 91) (L' := [some (zi (nI key)), some (zi (nI n)), some (zr 701 b), some (zi (nI (B - 3))), some (zi (nI (l.length + 1))), some (zi (nI i)), some (zi (nI 0)), some (zi (nI 0))]) 1 rfl dX6_open_88 rfl rfl (by decide) rfl ?_
    refine r_iincN (q := 94) (L' := [some (zi (nI key)), some (zi (nI n)), some (zr 701 b), some (zi (nI (B - 3))), some (zi (nI (l.length + 1))), some (zi (nI (i + 1))), some (zi (nI 0)), some (zi (nI 0))]) 1 rfl dX6_open_91 rfl rfl (by decide) rfl ?_
    refine r_goto (q := 9) dX6_open_94 (by decide) ?_
    refine r_iload (q := 11) dX6_open_9 rfl rfl ?_
    refine r_iload_n (q := 12) dX6_open_11 rfl rfl rfl ?_
    refine r_icmp_geN (q := 15) (t := 97) (by omega) (by omega) dX6_open_12 (by decide) rfl (fun h12 => ?_) (fun h12 => absurd h12 (by omega))
    refine r_iload (q := 99) dX6_open_97 rfl rfl ?_
    refine r_ireturn dX6_open_99 rfl ?_
    exact ⟨by simp, stR_snoc⟩

set_option maxRecDepth 100000 in
theorem lp_op1_701 {S : zS} (hs : Sd S) {b : Nat} (hb5 : b < 5) {key n : Nat} (hkey : key < 2 ^ 30) (hn7 : n ≤ 7) : ∀ (rs : List (List Nat)) (l : List Nat) (B i : Nat), rs ≠ [] → Ru rs → Bt B rs → B ≤ 30 → i + rs.length = n → key % 2 ^ B = kr B rs → l.length + (tk rs).length ≤ 13 → Ok mX6_open 9 [some (zi (nI key)), some (zi (nI n)), some (zr 701 b), some (zi (nI B)), some (zi (nI l.length)), some (zi (nI i)), none, none] [] (stR S 701 b l) (fun r S1 => r = some (zi (nI (l ++ (tk rs).map nd).length)) ∧ S1 = stR S 701 b (l ++ (tk rs).map nd)) := by
  intro rs
  induction rs with
  | nil => exact fun l B i h => absurd rfl h
  | cons r rs ih =>
    intro l B i _ hr hb hB hi hm hl
    have hr3 := hr.hd
    rw [List.length_cons] at hi
    by_cases he : rs = []
    · subst he
      have e0 := hb.1 rfl
      subst e0
      have q := lp_op3_701 (l := l) hs hb5 hkey (show i + 1 = n by simpa using hi) hn7 (by simp [tk] at hl; omega) B hB (by rw [hm]; simp [kr, ac2])
      exact q
    · obtain ⟨b1, b2, b3⟩ := hb.2 he
      have klt := kr_lt rs _ hr.tl b3
      have alt := ac2_lt r (B - 3) _ hr3 (by omega) klt
      rw [kr] at hm
      have hd : key / 2 ^ (B - 3) % 8 = r.length := dig (s := B - 3) (t := 3) (by rw [show B - 3 + 3 = B by omega]; exact hm) alt
      have hdb : key / 2 ^ (B - 3) ≤ key := Nat.div_le_self _ _
      have hm2 := low_mod (show B - 3 ≤ B by omega) hm (mulpow_mod (Nat.le_refl _)) alt
      have hm3 : key % 2 ^ (B - 3 - 2 * r.length) = kr (B - 3 - 2 * r.length) rs := low_mod (show B - 3 - 2 * r.length ≤ B - 3 by omega) hm2 (ac2_mod r (B - 3) (by omega)) klt
      rw [nd_tk r rs hr3]
      rw [tk_cons, List.length_append, List.length_cons] at hl
      have hl1 : 1 ≤ rs.length := by cases rs with | nil => exact absurd rfl he | cons _ _ => simp
      refine r_iload (q := 11) dX6_open_9 rfl rfl ?_
      refine r_iload_n (q := 12) dX6_open_11 rfl rfl rfl ?_
      refine r_icmp_geN (q := 15) (t := 97) (by omega) (by omega) dX6_open_12 (by decide) rfl (fun h12 => absurd h12 (by omega)) (fun h12 => ?_)
      refine r_idecN (q := 18) (L' := [some (zi (nI key)), some (zi (nI n)), some (zr 701 b), some (zi (nI (B - 3))), some (zi (nI l.length)), some (zi (nI i)), none, none]) 3 (by omega) rfl dX6_open_15 rfl rfl (by decide) rfl ?_
      refine r_iload_n (q := 19) dX6_open_18 rfl rfl rfl ?_
      refine r_if_geN (q := 22) (t := 26) (by omega) dX6_open_19 (by decide) rfl ?_
      refine r_iload_n (q := 27) dX6_open_26 rfl rfl rfl ?_
      refine r_iload_n (q := 28) dX6_open_27 rfl rfl rfl ?_
      refine r_iushr (q := 29) dX6_open_28 rfl ?_
      refine r_topi (y := nI (key / 2 ^ (B - 3))) (ushr_N (by omega) (by omega)) ?_
      refine r_bipush (q := 31) (nI 7) dX6_open_29 rfl (by decide) ?_
      refine r_iand (q := 32) dX6_open_31 rfl ?_
      refine r_topi (y := nI r.length) (by rw [pk_andN (by omega) 3 (by decide), hd]) ?_
      refine r_istore (q := 34) (L' := [some (zi (nI key)), some (zi (nI n)), some (zr 701 b), some (zi (nI (B - 3))), some (zi (nI l.length)), some (zi (nI i)), some (zi (nI r.length)), none]) dX6_open_32 rfl (by decide) rfl ?_
      refine r_iconst (q := 35) (nI 0) dX6_open_34 rfl (by decide) ?_
      refine r_istore (q := 37) (L' := [some (zi (nI key)), some (zi (nI n)), some (zr 701 b), some (zi (nI (B - 3))), some (zi (nI l.length)), some (zi (nI i)), some (zi (nI r.length)), some (zi (nI 0))]) dX6_open_35 rfl (by decide) rfl ?_
      refine lp_op2_701 hs hb5 hkey b2 r l (B - 3) 0 hr3 (by omega) (by omega) klt hm2 (by omega) (by omega) ?_
      refine r_iload (q := 78) dX6_open_76 rfl rfl ?_
      refine r_aload_n (q := 79) dX6_open_78 rfl rfl rfl ?_
      refine r_alen (q := 80) (by decide) (by decide) dX6_open_79 rfl (hs.e (show b < 5 by omega)) ?_
      refine r_topi (y := nI 13) (congrArg nI (hs.n rfl (show b < 5 by omega))) ?_
      refine r_icmp_geN (q := 83) (t := 91) (by omega) (by omega) dX6_open_80 (by decide) rfl (fun h80 => absurd h80 (by omega)) (fun h80 => ?_)
      refine r_aload_n (q := 84) dX6_open_83 rfl rfl rfl ?_
      refine r_iload (q := 86) dX6_open_84 rfl rfl ?_
      refine r_iconst (q := 87) (nI 3) dX6_open_86 rfl (by decide) ?_
      refine r_iastN (q := 88) 13 (by decide) rfl dX6_open_87 rfl (hs.e (show b < 5 by omega)) (hs.n rfl (show b < 5 by omega)) (by omega) (by decide) ?_
      refine r_iincN (q := 91) (L' := [some (zi (nI key)), some (zi (nI n)), some (zr 701 b), some (zi (nI (B - 3 - 2 * r.length))), some (zi (nI (l.length + r.length + 1))), some (zi (nI i)), some (zi (nI r.length)), some (zi (nI r.length))]) 1 rfl dX6_open_88 rfl rfl (by decide) rfl ?_
      refine r_iincN (q := 94) (L' := [some (zi (nI key)), some (zi (nI n)), some (zr 701 b), some (zi (nI (B - 3 - 2 * r.length))), some (zi (nI (l.length + r.length + 1))), some (zi (nI (i + 1))), some (zi (nI r.length)), some (zi (nI r.length))]) 1 rfl dX6_open_91 rfl rfl (by decide) rfl ?_
      refine r_goto (q := 9) dX6_open_94 (by decide) ?_
      refine r_mask [true, true, true, true, true, true, false, false] rfl ?_
      have q := ih (l ++ r.map (fun k => k - 1) ++ [3]) (B - 3 - 2 * r.length) (i + 1) he hr.tl b3 (by omega) (by omega) hm3 (by simp; omega)
      have e1 := stR_snoc (S := S) (a := 701) (b := b) (v := 3) (l := l ++ r.map (fun k => k - 1))
      rw [List.length_append, List.length_map] at e1
      rw [e1]
      have e2 : l ++ List.map (fun k : Nat => k - 1) r ++ [3] ++ (tk rs).map nd = l ++ (List.map (fun k : Nat => k - 1) r ++ 3 :: (tk rs).map nd) := by simp
      have e3 : List.length (l ++ List.map (fun k : Nat => k - 1) r ++ [3]) = l.length + r.length + 1 := by simp [Nat.add_assoc]
      rw [e2, e3] at q
      exact q

set_option maxRecDepth 100000 in
theorem ok_open_701 {S : zS} (hs : Sd S) {b : Nat} (hb5 : b < 5) {A n : Nat} {e : Nat → Nat} (hE : Eok A e) {t : List Nat} (ht : Tr A e n t) (hn : n ≤ 7) : Ok mX6_open 0 (ent 8 [zi (nI (ky t)), zi (nI n), zr 701 b]) [] S (fun r S1 => r = some (zi (nI t.length)) ∧ S1 = stR S 701 b (t.map nd)) := by
  obtain ⟨h1, h2, h3, h4⟩ := ht.rn hE hn
  have hky := ky_lt hE ht hn
  have hlen := ht.len hE
  show Ok mX6_open 0 [some (zi (nI (ky t))), some (zi (nI n)), some (zr 701 b), none, none, none, none, none] [] S _
  refine r_bipush (q := 2) (nI 30) dX6_open_0 rfl (by decide) ?_
  refine r_istore_n (q := 3) (L' := [some (zi (nI (ky t))), some (zi (nI n)), some (zr 701 b), some (zi (nI 30)), none, none, none, none]) dX6_open_2 rfl rfl (by decide) rfl ?_
  refine r_iconst (q := 4) (nI 0) dX6_open_3 rfl (by decide) ?_
  refine r_istore (q := 6) (L' := [some (zi (nI (ky t))), some (zi (nI n)), some (zr 701 b), some (zi (nI 30)), some (zi (nI 0)), none, none, none]) dX6_open_4 rfl (by decide) rfl ?_
  refine r_iconst (q := 7) (nI 0) dX6_open_6 rfl (by decide) ?_
  refine r_istore (q := 9) (L' := [some (zi (nI (ky t))), some (zi (nI n)), some (zr 701 b), some (zi (nI 30)), some (zi (nI 0)), some (zi (nI 0)), none, none]) dX6_open_7 rfl (by decide) rfl ?_
  have q := lp_op1_701 hs hb5 hky hn (rns t) [] 30 0 (fun z => by rw [z] at h3; simp at h3; omega) h2 h4 (by omega) (by omega) (by rw [Nat.mod_eq_of_lt hky]; rfl) (by rw [← h1]; simp; omega)
  rw [stR_nil, List.nil_append, ← h1, List.length_map] at q
  exact q

set_option maxRecDepth 100000 in
theorem lp_op2_1100 {Po : Option zV → zS → Prop} {S : zS} (hs : Sd S)  {key n i run x : Nat} (hkey : key < 2 ^ 30) (hrun : run ≤ 7) : ∀ (r l : List Nat) (B j : Nat), (∀ k, k ∈ r → 1 ≤ k ∧ k ≤ 3) → 2 * r.length ≤ B → B ≤ 30 → x < 2 ^ (B - 2 * r.length) → key % 2 ^ B = ac2 B r + x → l.length + r.length ≤ 12 → j + r.length = run → Ok mX6_open 76 [some (zi (nI key)), some (zi (nI n)), some (zr 1100 0), some (zi (nI (B - 2 * r.length))), some (zi (nI (l.length + r.length))), some (zi (nI i)), some (zi (nI run)), some (zi (nI run))] [] (stR S 1100 0 (l ++ r.map (fun k => k - 1))) Po → Ok mX6_open 37 [some (zi (nI key)), some (zi (nI n)), some (zr 1100 0), some (zi (nI B)), some (zi (nI l.length)), some (zi (nI i)), some (zi (nI run)), some (zi (nI j))] [] (stR S 1100 0 l) Po := by
  intro r
  induction r with
  | nil =>
    intro l B j h3 hB hB30 hx hm hl hj K
    obtain rfl : j = run := by simpa using hj
    rw [show l ++ ([] : List Nat).map (fun k => k - 1) = l by simp] at K
    refine r_iload (q := 39) dX6_open_37 rfl rfl ?_
    refine r_iload (q := 41) dX6_open_39 rfl rfl ?_
    refine r_icmp_geN (q := 44) (t := 76) (by omega) (by omega) dX6_open_41 (by decide) rfl (fun h41 => ?_) (fun h41 => absurd h41 (by omega))
    exact K
  | cons k r ih =>
    intro l B j h3 hB hB30 hx hm hl hj K
    rw [List.length_cons] at hB hx hl hj K
    have hk := h3 k List.mem_cons_self
    have h3' := fun q hq => h3 q (List.mem_cons_of_mem _ hq)
    have hx' : x < 2 ^ (B - 2 - 2 * r.length) := by rw [show B - 2 - 2 * r.length = B - 2 * (r.length + 1) by omega]; exact hx
    have hlow := ac2_lt r (B - 2) x h3' (by omega) hx'
    rw [ac2, Nat.add_assoc] at hm
    have hd : key / 2 ^ (B - 2) % 4 = k - 1 := dig (s := B - 2) (t := 2) (by rw [show B - 2 + 2 = B by omega]; exact hm) hlow
    have hm2 := low_mod (show B - 2 ≤ B by omega) hm (mulpow_mod (Nat.le_refl _)) hlow
    have hdb : key / 2 ^ (B - 2) ≤ key := Nat.div_le_self _ _
    refine r_iload (q := 39) dX6_open_37 rfl rfl ?_
    refine r_iload (q := 41) dX6_open_39 rfl rfl ?_
    refine r_icmp_geN (q := 44) (t := 76) (by omega) (by omega) dX6_open_41 (by decide) rfl (fun h41 => absurd h41 (by omega)) (fun h41 => ?_)
    refine r_idecN (q := 47) (L' := [some (zi (nI key)), some (zi (nI n)), some (zr 1100 0), some (zi (nI (B - 2))), some (zi (nI l.length)), some (zi (nI i)), some (zi (nI run)), some (zi (nI j))]) 2 (by omega) rfl dX6_open_44 rfl rfl (by decide) rfl ?_
    refine r_iload_n (q := 48) dX6_open_47 rfl rfl rfl ?_
    refine r_if_ltN (q := 51) (t := 70) (by omega) dX6_open_48 (by decide) rfl ?_
    refine r_iload (q := 53) dX6_open_51 rfl rfl ?_
    refine r_aload_n (q := 54) dX6_open_53 rfl rfl rfl ?_
    refine r_alen (q := 55) (by decide) (by decide) dX6_open_54 rfl (hs.e (by decide)) ?_
    refine r_topi (y := nI 13) (congrArg nI (hs.n rfl (by decide))) ?_
    refine r_icmp_geN (q := 58) (t := 70) (by omega) (by omega) dX6_open_55 (by decide) rfl (fun h55 => absurd h55 (by omega)) (fun h55 => ?_)
    refine r_aload_n (q := 59) dX6_open_58 rfl rfl rfl ?_
    refine r_iload (q := 61) dX6_open_59 rfl rfl ?_
    refine r_iload_n (q := 62) dX6_open_61 rfl rfl rfl ?_
    refine r_iload_n (q := 63) dX6_open_62 rfl rfl rfl ?_
    refine r_iushr (q := 64) dX6_open_63 rfl ?_
    refine r_topi (y := nI (key / 2 ^ (B - 2))) (ushr_N (by omega) (by omega)) ?_
    refine r_iconst (q := 65) (nI 3) dX6_open_64 rfl (by decide) ?_
    refine r_iand (q := 66) dX6_open_65 rfl ?_
    refine r_topi (y := nI ((key / 2 ^ (B - 2)) % 4)) (pk_andN (show key / 2 ^ (B - 2) < 2 ^ 32 by omega) 2 (by decide)) ?_
    refine r_iastN (q := 67) 13 (by decide) rfl dX6_open_66 rfl (hs.e (by decide)) (hs.n rfl (by decide)) (by omega) (by decide) ?_
    refine r_iincN (q := 70) (L' := [some (zi (nI key)), some (zi (nI n)), some (zr 1100 0), some (zi (nI (B - 2))), some (zi (nI (l.length + 1))), some (zi (nI i)), some (zi (nI run)), some (zi (nI j))]) 1 rfl dX6_open_67 rfl rfl (by decide) rfl ?_
    refine r_iincN (q := 73) (L' := [some (zi (nI key)), some (zi (nI n)), some (zr 1100 0), some (zi (nI (B - 2))), some (zi (nI (l.length + 1))), some (zi (nI i)), some (zi (nI run)), some (zi (nI (j + 1)))]) 1 rfl dX6_open_70 rfl rfl (by decide) rfl ?_
    refine r_goto (q := 37) dX6_open_73 (by decide) ?_
    rw [hd, stR_snoc]
    have q := ih (l ++ [k - 1]) (B - 2) (j + 1) h3' (by omega) (by omega) hx' hm2 (by simp; omega) (by omega) ?_
    · rw [show (l ++ [k - 1]).length = l.length + 1 by simp] at q; exact q
    · rw [show (l ++ [k - 1]).length = l.length + 1 by simp, show l.length + 1 + r.length = l.length + (r.length + 1) by omega, show B - 2 - 2 * r.length = B - 2 * (r.length + 1) by omega, List.append_assoc]; exact K

set_option maxRecDepth 100000 in
theorem lp_op3_1100 {S : zS} (hs : Sd S)  {key n i : Nat} {l : List Nat} (hkey : key < 2 ^ 30) (hn : i + 1 = n) (hn7 : n ≤ 7) (hl : l.length ≤ 12) : ∀ (B : Nat), B ≤ 30 → key % 2 ^ B = 0 → Ok mX6_open 9 [some (zi (nI key)), some (zi (nI n)), some (zr 1100 0), some (zi (nI B)), some (zi (nI l.length)), some (zi (nI i)), none, none] [] (stR S 1100 0 l) (fun r S1 => r = some (zi (nI (l ++ [3]).length)) ∧ S1 = stR S 1100 0 (l ++ [3])) := by
  intro B hB hm
  rcases (show B = 0 ∨ B = 1 ∨ B = 2 ∨ 3 ≤ B by omega) with rfl | rfl | rfl | h3
  · refine r_iload (q := 11) dX6_open_9 rfl rfl ?_
    refine r_iload_n (q := 12) dX6_open_11 rfl rfl rfl ?_
    refine r_icmp_geN (q := 15) (t := 97) (by omega) (by omega) dX6_open_12 (by decide) rfl (fun h12 => absurd h12 (by omega)) (fun h12 => ?_)
    refine r_iinc (q := 18) (L' := [some (zi (nI key)), some (zi (nI n)), some (zr 1100 0), some (zi (-3 : Int32)), some (zi (nI l.length)), some (zi (nI i)), none, none]) (-3 : Int32) dX6_open_15 rfl rfl (by decide) (by decide) rfl ?_
    refine r_iload_n (q := 19) dX6_open_18 rfl rfl rfl ?_
    refine r_if_ge (q := 22) (t := 26) dX6_open_19 (by decide) rfl (fun h19 => absurd h19 (by decide)) (fun h19 => ?_)
    refine r_iconst (q := 23) (nI 0) dX6_open_22 rfl (by decide) ?_
    refine r_goto (q := 32) dX6_open_23 (by decide) ?_
    refine r_istore (q := 34) (L' := [some (zi (nI key)), some (zi (nI n)), some (zr 1100 0), some (zi (-3 : Int32)), some (zi (nI l.length)), some (zi (nI i)), some (zi (nI 0)), none]) dX6_open_32 rfl (by decide) rfl ?_
    refine r_iconst (q := 35) (nI 0) dX6_open_34 rfl (by decide) ?_
    refine r_istore (q := 37) (L' := [some (zi (nI key)), some (zi (nI n)), some (zr 1100 0), some (zi (-3 : Int32)), some (zi (nI l.length)), some (zi (nI i)), some (zi (nI 0)), some (zi (nI 0))]) dX6_open_35 rfl (by decide) rfl ?_
    refine r_iload (q := 39) dX6_open_37 rfl rfl ?_
    refine r_iload (q := 41) dX6_open_39 rfl rfl ?_
    refine r_icmp_geN (q := 44) (t := 76) (by omega) (by omega) dX6_open_41 (by decide) rfl (fun h41 => ?_) (fun h41 => absurd h41 (by omega))
    refine r_iload (q := 78) dX6_open_76 rfl rfl ?_
    refine r_aload_n (q := 79) dX6_open_78 rfl rfl rfl ?_
    refine r_alen (q := 80) (by decide) (by decide) dX6_open_79 rfl (hs.e (by decide)) ?_
    refine r_topi (y := nI 13) (congrArg nI (hs.n rfl (by decide))) ?_
    refine r_icmp_geN (q := 83) (t := 91) (by omega) (by omega) dX6_open_80 (by decide) rfl (fun h80 => absurd h80 (by omega)) (fun h80 => ?_)
    refine r_aload_n (q := 84) dX6_open_83 rfl rfl rfl ?_
    refine r_iload (q := 86) dX6_open_84 rfl rfl ?_
    refine r_iconst (q := 87) (nI 3) dX6_open_86 rfl (by decide) ?_
    refine r_iastN (q := 88) 13 (by decide) rfl dX6_open_87 rfl (hs.e (by decide)) (hs.n rfl (by decide)) (by omega) (by decide) ?_
    refine r_iincN (q := 91) (L' := [some (zi (nI key)), some (zi (nI n)), some (zr 1100 0), some (zi (-3 : Int32)), some (zi (nI (l.length + 1))), some (zi (nI i)), some (zi (nI 0)), some (zi (nI 0))]) 1 rfl dX6_open_88 rfl rfl (by decide) rfl ?_
    refine r_iincN (q := 94) (L' := [some (zi (nI key)), some (zi (nI n)), some (zr 1100 0), some (zi (-3 : Int32)), some (zi (nI (l.length + 1))), some (zi (nI (i + 1))), some (zi (nI 0)), some (zi (nI 0))]) 1 rfl dX6_open_91 rfl rfl (by decide) rfl ?_
    refine r_goto (q := 9) dX6_open_94 (by decide) ?_
    refine r_iload (q := 11) dX6_open_9 rfl rfl ?_
    refine r_iload_n (q := 12) dX6_open_11 rfl rfl rfl ?_
    refine r_icmp_geN (q := 15) (t := 97) (by omega) (by omega) dX6_open_12 (by decide) rfl (fun h12 => ?_) (fun h12 => absurd h12 (by omega))
    refine r_iload (q := 99) dX6_open_97 rfl rfl ?_
    refine r_ireturn dX6_open_99 rfl ?_
    exact ⟨by simp, stR_snoc⟩
  · refine r_iload (q := 11) dX6_open_9 rfl rfl ?_
    refine r_iload_n (q := 12) dX6_open_11 rfl rfl rfl ?_
    refine r_icmp_geN (q := 15) (t := 97) (by omega) (by omega) dX6_open_12 (by decide) rfl (fun h12 => absurd h12 (by omega)) (fun h12 => ?_)
    refine r_iinc (q := 18) (L' := [some (zi (nI key)), some (zi (nI n)), some (zr 1100 0), some (zi (-2 : Int32)), some (zi (nI l.length)), some (zi (nI i)), none, none]) (-2 : Int32) dX6_open_15 rfl rfl (by decide) (by decide) rfl ?_
    refine r_iload_n (q := 19) dX6_open_18 rfl rfl rfl ?_
    refine r_if_ge (q := 22) (t := 26) dX6_open_19 (by decide) rfl (fun h19 => absurd h19 (by decide)) (fun h19 => ?_)
    refine r_iconst (q := 23) (nI 0) dX6_open_22 rfl (by decide) ?_
    refine r_goto (q := 32) dX6_open_23 (by decide) ?_
    refine r_istore (q := 34) (L' := [some (zi (nI key)), some (zi (nI n)), some (zr 1100 0), some (zi (-2 : Int32)), some (zi (nI l.length)), some (zi (nI i)), some (zi (nI 0)), none]) dX6_open_32 rfl (by decide) rfl ?_
    refine r_iconst (q := 35) (nI 0) dX6_open_34 rfl (by decide) ?_
    refine r_istore (q := 37) (L' := [some (zi (nI key)), some (zi (nI n)), some (zr 1100 0), some (zi (-2 : Int32)), some (zi (nI l.length)), some (zi (nI i)), some (zi (nI 0)), some (zi (nI 0))]) dX6_open_35 rfl (by decide) rfl ?_
    refine r_iload (q := 39) dX6_open_37 rfl rfl ?_
    refine r_iload (q := 41) dX6_open_39 rfl rfl ?_
    refine r_icmp_geN (q := 44) (t := 76) (by omega) (by omega) dX6_open_41 (by decide) rfl (fun h41 => ?_) (fun h41 => absurd h41 (by omega))
    refine r_iload (q := 78) dX6_open_76 rfl rfl ?_
    refine r_aload_n (q := 79) dX6_open_78 rfl rfl rfl ?_
    refine r_alen (q := 80) (by decide) (by decide) dX6_open_79 rfl (hs.e (by decide)) ?_
    refine r_topi (y := nI 13) (congrArg nI (hs.n rfl (by decide))) ?_
    refine r_icmp_geN (q := 83) (t := 91) (by omega) (by omega) dX6_open_80 (by decide) rfl (fun h80 => absurd h80 (by omega)) (fun h80 => ?_)
    refine r_aload_n (q := 84) dX6_open_83 rfl rfl rfl ?_
    refine r_iload (q := 86) dX6_open_84 rfl rfl ?_
    refine r_iconst (q := 87) (nI 3) dX6_open_86 rfl (by decide) ?_
    refine r_iastN (q := 88) 13 (by decide) rfl dX6_open_87 rfl (hs.e (by decide)) (hs.n rfl (by decide)) (by omega) (by decide) ?_
    refine r_iincN (q := 91) (L' := [some (zi (nI key)), some (zi (nI n)), some (zr 1100 0), some (zi (-2 : Int32)), some (zi (nI (l.length + 1))), some (zi (nI i)), some (zi (nI 0)), some (zi (nI 0))]) 1 rfl dX6_open_88 rfl rfl (by decide) rfl ?_
    refine r_iincN (q := 94) (L' := [some (zi (nI key)), some (zi (nI n)), some (zr 1100 0), some (zi (-2 : Int32)), some (zi (nI (l.length + 1))), some (zi (nI (i + 1))), some (zi (nI 0)), some (zi (nI 0))]) 1 rfl dX6_open_91 rfl rfl (by decide) rfl ?_
    refine r_goto (q := 9) dX6_open_94 (by decide) ?_
    refine r_iload (q := 11) dX6_open_9 rfl rfl ?_
    refine r_iload_n (q := 12) dX6_open_11 rfl rfl rfl ?_
    refine r_icmp_geN (q := 15) (t := 97) (by omega) (by omega) dX6_open_12 (by decide) rfl (fun h12 => ?_) (fun h12 => absurd h12 (by omega))
    refine r_iload (q := 99) dX6_open_97 rfl rfl ?_
    refine r_ireturn dX6_open_99 rfl ?_
    exact ⟨by simp, stR_snoc⟩
  · refine r_iload (q := 11) dX6_open_9 rfl rfl ?_
    refine r_iload_n (q := 12) dX6_open_11 rfl rfl rfl ?_
    refine r_icmp_geN (q := 15) (t := 97) (by omega) (by omega) dX6_open_12 (by decide) rfl (fun h12 => absurd h12 (by omega)) (fun h12 => ?_)
    refine r_iinc (q := 18) (L' := [some (zi (nI key)), some (zi (nI n)), some (zr 1100 0), some (zi (-1 : Int32)), some (zi (nI l.length)), some (zi (nI i)), none, none]) (-1 : Int32) dX6_open_15 rfl rfl (by decide) (by decide) rfl ?_
    refine r_iload_n (q := 19) dX6_open_18 rfl rfl rfl ?_
    refine r_if_ge (q := 22) (t := 26) dX6_open_19 (by decide) rfl (fun h19 => absurd h19 (by decide)) (fun h19 => ?_)
    refine r_iconst (q := 23) (nI 0) dX6_open_22 rfl (by decide) ?_
    refine r_goto (q := 32) dX6_open_23 (by decide) ?_
    refine r_istore (q := 34) (L' := [some (zi (nI key)), some (zi (nI n)), some (zr 1100 0), some (zi (-1 : Int32)), some (zi (nI l.length)), some (zi (nI i)), some (zi (nI 0)), none]) dX6_open_32 rfl (by decide) rfl ?_
    refine r_iconst (q := 35) (nI 0) dX6_open_34 rfl (by decide) ?_
    refine r_istore (q := 37) (L' := [some (zi (nI key)), some (zi (nI n)), some (zr 1100 0), some (zi (-1 : Int32)), some (zi (nI l.length)), some (zi (nI i)), some (zi (nI 0)), some (zi (nI 0))]) dX6_open_35 rfl (by decide) rfl ?_
    refine r_iload (q := 39) dX6_open_37 rfl rfl ?_
    refine r_iload (q := 41) dX6_open_39 rfl rfl ?_
    refine r_icmp_geN (q := 44) (t := 76) (by omega) (by omega) dX6_open_41 (by decide) rfl (fun h41 => ?_) (fun h41 => absurd h41 (by omega))
    refine r_iload (q := 78) dX6_open_76 rfl rfl ?_
    refine r_aload_n (q := 79) dX6_open_78 rfl rfl rfl ?_
    refine r_alen (q := 80) (by decide) (by decide) dX6_open_79 rfl (hs.e (by decide)) ?_
    refine r_topi (y := nI 13) (congrArg nI (hs.n rfl (by decide))) ?_
    refine r_icmp_geN (q := 83) (t := 91) (by omega) (by omega) dX6_open_80 (by decide) rfl (fun h80 => absurd h80 (by omega)) (fun h80 => ?_)
    refine r_aload_n (q := 84) dX6_open_83 rfl rfl rfl ?_
    refine r_iload (q := 86) dX6_open_84 rfl rfl ?_
    refine r_iconst (q := 87) (nI 3) dX6_open_86 rfl (by decide) ?_
    refine r_iastN (q := 88) 13 (by decide) rfl dX6_open_87 rfl (hs.e (by decide)) (hs.n rfl (by decide)) (by omega) (by decide) ?_
    refine r_iincN (q := 91) (L' := [some (zi (nI key)), some (zi (nI n)), some (zr 1100 0), some (zi (-1 : Int32)), some (zi (nI (l.length + 1))), some (zi (nI i)), some (zi (nI 0)), some (zi (nI 0))]) 1 rfl dX6_open_88 rfl rfl (by decide) rfl ?_
    refine r_iincN (q := 94) (L' := [some (zi (nI key)), some (zi (nI n)), some (zr 1100 0), some (zi (-1 : Int32)), some (zi (nI (l.length + 1))), some (zi (nI (i + 1))), some (zi (nI 0)), some (zi (nI 0))]) 1 rfl dX6_open_91 rfl rfl (by decide) rfl ?_
    refine r_goto (q := 9) dX6_open_94 (by decide) ?_
    refine r_iload (q := 11) dX6_open_9 rfl rfl ?_
    refine r_iload_n (q := 12) dX6_open_11 rfl rfl rfl ?_
    refine r_icmp_geN (q := 15) (t := 97) (by omega) (by omega) dX6_open_12 (by decide) rfl (fun h12 => ?_) (fun h12 => absurd h12 (by omega))
    refine r_iload (q := 99) dX6_open_97 rfl rfl ?_
    refine r_ireturn dX6_open_99 rfl ?_
    exact ⟨by simp, stR_snoc⟩
  · have hd : key / 2 ^ (B - 3) % 8 = 0 := dig (s := B - 3) (t := 3) (y := 0) (by rw [show B - 3 + 3 = B by omega, hm]; omega) (Nat.pow_pos (by omega))
    have hdb : key / 2 ^ (B - 3) ≤ key := Nat.div_le_self _ _
    refine r_iload (q := 11) dX6_open_9 rfl rfl ?_
    refine r_iload_n (q := 12) dX6_open_11 rfl rfl rfl ?_
    refine r_icmp_geN (q := 15) (t := 97) (by omega) (by omega) dX6_open_12 (by decide) rfl (fun h12 => absurd h12 (by omega)) (fun h12 => ?_)
    refine r_idecN (q := 18) (L' := [some (zi (nI key)), some (zi (nI n)), some (zr 1100 0), some (zi (nI (B - 3))), some (zi (nI l.length)), some (zi (nI i)), none, none]) 3 (by omega) rfl dX6_open_15 rfl rfl (by decide) rfl ?_
    refine r_iload_n (q := 19) dX6_open_18 rfl rfl rfl ?_
    refine r_if_geN (q := 22) (t := 26) (by omega) dX6_open_19 (by decide) rfl ?_
    refine r_iload_n (q := 27) dX6_open_26 rfl rfl rfl ?_
    refine r_iload_n (q := 28) dX6_open_27 rfl rfl rfl ?_
    refine r_iushr (q := 29) dX6_open_28 rfl ?_
    refine r_topi (y := nI (key / 2 ^ (B - 3))) (ushr_N (by omega) (by omega)) ?_
    refine r_bipush (q := 31) (nI 7) dX6_open_29 rfl (by decide) ?_
    refine r_iand (q := 32) dX6_open_31 rfl ?_
    refine r_topi (y := nI 0) (by rw [pk_andN (by omega) 3 (by decide), hd]) ?_
    refine r_istore (q := 34) (L' := [some (zi (nI key)), some (zi (nI n)), some (zr 1100 0), some (zi (nI (B - 3))), some (zi (nI l.length)), some (zi (nI i)), some (zi (nI 0)), none]) dX6_open_32 rfl (by decide) rfl ?_
    refine r_iconst (q := 35) (nI 0) dX6_open_34 rfl (by decide) ?_
    refine r_istore (q := 37) (L' := [some (zi (nI key)), some (zi (nI n)), some (zr 1100 0), some (zi (nI (B - 3))), some (zi (nI l.length)), some (zi (nI i)), some (zi (nI 0)), some (zi (nI 0))]) dX6_open_35 rfl (by decide) rfl ?_
    refine r_iload (q := 39) dX6_open_37 rfl rfl ?_
    refine r_iload (q := 41) dX6_open_39 rfl rfl ?_
    refine r_icmp_geN (q := 44) (t := 76) (by omega) (by omega) dX6_open_41 (by decide) rfl (fun h41 => ?_) (fun h41 => absurd h41 (by omega))
    refine r_iload (q := 78) dX6_open_76 rfl rfl ?_
    refine r_aload_n (q := 79) dX6_open_78 rfl rfl rfl ?_
    refine r_alen (q := 80) (by decide) (by decide) dX6_open_79 rfl (hs.e (by decide)) ?_
    refine r_topi (y := nI 13) (congrArg nI (hs.n rfl (by decide))) ?_
    refine r_icmp_geN (q := 83) (t := 91) (by omega) (by omega) dX6_open_80 (by decide) rfl (fun h80 => absurd h80 (by omega)) (fun h80 => ?_)
    refine r_aload_n (q := 84) dX6_open_83 rfl rfl rfl ?_
    refine r_iload (q := 86) dX6_open_84 rfl rfl ?_
    refine r_iconst (q := 87) (nI 3) dX6_open_86 rfl (by decide) ?_
    refine r_iastN (q := 88) 13 (by decide) rfl dX6_open_87 rfl (hs.e (by decide)) (hs.n rfl (by decide)) (by omega) (by decide) ?_
    refine r_iincN (q := 91) (L' := [some (zi (nI key)), some (zi (nI n)), some (zr 1100 0), some (zi (nI (B - 3))), some (zi (nI (l.length + 1))), some (zi (nI i)), some (zi (nI 0)), some (zi (nI 0))]) 1 rfl dX6_open_88 rfl rfl (by decide) rfl ?_
    refine r_iincN (q := 94) (L' := [some (zi (nI key)), some (zi (nI n)), some (zr 1100 0), some (zi (nI (B - 3))), some (zi (nI (l.length + 1))), some (zi (nI (i + 1))), some (zi (nI 0)), some (zi (nI 0))]) 1 rfl dX6_open_91 rfl rfl (by decide) rfl ?_
    refine r_goto (q := 9) dX6_open_94 (by decide) ?_
    refine r_iload (q := 11) dX6_open_9 rfl rfl ?_
    refine r_iload_n (q := 12) dX6_open_11 rfl rfl rfl ?_
    refine r_icmp_geN (q := 15) (t := 97) (by omega) (by omega) dX6_open_12 (by decide) rfl (fun h12 => ?_) (fun h12 => absurd h12 (by omega))
    refine r_iload (q := 99) dX6_open_97 rfl rfl ?_
    refine r_ireturn dX6_open_99 rfl ?_
    exact ⟨by simp, stR_snoc⟩

set_option maxRecDepth 100000 in
theorem lp_op1_1100 {S : zS} (hs : Sd S)  {key n : Nat} (hkey : key < 2 ^ 30) (hn7 : n ≤ 7) : ∀ (rs : List (List Nat)) (l : List Nat) (B i : Nat), rs ≠ [] → Ru rs → Bt B rs → B ≤ 30 → i + rs.length = n → key % 2 ^ B = kr B rs → l.length + (tk rs).length ≤ 13 → Ok mX6_open 9 [some (zi (nI key)), some (zi (nI n)), some (zr 1100 0), some (zi (nI B)), some (zi (nI l.length)), some (zi (nI i)), none, none] [] (stR S 1100 0 l) (fun r S1 => r = some (zi (nI (l ++ (tk rs).map nd).length)) ∧ S1 = stR S 1100 0 (l ++ (tk rs).map nd)) := by
  intro rs
  induction rs with
  | nil => exact fun l B i h => absurd rfl h
  | cons r rs ih =>
    intro l B i _ hr hb hB hi hm hl
    have hr3 := hr.hd
    rw [List.length_cons] at hi
    by_cases he : rs = []
    · subst he
      have e0 := hb.1 rfl
      subst e0
      have q := lp_op3_1100 (l := l) hs hkey (show i + 1 = n by simpa using hi) hn7 (by simp [tk] at hl; omega) B hB (by rw [hm]; simp [kr, ac2])
      exact q
    · obtain ⟨b1, b2, b3⟩ := hb.2 he
      have klt := kr_lt rs _ hr.tl b3
      have alt := ac2_lt r (B - 3) _ hr3 (by omega) klt
      rw [kr] at hm
      have hd : key / 2 ^ (B - 3) % 8 = r.length := dig (s := B - 3) (t := 3) (by rw [show B - 3 + 3 = B by omega]; exact hm) alt
      have hdb : key / 2 ^ (B - 3) ≤ key := Nat.div_le_self _ _
      have hm2 := low_mod (show B - 3 ≤ B by omega) hm (mulpow_mod (Nat.le_refl _)) alt
      have hm3 : key % 2 ^ (B - 3 - 2 * r.length) = kr (B - 3 - 2 * r.length) rs := low_mod (show B - 3 - 2 * r.length ≤ B - 3 by omega) hm2 (ac2_mod r (B - 3) (by omega)) klt
      rw [nd_tk r rs hr3]
      rw [tk_cons, List.length_append, List.length_cons] at hl
      have hl1 : 1 ≤ rs.length := by cases rs with | nil => exact absurd rfl he | cons _ _ => simp
      refine r_iload (q := 11) dX6_open_9 rfl rfl ?_
      refine r_iload_n (q := 12) dX6_open_11 rfl rfl rfl ?_
      refine r_icmp_geN (q := 15) (t := 97) (by omega) (by omega) dX6_open_12 (by decide) rfl (fun h12 => absurd h12 (by omega)) (fun h12 => ?_)
      refine r_idecN (q := 18) (L' := [some (zi (nI key)), some (zi (nI n)), some (zr 1100 0), some (zi (nI (B - 3))), some (zi (nI l.length)), some (zi (nI i)), none, none]) 3 (by omega) rfl dX6_open_15 rfl rfl (by decide) rfl ?_
      refine r_iload_n (q := 19) dX6_open_18 rfl rfl rfl ?_
      refine r_if_geN (q := 22) (t := 26) (by omega) dX6_open_19 (by decide) rfl ?_
      refine r_iload_n (q := 27) dX6_open_26 rfl rfl rfl ?_
      refine r_iload_n (q := 28) dX6_open_27 rfl rfl rfl ?_
      refine r_iushr (q := 29) dX6_open_28 rfl ?_
      refine r_topi (y := nI (key / 2 ^ (B - 3))) (ushr_N (by omega) (by omega)) ?_
      refine r_bipush (q := 31) (nI 7) dX6_open_29 rfl (by decide) ?_
      refine r_iand (q := 32) dX6_open_31 rfl ?_
      refine r_topi (y := nI r.length) (by rw [pk_andN (by omega) 3 (by decide), hd]) ?_
      refine r_istore (q := 34) (L' := [some (zi (nI key)), some (zi (nI n)), some (zr 1100 0), some (zi (nI (B - 3))), some (zi (nI l.length)), some (zi (nI i)), some (zi (nI r.length)), none]) dX6_open_32 rfl (by decide) rfl ?_
      refine r_iconst (q := 35) (nI 0) dX6_open_34 rfl (by decide) ?_
      refine r_istore (q := 37) (L' := [some (zi (nI key)), some (zi (nI n)), some (zr 1100 0), some (zi (nI (B - 3))), some (zi (nI l.length)), some (zi (nI i)), some (zi (nI r.length)), some (zi (nI 0))]) dX6_open_35 rfl (by decide) rfl ?_
      refine lp_op2_1100 hs hkey b2 r l (B - 3) 0 hr3 (by omega) (by omega) klt hm2 (by omega) (by omega) ?_
      refine r_iload (q := 78) dX6_open_76 rfl rfl ?_
      refine r_aload_n (q := 79) dX6_open_78 rfl rfl rfl ?_
      refine r_alen (q := 80) (by decide) (by decide) dX6_open_79 rfl (hs.e (by decide)) ?_
      refine r_topi (y := nI 13) (congrArg nI (hs.n rfl (by decide))) ?_
      refine r_icmp_geN (q := 83) (t := 91) (by omega) (by omega) dX6_open_80 (by decide) rfl (fun h80 => absurd h80 (by omega)) (fun h80 => ?_)
      refine r_aload_n (q := 84) dX6_open_83 rfl rfl rfl ?_
      refine r_iload (q := 86) dX6_open_84 rfl rfl ?_
      refine r_iconst (q := 87) (nI 3) dX6_open_86 rfl (by decide) ?_
      refine r_iastN (q := 88) 13 (by decide) rfl dX6_open_87 rfl (hs.e (by decide)) (hs.n rfl (by decide)) (by omega) (by decide) ?_
      refine r_iincN (q := 91) (L' := [some (zi (nI key)), some (zi (nI n)), some (zr 1100 0), some (zi (nI (B - 3 - 2 * r.length))), some (zi (nI (l.length + r.length + 1))), some (zi (nI i)), some (zi (nI r.length)), some (zi (nI r.length))]) 1 rfl dX6_open_88 rfl rfl (by decide) rfl ?_
      refine r_iincN (q := 94) (L' := [some (zi (nI key)), some (zi (nI n)), some (zr 1100 0), some (zi (nI (B - 3 - 2 * r.length))), some (zi (nI (l.length + r.length + 1))), some (zi (nI (i + 1))), some (zi (nI r.length)), some (zi (nI r.length))]) 1 rfl dX6_open_91 rfl rfl (by decide) rfl ?_
      refine r_goto (q := 9) dX6_open_94 (by decide) ?_
      refine r_mask [true, true, true, true, true, true, false, false] rfl ?_
      have q := ih (l ++ r.map (fun k => k - 1) ++ [3]) (B - 3 - 2 * r.length) (i + 1) he hr.tl b3 (by omega) (by omega) hm3 (by simp; omega)
      have e1 := stR_snoc (S := S) (a := 1100) (b := 0) (v := 3) (l := l ++ r.map (fun k => k - 1))
      rw [List.length_append, List.length_map] at e1
      rw [e1]
      have e2 : l ++ List.map (fun k : Nat => k - 1) r ++ [3] ++ (tk rs).map nd = l ++ (List.map (fun k : Nat => k - 1) r ++ 3 :: (tk rs).map nd) := by simp
      have e3 : List.length (l ++ List.map (fun k : Nat => k - 1) r ++ [3]) = l.length + r.length + 1 := by simp [Nat.add_assoc]
      rw [e2, e3] at q
      exact q

set_option maxRecDepth 100000 in
theorem ok_open_1100 {S : zS} (hs : Sd S)  {A n : Nat} {e : Nat → Nat} (hE : Eok A e) {t : List Nat} (ht : Tr A e n t) (hn : n ≤ 7) : Ok mX6_open 0 (ent 8 [zi (nI (ky t)), zi (nI n), zr 1100 0]) [] S (fun r S1 => r = some (zi (nI t.length)) ∧ S1 = stR S 1100 0 (t.map nd)) := by
  obtain ⟨h1, h2, h3, h4⟩ := ht.rn hE hn
  have hky := ky_lt hE ht hn
  have hlen := ht.len hE
  show Ok mX6_open 0 [some (zi (nI (ky t))), some (zi (nI n)), some (zr 1100 0), none, none, none, none, none] [] S _
  refine r_bipush (q := 2) (nI 30) dX6_open_0 rfl (by decide) ?_
  refine r_istore_n (q := 3) (L' := [some (zi (nI (ky t))), some (zi (nI n)), some (zr 1100 0), some (zi (nI 30)), none, none, none, none]) dX6_open_2 rfl rfl (by decide) rfl ?_
  refine r_iconst (q := 4) (nI 0) dX6_open_3 rfl (by decide) ?_
  refine r_istore (q := 6) (L' := [some (zi (nI (ky t))), some (zi (nI n)), some (zr 1100 0), some (zi (nI 30)), some (zi (nI 0)), none, none, none]) dX6_open_4 rfl (by decide) rfl ?_
  refine r_iconst (q := 7) (nI 0) dX6_open_6 rfl (by decide) ?_
  refine r_istore (q := 9) (L' := [some (zi (nI (ky t))), some (zi (nI n)), some (zr 1100 0), some (zi (nI 30)), some (zi (nI 0)), some (zi (nI 0)), none, none]) dX6_open_7 rfl (by decide) rfl ?_
  have q := lp_op1_1100 hs hky hn (rns t) [] 30 0 (fun z => by rw [z] at h3; simp at h3; omega) h2 h4 (by omega) (by omega) (by rw [Nat.mod_eq_of_lt hky]; rfl) (by rw [← h1]; simp; omega)
  rw [stR_nil, List.nil_append, ← h1, List.length_map] at q
  exact q

set_option maxRecDepth 100000 in
theorem lp_op2_405 {Po : Option zV → zS → Prop} {S : zS} (hs : Sd S)  {key n i run x : Nat} (hkey : key < 2 ^ 30) (hrun : run ≤ 7) : ∀ (r l : List Nat) (B j : Nat), (∀ k, k ∈ r → 1 ≤ k ∧ k ≤ 3) → 2 * r.length ≤ B → B ≤ 30 → x < 2 ^ (B - 2 * r.length) → key % 2 ^ B = ac2 B r + x → l.length + r.length ≤ 12 → j + r.length = run → Ok mX6_open 76 [some (zi (nI key)), some (zi (nI n)), some (zr 405 0), some (zi (nI (B - 2 * r.length))), some (zi (nI (l.length + r.length))), some (zi (nI i)), some (zi (nI run)), some (zi (nI run))] [] (stR S 405 0 (l ++ r.map (fun k => k - 1))) Po → Ok mX6_open 37 [some (zi (nI key)), some (zi (nI n)), some (zr 405 0), some (zi (nI B)), some (zi (nI l.length)), some (zi (nI i)), some (zi (nI run)), some (zi (nI j))] [] (stR S 405 0 l) Po := by
  intro r
  induction r with
  | nil =>
    intro l B j h3 hB hB30 hx hm hl hj K
    obtain rfl : j = run := by simpa using hj
    rw [show l ++ ([] : List Nat).map (fun k => k - 1) = l by simp] at K
    refine r_iload (q := 39) dX6_open_37 rfl rfl ?_
    refine r_iload (q := 41) dX6_open_39 rfl rfl ?_
    refine r_icmp_geN (q := 44) (t := 76) (by omega) (by omega) dX6_open_41 (by decide) rfl (fun h41 => ?_) (fun h41 => absurd h41 (by omega))
    exact K
  | cons k r ih =>
    intro l B j h3 hB hB30 hx hm hl hj K
    rw [List.length_cons] at hB hx hl hj K
    have hk := h3 k List.mem_cons_self
    have h3' := fun q hq => h3 q (List.mem_cons_of_mem _ hq)
    have hx' : x < 2 ^ (B - 2 - 2 * r.length) := by rw [show B - 2 - 2 * r.length = B - 2 * (r.length + 1) by omega]; exact hx
    have hlow := ac2_lt r (B - 2) x h3' (by omega) hx'
    rw [ac2, Nat.add_assoc] at hm
    have hd : key / 2 ^ (B - 2) % 4 = k - 1 := dig (s := B - 2) (t := 2) (by rw [show B - 2 + 2 = B by omega]; exact hm) hlow
    have hm2 := low_mod (show B - 2 ≤ B by omega) hm (mulpow_mod (Nat.le_refl _)) hlow
    have hdb : key / 2 ^ (B - 2) ≤ key := Nat.div_le_self _ _
    refine r_iload (q := 39) dX6_open_37 rfl rfl ?_
    refine r_iload (q := 41) dX6_open_39 rfl rfl ?_
    refine r_icmp_geN (q := 44) (t := 76) (by omega) (by omega) dX6_open_41 (by decide) rfl (fun h41 => absurd h41 (by omega)) (fun h41 => ?_)
    refine r_idecN (q := 47) (L' := [some (zi (nI key)), some (zi (nI n)), some (zr 405 0), some (zi (nI (B - 2))), some (zi (nI l.length)), some (zi (nI i)), some (zi (nI run)), some (zi (nI j))]) 2 (by omega) rfl dX6_open_44 rfl rfl (by decide) rfl ?_
    refine r_iload_n (q := 48) dX6_open_47 rfl rfl rfl ?_
    refine r_if_ltN (q := 51) (t := 70) (by omega) dX6_open_48 (by decide) rfl ?_
    refine r_iload (q := 53) dX6_open_51 rfl rfl ?_
    refine r_aload_n (q := 54) dX6_open_53 rfl rfl rfl ?_
    refine r_alen (q := 55) (by decide) (by decide) dX6_open_54 rfl (hs.e (by decide)) ?_
    refine r_topi (y := nI 13) (congrArg nI (hs.n rfl (by decide))) ?_
    refine r_icmp_geN (q := 58) (t := 70) (by omega) (by omega) dX6_open_55 (by decide) rfl (fun h55 => absurd h55 (by omega)) (fun h55 => ?_)
    refine r_aload_n (q := 59) dX6_open_58 rfl rfl rfl ?_
    refine r_iload (q := 61) dX6_open_59 rfl rfl ?_
    refine r_iload_n (q := 62) dX6_open_61 rfl rfl rfl ?_
    refine r_iload_n (q := 63) dX6_open_62 rfl rfl rfl ?_
    refine r_iushr (q := 64) dX6_open_63 rfl ?_
    refine r_topi (y := nI (key / 2 ^ (B - 2))) (ushr_N (by omega) (by omega)) ?_
    refine r_iconst (q := 65) (nI 3) dX6_open_64 rfl (by decide) ?_
    refine r_iand (q := 66) dX6_open_65 rfl ?_
    refine r_topi (y := nI ((key / 2 ^ (B - 2)) % 4)) (pk_andN (show key / 2 ^ (B - 2) < 2 ^ 32 by omega) 2 (by decide)) ?_
    refine r_iastN (q := 67) 13 (by decide) rfl dX6_open_66 rfl (hs.e (by decide)) (hs.n rfl (by decide)) (by omega) (by decide) ?_
    refine r_iincN (q := 70) (L' := [some (zi (nI key)), some (zi (nI n)), some (zr 405 0), some (zi (nI (B - 2))), some (zi (nI (l.length + 1))), some (zi (nI i)), some (zi (nI run)), some (zi (nI j))]) 1 rfl dX6_open_67 rfl rfl (by decide) rfl ?_
    refine r_iincN (q := 73) (L' := [some (zi (nI key)), some (zi (nI n)), some (zr 405 0), some (zi (nI (B - 2))), some (zi (nI (l.length + 1))), some (zi (nI i)), some (zi (nI run)), some (zi (nI (j + 1)))]) 1 rfl dX6_open_70 rfl rfl (by decide) rfl ?_
    refine r_goto (q := 37) dX6_open_73 (by decide) ?_
    rw [hd, stR_snoc]
    have q := ih (l ++ [k - 1]) (B - 2) (j + 1) h3' (by omega) (by omega) hx' hm2 (by simp; omega) (by omega) ?_
    · rw [show (l ++ [k - 1]).length = l.length + 1 by simp] at q; exact q
    · rw [show (l ++ [k - 1]).length = l.length + 1 by simp, show l.length + 1 + r.length = l.length + (r.length + 1) by omega, show B - 2 - 2 * r.length = B - 2 * (r.length + 1) by omega, List.append_assoc]; exact K

set_option maxRecDepth 100000 in
theorem lp_op3_405 {S : zS} (hs : Sd S)  {key n i : Nat} {l : List Nat} (hkey : key < 2 ^ 30) (hn : i + 1 = n) (hn7 : n ≤ 7) (hl : l.length ≤ 12) : ∀ (B : Nat), B ≤ 30 → key % 2 ^ B = 0 → Ok mX6_open 9 [some (zi (nI key)), some (zi (nI n)), some (zr 405 0), some (zi (nI B)), some (zi (nI l.length)), some (zi (nI i)), none, none] [] (stR S 405 0 l) (fun r S1 => r = some (zi (nI (l ++ [3]).length)) ∧ S1 = stR S 405 0 (l ++ [3])) := by
  intro B hB hm
  rcases (show B = 0 ∨ B = 1 ∨ B = 2 ∨ 3 ≤ B by omega) with rfl | rfl | rfl | h3
  · refine r_iload (q := 11) dX6_open_9 rfl rfl ?_
    refine r_iload_n (q := 12) dX6_open_11 rfl rfl rfl ?_
    refine r_icmp_geN (q := 15) (t := 97) (by omega) (by omega) dX6_open_12 (by decide) rfl (fun h12 => absurd h12 (by omega)) (fun h12 => ?_)
    refine r_iinc (q := 18) (L' := [some (zi (nI key)), some (zi (nI n)), some (zr 405 0), some (zi (-3 : Int32)), some (zi (nI l.length)), some (zi (nI i)), none, none]) (-3 : Int32) dX6_open_15 rfl rfl (by decide) (by decide) rfl ?_
    refine r_iload_n (q := 19) dX6_open_18 rfl rfl rfl ?_
    refine r_if_ge (q := 22) (t := 26) dX6_open_19 (by decide) rfl (fun h19 => absurd h19 (by decide)) (fun h19 => ?_)
    refine r_iconst (q := 23) (nI 0) dX6_open_22 rfl (by decide) ?_
    refine r_goto (q := 32) dX6_open_23 (by decide) ?_
    refine r_istore (q := 34) (L' := [some (zi (nI key)), some (zi (nI n)), some (zr 405 0), some (zi (-3 : Int32)), some (zi (nI l.length)), some (zi (nI i)), some (zi (nI 0)), none]) dX6_open_32 rfl (by decide) rfl ?_
    refine r_iconst (q := 35) (nI 0) dX6_open_34 rfl (by decide) ?_
    refine r_istore (q := 37) (L' := [some (zi (nI key)), some (zi (nI n)), some (zr 405 0), some (zi (-3 : Int32)), some (zi (nI l.length)), some (zi (nI i)), some (zi (nI 0)), some (zi (nI 0))]) dX6_open_35 rfl (by decide) rfl ?_
    refine r_iload (q := 39) dX6_open_37 rfl rfl ?_
    refine r_iload (q := 41) dX6_open_39 rfl rfl ?_
    refine r_icmp_geN (q := 44) (t := 76) (by omega) (by omega) dX6_open_41 (by decide) rfl (fun h41 => ?_) (fun h41 => absurd h41 (by omega))
    refine r_iload (q := 78) dX6_open_76 rfl rfl ?_
    refine r_aload_n (q := 79) dX6_open_78 rfl rfl rfl ?_
    refine r_alen (q := 80) (by decide) (by decide) dX6_open_79 rfl (hs.e (by decide)) ?_
    refine r_topi (y := nI 13) (congrArg nI (hs.n rfl (by decide))) ?_
    refine r_icmp_geN (q := 83) (t := 91) (by omega) (by omega) dX6_open_80 (by decide) rfl (fun h80 => absurd h80 (by omega)) (fun h80 => ?_)
    refine r_aload_n (q := 84) dX6_open_83 rfl rfl rfl ?_
    refine r_iload (q := 86) dX6_open_84 rfl rfl ?_
    refine r_iconst (q := 87) (nI 3) dX6_open_86 rfl (by decide) ?_
    refine r_iastN (q := 88) 13 (by decide) rfl dX6_open_87 rfl (hs.e (by decide)) (hs.n rfl (by decide)) (by omega) (by decide) ?_
    refine r_iincN (q := 91) (L' := [some (zi (nI key)), some (zi (nI n)), some (zr 405 0), some (zi (-3 : Int32)), some (zi (nI (l.length + 1))), some (zi (nI i)), some (zi (nI 0)), some (zi (nI 0))]) 1 rfl dX6_open_88 rfl rfl (by decide) rfl ?_
    refine r_iincN (q := 94) (L' := [some (zi (nI key)), some (zi (nI n)), some (zr 405 0), some (zi (-3 : Int32)), some (zi (nI (l.length + 1))), some (zi (nI (i + 1))), some (zi (nI 0)), some (zi (nI 0))]) 1 rfl dX6_open_91 rfl rfl (by decide) rfl ?_
    refine r_goto (q := 9) dX6_open_94 (by decide) ?_
    refine r_iload (q := 11) dX6_open_9 rfl rfl ?_
    refine r_iload_n (q := 12) dX6_open_11 rfl rfl rfl ?_
    refine r_icmp_geN (q := 15) (t := 97) (by omega) (by omega) dX6_open_12 (by decide) rfl (fun h12 => ?_) (fun h12 => absurd h12 (by omega))
    refine r_iload (q := 99) dX6_open_97 rfl rfl ?_
    refine r_ireturn dX6_open_99 rfl ?_
    exact ⟨by simp, stR_snoc⟩
  · refine r_iload (q := 11) dX6_open_9 rfl rfl ?_
    refine r_iload_n (q := 12) dX6_open_11 rfl rfl rfl ?_
    refine r_icmp_geN (q := 15) (t := 97) (by omega) (by omega) dX6_open_12 (by decide) rfl (fun h12 => absurd h12 (by omega)) (fun h12 => ?_)
    refine r_iinc (q := 18) (L' := [some (zi (nI key)), some (zi (nI n)), some (zr 405 0), some (zi (-2 : Int32)), some (zi (nI l.length)), some (zi (nI i)), none, none]) (-2 : Int32) dX6_open_15 rfl rfl (by decide) (by decide) rfl ?_
    refine r_iload_n (q := 19) dX6_open_18 rfl rfl rfl ?_
    refine r_if_ge (q := 22) (t := 26) dX6_open_19 (by decide) rfl (fun h19 => absurd h19 (by decide)) (fun h19 => ?_)
    refine r_iconst (q := 23) (nI 0) dX6_open_22 rfl (by decide) ?_
    refine r_goto (q := 32) dX6_open_23 (by decide) ?_
    refine r_istore (q := 34) (L' := [some (zi (nI key)), some (zi (nI n)), some (zr 405 0), some (zi (-2 : Int32)), some (zi (nI l.length)), some (zi (nI i)), some (zi (nI 0)), none]) dX6_open_32 rfl (by decide) rfl ?_
    refine r_iconst (q := 35) (nI 0) dX6_open_34 rfl (by decide) ?_
    refine r_istore (q := 37) (L' := [some (zi (nI key)), some (zi (nI n)), some (zr 405 0), some (zi (-2 : Int32)), some (zi (nI l.length)), some (zi (nI i)), some (zi (nI 0)), some (zi (nI 0))]) dX6_open_35 rfl (by decide) rfl ?_
    refine r_iload (q := 39) dX6_open_37 rfl rfl ?_
    refine r_iload (q := 41) dX6_open_39 rfl rfl ?_
    refine r_icmp_geN (q := 44) (t := 76) (by omega) (by omega) dX6_open_41 (by decide) rfl (fun h41 => ?_) (fun h41 => absurd h41 (by omega))
    refine r_iload (q := 78) dX6_open_76 rfl rfl ?_
    refine r_aload_n (q := 79) dX6_open_78 rfl rfl rfl ?_
    refine r_alen (q := 80) (by decide) (by decide) dX6_open_79 rfl (hs.e (by decide)) ?_
    refine r_topi (y := nI 13) (congrArg nI (hs.n rfl (by decide))) ?_
    refine r_icmp_geN (q := 83) (t := 91) (by omega) (by omega) dX6_open_80 (by decide) rfl (fun h80 => absurd h80 (by omega)) (fun h80 => ?_)
    refine r_aload_n (q := 84) dX6_open_83 rfl rfl rfl ?_
    refine r_iload (q := 86) dX6_open_84 rfl rfl ?_
    refine r_iconst (q := 87) (nI 3) dX6_open_86 rfl (by decide) ?_
    refine r_iastN (q := 88) 13 (by decide) rfl dX6_open_87 rfl (hs.e (by decide)) (hs.n rfl (by decide)) (by omega) (by decide) ?_
    refine r_iincN (q := 91) (L' := [some (zi (nI key)), some (zi (nI n)), some (zr 405 0), some (zi (-2 : Int32)), some (zi (nI (l.length + 1))), some (zi (nI i)), some (zi (nI 0)), some (zi (nI 0))]) 1 rfl dX6_open_88 rfl rfl (by decide) rfl ?_
    refine r_iincN (q := 94) (L' := [some (zi (nI key)), some (zi (nI n)), some (zr 405 0), some (zi (-2 : Int32)), some (zi (nI (l.length + 1))), some (zi (nI (i + 1))), some (zi (nI 0)), some (zi (nI 0))]) 1 rfl dX6_open_91 rfl rfl (by decide) rfl ?_
    refine r_goto (q := 9) dX6_open_94 (by decide) ?_
    refine r_iload (q := 11) dX6_open_9 rfl rfl ?_
    refine r_iload_n (q := 12) dX6_open_11 rfl rfl rfl ?_
    refine r_icmp_geN (q := 15) (t := 97) (by omega) (by omega) dX6_open_12 (by decide) rfl (fun h12 => ?_) (fun h12 => absurd h12 (by omega))
    refine r_iload (q := 99) dX6_open_97 rfl rfl ?_
    refine r_ireturn dX6_open_99 rfl ?_
    exact ⟨by simp, stR_snoc⟩
  · refine r_iload (q := 11) dX6_open_9 rfl rfl ?_
    refine r_iload_n (q := 12) dX6_open_11 rfl rfl rfl ?_
    refine r_icmp_geN (q := 15) (t := 97) (by omega) (by omega) dX6_open_12 (by decide) rfl (fun h12 => absurd h12 (by omega)) (fun h12 => ?_)
    refine r_iinc (q := 18) (L' := [some (zi (nI key)), some (zi (nI n)), some (zr 405 0), some (zi (-1 : Int32)), some (zi (nI l.length)), some (zi (nI i)), none, none]) (-1 : Int32) dX6_open_15 rfl rfl (by decide) (by decide) rfl ?_
    refine r_iload_n (q := 19) dX6_open_18 rfl rfl rfl ?_
    refine r_if_ge (q := 22) (t := 26) dX6_open_19 (by decide) rfl (fun h19 => absurd h19 (by decide)) (fun h19 => ?_)
    refine r_iconst (q := 23) (nI 0) dX6_open_22 rfl (by decide) ?_
    refine r_goto (q := 32) dX6_open_23 (by decide) ?_
    refine r_istore (q := 34) (L' := [some (zi (nI key)), some (zi (nI n)), some (zr 405 0), some (zi (-1 : Int32)), some (zi (nI l.length)), some (zi (nI i)), some (zi (nI 0)), none]) dX6_open_32 rfl (by decide) rfl ?_
    refine r_iconst (q := 35) (nI 0) dX6_open_34 rfl (by decide) ?_
    refine r_istore (q := 37) (L' := [some (zi (nI key)), some (zi (nI n)), some (zr 405 0), some (zi (-1 : Int32)), some (zi (nI l.length)), some (zi (nI i)), some (zi (nI 0)), some (zi (nI 0))]) dX6_open_35 rfl (by decide) rfl ?_
    refine r_iload (q := 39) dX6_open_37 rfl rfl ?_
    refine r_iload (q := 41) dX6_open_39 rfl rfl ?_
    refine r_icmp_geN (q := 44) (t := 76) (by omega) (by omega) dX6_open_41 (by decide) rfl (fun h41 => ?_) (fun h41 => absurd h41 (by omega))
    refine r_iload (q := 78) dX6_open_76 rfl rfl ?_
    refine r_aload_n (q := 79) dX6_open_78 rfl rfl rfl ?_
    refine r_alen (q := 80) (by decide) (by decide) dX6_open_79 rfl (hs.e (by decide)) ?_
    refine r_topi (y := nI 13) (congrArg nI (hs.n rfl (by decide))) ?_
    refine r_icmp_geN (q := 83) (t := 91) (by omega) (by omega) dX6_open_80 (by decide) rfl (fun h80 => absurd h80 (by omega)) (fun h80 => ?_)
    refine r_aload_n (q := 84) dX6_open_83 rfl rfl rfl ?_
    refine r_iload (q := 86) dX6_open_84 rfl rfl ?_
    refine r_iconst (q := 87) (nI 3) dX6_open_86 rfl (by decide) ?_
    refine r_iastN (q := 88) 13 (by decide) rfl dX6_open_87 rfl (hs.e (by decide)) (hs.n rfl (by decide)) (by omega) (by decide) ?_
    refine r_iincN (q := 91) (L' := [some (zi (nI key)), some (zi (nI n)), some (zr 405 0), some (zi (-1 : Int32)), some (zi (nI (l.length + 1))), some (zi (nI i)), some (zi (nI 0)), some (zi (nI 0))]) 1 rfl dX6_open_88 rfl rfl (by decide) rfl ?_
    refine r_iincN (q := 94) (L' := [some (zi (nI key)), some (zi (nI n)), some (zr 405 0), some (zi (-1 : Int32)), some (zi (nI (l.length + 1))), some (zi (nI (i + 1))), some (zi (nI 0)), some (zi (nI 0))]) 1 rfl dX6_open_91 rfl rfl (by decide) rfl ?_
    refine r_goto (q := 9) dX6_open_94 (by decide) ?_
    refine r_iload (q := 11) dX6_open_9 rfl rfl ?_
    refine r_iload_n (q := 12) dX6_open_11 rfl rfl rfl ?_
    refine r_icmp_geN (q := 15) (t := 97) (by omega) (by omega) dX6_open_12 (by decide) rfl (fun h12 => ?_) (fun h12 => absurd h12 (by omega))
    refine r_iload (q := 99) dX6_open_97 rfl rfl ?_
    refine r_ireturn dX6_open_99 rfl ?_
    exact ⟨by simp, stR_snoc⟩
  · have hd : key / 2 ^ (B - 3) % 8 = 0 := dig (s := B - 3) (t := 3) (y := 0) (by rw [show B - 3 + 3 = B by omega, hm]; omega) (Nat.pow_pos (by omega))
    have hdb : key / 2 ^ (B - 3) ≤ key := Nat.div_le_self _ _
    refine r_iload (q := 11) dX6_open_9 rfl rfl ?_
    refine r_iload_n (q := 12) dX6_open_11 rfl rfl rfl ?_
    refine r_icmp_geN (q := 15) (t := 97) (by omega) (by omega) dX6_open_12 (by decide) rfl (fun h12 => absurd h12 (by omega)) (fun h12 => ?_)
    refine r_idecN (q := 18) (L' := [some (zi (nI key)), some (zi (nI n)), some (zr 405 0), some (zi (nI (B - 3))), some (zi (nI l.length)), some (zi (nI i)), none, none]) 3 (by omega) rfl dX6_open_15 rfl rfl (by decide) rfl ?_
    refine r_iload_n (q := 19) dX6_open_18 rfl rfl rfl ?_
    refine r_if_geN (q := 22) (t := 26) (by omega) dX6_open_19 (by decide) rfl ?_
    refine r_iload_n (q := 27) dX6_open_26 rfl rfl rfl ?_
    refine r_iload_n (q := 28) dX6_open_27 rfl rfl rfl ?_
    refine r_iushr (q := 29) dX6_open_28 rfl ?_
    refine r_topi (y := nI (key / 2 ^ (B - 3))) (ushr_N (by omega) (by omega)) ?_
    refine r_bipush (q := 31) (nI 7) dX6_open_29 rfl (by decide) ?_
    refine r_iand (q := 32) dX6_open_31 rfl ?_
    refine r_topi (y := nI 0) (by rw [pk_andN (by omega) 3 (by decide), hd]) ?_
    refine r_istore (q := 34) (L' := [some (zi (nI key)), some (zi (nI n)), some (zr 405 0), some (zi (nI (B - 3))), some (zi (nI l.length)), some (zi (nI i)), some (zi (nI 0)), none]) dX6_open_32 rfl (by decide) rfl ?_
    refine r_iconst (q := 35) (nI 0) dX6_open_34 rfl (by decide) ?_
    refine r_istore (q := 37) (L' := [some (zi (nI key)), some (zi (nI n)), some (zr 405 0), some (zi (nI (B - 3))), some (zi (nI l.length)), some (zi (nI i)), some (zi (nI 0)), some (zi (nI 0))]) dX6_open_35 rfl (by decide) rfl ?_
    refine r_iload (q := 39) dX6_open_37 rfl rfl ?_
    refine r_iload (q := 41) dX6_open_39 rfl rfl ?_
    refine r_icmp_geN (q := 44) (t := 76) (by omega) (by omega) dX6_open_41 (by decide) rfl (fun h41 => ?_) (fun h41 => absurd h41 (by omega))
    refine r_iload (q := 78) dX6_open_76 rfl rfl ?_
    refine r_aload_n (q := 79) dX6_open_78 rfl rfl rfl ?_
    refine r_alen (q := 80) (by decide) (by decide) dX6_open_79 rfl (hs.e (by decide)) ?_
    refine r_topi (y := nI 13) (congrArg nI (hs.n rfl (by decide))) ?_
    refine r_icmp_geN (q := 83) (t := 91) (by omega) (by omega) dX6_open_80 (by decide) rfl (fun h80 => absurd h80 (by omega)) (fun h80 => ?_)
    refine r_aload_n (q := 84) dX6_open_83 rfl rfl rfl ?_
    refine r_iload (q := 86) dX6_open_84 rfl rfl ?_
    refine r_iconst (q := 87) (nI 3) dX6_open_86 rfl (by decide) ?_
    refine r_iastN (q := 88) 13 (by decide) rfl dX6_open_87 rfl (hs.e (by decide)) (hs.n rfl (by decide)) (by omega) (by decide) ?_
    refine r_iincN (q := 91) (L' := [some (zi (nI key)), some (zi (nI n)), some (zr 405 0), some (zi (nI (B - 3))), some (zi (nI (l.length + 1))), some (zi (nI i)), some (zi (nI 0)), some (zi (nI 0))]) 1 rfl dX6_open_88 rfl rfl (by decide) rfl ?_
    refine r_iincN (q := 94) (L' := [some (zi (nI key)), some (zi (nI n)), some (zr 405 0), some (zi (nI (B - 3))), some (zi (nI (l.length + 1))), some (zi (nI (i + 1))), some (zi (nI 0)), some (zi (nI 0))]) 1 rfl dX6_open_91 rfl rfl (by decide) rfl ?_
    refine r_goto (q := 9) dX6_open_94 (by decide) ?_
    refine r_iload (q := 11) dX6_open_9 rfl rfl ?_
    refine r_iload_n (q := 12) dX6_open_11 rfl rfl rfl ?_
    refine r_icmp_geN (q := 15) (t := 97) (by omega) (by omega) dX6_open_12 (by decide) rfl (fun h12 => ?_) (fun h12 => absurd h12 (by omega))
    refine r_iload (q := 99) dX6_open_97 rfl rfl ?_
    refine r_ireturn dX6_open_99 rfl ?_
    exact ⟨by simp, stR_snoc⟩

set_option maxRecDepth 100000 in
theorem lp_op1_405 {S : zS} (hs : Sd S)  {key n : Nat} (hkey : key < 2 ^ 30) (hn7 : n ≤ 7) : ∀ (rs : List (List Nat)) (l : List Nat) (B i : Nat), rs ≠ [] → Ru rs → Bt B rs → B ≤ 30 → i + rs.length = n → key % 2 ^ B = kr B rs → l.length + (tk rs).length ≤ 13 → Ok mX6_open 9 [some (zi (nI key)), some (zi (nI n)), some (zr 405 0), some (zi (nI B)), some (zi (nI l.length)), some (zi (nI i)), none, none] [] (stR S 405 0 l) (fun r S1 => r = some (zi (nI (l ++ (tk rs).map nd).length)) ∧ S1 = stR S 405 0 (l ++ (tk rs).map nd)) := by
  intro rs
  induction rs with
  | nil => exact fun l B i h => absurd rfl h
  | cons r rs ih =>
    intro l B i _ hr hb hB hi hm hl
    have hr3 := hr.hd
    rw [List.length_cons] at hi
    by_cases he : rs = []
    · subst he
      have e0 := hb.1 rfl
      subst e0
      have q := lp_op3_405 (l := l) hs hkey (show i + 1 = n by simpa using hi) hn7 (by simp [tk] at hl; omega) B hB (by rw [hm]; simp [kr, ac2])
      exact q
    · obtain ⟨b1, b2, b3⟩ := hb.2 he
      have klt := kr_lt rs _ hr.tl b3
      have alt := ac2_lt r (B - 3) _ hr3 (by omega) klt
      rw [kr] at hm
      have hd : key / 2 ^ (B - 3) % 8 = r.length := dig (s := B - 3) (t := 3) (by rw [show B - 3 + 3 = B by omega]; exact hm) alt
      have hdb : key / 2 ^ (B - 3) ≤ key := Nat.div_le_self _ _
      have hm2 := low_mod (show B - 3 ≤ B by omega) hm (mulpow_mod (Nat.le_refl _)) alt
      have hm3 : key % 2 ^ (B - 3 - 2 * r.length) = kr (B - 3 - 2 * r.length) rs := low_mod (show B - 3 - 2 * r.length ≤ B - 3 by omega) hm2 (ac2_mod r (B - 3) (by omega)) klt
      rw [nd_tk r rs hr3]
      rw [tk_cons, List.length_append, List.length_cons] at hl
      have hl1 : 1 ≤ rs.length := by cases rs with | nil => exact absurd rfl he | cons _ _ => simp
      refine r_iload (q := 11) dX6_open_9 rfl rfl ?_
      refine r_iload_n (q := 12) dX6_open_11 rfl rfl rfl ?_
      refine r_icmp_geN (q := 15) (t := 97) (by omega) (by omega) dX6_open_12 (by decide) rfl (fun h12 => absurd h12 (by omega)) (fun h12 => ?_)
      refine r_idecN (q := 18) (L' := [some (zi (nI key)), some (zi (nI n)), some (zr 405 0), some (zi (nI (B - 3))), some (zi (nI l.length)), some (zi (nI i)), none, none]) 3 (by omega) rfl dX6_open_15 rfl rfl (by decide) rfl ?_
      refine r_iload_n (q := 19) dX6_open_18 rfl rfl rfl ?_
      refine r_if_geN (q := 22) (t := 26) (by omega) dX6_open_19 (by decide) rfl ?_
      refine r_iload_n (q := 27) dX6_open_26 rfl rfl rfl ?_
      refine r_iload_n (q := 28) dX6_open_27 rfl rfl rfl ?_
      refine r_iushr (q := 29) dX6_open_28 rfl ?_
      refine r_topi (y := nI (key / 2 ^ (B - 3))) (ushr_N (by omega) (by omega)) ?_
      refine r_bipush (q := 31) (nI 7) dX6_open_29 rfl (by decide) ?_
      refine r_iand (q := 32) dX6_open_31 rfl ?_
      refine r_topi (y := nI r.length) (by rw [pk_andN (by omega) 3 (by decide), hd]) ?_
      refine r_istore (q := 34) (L' := [some (zi (nI key)), some (zi (nI n)), some (zr 405 0), some (zi (nI (B - 3))), some (zi (nI l.length)), some (zi (nI i)), some (zi (nI r.length)), none]) dX6_open_32 rfl (by decide) rfl ?_
      refine r_iconst (q := 35) (nI 0) dX6_open_34 rfl (by decide) ?_
      refine r_istore (q := 37) (L' := [some (zi (nI key)), some (zi (nI n)), some (zr 405 0), some (zi (nI (B - 3))), some (zi (nI l.length)), some (zi (nI i)), some (zi (nI r.length)), some (zi (nI 0))]) dX6_open_35 rfl (by decide) rfl ?_
      refine lp_op2_405 hs hkey b2 r l (B - 3) 0 hr3 (by omega) (by omega) klt hm2 (by omega) (by omega) ?_
      refine r_iload (q := 78) dX6_open_76 rfl rfl ?_
      refine r_aload_n (q := 79) dX6_open_78 rfl rfl rfl ?_
      refine r_alen (q := 80) (by decide) (by decide) dX6_open_79 rfl (hs.e (by decide)) ?_
      refine r_topi (y := nI 13) (congrArg nI (hs.n rfl (by decide))) ?_
      refine r_icmp_geN (q := 83) (t := 91) (by omega) (by omega) dX6_open_80 (by decide) rfl (fun h80 => absurd h80 (by omega)) (fun h80 => ?_)
      refine r_aload_n (q := 84) dX6_open_83 rfl rfl rfl ?_
      refine r_iload (q := 86) dX6_open_84 rfl rfl ?_
      refine r_iconst (q := 87) (nI 3) dX6_open_86 rfl (by decide) ?_
      refine r_iastN (q := 88) 13 (by decide) rfl dX6_open_87 rfl (hs.e (by decide)) (hs.n rfl (by decide)) (by omega) (by decide) ?_
      refine r_iincN (q := 91) (L' := [some (zi (nI key)), some (zi (nI n)), some (zr 405 0), some (zi (nI (B - 3 - 2 * r.length))), some (zi (nI (l.length + r.length + 1))), some (zi (nI i)), some (zi (nI r.length)), some (zi (nI r.length))]) 1 rfl dX6_open_88 rfl rfl (by decide) rfl ?_
      refine r_iincN (q := 94) (L' := [some (zi (nI key)), some (zi (nI n)), some (zr 405 0), some (zi (nI (B - 3 - 2 * r.length))), some (zi (nI (l.length + r.length + 1))), some (zi (nI (i + 1))), some (zi (nI r.length)), some (zi (nI r.length))]) 1 rfl dX6_open_91 rfl rfl (by decide) rfl ?_
      refine r_goto (q := 9) dX6_open_94 (by decide) ?_
      refine r_mask [true, true, true, true, true, true, false, false] rfl ?_
      have q := ih (l ++ r.map (fun k => k - 1) ++ [3]) (B - 3 - 2 * r.length) (i + 1) he hr.tl b3 (by omega) (by omega) hm3 (by simp; omega)
      have e1 := stR_snoc (S := S) (a := 405) (b := 0) (v := 3) (l := l ++ r.map (fun k => k - 1))
      rw [List.length_append, List.length_map] at e1
      rw [e1]
      have e2 : l ++ List.map (fun k : Nat => k - 1) r ++ [3] ++ (tk rs).map nd = l ++ (List.map (fun k : Nat => k - 1) r ++ 3 :: (tk rs).map nd) := by simp
      have e3 : List.length (l ++ List.map (fun k : Nat => k - 1) r ++ [3]) = l.length + r.length + 1 := by simp [Nat.add_assoc]
      rw [e2, e3] at q
      exact q

set_option maxRecDepth 100000 in
theorem ok_open_405 {S : zS} (hs : Sd S)  {A n : Nat} {e : Nat → Nat} (hE : Eok A e) {t : List Nat} (ht : Tr A e n t) (hn : n ≤ 7) : Ok mX6_open 0 (ent 8 [zi (nI (ky t)), zi (nI n), zr 405 0]) [] S (fun r S1 => r = some (zi (nI t.length)) ∧ S1 = stR S 405 0 (t.map nd)) := by
  obtain ⟨h1, h2, h3, h4⟩ := ht.rn hE hn
  have hky := ky_lt hE ht hn
  have hlen := ht.len hE
  show Ok mX6_open 0 [some (zi (nI (ky t))), some (zi (nI n)), some (zr 405 0), none, none, none, none, none] [] S _
  refine r_bipush (q := 2) (nI 30) dX6_open_0 rfl (by decide) ?_
  refine r_istore_n (q := 3) (L' := [some (zi (nI (ky t))), some (zi (nI n)), some (zr 405 0), some (zi (nI 30)), none, none, none, none]) dX6_open_2 rfl rfl (by decide) rfl ?_
  refine r_iconst (q := 4) (nI 0) dX6_open_3 rfl (by decide) ?_
  refine r_istore (q := 6) (L' := [some (zi (nI (ky t))), some (zi (nI n)), some (zr 405 0), some (zi (nI 30)), some (zi (nI 0)), none, none, none]) dX6_open_4 rfl (by decide) rfl ?_
  refine r_iconst (q := 7) (nI 0) dX6_open_6 rfl (by decide) ?_
  refine r_istore (q := 9) (L' := [some (zi (nI (ky t))), some (zi (nI n)), some (zr 405 0), some (zi (nI 30)), some (zi (nI 0)), some (zi (nI 0)), none, none]) dX6_open_7 rfl (by decide) rfl ?_
  have q := lp_op1_405 hs hky hn (rns t) [] 30 0 (fun z => by rw [z] at h3; simp at h3; omega) h2 h4 (by omega) (by omega) (by rw [Nat.mod_eq_of_lt hky]; rfl) (by rw [← h1]; simp; omega)
  rw [stR_nil, List.nil_append, ← h1, List.length_map] at q
  exact q

set_option maxRecDepth 100000 in
theorem lp_op2_203 {Po : Option zV → zS → Prop} {S : zS} (hs : Sd S)  {key n i run x : Nat} (hkey : key < 2 ^ 30) (hrun : run ≤ 7) : ∀ (r l : List Nat) (B j : Nat), (∀ k, k ∈ r → 1 ≤ k ∧ k ≤ 3) → 2 * r.length ≤ B → B ≤ 30 → x < 2 ^ (B - 2 * r.length) → key % 2 ^ B = ac2 B r + x → l.length + r.length ≤ 12 → j + r.length = run → Ok mX6_open 76 [some (zi (nI key)), some (zi (nI n)), some (zr 203 0), some (zi (nI (B - 2 * r.length))), some (zi (nI (l.length + r.length))), some (zi (nI i)), some (zi (nI run)), some (zi (nI run))] [] (stR S 203 0 (l ++ r.map (fun k => k - 1))) Po → Ok mX6_open 37 [some (zi (nI key)), some (zi (nI n)), some (zr 203 0), some (zi (nI B)), some (zi (nI l.length)), some (zi (nI i)), some (zi (nI run)), some (zi (nI j))] [] (stR S 203 0 l) Po := by
  intro r
  induction r with
  | nil =>
    intro l B j h3 hB hB30 hx hm hl hj K
    obtain rfl : j = run := by simpa using hj
    rw [show l ++ ([] : List Nat).map (fun k => k - 1) = l by simp] at K
    refine r_iload (q := 39) dX6_open_37 rfl rfl ?_
    refine r_iload (q := 41) dX6_open_39 rfl rfl ?_
    refine r_icmp_geN (q := 44) (t := 76) (by omega) (by omega) dX6_open_41 (by decide) rfl (fun h41 => ?_) (fun h41 => absurd h41 (by omega))
    exact K
  | cons k r ih =>
    intro l B j h3 hB hB30 hx hm hl hj K
    rw [List.length_cons] at hB hx hl hj K
    have hk := h3 k List.mem_cons_self
    have h3' := fun q hq => h3 q (List.mem_cons_of_mem _ hq)
    have hx' : x < 2 ^ (B - 2 - 2 * r.length) := by rw [show B - 2 - 2 * r.length = B - 2 * (r.length + 1) by omega]; exact hx
    have hlow := ac2_lt r (B - 2) x h3' (by omega) hx'
    rw [ac2, Nat.add_assoc] at hm
    have hd : key / 2 ^ (B - 2) % 4 = k - 1 := dig (s := B - 2) (t := 2) (by rw [show B - 2 + 2 = B by omega]; exact hm) hlow
    have hm2 := low_mod (show B - 2 ≤ B by omega) hm (mulpow_mod (Nat.le_refl _)) hlow
    have hdb : key / 2 ^ (B - 2) ≤ key := Nat.div_le_self _ _
    refine r_iload (q := 39) dX6_open_37 rfl rfl ?_
    refine r_iload (q := 41) dX6_open_39 rfl rfl ?_
    refine r_icmp_geN (q := 44) (t := 76) (by omega) (by omega) dX6_open_41 (by decide) rfl (fun h41 => absurd h41 (by omega)) (fun h41 => ?_)
    refine r_idecN (q := 47) (L' := [some (zi (nI key)), some (zi (nI n)), some (zr 203 0), some (zi (nI (B - 2))), some (zi (nI l.length)), some (zi (nI i)), some (zi (nI run)), some (zi (nI j))]) 2 (by omega) rfl dX6_open_44 rfl rfl (by decide) rfl ?_
    refine r_iload_n (q := 48) dX6_open_47 rfl rfl rfl ?_
    refine r_if_ltN (q := 51) (t := 70) (by omega) dX6_open_48 (by decide) rfl ?_
    refine r_iload (q := 53) dX6_open_51 rfl rfl ?_
    refine r_aload_n (q := 54) dX6_open_53 rfl rfl rfl ?_
    refine r_alen (q := 55) (by decide) (by decide) dX6_open_54 rfl (hs.e (by decide)) ?_
    refine r_topi (y := nI 13) (congrArg nI (hs.n rfl (by decide))) ?_
    refine r_icmp_geN (q := 58) (t := 70) (by omega) (by omega) dX6_open_55 (by decide) rfl (fun h55 => absurd h55 (by omega)) (fun h55 => ?_)
    refine r_aload_n (q := 59) dX6_open_58 rfl rfl rfl ?_
    refine r_iload (q := 61) dX6_open_59 rfl rfl ?_
    refine r_iload_n (q := 62) dX6_open_61 rfl rfl rfl ?_
    refine r_iload_n (q := 63) dX6_open_62 rfl rfl rfl ?_
    refine r_iushr (q := 64) dX6_open_63 rfl ?_
    refine r_topi (y := nI (key / 2 ^ (B - 2))) (ushr_N (by omega) (by omega)) ?_
    refine r_iconst (q := 65) (nI 3) dX6_open_64 rfl (by decide) ?_
    refine r_iand (q := 66) dX6_open_65 rfl ?_
    refine r_topi (y := nI ((key / 2 ^ (B - 2)) % 4)) (pk_andN (show key / 2 ^ (B - 2) < 2 ^ 32 by omega) 2 (by decide)) ?_
    refine r_iastN (q := 67) 13 (by decide) rfl dX6_open_66 rfl (hs.e (by decide)) (hs.n rfl (by decide)) (by omega) (by decide) ?_
    refine r_iincN (q := 70) (L' := [some (zi (nI key)), some (zi (nI n)), some (zr 203 0), some (zi (nI (B - 2))), some (zi (nI (l.length + 1))), some (zi (nI i)), some (zi (nI run)), some (zi (nI j))]) 1 rfl dX6_open_67 rfl rfl (by decide) rfl ?_
    refine r_iincN (q := 73) (L' := [some (zi (nI key)), some (zi (nI n)), some (zr 203 0), some (zi (nI (B - 2))), some (zi (nI (l.length + 1))), some (zi (nI i)), some (zi (nI run)), some (zi (nI (j + 1)))]) 1 rfl dX6_open_70 rfl rfl (by decide) rfl ?_
    refine r_goto (q := 37) dX6_open_73 (by decide) ?_
    rw [hd, stR_snoc]
    have q := ih (l ++ [k - 1]) (B - 2) (j + 1) h3' (by omega) (by omega) hx' hm2 (by simp; omega) (by omega) ?_
    · rw [show (l ++ [k - 1]).length = l.length + 1 by simp] at q; exact q
    · rw [show (l ++ [k - 1]).length = l.length + 1 by simp, show l.length + 1 + r.length = l.length + (r.length + 1) by omega, show B - 2 - 2 * r.length = B - 2 * (r.length + 1) by omega, List.append_assoc]; exact K

set_option maxRecDepth 100000 in
theorem lp_op3_203 {S : zS} (hs : Sd S)  {key n i : Nat} {l : List Nat} (hkey : key < 2 ^ 30) (hn : i + 1 = n) (hn7 : n ≤ 7) (hl : l.length ≤ 12) : ∀ (B : Nat), B ≤ 30 → key % 2 ^ B = 0 → Ok mX6_open 9 [some (zi (nI key)), some (zi (nI n)), some (zr 203 0), some (zi (nI B)), some (zi (nI l.length)), some (zi (nI i)), none, none] [] (stR S 203 0 l) (fun r S1 => r = some (zi (nI (l ++ [3]).length)) ∧ S1 = stR S 203 0 (l ++ [3])) := by
  intro B hB hm
  rcases (show B = 0 ∨ B = 1 ∨ B = 2 ∨ 3 ≤ B by omega) with rfl | rfl | rfl | h3
  · refine r_iload (q := 11) dX6_open_9 rfl rfl ?_
    refine r_iload_n (q := 12) dX6_open_11 rfl rfl rfl ?_
    refine r_icmp_geN (q := 15) (t := 97) (by omega) (by omega) dX6_open_12 (by decide) rfl (fun h12 => absurd h12 (by omega)) (fun h12 => ?_)
    refine r_iinc (q := 18) (L' := [some (zi (nI key)), some (zi (nI n)), some (zr 203 0), some (zi (-3 : Int32)), some (zi (nI l.length)), some (zi (nI i)), none, none]) (-3 : Int32) dX6_open_15 rfl rfl (by decide) (by decide) rfl ?_
    refine r_iload_n (q := 19) dX6_open_18 rfl rfl rfl ?_
    refine r_if_ge (q := 22) (t := 26) dX6_open_19 (by decide) rfl (fun h19 => absurd h19 (by decide)) (fun h19 => ?_)
    refine r_iconst (q := 23) (nI 0) dX6_open_22 rfl (by decide) ?_
    refine r_goto (q := 32) dX6_open_23 (by decide) ?_
    refine r_istore (q := 34) (L' := [some (zi (nI key)), some (zi (nI n)), some (zr 203 0), some (zi (-3 : Int32)), some (zi (nI l.length)), some (zi (nI i)), some (zi (nI 0)), none]) dX6_open_32 rfl (by decide) rfl ?_
    refine r_iconst (q := 35) (nI 0) dX6_open_34 rfl (by decide) ?_
    refine r_istore (q := 37) (L' := [some (zi (nI key)), some (zi (nI n)), some (zr 203 0), some (zi (-3 : Int32)), some (zi (nI l.length)), some (zi (nI i)), some (zi (nI 0)), some (zi (nI 0))]) dX6_open_35 rfl (by decide) rfl ?_
    refine r_iload (q := 39) dX6_open_37 rfl rfl ?_
    refine r_iload (q := 41) dX6_open_39 rfl rfl ?_
    refine r_icmp_geN (q := 44) (t := 76) (by omega) (by omega) dX6_open_41 (by decide) rfl (fun h41 => ?_) (fun h41 => absurd h41 (by omega))
    refine r_iload (q := 78) dX6_open_76 rfl rfl ?_
    refine r_aload_n (q := 79) dX6_open_78 rfl rfl rfl ?_
    refine r_alen (q := 80) (by decide) (by decide) dX6_open_79 rfl (hs.e (by decide)) ?_
    refine r_topi (y := nI 13) (congrArg nI (hs.n rfl (by decide))) ?_
    refine r_icmp_geN (q := 83) (t := 91) (by omega) (by omega) dX6_open_80 (by decide) rfl (fun h80 => absurd h80 (by omega)) (fun h80 => ?_)
    refine r_aload_n (q := 84) dX6_open_83 rfl rfl rfl ?_
    refine r_iload (q := 86) dX6_open_84 rfl rfl ?_
    refine r_iconst (q := 87) (nI 3) dX6_open_86 rfl (by decide) ?_
    refine r_iastN (q := 88) 13 (by decide) rfl dX6_open_87 rfl (hs.e (by decide)) (hs.n rfl (by decide)) (by omega) (by decide) ?_
    refine r_iincN (q := 91) (L' := [some (zi (nI key)), some (zi (nI n)), some (zr 203 0), some (zi (-3 : Int32)), some (zi (nI (l.length + 1))), some (zi (nI i)), some (zi (nI 0)), some (zi (nI 0))]) 1 rfl dX6_open_88 rfl rfl (by decide) rfl ?_
    refine r_iincN (q := 94) (L' := [some (zi (nI key)), some (zi (nI n)), some (zr 203 0), some (zi (-3 : Int32)), some (zi (nI (l.length + 1))), some (zi (nI (i + 1))), some (zi (nI 0)), some (zi (nI 0))]) 1 rfl dX6_open_91 rfl rfl (by decide) rfl ?_
    refine r_goto (q := 9) dX6_open_94 (by decide) ?_
    refine r_iload (q := 11) dX6_open_9 rfl rfl ?_
    refine r_iload_n (q := 12) dX6_open_11 rfl rfl rfl ?_
    refine r_icmp_geN (q := 15) (t := 97) (by omega) (by omega) dX6_open_12 (by decide) rfl (fun h12 => ?_) (fun h12 => absurd h12 (by omega))
    refine r_iload (q := 99) dX6_open_97 rfl rfl ?_
    refine r_ireturn dX6_open_99 rfl ?_
    exact ⟨by simp, stR_snoc⟩
  · refine r_iload (q := 11) dX6_open_9 rfl rfl ?_
    refine r_iload_n (q := 12) dX6_open_11 rfl rfl rfl ?_
    refine r_icmp_geN (q := 15) (t := 97) (by omega) (by omega) dX6_open_12 (by decide) rfl (fun h12 => absurd h12 (by omega)) (fun h12 => ?_)
    refine r_iinc (q := 18) (L' := [some (zi (nI key)), some (zi (nI n)), some (zr 203 0), some (zi (-2 : Int32)), some (zi (nI l.length)), some (zi (nI i)), none, none]) (-2 : Int32) dX6_open_15 rfl rfl (by decide) (by decide) rfl ?_
    refine r_iload_n (q := 19) dX6_open_18 rfl rfl rfl ?_
    refine r_if_ge (q := 22) (t := 26) dX6_open_19 (by decide) rfl (fun h19 => absurd h19 (by decide)) (fun h19 => ?_)
    refine r_iconst (q := 23) (nI 0) dX6_open_22 rfl (by decide) ?_
    refine r_goto (q := 32) dX6_open_23 (by decide) ?_
    refine r_istore (q := 34) (L' := [some (zi (nI key)), some (zi (nI n)), some (zr 203 0), some (zi (-2 : Int32)), some (zi (nI l.length)), some (zi (nI i)), some (zi (nI 0)), none]) dX6_open_32 rfl (by decide) rfl ?_
    refine r_iconst (q := 35) (nI 0) dX6_open_34 rfl (by decide) ?_
    refine r_istore (q := 37) (L' := [some (zi (nI key)), some (zi (nI n)), some (zr 203 0), some (zi (-2 : Int32)), some (zi (nI l.length)), some (zi (nI i)), some (zi (nI 0)), some (zi (nI 0))]) dX6_open_35 rfl (by decide) rfl ?_
    refine r_iload (q := 39) dX6_open_37 rfl rfl ?_
    refine r_iload (q := 41) dX6_open_39 rfl rfl ?_
    refine r_icmp_geN (q := 44) (t := 76) (by omega) (by omega) dX6_open_41 (by decide) rfl (fun h41 => ?_) (fun h41 => absurd h41 (by omega))
    refine r_iload (q := 78) dX6_open_76 rfl rfl ?_
    refine r_aload_n (q := 79) dX6_open_78 rfl rfl rfl ?_
    refine r_alen (q := 80) (by decide) (by decide) dX6_open_79 rfl (hs.e (by decide)) ?_
    refine r_topi (y := nI 13) (congrArg nI (hs.n rfl (by decide))) ?_
    refine r_icmp_geN (q := 83) (t := 91) (by omega) (by omega) dX6_open_80 (by decide) rfl (fun h80 => absurd h80 (by omega)) (fun h80 => ?_)
    refine r_aload_n (q := 84) dX6_open_83 rfl rfl rfl ?_
    refine r_iload (q := 86) dX6_open_84 rfl rfl ?_
    refine r_iconst (q := 87) (nI 3) dX6_open_86 rfl (by decide) ?_
    refine r_iastN (q := 88) 13 (by decide) rfl dX6_open_87 rfl (hs.e (by decide)) (hs.n rfl (by decide)) (by omega) (by decide) ?_
    refine r_iincN (q := 91) (L' := [some (zi (nI key)), some (zi (nI n)), some (zr 203 0), some (zi (-2 : Int32)), some (zi (nI (l.length + 1))), some (zi (nI i)), some (zi (nI 0)), some (zi (nI 0))]) 1 rfl dX6_open_88 rfl rfl (by decide) rfl ?_
    refine r_iincN (q := 94) (L' := [some (zi (nI key)), some (zi (nI n)), some (zr 203 0), some (zi (-2 : Int32)), some (zi (nI (l.length + 1))), some (zi (nI (i + 1))), some (zi (nI 0)), some (zi (nI 0))]) 1 rfl dX6_open_91 rfl rfl (by decide) rfl ?_
    refine r_goto (q := 9) dX6_open_94 (by decide) ?_
    refine r_iload (q := 11) dX6_open_9 rfl rfl ?_
    refine r_iload_n (q := 12) dX6_open_11 rfl rfl rfl ?_
    refine r_icmp_geN (q := 15) (t := 97) (by omega) (by omega) dX6_open_12 (by decide) rfl (fun h12 => ?_) (fun h12 => absurd h12 (by omega))
    refine r_iload (q := 99) dX6_open_97 rfl rfl ?_
    refine r_ireturn dX6_open_99 rfl ?_
    exact ⟨by simp, stR_snoc⟩
  · refine r_iload (q := 11) dX6_open_9 rfl rfl ?_
    refine r_iload_n (q := 12) dX6_open_11 rfl rfl rfl ?_
    refine r_icmp_geN (q := 15) (t := 97) (by omega) (by omega) dX6_open_12 (by decide) rfl (fun h12 => absurd h12 (by omega)) (fun h12 => ?_)
    refine r_iinc (q := 18) (L' := [some (zi (nI key)), some (zi (nI n)), some (zr 203 0), some (zi (-1 : Int32)), some (zi (nI l.length)), some (zi (nI i)), none, none]) (-1 : Int32) dX6_open_15 rfl rfl (by decide) (by decide) rfl ?_
    refine r_iload_n (q := 19) dX6_open_18 rfl rfl rfl ?_
    refine r_if_ge (q := 22) (t := 26) dX6_open_19 (by decide) rfl (fun h19 => absurd h19 (by decide)) (fun h19 => ?_)
    refine r_iconst (q := 23) (nI 0) dX6_open_22 rfl (by decide) ?_
    refine r_goto (q := 32) dX6_open_23 (by decide) ?_
    refine r_istore (q := 34) (L' := [some (zi (nI key)), some (zi (nI n)), some (zr 203 0), some (zi (-1 : Int32)), some (zi (nI l.length)), some (zi (nI i)), some (zi (nI 0)), none]) dX6_open_32 rfl (by decide) rfl ?_
    refine r_iconst (q := 35) (nI 0) dX6_open_34 rfl (by decide) ?_
    refine r_istore (q := 37) (L' := [some (zi (nI key)), some (zi (nI n)), some (zr 203 0), some (zi (-1 : Int32)), some (zi (nI l.length)), some (zi (nI i)), some (zi (nI 0)), some (zi (nI 0))]) dX6_open_35 rfl (by decide) rfl ?_
    refine r_iload (q := 39) dX6_open_37 rfl rfl ?_
    refine r_iload (q := 41) dX6_open_39 rfl rfl ?_
    refine r_icmp_geN (q := 44) (t := 76) (by omega) (by omega) dX6_open_41 (by decide) rfl (fun h41 => ?_) (fun h41 => absurd h41 (by omega))
    refine r_iload (q := 78) dX6_open_76 rfl rfl ?_
    refine r_aload_n (q := 79) dX6_open_78 rfl rfl rfl ?_
    refine r_alen (q := 80) (by decide) (by decide) dX6_open_79 rfl (hs.e (by decide)) ?_
    refine r_topi (y := nI 13) (congrArg nI (hs.n rfl (by decide))) ?_
    refine r_icmp_geN (q := 83) (t := 91) (by omega) (by omega) dX6_open_80 (by decide) rfl (fun h80 => absurd h80 (by omega)) (fun h80 => ?_)
    refine r_aload_n (q := 84) dX6_open_83 rfl rfl rfl ?_
    refine r_iload (q := 86) dX6_open_84 rfl rfl ?_
    refine r_iconst (q := 87) (nI 3) dX6_open_86 rfl (by decide) ?_
    refine r_iastN (q := 88) 13 (by decide) rfl dX6_open_87 rfl (hs.e (by decide)) (hs.n rfl (by decide)) (by omega) (by decide) ?_
    refine r_iincN (q := 91) (L' := [some (zi (nI key)), some (zi (nI n)), some (zr 203 0), some (zi (-1 : Int32)), some (zi (nI (l.length + 1))), some (zi (nI i)), some (zi (nI 0)), some (zi (nI 0))]) 1 rfl dX6_open_88 rfl rfl (by decide) rfl ?_
    refine r_iincN (q := 94) (L' := [some (zi (nI key)), some (zi (nI n)), some (zr 203 0), some (zi (-1 : Int32)), some (zi (nI (l.length + 1))), some (zi (nI (i + 1))), some (zi (nI 0)), some (zi (nI 0))]) 1 rfl dX6_open_91 rfl rfl (by decide) rfl ?_
    refine r_goto (q := 9) dX6_open_94 (by decide) ?_
    refine r_iload (q := 11) dX6_open_9 rfl rfl ?_
    refine r_iload_n (q := 12) dX6_open_11 rfl rfl rfl ?_
    refine r_icmp_geN (q := 15) (t := 97) (by omega) (by omega) dX6_open_12 (by decide) rfl (fun h12 => ?_) (fun h12 => absurd h12 (by omega))
    refine r_iload (q := 99) dX6_open_97 rfl rfl ?_
    refine r_ireturn dX6_open_99 rfl ?_
    exact ⟨by simp, stR_snoc⟩
  · have hd : key / 2 ^ (B - 3) % 8 = 0 := dig (s := B - 3) (t := 3) (y := 0) (by rw [show B - 3 + 3 = B by omega, hm]; omega) (Nat.pow_pos (by omega))
    have hdb : key / 2 ^ (B - 3) ≤ key := Nat.div_le_self _ _
    refine r_iload (q := 11) dX6_open_9 rfl rfl ?_
    refine r_iload_n (q := 12) dX6_open_11 rfl rfl rfl ?_
    refine r_icmp_geN (q := 15) (t := 97) (by omega) (by omega) dX6_open_12 (by decide) rfl (fun h12 => absurd h12 (by omega)) (fun h12 => ?_)
    refine r_idecN (q := 18) (L' := [some (zi (nI key)), some (zi (nI n)), some (zr 203 0), some (zi (nI (B - 3))), some (zi (nI l.length)), some (zi (nI i)), none, none]) 3 (by omega) rfl dX6_open_15 rfl rfl (by decide) rfl ?_
    refine r_iload_n (q := 19) dX6_open_18 rfl rfl rfl ?_
    refine r_if_geN (q := 22) (t := 26) (by omega) dX6_open_19 (by decide) rfl ?_
    refine r_iload_n (q := 27) dX6_open_26 rfl rfl rfl ?_
    refine r_iload_n (q := 28) dX6_open_27 rfl rfl rfl ?_
    refine r_iushr (q := 29) dX6_open_28 rfl ?_
    refine r_topi (y := nI (key / 2 ^ (B - 3))) (ushr_N (by omega) (by omega)) ?_
    refine r_bipush (q := 31) (nI 7) dX6_open_29 rfl (by decide) ?_
    refine r_iand (q := 32) dX6_open_31 rfl ?_
    refine r_topi (y := nI 0) (by rw [pk_andN (by omega) 3 (by decide), hd]) ?_
    refine r_istore (q := 34) (L' := [some (zi (nI key)), some (zi (nI n)), some (zr 203 0), some (zi (nI (B - 3))), some (zi (nI l.length)), some (zi (nI i)), some (zi (nI 0)), none]) dX6_open_32 rfl (by decide) rfl ?_
    refine r_iconst (q := 35) (nI 0) dX6_open_34 rfl (by decide) ?_
    refine r_istore (q := 37) (L' := [some (zi (nI key)), some (zi (nI n)), some (zr 203 0), some (zi (nI (B - 3))), some (zi (nI l.length)), some (zi (nI i)), some (zi (nI 0)), some (zi (nI 0))]) dX6_open_35 rfl (by decide) rfl ?_
    refine r_iload (q := 39) dX6_open_37 rfl rfl ?_
    refine r_iload (q := 41) dX6_open_39 rfl rfl ?_
    refine r_icmp_geN (q := 44) (t := 76) (by omega) (by omega) dX6_open_41 (by decide) rfl (fun h41 => ?_) (fun h41 => absurd h41 (by omega))
    refine r_iload (q := 78) dX6_open_76 rfl rfl ?_
    refine r_aload_n (q := 79) dX6_open_78 rfl rfl rfl ?_
    refine r_alen (q := 80) (by decide) (by decide) dX6_open_79 rfl (hs.e (by decide)) ?_
    refine r_topi (y := nI 13) (congrArg nI (hs.n rfl (by decide))) ?_
    refine r_icmp_geN (q := 83) (t := 91) (by omega) (by omega) dX6_open_80 (by decide) rfl (fun h80 => absurd h80 (by omega)) (fun h80 => ?_)
    refine r_aload_n (q := 84) dX6_open_83 rfl rfl rfl ?_
    refine r_iload (q := 86) dX6_open_84 rfl rfl ?_
    refine r_iconst (q := 87) (nI 3) dX6_open_86 rfl (by decide) ?_
    refine r_iastN (q := 88) 13 (by decide) rfl dX6_open_87 rfl (hs.e (by decide)) (hs.n rfl (by decide)) (by omega) (by decide) ?_
    refine r_iincN (q := 91) (L' := [some (zi (nI key)), some (zi (nI n)), some (zr 203 0), some (zi (nI (B - 3))), some (zi (nI (l.length + 1))), some (zi (nI i)), some (zi (nI 0)), some (zi (nI 0))]) 1 rfl dX6_open_88 rfl rfl (by decide) rfl ?_
    refine r_iincN (q := 94) (L' := [some (zi (nI key)), some (zi (nI n)), some (zr 203 0), some (zi (nI (B - 3))), some (zi (nI (l.length + 1))), some (zi (nI (i + 1))), some (zi (nI 0)), some (zi (nI 0))]) 1 rfl dX6_open_91 rfl rfl (by decide) rfl ?_
    refine r_goto (q := 9) dX6_open_94 (by decide) ?_
    refine r_iload (q := 11) dX6_open_9 rfl rfl ?_
    refine r_iload_n (q := 12) dX6_open_11 rfl rfl rfl ?_
    refine r_icmp_geN (q := 15) (t := 97) (by omega) (by omega) dX6_open_12 (by decide) rfl (fun h12 => ?_) (fun h12 => absurd h12 (by omega))
    refine r_iload (q := 99) dX6_open_97 rfl rfl ?_
    refine r_ireturn dX6_open_99 rfl ?_
    exact ⟨by simp, stR_snoc⟩

set_option maxRecDepth 100000 in
theorem lp_op1_203 {S : zS} (hs : Sd S)  {key n : Nat} (hkey : key < 2 ^ 30) (hn7 : n ≤ 7) : ∀ (rs : List (List Nat)) (l : List Nat) (B i : Nat), rs ≠ [] → Ru rs → Bt B rs → B ≤ 30 → i + rs.length = n → key % 2 ^ B = kr B rs → l.length + (tk rs).length ≤ 13 → Ok mX6_open 9 [some (zi (nI key)), some (zi (nI n)), some (zr 203 0), some (zi (nI B)), some (zi (nI l.length)), some (zi (nI i)), none, none] [] (stR S 203 0 l) (fun r S1 => r = some (zi (nI (l ++ (tk rs).map nd).length)) ∧ S1 = stR S 203 0 (l ++ (tk rs).map nd)) := by
  intro rs
  induction rs with
  | nil => exact fun l B i h => absurd rfl h
  | cons r rs ih =>
    intro l B i _ hr hb hB hi hm hl
    have hr3 := hr.hd
    rw [List.length_cons] at hi
    by_cases he : rs = []
    · subst he
      have e0 := hb.1 rfl
      subst e0
      have q := lp_op3_203 (l := l) hs hkey (show i + 1 = n by simpa using hi) hn7 (by simp [tk] at hl; omega) B hB (by rw [hm]; simp [kr, ac2])
      exact q
    · obtain ⟨b1, b2, b3⟩ := hb.2 he
      have klt := kr_lt rs _ hr.tl b3
      have alt := ac2_lt r (B - 3) _ hr3 (by omega) klt
      rw [kr] at hm
      have hd : key / 2 ^ (B - 3) % 8 = r.length := dig (s := B - 3) (t := 3) (by rw [show B - 3 + 3 = B by omega]; exact hm) alt
      have hdb : key / 2 ^ (B - 3) ≤ key := Nat.div_le_self _ _
      have hm2 := low_mod (show B - 3 ≤ B by omega) hm (mulpow_mod (Nat.le_refl _)) alt
      have hm3 : key % 2 ^ (B - 3 - 2 * r.length) = kr (B - 3 - 2 * r.length) rs := low_mod (show B - 3 - 2 * r.length ≤ B - 3 by omega) hm2 (ac2_mod r (B - 3) (by omega)) klt
      rw [nd_tk r rs hr3]
      rw [tk_cons, List.length_append, List.length_cons] at hl
      have hl1 : 1 ≤ rs.length := by cases rs with | nil => exact absurd rfl he | cons _ _ => simp
      refine r_iload (q := 11) dX6_open_9 rfl rfl ?_
      refine r_iload_n (q := 12) dX6_open_11 rfl rfl rfl ?_
      refine r_icmp_geN (q := 15) (t := 97) (by omega) (by omega) dX6_open_12 (by decide) rfl (fun h12 => absurd h12 (by omega)) (fun h12 => ?_)
      refine r_idecN (q := 18) (L' := [some (zi (nI key)), some (zi (nI n)), some (zr 203 0), some (zi (nI (B - 3))), some (zi (nI l.length)), some (zi (nI i)), none, none]) 3 (by omega) rfl dX6_open_15 rfl rfl (by decide) rfl ?_
      refine r_iload_n (q := 19) dX6_open_18 rfl rfl rfl ?_
      refine r_if_geN (q := 22) (t := 26) (by omega) dX6_open_19 (by decide) rfl ?_
      refine r_iload_n (q := 27) dX6_open_26 rfl rfl rfl ?_
      refine r_iload_n (q := 28) dX6_open_27 rfl rfl rfl ?_
      refine r_iushr (q := 29) dX6_open_28 rfl ?_
      refine r_topi (y := nI (key / 2 ^ (B - 3))) (ushr_N (by omega) (by omega)) ?_
      refine r_bipush (q := 31) (nI 7) dX6_open_29 rfl (by decide) ?_
      refine r_iand (q := 32) dX6_open_31 rfl ?_
      refine r_topi (y := nI r.length) (by rw [pk_andN (by omega) 3 (by decide), hd]) ?_
      refine r_istore (q := 34) (L' := [some (zi (nI key)), some (zi (nI n)), some (zr 203 0), some (zi (nI (B - 3))), some (zi (nI l.length)), some (zi (nI i)), some (zi (nI r.length)), none]) dX6_open_32 rfl (by decide) rfl ?_
      refine r_iconst (q := 35) (nI 0) dX6_open_34 rfl (by decide) ?_
      refine r_istore (q := 37) (L' := [some (zi (nI key)), some (zi (nI n)), some (zr 203 0), some (zi (nI (B - 3))), some (zi (nI l.length)), some (zi (nI i)), some (zi (nI r.length)), some (zi (nI 0))]) dX6_open_35 rfl (by decide) rfl ?_
      refine lp_op2_203 hs hkey b2 r l (B - 3) 0 hr3 (by omega) (by omega) klt hm2 (by omega) (by omega) ?_
      refine r_iload (q := 78) dX6_open_76 rfl rfl ?_
      refine r_aload_n (q := 79) dX6_open_78 rfl rfl rfl ?_
      refine r_alen (q := 80) (by decide) (by decide) dX6_open_79 rfl (hs.e (by decide)) ?_
      refine r_topi (y := nI 13) (congrArg nI (hs.n rfl (by decide))) ?_
      refine r_icmp_geN (q := 83) (t := 91) (by omega) (by omega) dX6_open_80 (by decide) rfl (fun h80 => absurd h80 (by omega)) (fun h80 => ?_)
      refine r_aload_n (q := 84) dX6_open_83 rfl rfl rfl ?_
      refine r_iload (q := 86) dX6_open_84 rfl rfl ?_
      refine r_iconst (q := 87) (nI 3) dX6_open_86 rfl (by decide) ?_
      refine r_iastN (q := 88) 13 (by decide) rfl dX6_open_87 rfl (hs.e (by decide)) (hs.n rfl (by decide)) (by omega) (by decide) ?_
      refine r_iincN (q := 91) (L' := [some (zi (nI key)), some (zi (nI n)), some (zr 203 0), some (zi (nI (B - 3 - 2 * r.length))), some (zi (nI (l.length + r.length + 1))), some (zi (nI i)), some (zi (nI r.length)), some (zi (nI r.length))]) 1 rfl dX6_open_88 rfl rfl (by decide) rfl ?_
      refine r_iincN (q := 94) (L' := [some (zi (nI key)), some (zi (nI n)), some (zr 203 0), some (zi (nI (B - 3 - 2 * r.length))), some (zi (nI (l.length + r.length + 1))), some (zi (nI (i + 1))), some (zi (nI r.length)), some (zi (nI r.length))]) 1 rfl dX6_open_91 rfl rfl (by decide) rfl ?_
      refine r_goto (q := 9) dX6_open_94 (by decide) ?_
      refine r_mask [true, true, true, true, true, true, false, false] rfl ?_
      have q := ih (l ++ r.map (fun k => k - 1) ++ [3]) (B - 3 - 2 * r.length) (i + 1) he hr.tl b3 (by omega) (by omega) hm3 (by simp; omega)
      have e1 := stR_snoc (S := S) (a := 203) (b := 0) (v := 3) (l := l ++ r.map (fun k => k - 1))
      rw [List.length_append, List.length_map] at e1
      rw [e1]
      have e2 : l ++ List.map (fun k : Nat => k - 1) r ++ [3] ++ (tk rs).map nd = l ++ (List.map (fun k : Nat => k - 1) r ++ 3 :: (tk rs).map nd) := by simp
      have e3 : List.length (l ++ List.map (fun k : Nat => k - 1) r ++ [3]) = l.length + r.length + 1 := by simp [Nat.add_assoc]
      rw [e2, e3] at q
      exact q

set_option maxRecDepth 100000 in
theorem ok_open_203 {S : zS} (hs : Sd S)  {A n : Nat} {e : Nat → Nat} (hE : Eok A e) {t : List Nat} (ht : Tr A e n t) (hn : n ≤ 7) : Ok mX6_open 0 (ent 8 [zi (nI (ky t)), zi (nI n), zr 203 0]) [] S (fun r S1 => r = some (zi (nI t.length)) ∧ S1 = stR S 203 0 (t.map nd)) := by
  obtain ⟨h1, h2, h3, h4⟩ := ht.rn hE hn
  have hky := ky_lt hE ht hn
  have hlen := ht.len hE
  show Ok mX6_open 0 [some (zi (nI (ky t))), some (zi (nI n)), some (zr 203 0), none, none, none, none, none] [] S _
  refine r_bipush (q := 2) (nI 30) dX6_open_0 rfl (by decide) ?_
  refine r_istore_n (q := 3) (L' := [some (zi (nI (ky t))), some (zi (nI n)), some (zr 203 0), some (zi (nI 30)), none, none, none, none]) dX6_open_2 rfl rfl (by decide) rfl ?_
  refine r_iconst (q := 4) (nI 0) dX6_open_3 rfl (by decide) ?_
  refine r_istore (q := 6) (L' := [some (zi (nI (ky t))), some (zi (nI n)), some (zr 203 0), some (zi (nI 30)), some (zi (nI 0)), none, none, none]) dX6_open_4 rfl (by decide) rfl ?_
  refine r_iconst (q := 7) (nI 0) dX6_open_6 rfl (by decide) ?_
  refine r_istore (q := 9) (L' := [some (zi (nI (ky t))), some (zi (nI n)), some (zr 203 0), some (zi (nI 30)), some (zi (nI 0)), some (zi (nI 0)), none, none]) dX6_open_7 rfl (by decide) rfl ?_
  have q := lp_op1_203 hs hky hn (rns t) [] 30 0 (fun z => by rw [z] at h3; simp at h3; omega) h2 h4 (by omega) (by omega) (by rw [Nat.mod_eq_of_lt hky]; rfl) (by rw [← h1]; simp; omega)
  rw [stR_nil, List.nil_append, ← h1, List.length_map] at q
  exact q

set_option maxRecDepth 100000 in
theorem lp_op2_302 {Po : Option zV → zS → Prop} {S : zS} (hs : Sd S)  {key n i run x : Nat} (hkey : key < 2 ^ 30) (hrun : run ≤ 7) : ∀ (r l : List Nat) (B j : Nat), (∀ k, k ∈ r → 1 ≤ k ∧ k ≤ 3) → 2 * r.length ≤ B → B ≤ 30 → x < 2 ^ (B - 2 * r.length) → key % 2 ^ B = ac2 B r + x → l.length + r.length ≤ 12 → j + r.length = run → Ok mX6_open 76 [some (zi (nI key)), some (zi (nI n)), some (zr 302 0), some (zi (nI (B - 2 * r.length))), some (zi (nI (l.length + r.length))), some (zi (nI i)), some (zi (nI run)), some (zi (nI run))] [] (stR S 302 0 (l ++ r.map (fun k => k - 1))) Po → Ok mX6_open 37 [some (zi (nI key)), some (zi (nI n)), some (zr 302 0), some (zi (nI B)), some (zi (nI l.length)), some (zi (nI i)), some (zi (nI run)), some (zi (nI j))] [] (stR S 302 0 l) Po := by
  intro r
  induction r with
  | nil =>
    intro l B j h3 hB hB30 hx hm hl hj K
    obtain rfl : j = run := by simpa using hj
    rw [show l ++ ([] : List Nat).map (fun k => k - 1) = l by simp] at K
    refine r_iload (q := 39) dX6_open_37 rfl rfl ?_
    refine r_iload (q := 41) dX6_open_39 rfl rfl ?_
    refine r_icmp_geN (q := 44) (t := 76) (by omega) (by omega) dX6_open_41 (by decide) rfl (fun h41 => ?_) (fun h41 => absurd h41 (by omega))
    exact K
  | cons k r ih =>
    intro l B j h3 hB hB30 hx hm hl hj K
    rw [List.length_cons] at hB hx hl hj K
    have hk := h3 k List.mem_cons_self
    have h3' := fun q hq => h3 q (List.mem_cons_of_mem _ hq)
    have hx' : x < 2 ^ (B - 2 - 2 * r.length) := by rw [show B - 2 - 2 * r.length = B - 2 * (r.length + 1) by omega]; exact hx
    have hlow := ac2_lt r (B - 2) x h3' (by omega) hx'
    rw [ac2, Nat.add_assoc] at hm
    have hd : key / 2 ^ (B - 2) % 4 = k - 1 := dig (s := B - 2) (t := 2) (by rw [show B - 2 + 2 = B by omega]; exact hm) hlow
    have hm2 := low_mod (show B - 2 ≤ B by omega) hm (mulpow_mod (Nat.le_refl _)) hlow
    have hdb : key / 2 ^ (B - 2) ≤ key := Nat.div_le_self _ _
    refine r_iload (q := 39) dX6_open_37 rfl rfl ?_
    refine r_iload (q := 41) dX6_open_39 rfl rfl ?_
    refine r_icmp_geN (q := 44) (t := 76) (by omega) (by omega) dX6_open_41 (by decide) rfl (fun h41 => absurd h41 (by omega)) (fun h41 => ?_)
    refine r_idecN (q := 47) (L' := [some (zi (nI key)), some (zi (nI n)), some (zr 302 0), some (zi (nI (B - 2))), some (zi (nI l.length)), some (zi (nI i)), some (zi (nI run)), some (zi (nI j))]) 2 (by omega) rfl dX6_open_44 rfl rfl (by decide) rfl ?_
    refine r_iload_n (q := 48) dX6_open_47 rfl rfl rfl ?_
    refine r_if_ltN (q := 51) (t := 70) (by omega) dX6_open_48 (by decide) rfl ?_
    refine r_iload (q := 53) dX6_open_51 rfl rfl ?_
    refine r_aload_n (q := 54) dX6_open_53 rfl rfl rfl ?_
    refine r_alen (q := 55) (by decide) (by decide) dX6_open_54 rfl (hs.e (by decide)) ?_
    refine r_topi (y := nI 13) (congrArg nI (hs.n rfl (by decide))) ?_
    refine r_icmp_geN (q := 58) (t := 70) (by omega) (by omega) dX6_open_55 (by decide) rfl (fun h55 => absurd h55 (by omega)) (fun h55 => ?_)
    refine r_aload_n (q := 59) dX6_open_58 rfl rfl rfl ?_
    refine r_iload (q := 61) dX6_open_59 rfl rfl ?_
    refine r_iload_n (q := 62) dX6_open_61 rfl rfl rfl ?_
    refine r_iload_n (q := 63) dX6_open_62 rfl rfl rfl ?_
    refine r_iushr (q := 64) dX6_open_63 rfl ?_
    refine r_topi (y := nI (key / 2 ^ (B - 2))) (ushr_N (by omega) (by omega)) ?_
    refine r_iconst (q := 65) (nI 3) dX6_open_64 rfl (by decide) ?_
    refine r_iand (q := 66) dX6_open_65 rfl ?_
    refine r_topi (y := nI ((key / 2 ^ (B - 2)) % 4)) (pk_andN (show key / 2 ^ (B - 2) < 2 ^ 32 by omega) 2 (by decide)) ?_
    refine r_iastN (q := 67) 13 (by decide) rfl dX6_open_66 rfl (hs.e (by decide)) (hs.n rfl (by decide)) (by omega) (by decide) ?_
    refine r_iincN (q := 70) (L' := [some (zi (nI key)), some (zi (nI n)), some (zr 302 0), some (zi (nI (B - 2))), some (zi (nI (l.length + 1))), some (zi (nI i)), some (zi (nI run)), some (zi (nI j))]) 1 rfl dX6_open_67 rfl rfl (by decide) rfl ?_
    refine r_iincN (q := 73) (L' := [some (zi (nI key)), some (zi (nI n)), some (zr 302 0), some (zi (nI (B - 2))), some (zi (nI (l.length + 1))), some (zi (nI i)), some (zi (nI run)), some (zi (nI (j + 1)))]) 1 rfl dX6_open_70 rfl rfl (by decide) rfl ?_
    refine r_goto (q := 37) dX6_open_73 (by decide) ?_
    rw [hd, stR_snoc]
    have q := ih (l ++ [k - 1]) (B - 2) (j + 1) h3' (by omega) (by omega) hx' hm2 (by simp; omega) (by omega) ?_
    · rw [show (l ++ [k - 1]).length = l.length + 1 by simp] at q; exact q
    · rw [show (l ++ [k - 1]).length = l.length + 1 by simp, show l.length + 1 + r.length = l.length + (r.length + 1) by omega, show B - 2 - 2 * r.length = B - 2 * (r.length + 1) by omega, List.append_assoc]; exact K

set_option maxRecDepth 100000 in
theorem lp_op3_302 {S : zS} (hs : Sd S)  {key n i : Nat} {l : List Nat} (hkey : key < 2 ^ 30) (hn : i + 1 = n) (hn7 : n ≤ 7) (hl : l.length ≤ 12) : ∀ (B : Nat), B ≤ 30 → key % 2 ^ B = 0 → Ok mX6_open 9 [some (zi (nI key)), some (zi (nI n)), some (zr 302 0), some (zi (nI B)), some (zi (nI l.length)), some (zi (nI i)), none, none] [] (stR S 302 0 l) (fun r S1 => r = some (zi (nI (l ++ [3]).length)) ∧ S1 = stR S 302 0 (l ++ [3])) := by
  intro B hB hm
  rcases (show B = 0 ∨ B = 1 ∨ B = 2 ∨ 3 ≤ B by omega) with rfl | rfl | rfl | h3
  · refine r_iload (q := 11) dX6_open_9 rfl rfl ?_
    refine r_iload_n (q := 12) dX6_open_11 rfl rfl rfl ?_
    refine r_icmp_geN (q := 15) (t := 97) (by omega) (by omega) dX6_open_12 (by decide) rfl (fun h12 => absurd h12 (by omega)) (fun h12 => ?_)
    refine r_iinc (q := 18) (L' := [some (zi (nI key)), some (zi (nI n)), some (zr 302 0), some (zi (-3 : Int32)), some (zi (nI l.length)), some (zi (nI i)), none, none]) (-3 : Int32) dX6_open_15 rfl rfl (by decide) (by decide) rfl ?_
    refine r_iload_n (q := 19) dX6_open_18 rfl rfl rfl ?_
    refine r_if_ge (q := 22) (t := 26) dX6_open_19 (by decide) rfl (fun h19 => absurd h19 (by decide)) (fun h19 => ?_)
    refine r_iconst (q := 23) (nI 0) dX6_open_22 rfl (by decide) ?_
    refine r_goto (q := 32) dX6_open_23 (by decide) ?_
    refine r_istore (q := 34) (L' := [some (zi (nI key)), some (zi (nI n)), some (zr 302 0), some (zi (-3 : Int32)), some (zi (nI l.length)), some (zi (nI i)), some (zi (nI 0)), none]) dX6_open_32 rfl (by decide) rfl ?_
    refine r_iconst (q := 35) (nI 0) dX6_open_34 rfl (by decide) ?_
    refine r_istore (q := 37) (L' := [some (zi (nI key)), some (zi (nI n)), some (zr 302 0), some (zi (-3 : Int32)), some (zi (nI l.length)), some (zi (nI i)), some (zi (nI 0)), some (zi (nI 0))]) dX6_open_35 rfl (by decide) rfl ?_
    refine r_iload (q := 39) dX6_open_37 rfl rfl ?_
    refine r_iload (q := 41) dX6_open_39 rfl rfl ?_
    refine r_icmp_geN (q := 44) (t := 76) (by omega) (by omega) dX6_open_41 (by decide) rfl (fun h41 => ?_) (fun h41 => absurd h41 (by omega))
    refine r_iload (q := 78) dX6_open_76 rfl rfl ?_
    refine r_aload_n (q := 79) dX6_open_78 rfl rfl rfl ?_
    refine r_alen (q := 80) (by decide) (by decide) dX6_open_79 rfl (hs.e (by decide)) ?_
    refine r_topi (y := nI 13) (congrArg nI (hs.n rfl (by decide))) ?_
    refine r_icmp_geN (q := 83) (t := 91) (by omega) (by omega) dX6_open_80 (by decide) rfl (fun h80 => absurd h80 (by omega)) (fun h80 => ?_)
    refine r_aload_n (q := 84) dX6_open_83 rfl rfl rfl ?_
    refine r_iload (q := 86) dX6_open_84 rfl rfl ?_
    refine r_iconst (q := 87) (nI 3) dX6_open_86 rfl (by decide) ?_
    refine r_iastN (q := 88) 13 (by decide) rfl dX6_open_87 rfl (hs.e (by decide)) (hs.n rfl (by decide)) (by omega) (by decide) ?_
    refine r_iincN (q := 91) (L' := [some (zi (nI key)), some (zi (nI n)), some (zr 302 0), some (zi (-3 : Int32)), some (zi (nI (l.length + 1))), some (zi (nI i)), some (zi (nI 0)), some (zi (nI 0))]) 1 rfl dX6_open_88 rfl rfl (by decide) rfl ?_
    refine r_iincN (q := 94) (L' := [some (zi (nI key)), some (zi (nI n)), some (zr 302 0), some (zi (-3 : Int32)), some (zi (nI (l.length + 1))), some (zi (nI (i + 1))), some (zi (nI 0)), some (zi (nI 0))]) 1 rfl dX6_open_91 rfl rfl (by decide) rfl ?_
    refine r_goto (q := 9) dX6_open_94 (by decide) ?_
    refine r_iload (q := 11) dX6_open_9 rfl rfl ?_
    refine r_iload_n (q := 12) dX6_open_11 rfl rfl rfl ?_
    refine r_icmp_geN (q := 15) (t := 97) (by omega) (by omega) dX6_open_12 (by decide) rfl (fun h12 => ?_) (fun h12 => absurd h12 (by omega))
    refine r_iload (q := 99) dX6_open_97 rfl rfl ?_
    refine r_ireturn dX6_open_99 rfl ?_
    exact ⟨by simp, stR_snoc⟩
  · refine r_iload (q := 11) dX6_open_9 rfl rfl ?_
    refine r_iload_n (q := 12) dX6_open_11 rfl rfl rfl ?_
    refine r_icmp_geN (q := 15) (t := 97) (by omega) (by omega) dX6_open_12 (by decide) rfl (fun h12 => absurd h12 (by omega)) (fun h12 => ?_)
    refine r_iinc (q := 18) (L' := [some (zi (nI key)), some (zi (nI n)), some (zr 302 0), some (zi (-2 : Int32)), some (zi (nI l.length)), some (zi (nI i)), none, none]) (-2 : Int32) dX6_open_15 rfl rfl (by decide) (by decide) rfl ?_
    refine r_iload_n (q := 19) dX6_open_18 rfl rfl rfl ?_
    refine r_if_ge (q := 22) (t := 26) dX6_open_19 (by decide) rfl (fun h19 => absurd h19 (by decide)) (fun h19 => ?_)
    refine r_iconst (q := 23) (nI 0) dX6_open_22 rfl (by decide) ?_
    refine r_goto (q := 32) dX6_open_23 (by decide) ?_
    refine r_istore (q := 34) (L' := [some (zi (nI key)), some (zi (nI n)), some (zr 302 0), some (zi (-2 : Int32)), some (zi (nI l.length)), some (zi (nI i)), some (zi (nI 0)), none]) dX6_open_32 rfl (by decide) rfl ?_
    refine r_iconst (q := 35) (nI 0) dX6_open_34 rfl (by decide) ?_
    refine r_istore (q := 37) (L' := [some (zi (nI key)), some (zi (nI n)), some (zr 302 0), some (zi (-2 : Int32)), some (zi (nI l.length)), some (zi (nI i)), some (zi (nI 0)), some (zi (nI 0))]) dX6_open_35 rfl (by decide) rfl ?_
    refine r_iload (q := 39) dX6_open_37 rfl rfl ?_
    refine r_iload (q := 41) dX6_open_39 rfl rfl ?_
    refine r_icmp_geN (q := 44) (t := 76) (by omega) (by omega) dX6_open_41 (by decide) rfl (fun h41 => ?_) (fun h41 => absurd h41 (by omega))
    refine r_iload (q := 78) dX6_open_76 rfl rfl ?_
    refine r_aload_n (q := 79) dX6_open_78 rfl rfl rfl ?_
    refine r_alen (q := 80) (by decide) (by decide) dX6_open_79 rfl (hs.e (by decide)) ?_
    refine r_topi (y := nI 13) (congrArg nI (hs.n rfl (by decide))) ?_
    refine r_icmp_geN (q := 83) (t := 91) (by omega) (by omega) dX6_open_80 (by decide) rfl (fun h80 => absurd h80 (by omega)) (fun h80 => ?_)
    refine r_aload_n (q := 84) dX6_open_83 rfl rfl rfl ?_
    refine r_iload (q := 86) dX6_open_84 rfl rfl ?_
    refine r_iconst (q := 87) (nI 3) dX6_open_86 rfl (by decide) ?_
    refine r_iastN (q := 88) 13 (by decide) rfl dX6_open_87 rfl (hs.e (by decide)) (hs.n rfl (by decide)) (by omega) (by decide) ?_
    refine r_iincN (q := 91) (L' := [some (zi (nI key)), some (zi (nI n)), some (zr 302 0), some (zi (-2 : Int32)), some (zi (nI (l.length + 1))), some (zi (nI i)), some (zi (nI 0)), some (zi (nI 0))]) 1 rfl dX6_open_88 rfl rfl (by decide) rfl ?_
    refine r_iincN (q := 94) (L' := [some (zi (nI key)), some (zi (nI n)), some (zr 302 0), some (zi (-2 : Int32)), some (zi (nI (l.length + 1))), some (zi (nI (i + 1))), some (zi (nI 0)), some (zi (nI 0))]) 1 rfl dX6_open_91 rfl rfl (by decide) rfl ?_
    refine r_goto (q := 9) dX6_open_94 (by decide) ?_
    refine r_iload (q := 11) dX6_open_9 rfl rfl ?_
    refine r_iload_n (q := 12) dX6_open_11 rfl rfl rfl ?_
    refine r_icmp_geN (q := 15) (t := 97) (by omega) (by omega) dX6_open_12 (by decide) rfl (fun h12 => ?_) (fun h12 => absurd h12 (by omega))
    refine r_iload (q := 99) dX6_open_97 rfl rfl ?_
    refine r_ireturn dX6_open_99 rfl ?_
    exact ⟨by simp, stR_snoc⟩
  · refine r_iload (q := 11) dX6_open_9 rfl rfl ?_
    refine r_iload_n (q := 12) dX6_open_11 rfl rfl rfl ?_
    refine r_icmp_geN (q := 15) (t := 97) (by omega) (by omega) dX6_open_12 (by decide) rfl (fun h12 => absurd h12 (by omega)) (fun h12 => ?_)
    refine r_iinc (q := 18) (L' := [some (zi (nI key)), some (zi (nI n)), some (zr 302 0), some (zi (-1 : Int32)), some (zi (nI l.length)), some (zi (nI i)), none, none]) (-1 : Int32) dX6_open_15 rfl rfl (by decide) (by decide) rfl ?_
    refine r_iload_n (q := 19) dX6_open_18 rfl rfl rfl ?_
    refine r_if_ge (q := 22) (t := 26) dX6_open_19 (by decide) rfl (fun h19 => absurd h19 (by decide)) (fun h19 => ?_)
    refine r_iconst (q := 23) (nI 0) dX6_open_22 rfl (by decide) ?_
    refine r_goto (q := 32) dX6_open_23 (by decide) ?_
    refine r_istore (q := 34) (L' := [some (zi (nI key)), some (zi (nI n)), some (zr 302 0), some (zi (-1 : Int32)), some (zi (nI l.length)), some (zi (nI i)), some (zi (nI 0)), none]) dX6_open_32 rfl (by decide) rfl ?_
    refine r_iconst (q := 35) (nI 0) dX6_open_34 rfl (by decide) ?_
    refine r_istore (q := 37) (L' := [some (zi (nI key)), some (zi (nI n)), some (zr 302 0), some (zi (-1 : Int32)), some (zi (nI l.length)), some (zi (nI i)), some (zi (nI 0)), some (zi (nI 0))]) dX6_open_35 rfl (by decide) rfl ?_
    refine r_iload (q := 39) dX6_open_37 rfl rfl ?_
    refine r_iload (q := 41) dX6_open_39 rfl rfl ?_
    refine r_icmp_geN (q := 44) (t := 76) (by omega) (by omega) dX6_open_41 (by decide) rfl (fun h41 => ?_) (fun h41 => absurd h41 (by omega))
    refine r_iload (q := 78) dX6_open_76 rfl rfl ?_
    refine r_aload_n (q := 79) dX6_open_78 rfl rfl rfl ?_
    refine r_alen (q := 80) (by decide) (by decide) dX6_open_79 rfl (hs.e (by decide)) ?_
    refine r_topi (y := nI 13) (congrArg nI (hs.n rfl (by decide))) ?_
    refine r_icmp_geN (q := 83) (t := 91) (by omega) (by omega) dX6_open_80 (by decide) rfl (fun h80 => absurd h80 (by omega)) (fun h80 => ?_)
    refine r_aload_n (q := 84) dX6_open_83 rfl rfl rfl ?_
    refine r_iload (q := 86) dX6_open_84 rfl rfl ?_
    refine r_iconst (q := 87) (nI 3) dX6_open_86 rfl (by decide) ?_
    refine r_iastN (q := 88) 13 (by decide) rfl dX6_open_87 rfl (hs.e (by decide)) (hs.n rfl (by decide)) (by omega) (by decide) ?_
    refine r_iincN (q := 91) (L' := [some (zi (nI key)), some (zi (nI n)), some (zr 302 0), some (zi (-1 : Int32)), some (zi (nI (l.length + 1))), some (zi (nI i)), some (zi (nI 0)), some (zi (nI 0))]) 1 rfl dX6_open_88 rfl rfl (by decide) rfl ?_
    refine r_iincN (q := 94) (L' := [some (zi (nI key)), some (zi (nI n)), some (zr 302 0), some (zi (-1 : Int32)), some (zi (nI (l.length + 1))), some (zi (nI (i + 1))), some (zi (nI 0)), some (zi (nI 0))]) 1 rfl dX6_open_91 rfl rfl (by decide) rfl ?_
    refine r_goto (q := 9) dX6_open_94 (by decide) ?_
    refine r_iload (q := 11) dX6_open_9 rfl rfl ?_
    refine r_iload_n (q := 12) dX6_open_11 rfl rfl rfl ?_
    refine r_icmp_geN (q := 15) (t := 97) (by omega) (by omega) dX6_open_12 (by decide) rfl (fun h12 => ?_) (fun h12 => absurd h12 (by omega))
    refine r_iload (q := 99) dX6_open_97 rfl rfl ?_
    refine r_ireturn dX6_open_99 rfl ?_
    exact ⟨by simp, stR_snoc⟩
  · have hd : key / 2 ^ (B - 3) % 8 = 0 := dig (s := B - 3) (t := 3) (y := 0) (by rw [show B - 3 + 3 = B by omega, hm]; omega) (Nat.pow_pos (by omega))
    have hdb : key / 2 ^ (B - 3) ≤ key := Nat.div_le_self _ _
    refine r_iload (q := 11) dX6_open_9 rfl rfl ?_
    refine r_iload_n (q := 12) dX6_open_11 rfl rfl rfl ?_
    refine r_icmp_geN (q := 15) (t := 97) (by omega) (by omega) dX6_open_12 (by decide) rfl (fun h12 => absurd h12 (by omega)) (fun h12 => ?_)
    refine r_idecN (q := 18) (L' := [some (zi (nI key)), some (zi (nI n)), some (zr 302 0), some (zi (nI (B - 3))), some (zi (nI l.length)), some (zi (nI i)), none, none]) 3 (by omega) rfl dX6_open_15 rfl rfl (by decide) rfl ?_
    refine r_iload_n (q := 19) dX6_open_18 rfl rfl rfl ?_
    refine r_if_geN (q := 22) (t := 26) (by omega) dX6_open_19 (by decide) rfl ?_
    refine r_iload_n (q := 27) dX6_open_26 rfl rfl rfl ?_
    refine r_iload_n (q := 28) dX6_open_27 rfl rfl rfl ?_
    refine r_iushr (q := 29) dX6_open_28 rfl ?_
    refine r_topi (y := nI (key / 2 ^ (B - 3))) (ushr_N (by omega) (by omega)) ?_
    refine r_bipush (q := 31) (nI 7) dX6_open_29 rfl (by decide) ?_
    refine r_iand (q := 32) dX6_open_31 rfl ?_
    refine r_topi (y := nI 0) (by rw [pk_andN (by omega) 3 (by decide), hd]) ?_
    refine r_istore (q := 34) (L' := [some (zi (nI key)), some (zi (nI n)), some (zr 302 0), some (zi (nI (B - 3))), some (zi (nI l.length)), some (zi (nI i)), some (zi (nI 0)), none]) dX6_open_32 rfl (by decide) rfl ?_
    refine r_iconst (q := 35) (nI 0) dX6_open_34 rfl (by decide) ?_
    refine r_istore (q := 37) (L' := [some (zi (nI key)), some (zi (nI n)), some (zr 302 0), some (zi (nI (B - 3))), some (zi (nI l.length)), some (zi (nI i)), some (zi (nI 0)), some (zi (nI 0))]) dX6_open_35 rfl (by decide) rfl ?_
    refine r_iload (q := 39) dX6_open_37 rfl rfl ?_
    refine r_iload (q := 41) dX6_open_39 rfl rfl ?_
    refine r_icmp_geN (q := 44) (t := 76) (by omega) (by omega) dX6_open_41 (by decide) rfl (fun h41 => ?_) (fun h41 => absurd h41 (by omega))
    refine r_iload (q := 78) dX6_open_76 rfl rfl ?_
    refine r_aload_n (q := 79) dX6_open_78 rfl rfl rfl ?_
    refine r_alen (q := 80) (by decide) (by decide) dX6_open_79 rfl (hs.e (by decide)) ?_
    refine r_topi (y := nI 13) (congrArg nI (hs.n rfl (by decide))) ?_
    refine r_icmp_geN (q := 83) (t := 91) (by omega) (by omega) dX6_open_80 (by decide) rfl (fun h80 => absurd h80 (by omega)) (fun h80 => ?_)
    refine r_aload_n (q := 84) dX6_open_83 rfl rfl rfl ?_
    refine r_iload (q := 86) dX6_open_84 rfl rfl ?_
    refine r_iconst (q := 87) (nI 3) dX6_open_86 rfl (by decide) ?_
    refine r_iastN (q := 88) 13 (by decide) rfl dX6_open_87 rfl (hs.e (by decide)) (hs.n rfl (by decide)) (by omega) (by decide) ?_
    refine r_iincN (q := 91) (L' := [some (zi (nI key)), some (zi (nI n)), some (zr 302 0), some (zi (nI (B - 3))), some (zi (nI (l.length + 1))), some (zi (nI i)), some (zi (nI 0)), some (zi (nI 0))]) 1 rfl dX6_open_88 rfl rfl (by decide) rfl ?_
    refine r_iincN (q := 94) (L' := [some (zi (nI key)), some (zi (nI n)), some (zr 302 0), some (zi (nI (B - 3))), some (zi (nI (l.length + 1))), some (zi (nI (i + 1))), some (zi (nI 0)), some (zi (nI 0))]) 1 rfl dX6_open_91 rfl rfl (by decide) rfl ?_
    refine r_goto (q := 9) dX6_open_94 (by decide) ?_
    refine r_iload (q := 11) dX6_open_9 rfl rfl ?_
    refine r_iload_n (q := 12) dX6_open_11 rfl rfl rfl ?_
    refine r_icmp_geN (q := 15) (t := 97) (by omega) (by omega) dX6_open_12 (by decide) rfl (fun h12 => ?_) (fun h12 => absurd h12 (by omega))
    refine r_iload (q := 99) dX6_open_97 rfl rfl ?_
    refine r_ireturn dX6_open_99 rfl ?_
    exact ⟨by simp, stR_snoc⟩

set_option maxRecDepth 100000 in
theorem lp_op1_302 {S : zS} (hs : Sd S)  {key n : Nat} (hkey : key < 2 ^ 30) (hn7 : n ≤ 7) : ∀ (rs : List (List Nat)) (l : List Nat) (B i : Nat), rs ≠ [] → Ru rs → Bt B rs → B ≤ 30 → i + rs.length = n → key % 2 ^ B = kr B rs → l.length + (tk rs).length ≤ 13 → Ok mX6_open 9 [some (zi (nI key)), some (zi (nI n)), some (zr 302 0), some (zi (nI B)), some (zi (nI l.length)), some (zi (nI i)), none, none] [] (stR S 302 0 l) (fun r S1 => r = some (zi (nI (l ++ (tk rs).map nd).length)) ∧ S1 = stR S 302 0 (l ++ (tk rs).map nd)) := by
  intro rs
  induction rs with
  | nil => exact fun l B i h => absurd rfl h
  | cons r rs ih =>
    intro l B i _ hr hb hB hi hm hl
    have hr3 := hr.hd
    rw [List.length_cons] at hi
    by_cases he : rs = []
    · subst he
      have e0 := hb.1 rfl
      subst e0
      have q := lp_op3_302 (l := l) hs hkey (show i + 1 = n by simpa using hi) hn7 (by simp [tk] at hl; omega) B hB (by rw [hm]; simp [kr, ac2])
      exact q
    · obtain ⟨b1, b2, b3⟩ := hb.2 he
      have klt := kr_lt rs _ hr.tl b3
      have alt := ac2_lt r (B - 3) _ hr3 (by omega) klt
      rw [kr] at hm
      have hd : key / 2 ^ (B - 3) % 8 = r.length := dig (s := B - 3) (t := 3) (by rw [show B - 3 + 3 = B by omega]; exact hm) alt
      have hdb : key / 2 ^ (B - 3) ≤ key := Nat.div_le_self _ _
      have hm2 := low_mod (show B - 3 ≤ B by omega) hm (mulpow_mod (Nat.le_refl _)) alt
      have hm3 : key % 2 ^ (B - 3 - 2 * r.length) = kr (B - 3 - 2 * r.length) rs := low_mod (show B - 3 - 2 * r.length ≤ B - 3 by omega) hm2 (ac2_mod r (B - 3) (by omega)) klt
      rw [nd_tk r rs hr3]
      rw [tk_cons, List.length_append, List.length_cons] at hl
      have hl1 : 1 ≤ rs.length := by cases rs with | nil => exact absurd rfl he | cons _ _ => simp
      refine r_iload (q := 11) dX6_open_9 rfl rfl ?_
      refine r_iload_n (q := 12) dX6_open_11 rfl rfl rfl ?_
      refine r_icmp_geN (q := 15) (t := 97) (by omega) (by omega) dX6_open_12 (by decide) rfl (fun h12 => absurd h12 (by omega)) (fun h12 => ?_)
      refine r_idecN (q := 18) (L' := [some (zi (nI key)), some (zi (nI n)), some (zr 302 0), some (zi (nI (B - 3))), some (zi (nI l.length)), some (zi (nI i)), none, none]) 3 (by omega) rfl dX6_open_15 rfl rfl (by decide) rfl ?_
      refine r_iload_n (q := 19) dX6_open_18 rfl rfl rfl ?_
      refine r_if_geN (q := 22) (t := 26) (by omega) dX6_open_19 (by decide) rfl ?_
      refine r_iload_n (q := 27) dX6_open_26 rfl rfl rfl ?_
      refine r_iload_n (q := 28) dX6_open_27 rfl rfl rfl ?_
      refine r_iushr (q := 29) dX6_open_28 rfl ?_
      refine r_topi (y := nI (key / 2 ^ (B - 3))) (ushr_N (by omega) (by omega)) ?_
      refine r_bipush (q := 31) (nI 7) dX6_open_29 rfl (by decide) ?_
      refine r_iand (q := 32) dX6_open_31 rfl ?_
      refine r_topi (y := nI r.length) (by rw [pk_andN (by omega) 3 (by decide), hd]) ?_
      refine r_istore (q := 34) (L' := [some (zi (nI key)), some (zi (nI n)), some (zr 302 0), some (zi (nI (B - 3))), some (zi (nI l.length)), some (zi (nI i)), some (zi (nI r.length)), none]) dX6_open_32 rfl (by decide) rfl ?_
      refine r_iconst (q := 35) (nI 0) dX6_open_34 rfl (by decide) ?_
      refine r_istore (q := 37) (L' := [some (zi (nI key)), some (zi (nI n)), some (zr 302 0), some (zi (nI (B - 3))), some (zi (nI l.length)), some (zi (nI i)), some (zi (nI r.length)), some (zi (nI 0))]) dX6_open_35 rfl (by decide) rfl ?_
      refine lp_op2_302 hs hkey b2 r l (B - 3) 0 hr3 (by omega) (by omega) klt hm2 (by omega) (by omega) ?_
      refine r_iload (q := 78) dX6_open_76 rfl rfl ?_
      refine r_aload_n (q := 79) dX6_open_78 rfl rfl rfl ?_
      refine r_alen (q := 80) (by decide) (by decide) dX6_open_79 rfl (hs.e (by decide)) ?_
      refine r_topi (y := nI 13) (congrArg nI (hs.n rfl (by decide))) ?_
      refine r_icmp_geN (q := 83) (t := 91) (by omega) (by omega) dX6_open_80 (by decide) rfl (fun h80 => absurd h80 (by omega)) (fun h80 => ?_)
      refine r_aload_n (q := 84) dX6_open_83 rfl rfl rfl ?_
      refine r_iload (q := 86) dX6_open_84 rfl rfl ?_
      refine r_iconst (q := 87) (nI 3) dX6_open_86 rfl (by decide) ?_
      refine r_iastN (q := 88) 13 (by decide) rfl dX6_open_87 rfl (hs.e (by decide)) (hs.n rfl (by decide)) (by omega) (by decide) ?_
      refine r_iincN (q := 91) (L' := [some (zi (nI key)), some (zi (nI n)), some (zr 302 0), some (zi (nI (B - 3 - 2 * r.length))), some (zi (nI (l.length + r.length + 1))), some (zi (nI i)), some (zi (nI r.length)), some (zi (nI r.length))]) 1 rfl dX6_open_88 rfl rfl (by decide) rfl ?_
      refine r_iincN (q := 94) (L' := [some (zi (nI key)), some (zi (nI n)), some (zr 302 0), some (zi (nI (B - 3 - 2 * r.length))), some (zi (nI (l.length + r.length + 1))), some (zi (nI (i + 1))), some (zi (nI r.length)), some (zi (nI r.length))]) 1 rfl dX6_open_91 rfl rfl (by decide) rfl ?_
      refine r_goto (q := 9) dX6_open_94 (by decide) ?_
      refine r_mask [true, true, true, true, true, true, false, false] rfl ?_
      have q := ih (l ++ r.map (fun k => k - 1) ++ [3]) (B - 3 - 2 * r.length) (i + 1) he hr.tl b3 (by omega) (by omega) hm3 (by simp; omega)
      have e1 := stR_snoc (S := S) (a := 302) (b := 0) (v := 3) (l := l ++ r.map (fun k => k - 1))
      rw [List.length_append, List.length_map] at e1
      rw [e1]
      have e2 : l ++ List.map (fun k : Nat => k - 1) r ++ [3] ++ (tk rs).map nd = l ++ (List.map (fun k : Nat => k - 1) r ++ 3 :: (tk rs).map nd) := by simp
      have e3 : List.length (l ++ List.map (fun k : Nat => k - 1) r ++ [3]) = l.length + r.length + 1 := by simp [Nat.add_assoc]
      rw [e2, e3] at q
      exact q

set_option maxRecDepth 100000 in
theorem ok_open_302 {S : zS} (hs : Sd S)  {A n : Nat} {e : Nat → Nat} (hE : Eok A e) {t : List Nat} (ht : Tr A e n t) (hn : n ≤ 7) : Ok mX6_open 0 (ent 8 [zi (nI (ky t)), zi (nI n), zr 302 0]) [] S (fun r S1 => r = some (zi (nI t.length)) ∧ S1 = stR S 302 0 (t.map nd)) := by
  obtain ⟨h1, h2, h3, h4⟩ := ht.rn hE hn
  have hky := ky_lt hE ht hn
  have hlen := ht.len hE
  show Ok mX6_open 0 [some (zi (nI (ky t))), some (zi (nI n)), some (zr 302 0), none, none, none, none, none] [] S _
  refine r_bipush (q := 2) (nI 30) dX6_open_0 rfl (by decide) ?_
  refine r_istore_n (q := 3) (L' := [some (zi (nI (ky t))), some (zi (nI n)), some (zr 302 0), some (zi (nI 30)), none, none, none, none]) dX6_open_2 rfl rfl (by decide) rfl ?_
  refine r_iconst (q := 4) (nI 0) dX6_open_3 rfl (by decide) ?_
  refine r_istore (q := 6) (L' := [some (zi (nI (ky t))), some (zi (nI n)), some (zr 302 0), some (zi (nI 30)), some (zi (nI 0)), none, none, none]) dX6_open_4 rfl (by decide) rfl ?_
  refine r_iconst (q := 7) (nI 0) dX6_open_6 rfl (by decide) ?_
  refine r_istore (q := 9) (L' := [some (zi (nI (ky t))), some (zi (nI n)), some (zr 302 0), some (zi (nI 30)), some (zi (nI 0)), some (zi (nI 0)), none, none]) dX6_open_7 rfl (by decide) rfl ?_
  have q := lp_op1_302 hs hky hn (rns t) [] 30 0 (fun z => by rw [z] at h3; simp at h3; omega) h2 h4 (by omega) (by omega) (by rw [Nat.mod_eq_of_lt hky]; rfl) (by rw [← h1]; simp; omega)
  rw [stR_nil, List.nil_append, ← h1, List.length_map] at q
  exact q

