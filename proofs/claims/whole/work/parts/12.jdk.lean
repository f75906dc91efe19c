/-! Arrays.fill -/
def flS (S : zS) (a b lo hi : Nat) (v : Int32) : zS := (fun x y k => if x = a ∧ y = b ∧ lo ≤ k ∧ k < hi then v else S.1 x y k, S.2)
theorem gI_fl {S : zS} {a b lo hi x y k : Nat} {v : Int32} : gI (flS S a b lo hi v) x y k = if x = a ∧ y = b ∧ lo ≤ k ∧ k < hi then v else gI S x y k := rfl
theorem fl_step {S : zS} {a b i n : Nat} {v : Int32} (h : i < n) : flS (sI S a b i v) a b (i + 1) n v = flS S a b i n v := by
  refine Prod.ext ?_ rfl
  funext x y k
  show (if _ then v else (if _ then v else _)) = if _ then v else _
  by_cases e : x = a ∧ y = b
  · by_cases hk : i ≤ k ∧ k < n
    · rw [if_pos (show x = a ∧ y = b ∧ i ≤ k ∧ k < n from ⟨e.1, e.2, hk.1, hk.2⟩)]
      by_cases h2 : k = i
      · rw [if_neg (fun z => by omega), if_pos ⟨e.1, e.2, h2⟩]
      · rw [if_pos ⟨e.1, e.2, by omega, hk.2⟩]
    · rw [if_neg (fun z => hk ⟨by omega, z.2.2.2⟩), if_neg (fun z => hk ⟨by omega, by omega⟩), if_neg (fun z => hk z.2.2)]
  · rw [if_neg (fun z => e ⟨z.1, z.2.1⟩), if_neg (fun z => e ⟨z.1, z.2.1⟩), if_neg (fun z => e ⟨z.1, z.2.1⟩)]
theorem fl_none {S : zS} {a b i n : Nat} {v : Int32} (h : n ≤ i) : flS S a b i n v = S := by
  refine Prod.ext ?_ rfl
  funext x y k
  exact if_neg fun z => by omega
theorem lp_fill2 {a b n : Nat} {v : Int32} (ha : ¬ a < 13) (ht : tN a = 1) (hn2 : n < 2147483648) : ∀ (d i : Nat) (S : zS), i + d = n → gE S a b = true → gN S a b = n → Ok mJ7_fill_53178 5 [some (zr a b), some (zi v), some (zi (nI i)), some (zi (nI n))] [] S (fun r S1 => r = none ∧ S1 = flS S a b i n v) := by
  intro d
  induction d with
  | zero =>
    intro i S hi he hn
    refine r_iload_n (q := 6) dJ7_fill_53178_5 rfl rfl rfl ?_
    refine r_iload_n (q := 7) dJ7_fill_53178_6 rfl rfl rfl ?_
    refine r_icmp_geN (q := 10) (t := 20) (by omega) (by omega) dJ7_fill_53178_7 (by decide) rfl (fun _ => ?_) (fun h => absurd h (by omega))
    exact r_return dJ7_fill_53178_20 rfl ⟨rfl, (fl_none (by omega)).symm⟩
  | succ d ih =>
    intro i S hi he hn
    refine r_iload_n (q := 6) dJ7_fill_53178_5 rfl rfl rfl ?_
    refine r_iload_n (q := 7) dJ7_fill_53178_6 rfl rfl rfl ?_
    refine r_icmp_geN (q := 10) (t := 20) (by omega) (by omega) dJ7_fill_53178_7 (by decide) rfl (fun h => absurd h (by omega)) (fun hlt => ?_)
    refine r_aload_n (q := 11) dJ7_fill_53178_10 rfl rfl rfl ?_
    refine r_iload_n (q := 12) dJ7_fill_53178_11 rfl rfl rfl ?_
    refine r_iload_n (q := 13) dJ7_fill_53178_12 rfl rfl rfl ?_
    refine r_iastN (q := 14) n ha ht dJ7_fill_53178_13 rfl he hn hlt hn2 ?_
    refine r_iincN (q := 17) (L' := [some (zr a b), some (zi v), some (zi (nI (i + 1))), some (zi (nI n))]) 1 rfl dJ7_fill_53178_14 rfl rfl (by decide) rfl ?_
    refine r_goto (q := 5) dJ7_fill_53178_17 (by decide) ?_
    refine (ih (i + 1) (sI S a b i v) (by omega) he hn).mono fun r S1 h => ⟨h.1, h.2.trans (fl_step hlt)⟩
theorem ok_fill2 {S : zS} {a b n : Nat} {v : Int32} (ha : ¬ a < 13) (ht : tN a = 1) (he : gE S a b = true) (hn : gN S a b = n) (hn2 : n < 2147483648) : Ok mJ7_fill_53178 0 (ent 4 [zr a b, zi v]) [] S (fun r S1 => r = none ∧ S1 = flS S a b 0 n v) := by
  show Ok mJ7_fill_53178 0 [some (zr a b), some (zi v), none, none] [] S _
  refine r_iconst (q := 1) (nI 0) dJ7_fill_53178_0 rfl (by decide) ?_
  refine r_istore_n (q := 2) (L' := [some (zr a b), some (zi v), some (zi (nI 0)), none]) dJ7_fill_53178_1 rfl rfl (by decide) rfl ?_
  refine r_aload_n (q := 3) dJ7_fill_53178_2 rfl rfl rfl ?_
  refine r_alen (q := 4) ha (by omega) dJ7_fill_53178_3 rfl he ?_
  refine r_topi (y := nI n) (by rw [hn]) ?_
  refine r_istore_n (q := 5) (L' := [some (zr a b), some (zi v), some (zi (nI 0)), some (zi (nI n))]) dJ7_fill_53178_4 rfl rfl (by decide) rfl ?_
  exact lp_fill2 ha ht hn2 n 0 S (by omega) he hn
theorem ok_range {S : zS} {n lo hi : Nat} (h1 : lo ≤ hi) (h2 : hi ≤ n) (hn2 : n < 2147483648) : Ok mJ7_rangeCheck_23922 0 (ent 3 [zi (nI n), zi (nI lo), zi (nI hi)]) [] S (fun r S1 => r = none ∧ S1 = S) := by
  refine r_iload_n (q := 1) dJ7_rangeCheck_23922_0 rfl rfl rfl ?_
  refine r_iload_n (q := 2) dJ7_rangeCheck_23922_1 rfl rfl rfl ?_
  refine r_icmp_leN (q := 5) (t := 46) (by omega) (by omega) dJ7_rangeCheck_23922_2 (by decide) rfl (fun _ => ?_) (fun h => absurd h (by omega))
  refine r_iload_n (q := 47) dJ7_rangeCheck_23922_46 rfl rfl rfl ?_
  refine r_if_geN (q := 50) (t := 59) (by omega) dJ7_rangeCheck_23922_47 (by decide) rfl ?_
  refine r_iload_n (q := 60) dJ7_rangeCheck_23922_59 rfl rfl rfl ?_
  refine r_iload_n (q := 61) dJ7_rangeCheck_23922_60 rfl rfl rfl ?_
  refine r_icmp_leN (q := 64) (t := 73) (by omega) (by omega) dJ7_rangeCheck_23922_61 (by decide) rfl (fun _ => ?_) (fun h => absurd h (by omega))
  exact r_return dJ7_rangeCheck_23922_73 rfl ⟨rfl, rfl⟩
theorem lp_fill4 {a b n lo hi : Nat} {v : Int32} (ha : ¬ a < 13) (ht : tN a = 1) (hh : hi ≤ n) (hn2 : n < 2147483648) : ∀ (d i : Nat) (S : zS), i + d = hi → gE S a b = true → gN S a b = n → Ok mJ7_fill_fda19 10 [some (zr a b), some (zi (nI lo)), some (zi (nI hi)), some (zi v), some (zi (nI i))] [] S (fun r S1 => r = none ∧ S1 = flS S a b i hi v) := by
  intro d
  induction d with
  | zero =>
    intro i S hi' he hn
    refine r_iload (q := 12) dJ7_fill_fda19_10 rfl rfl ?_
    refine r_iload_n (q := 13) dJ7_fill_fda19_12 rfl rfl rfl ?_
    refine r_icmp_geN (q := 16) (t := 27) (by omega) (by omega) dJ7_fill_fda19_13 (by decide) rfl (fun _ => ?_) (fun h => absurd h (by omega))
    exact r_return dJ7_fill_fda19_27 rfl ⟨rfl, (fl_none (by omega)).symm⟩
  | succ d ih =>
    intro i S hi' he hn
    refine r_iload (q := 12) dJ7_fill_fda19_10 rfl rfl ?_
    refine r_iload_n (q := 13) dJ7_fill_fda19_12 rfl rfl rfl ?_
    refine r_icmp_geN (q := 16) (t := 27) (by omega) (by omega) dJ7_fill_fda19_13 (by decide) rfl (fun h => absurd h (by omega)) (fun hlt => ?_)
    refine r_aload_n (q := 17) dJ7_fill_fda19_16 rfl rfl rfl ?_
    refine r_iload (q := 19) dJ7_fill_fda19_17 rfl rfl ?_
    refine r_iload_n (q := 20) dJ7_fill_fda19_19 rfl rfl rfl ?_
    refine r_iastN (q := 21) n ha ht dJ7_fill_fda19_20 rfl he hn (by omega) hn2 ?_
    refine r_iincN (q := 24) (L' := [some (zr a b), some (zi (nI lo)), some (zi (nI hi)), some (zi v), some (zi (nI (i + 1)))]) 1 rfl dJ7_fill_fda19_21 rfl rfl (by decide) rfl ?_
    refine r_goto (q := 10) dJ7_fill_fda19_24 (by decide) ?_
    refine (ih (i + 1) (sI S a b i v) (by omega) he hn).mono fun r S1 h => ⟨h.1, h.2.trans (fl_step hlt)⟩
theorem ok_fill4 {S : zS} {a b n lo hi : Nat} {v : Int32} (ha : ¬ a < 13) (ht : tN a = 1) (he : gE S a b = true) (hn : gN S a b = n) (hl : lo ≤ hi) (hh : hi ≤ n) (hn2 : n < 2147483648) : Ok mJ7_fill_fda19 0 (ent 5 [zr a b, zi (nI lo), zi (nI hi), zi v]) [] S (fun r S1 => r = none ∧ S1 = flS S a b lo hi v) := by
  show Ok mJ7_fill_fda19 0 [some (zr a b), some (zi (nI lo)), some (zi (nI hi)), some (zi v), none] [] S _
  refine r_aload_n (q := 1) dJ7_fill_fda19_0 rfl rfl rfl ?_
  refine r_alen (q := 2) ha (by omega) dJ7_fill_fda19_1 rfl he ?_
  refine r_topi (y := nI n) (by rw [hn]) ?_
  refine r_iload_n (q := 3) dJ7_fill_fda19_2 rfl rfl rfl ?_
  refine r_iload_n (q := 4) dJ7_fill_fda19_3 rfl rfl rfl ?_
  refine r_callS (Mc := mJ7_rangeCheck_23922) (q := 7) (As := [zi (nI n), zi (nI lo), zi (nI hi)]) (st := []) dJ7_fill_fda19_4 rfl rfl mkJ7_rangeCheck_23922 wt825 wt826 rfl (Nat.le_of_ble_eq_true rfl) (Nat.le_of_ble_eq_true rfl) (by decide) (by decide) (by decide) (Or.inl rfl) ⟨a, b, he⟩ (ok_range hl hh hn2) (fun r S1 hp => ?_)
  obtain ⟨rfl, hq⟩ := hp
  rw [hq]
  show Ok _ _ _ [] _ _
  refine r_iload_n (q := 8) dJ7_fill_fda19_7 rfl rfl rfl ?_
  refine r_istore (q := 10) (L' := [some (zr a b), some (zi (nI lo)), some (zi (nI hi)), some (zi v), some (zi (nI lo))]) dJ7_fill_fda19_8 rfl (by decide) rfl ?_
  exact lp_fill4 ha ht hh hn2 (hi - lo) lo S (by omega) he hn
