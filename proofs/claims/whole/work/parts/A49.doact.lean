/-! doing -/
/-- the product along a place's digits -/
def cfP (w P : Nat) (v : Nat → Nat → Nat) (sz : Nat) : Nat → Nat → Nat → Nat
  | 0, _, a => a
  | k + 1, t, a => cfP w P v sz k (t / w) (a * v (sz - (k + 1)) (t % w) % P)
theorem cfP_zero {w P : Nat} {v : Nat → Nat → Nat} {sz : Nat} : ∀ (k t : Nat), cfP w P v sz k t 0 = 0
  | 0, _ => rfl
  | k + 1, t => by rw [cfP, Nat.zero_mul, Nat.zero_mod]; exact cfP_zero k _
theorem cfP_lt {w P : Nat} (hP : 0 < P) {v : Nat → Nat → Nat} {sz : Nat} : ∀ (k t a : Nat), a < P → cfP w P v sz k t a < P
  | 0, _, _, h => h
  | k + 1, t, a, _ => cfP_lt hP k _ _ (Nat.mod_lt _ hP)
def oaP (w P : Nat) (v : Nat → Nat → Nat) (sz e : Nat) (tb : Nat → Nat) : Nat → Nat → Nat
  | 0, _ => 0
  | T + 1, j => (oaP w P v sz e tb T j + cfP w P v sz e T 1 * tb (T * w + j)) % P
theorem oaP_lt {w P : Nat} (hP : 0 < P) {v : Nat → Nat → Nat} {sz e : Nat} {tb : Nat → Nat} : ∀ (T j : Nat), oaP w P v sz e tb T j < P
  | 0, _ => hP
  | _ + 1, _ => Nat.mod_lt _ hP
theorem oaP_skip {w P : Nat} (hP : 0 < P) {v : Nat → Nat → Nat} {sz e : Nat} {tb : Nat → Nat} {T j : Nat} (h : cfP w P v sz e T 1 = 0) : oaP w P v sz e tb (T + 1) j = oaP w P v sz e tb T j := by
  rw [oaP, h, Nat.zero_mul, Nat.add_zero, Nat.mod_eq_of_lt (oaP_lt hP T j)]
theorem pw_le {w e : Nat} (h1 : 1 ≤ w) (h3 : w ≤ 3) {n : Nat} (he : e ≤ n) : w ^ e ≤ 3 ^ n := Nat.le_trans (Nat.pow_le_pow_right h1 he) (Nat.pow_le_pow_left h3 n)
theorem tw_lt {w e T j : Nat} (h1 : 1 ≤ w) (h3 : w ≤ 3) (he : e ≤ 4) (hT : T < w ^ e) (hj : j < w) : T * w + j < 243 := by
  have a : (T + 1) * w ≤ w ^ e * w := Nat.mul_le_mul_right w hT
  have b : w ^ e * w ≤ 3 ^ 5 := by rw [← Nat.pow_succ]; exact pw_le h1 h3 (by omega)
  rw [Nat.succ_mul] at a
  omega
/-- the class's rows on the stack -/
def CSt (S : zS) (w P : Nat) (v : Nat → Nat → Nat) (sz : Nat) : Prop := ∀ p j, p < sz → j < w → gI S 204 0 (p * w + j) = nI (v p j) ∧ v p j < P
theorem pw_ix {w p j sz : Nat} (h3 : w ≤ 3) (hp : p < sz) (hj : j < w) (hs : sz ≤ 13) : p * w + j < 39 := by
  have a : (p + 1) * w ≤ 13 * 3 := Nat.mul_le_mul (by omega) h3
  rw [Nat.succ_mul] at a
  omega

set_option maxRecDepth 100000 in
theorem lp_pow {b n : Nat} (h1 : 1 ≤ b) (h3 : b ≤ 3) (hn : n ≤ 8) {S : zS} : ∀ (d i : Nat), i + d = n → Ok mX11_power 4 [some (zi (nI b)), some (zi (nI n)), some (zi (nI (b ^ i))), some (zi (nI i))] [] S (fun r S1 => r = some (zi (nI (b ^ n))) ∧ S1 = S) := by
  intro d
  induction d with
  | zero =>
    intro i hi
    obtain rfl : i = n := by omega
    refine r_iload_n (q := 5) dX11_power_4 rfl rfl rfl ?_
    refine r_iload_n (q := 6) dX11_power_5 rfl rfl rfl ?_
    refine r_icmp_geN (q := 9) (t := 19) (by omega) (by omega) dX11_power_6 (by decide) rfl (fun h6 => ?_) (fun h6 => absurd h6 (by omega))
    refine r_iload_n (q := 20) dX11_power_19 rfl rfl rfl ?_
    refine r_ireturn dX11_power_20 rfl ?_
    exact ⟨rfl, rfl⟩
  | succ d ih =>
    intro i hi
    refine r_iload_n (q := 5) dX11_power_4 rfl rfl rfl ?_
    refine r_iload_n (q := 6) dX11_power_5 rfl rfl rfl ?_
    refine r_icmp_geN (q := 9) (t := 19) (by omega) (by omega) dX11_power_6 (by decide) rfl (fun h6 => absurd h6 (by omega)) (fun h6 => ?_)
    refine r_iload_n (q := 10) dX11_power_9 rfl rfl rfl ?_
    refine r_iload_n (q := 11) dX11_power_10 rfl rfl rfl ?_
    refine r_imulN (q := 12) dX11_power_11 rfl ?_
    refine r_istore_n (q := 13) (L' := [some (zi (nI b)), some (zi (nI n)), some (zi (nI ((b ^ i) * b))), some (zi (nI i))]) dX11_power_12 rfl rfl (by decide) rfl ?_
    refine r_iincN (q := 16) (L' := [some (zi (nI b)), some (zi (nI n)), some (zi (nI ((b ^ i) * b))), some (zi (nI (i + 1)))]) 1 rfl dX11_power_13 rfl rfl (by decide) rfl ?_
    refine r_goto (q := 4) dX11_power_16 (by decide) ?_
    rw [← Nat.pow_succ]
    exact ih (i + 1) (by omega)

set_option maxRecDepth 100000 in
theorem ok_pow {S : zS} {b n : Nat} (h1 : 1 ≤ b) (h3 : b ≤ 3) (hn : n ≤ 8) : Ok mX11_power 0 (ent 4 [zi (nI b), zi (nI n)]) [] S (fun r S1 => r = some (zi (nI (b ^ n))) ∧ S1 = S) := by
  show Ok mX11_power 0 [some (zi (nI b)), some (zi (nI n)), none, none] [] S _
  refine r_iconst (q := 1) (nI 1) dX11_power_0 rfl (by decide) ?_
  refine r_istore_n (q := 2) (L' := [some (zi (nI b)), some (zi (nI n)), some (zi (nI 1)), none]) dX11_power_1 rfl rfl (by decide) rfl ?_
  refine r_iconst (q := 3) (nI 0) dX11_power_2 rfl (by decide) ?_
  refine r_istore_n (q := 4) (L' := [some (zi (nI b)), some (zi (nI n)), some (zi (nI 1)), some (zi (nI 0))]) dX11_power_3 rfl rfl (by decide) rfl ?_
  exact lp_pow h1 h3 hn n 0 (by omega)

