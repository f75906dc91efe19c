/-! holds, pure: a block for all rows of ways against a tree done for one row -/
theorem sm_succ {f : Nat → Nat} {n : Nat} : sm f (n + 1) = sm f n + f n := rfl
theorem sm_modc {P : Nat} {f g : Nat → Nat} : ∀ {n : Nat}, (∀ i, i < n → f i % P = g i % P) → sm f n % P = sm g n % P
  | 0, _ => rfl
  | n + 1, h => by
    rw [sm_succ, sm_succ, Nat.add_mod, sm_modc (n := n) (fun i hi => h i (by omega)), h n (by omega), ← Nat.add_mod]
theorem sm_mulc {c : Nat} {f : Nat → Nat} : ∀ {n : Nat}, sm (fun i => c * f i) n = c * sm f n
  | 0 => rfl
  | n + 1 => by
    rw [sm_succ, sm_succ, sm_mulc (n := n), Nat.mul_add]
theorem sm_plus {f g : Nat → Nat} : ∀ {n : Nat}, sm (fun i => f i + g i) n = sm f n + sm g n
  | 0 => rfl
  | n + 1 => by
    rw [sm_succ, sm_succ, sm_succ, sm_plus (n := n)]
    omega
theorem sm_nul {f : Nat → Nat} : ∀ {n : Nat}, (∀ i, i < n → f i = 0) → sm f n = 0
  | 0, _ => rfl
  | n + 1, h => by
    rw [sm_succ, sm_nul (n := n) (fun i hi => h i (by omega)), h n (by omega)]
theorem sm_pick {f : Nat → Nat} {y : Nat} : ∀ {n : Nat}, y < n → (∀ i, i < n → i ≠ y → f i = 0) → sm f n = f y
  | 0, h, _ => absurd h (Nat.not_lt_zero y)
  | n + 1, h, hz => by
    rw [sm_succ]
    by_cases e : y = n
    · subst e
      rw [sm_nul (fun i hi => hz i (by omega) (by omega)), Nat.zero_add]
    · rw [sm_pick (n := n) (by omega) (fun i hi he => hz i (by omega) he), hz n (by omega) (fun z => e z.symm), Nat.add_zero]
theorem sm_swap {f : Nat → Nat → Nat} {m : Nat} : ∀ {n : Nat}, sm (fun i => sm (fun j => f i j) m) n = sm (fun j => sm (fun i => f i j) n) m
  | 0 => by
    show 0 = sm (fun _ => 0) m
    rw [sm_nul (fun _ _ => rfl)]
  | n + 1 => by
    rw [sm_succ, sm_swap (n := n), ← sm_plus]
    rfl
theorem sm_split {f : Nat → Nat} {w : Nat} : ∀ {m : Nat}, sm f (m * w) = sm (fun r => sm (fun j => f (r * w + j)) w) m
  | 0 => by rw [Nat.zero_mul]; rfl
  | m + 1 => by
    rw [sm_succ, ← sm_split (m := m)]
    have key : ∀ d, sm f (m * w + d) = sm f (m * w) + sm (fun j => f (m * w + j)) d := fun d => by
      induction d with
      | zero => rfl
      | succ d ih =>
        rw [← Nat.add_assoc, sm_succ, ih, sm_succ]
        omega
    rw [Nat.succ_mul, key]
/-- what stands open, each with its row of ways, put into a block: m rows (the lowest first), what is done already at x -/
def ctS (w : Nat) (v : Nat → Nat → Nat) (B : Nat → Nat) (o : Nat) : Nat → Nat → Nat
  | 0, x => B (x * w + o)
  | m + 1, x => sm (fun j => v m j * ctS w v B o m (x * w + j)) w
theorem ctS_cong {w : Nat} {v v' : Nat → Nat → Nat} {B : Nat → Nat} {o : Nat} : ∀ {m : Nat} {x : Nat}, (∀ p j, p < m → j < w → v p j = v' p j) → ctS w v B o m x = ctS w v' B o m x
  | 0, _, _ => rfl
  | m + 1, x, h => sm_cong fun j hj => by
    rw [h m j (by omega) hj, ctS_cong (m := m) (fun p j hp hj => h p j (by omega) hj)]
/-- the product along a place's digits, not rested -/
def pd (w : Nat) (v : Nat → Nat → Nat) (sz : Nat) : Nat → Nat → Nat
  | 0, _ => 1
  | k + 1, t => v (sz - (k + 1)) (t % w) * pd w v sz k (t / w)
theorem cfP_pd {w P : Nat} {v : Nat → Nat → Nat} {sz : Nat} : ∀ (k t a : Nat), cfP w P v sz k t a % P = a * pd w v sz k t % P
  | 0, t, a => by show a % P = a * 1 % P; rw [Nat.mul_one]
  | k + 1, t, a => by
    rw [cfP, cfP_pd k, pd, Nat.mul_mod, Nat.mod_mod, ← Nat.mul_mod, Nat.mul_assoc]
theorem oaP_pd {w P : Nat} {v : Nat → Nat → Nat} {sz e : Nat} {tb : Nat → Nat} {j : Nat} : ∀ (T : Nat), oaP w P v sz e tb T j % P = sm (fun r => pd w v sz e r * tb (r * w + j)) T % P
  | 0 => rfl
  | T + 1 => by
    rw [oaP, Nat.mod_mod, sm_succ, Nat.add_mod, oaP_pd T, Nat.mul_mod, cfP_pd, Nat.one_mul, ← Nat.mul_mod, ← Nat.add_mod]
/-- the upper rows taken off all at once -/
theorem ctS_up {w : Nat} (hw : 0 < w) {v : Nat → Nat → Nat} {B : Nat → Nat} {o : Nat} : ∀ (k q x : Nat), ctS w v B o (q + k) x = sm (fun r => pd w v (q + k) k r * ctS w v B o q (x * w ^ k + r)) (w ^ k)
  | 0, q, x => by
    show ctS w v B o q x = sm (fun r => 1 * ctS w v B o q (x * 1 + r)) 1
    show _ = 0 + 1 * ctS w v B o q (x * 1 + 0)
    rw [Nat.zero_add, Nat.one_mul, Nat.mul_one, Nat.add_zero]
  | k + 1, q, x => by
    rw [show q + (k + 1) = (q + 1) + k by omega, ctS_up hw k (q + 1) x, Nat.pow_succ, sm_split]
    refine sm_cong fun r hr => ?_
    show pd w v (q + 1 + k) k r * sm (fun j => v q j * ctS w v B o q ((x * w ^ k + r) * w + j)) w = _
    rw [← sm_mulc]
    refine sm_cong fun j hj => ?_
    have e1 : (r * w + j) % w = j := by rw [Nat.add_comm, Nat.add_mul_mod_self_right, Nat.mod_eq_of_lt hj]
    have e2 : (r * w + j) / w = r := by rw [Nat.add_comm, Nat.add_mul_div_right _ _ hw, Nat.div_eq_of_lt hj, Nat.zero_add]
    rw [pd, e1, e2, show q + 1 + k - (k + 1) = q by omega, show (x * w ^ k + r) * w + j = x * (w ^ k * w) + (r * w + j) by rw [Nat.add_mul, Nat.mul_assoc, Nat.add_assoc]]
    rw [← Nat.mul_assoc, Nat.mul_comm (pd w v (q + 1 + k) k r) (v q j)]
/-- a block that is made of another one row by row -/
theorem ctS_lin {w P : Nat} {v : Nat → Nat → Nat} {B B' : Nat → Nat} {o n : Nat} (ho : o < w) {c : Nat → Nat} : ∀ (m : Nat) (X' : Nat) (X : Nat → Nat), (∀ y, y < w ^ (m + 1) → B' (X' * w ^ (m + 1) + y) % P = sm (fun j => c j * B (X j * w ^ (m + 1) + y)) n % P) → ctS w v B' o m X' % P = sm (fun j => c j * ctS w v B o m (X j)) n % P
  | 0, X', X, h => by
    have := h o (by rw [Nat.zero_add, Nat.pow_one]; exact ho)
    rw [Nat.zero_add, Nat.pow_one] at this
    exact this
  | m + 1, X', X, h => by
    show sm (fun i => v m i * ctS w v B' o m (X' * w + i)) w % P = sm (fun j => c j * sm (fun i => v m i * ctS w v B o m (X j * w + i)) w) n % P
    have h1 : sm (fun i => v m i * ctS w v B' o m (X' * w + i)) w % P = sm (fun i => sm (fun j => c j * (v m i * ctS w v B o m (X j * w + i))) n) w % P := by
      refine sm_modc fun i hi => ?_
      have ih := ctS_lin (P := P) (v := v) (B := B) (B' := B') (n := n) ho (c := c) m (X' * w + i) (fun j => X j * w + i) (fun y hy => by
        have hb : i * w ^ (m + 1) + y < w ^ (m + 1 + 1) := by
          have : (i + 1) * w ^ (m + 1) ≤ w * w ^ (m + 1) := Nat.mul_le_mul_right _ hi
          rw [Nat.succ_mul] at this
          rw [Nat.pow_succ w (m + 1), Nat.mul_comm (w ^ (m + 1)) w]
          omega
        have := h (i * w ^ (m + 1) + y) hb
        have ea : ∀ z, z * w ^ (m + 1 + 1) + (i * w ^ (m + 1) + y) = (z * w + i) * w ^ (m + 1) + y := fun z => by
          rw [Nat.pow_succ w (m + 1), Nat.add_mul, Nat.mul_comm (w ^ (m + 1)) w, ← Nat.mul_assoc, Nat.add_assoc]
        rw [ea] at this
        rw [this]
        refine congrArg (· % P) (sm_cong fun j _ => ?_)
        rw [ea])
      rw [Nat.mul_mod, ih, ← Nat.mul_mod, ← sm_mulc]
      refine congrArg (· % P) (sm_cong fun j _ => ?_)
      rw [← Nat.mul_assoc, ← Nat.mul_assoc, Nat.mul_comm (v m i) (c j)]
    rw [h1, sm_swap]
    refine congrArg (· % P) (sm_cong fun j _ => ?_)
    rw [sm_mulc]
/-- a table put into the block -/
def ptB (w P : Nat) (tb : Nat → Nat) (rows bh : Nat) (B : Nat → Nat) (i : Nat) : Nat := sm (fun j => tb (i / bh % rows * w + j) * B ((i / bh / rows * w + j) * bh + i % bh)) w % P
theorem ptB_at {w P : Nat} {tb : Nat → Nat} {rows bh : Nat} {B : Nat → Nat} {b r y : Nat} (hr : r < rows) (hy : y < bh) : ptB w P tb rows bh B ((b * rows + r) * bh + y) = sm (fun j => tb (r * w + j) * B ((b * w + j) * bh + y)) w % P := by
  unfold ptB
  have hb : 0 < bh := by omega
  have e1 : ((b * rows + r) * bh + y) / bh = b * rows + r := by rw [Nat.add_comm, Nat.add_mul_div_right _ _ hb, Nat.div_eq_of_lt hy, Nat.zero_add]
  have e2 : ((b * rows + r) * bh + y) % bh = y := by rw [Nat.add_comm, Nat.add_mul_mod_self_right, Nat.mod_eq_of_lt hy]
  have e3 : (b * rows + r) / rows = b := by rw [Nat.add_comm, Nat.add_mul_div_right _ _ (by omega), Nat.div_eq_of_lt hr, Nat.zero_add]
  have e4 : (b * rows + r) % rows = r := by rw [Nat.add_comm, Nat.add_mul_mod_self_right, Nat.mod_eq_of_lt hr]
  rw [e1, e2, e3, e4]
/-- the block behind the tokens of a tree: lf leaves are behind, op stand open or are behind -/
def bkS (w P : Nat) (e : Nat → Nat) (tb : Nat → Nat → Nat) : List Nat → Nat → Nat → (Nat → Nat) → Nat → Nat
  | [], _, _, B => B
  | k :: s, lf, op, B => if k = 0 then bkS w P e tb s (lf + 1) op B else bkS w P e tb s lf (op + e (k - 1) - 1) (ptB w P (tb (k - 1)) (w ^ e (k - 1)) (w ^ (op - lf)) B)
/-- the place of a row of ways -/
def ixW (w : Nat) (way : Nat → Nat) : Nat → Nat
  | 0 => 0
  | n + 1 => ixW w way n * w + way n
theorem ixW_lt {w : Nat} {way : Nat → Nat} : ∀ {n : Nat}, (∀ i, i < n → way i < w) → ixW w way n < w ^ n
  | 0, _ => Nat.one_pos
  | n + 1, h => by
    have h1 := ixW_lt (n := n) (fun i hi => h i (by omega))
    have h2 := h n (by omega)
    have : (ixW w way n + 1) * w ≤ w ^ n * w := Nat.mul_le_mul_right w h1
    rw [Nat.succ_mul] at this
    rw [ixW, Nat.pow_succ]
    omega
theorem bkS_ct {w P A : Nat} (hw : 0 < w) {e : Nat → Nat} {tb : Nat → Nat → Nat} {way : Nat → Nat} {n o : Nat} (hway : ∀ i, i < n → way i < w) (ho : o < w) : ∀ (s : List Nat) (lf op : Nat) (B : Nat → Nat), Fs A e s (op - lf) → lf ≤ op → lf + lvs s = n → ctS w (dvS w P e tb way n s).1 B o (op - lf) (ixW w way lf) % P = bkS w P e tb s lf op B (ixW w way n * w + o) % P
  | [], lf, op, B, h, hle, hn => by
    have h0 : op - lf = 0 := h
    have hn : lf + 0 = n := hn
    rw [h0, show lf = n by omega]
    rfl
  | k :: s, lf, op, B, h, hle, hn => by
    obtain ⟨hm, h⟩ := h
    by_cases k0 : k = 0
    · rw [if_pos k0] at h
      have hn : lf + ((if k = 0 then 1 else 0) + lvs s) = n := hn
      rw [if_pos k0] at hn
      have hsz := dvS_sz (w := w) (P := P) (tb := tb) (way := way) (n := n) h
      rw [bkS, if_pos k0]
      have h' : Fs A e s (op - (lf + 1)) := by rw [show op - (lf + 1) = op - lf - 1 by omega]; exact h
      rw [← bkS_ct hw hway ho s (lf + 1) op B h' (by omega) (by omega)]
      rw [show op - lf = (op - lf - 1) + 1 by omega, dvS, if_pos k0]
      refine congrArg (· % P) ?_
      show sm (fun j => (if op - lf - 1 = (dvS w P e tb way n s).2 then (if j = way (n - lvs s - 1) then 1 else 0) else (dvS w P e tb way n s).1 (op - lf - 1) j) * ctS w (fun p j => if p = (dvS w P e tb way n s).2 then (if j = way (n - lvs s - 1) then 1 else 0) else (dvS w P e tb way n s).1 p j) B o (op - lf - 1) (ixW w way lf * w + j)) w = _
      rw [hsz, show n - lvs s - 1 = lf by omega, sm_pick (y := way lf) (hway lf (by omega)) (fun i hi hz => by rw [if_pos rfl, if_neg hz, Nat.zero_mul]), if_pos rfl, if_pos rfl, Nat.one_mul]
      show _ = ctS w (dvS w P e tb way n s).1 B o (op - (lf + 1)) (ixW w way lf * w + way lf)
      rw [show op - (lf + 1) = op - lf - 1 by omega]
      exact ctS_cong fun p j hp hj => if_neg (by omega)
    · rw [if_neg k0] at h
      have hn : lf + ((if k = 0 then 1 else 0) + lvs s) = n := hn
      rw [if_neg k0, Nat.zero_add] at hn
      have hsz := dvS_sz (w := w) (P := P) (tb := tb) (way := way) (n := n) h.2
      rw [bkS, if_neg k0]
      have h' : Fs A e s (op + e (k - 1) - 1 - lf) := by rw [show op + e (k - 1) - 1 - lf = op - lf - 1 + e (k - 1) by omega]; exact h.2
      rw [← bkS_ct hw hway ho s lf (op + e (k - 1) - 1) _ h' (by omega) hn]
      obtain ⟨q, hq⟩ : ∃ q, op - lf = q + 1 := ⟨op - lf - 1, by omega⟩
      rw [hq, show op + e (k - 1) - 1 - lf = q + e (k - 1) by omega]
      have hsz2 : (dvS w P e tb way n s).2 = q + e (k - 1) := by rw [hsz]; omega
      rw [dvS, if_neg k0]
      show ctS w (fun p j => if p = (dvS w P e tb way n s).2 - e (k - 1) then oaP w P (dvS w P e tb way n s).1 (dvS w P e tb way n s).2 (e (k - 1)) (tb (k - 1)) (w ^ e (k - 1)) j else (dvS w P e tb way n s).1 p j) B o (q + 1) (ixW w way lf) % P = _
      rw [hsz2, show q + e (k - 1) - e (k - 1) = q by omega]
      generalize hv : (dvS w P e tb way n s).1 = v
      generalize hx : ixW w way lf = x
      have hR : ∀ r, r < w ^ e (k - 1) → ctS w v (ptB w P (tb (k - 1)) (w ^ e (k - 1)) (w ^ (q + 1)) B) o q (x * w ^ e (k - 1) + r) % P = sm (fun j => tb (k - 1) (r * w + j) * ctS w v B o q (x * w + j)) w % P := fun r hr => by
        refine ctS_lin ho q (x * w ^ e (k - 1) + r) (fun j => x * w + j) (fun y hy => ?_)
        rw [ptB_at hr hy, Nat.mod_mod]
      rw [ctS_up hw (e (k - 1)) q x]
      show sm (fun j => (if q = q then oaP w P v (q + e (k - 1)) (e (k - 1)) (tb (k - 1)) (w ^ e (k - 1)) j else v q j) * ctS w (fun p j => if p = q then oaP w P v (q + e (k - 1)) (e (k - 1)) (tb (k - 1)) (w ^ e (k - 1)) j else v p j) B o q (x * w + j)) w % P = _
      have l1 : sm (fun j => (if q = q then oaP w P v (q + e (k - 1)) (e (k - 1)) (tb (k - 1)) (w ^ e (k - 1)) j else v q j) * ctS w (fun p j => if p = q then oaP w P v (q + e (k - 1)) (e (k - 1)) (tb (k - 1)) (w ^ e (k - 1)) j else v p j) B o q (x * w + j)) w % P = sm (fun j => sm (fun r => pd w v (q + e (k - 1)) (e (k - 1)) r * tb (k - 1) (r * w + j)) (w ^ e (k - 1)) * ctS w v B o q (x * w + j)) w % P := by
        refine sm_modc fun j hj => ?_
        rw [if_pos rfl, ctS_cong (v' := v) (fun p j hp hj => if_neg (by omega)), Nat.mul_mod, oaP_pd, ← Nat.mul_mod]
      have l2 : sm (fun r => pd w v (q + e (k - 1)) (e (k - 1)) r * ctS w v (ptB w P (tb (k - 1)) (w ^ e (k - 1)) (w ^ (q + 1)) B) o q (x * w ^ e (k - 1) + r)) (w ^ e (k - 1)) % P = sm (fun r => sm (fun j => pd w v (q + e (k - 1)) (e (k - 1)) r * tb (k - 1) (r * w + j) * ctS w v B o q (x * w + j)) w) (w ^ e (k - 1)) % P := by
        refine sm_modc fun r hr => ?_
        rw [Nat.mul_mod, hR r hr, ← Nat.mul_mod, ← sm_mulc]
        refine congrArg (· % P) (sm_cong fun j _ => ?_)
        rw [Nat.mul_assoc]
      rw [l1, l2, sm_swap]
      refine congrArg (· % P) (sm_cong fun j _ => ?_)
      rw [Nat.mul_comm, ← sm_mulc]
      refine sm_cong fun r _ => ?_
      rw [Nat.mul_comm]
/-- identity -/
def idB (w i : Nat) : Nat := if i / w = i % w then 1 else 0
theorem idB_at {w i j : Nat} (hj : j < w) : idB w (i * w + j) = if i = j then 1 else 0 := by
  unfold idB
  have e1 : (i * w + j) % w = j := by rw [Nat.add_comm, Nat.add_mul_mod_self_right, Nat.mod_eq_of_lt hj]
  have e2 : (i * w + j) / w = i := by rw [Nat.add_comm, Nat.add_mul_div_right _ _ (by omega), Nat.div_eq_of_lt hj, Nat.zero_add]
  rw [e1, e2]
theorem bk_tree {w P A : Nat} (hw : 0 < w) {e : Nat → Nat} {tb : Nat → Nat → Nat} {way : Nat → Nat} {n o : Nat} (hway : ∀ i, i < n → way i < w) (ho : o < w) {t : List Nat} (ht : Tr A e n t) : bkS w P e tb t 0 1 (idB w) (ixW w way n * w + o) % P = (dvS w P e tb way n t).1 0 o % P := by
  rw [← bkS_ct (A := A) hw hway ho t 0 1 (idB w) ht.1 (by omega) (by rw [Nat.zero_add]; exact ht.2)]
  refine congrArg (· % P) ?_
  show sm (fun j => (dvS w P e tb way n t).1 0 j * idB w ((0 * w + j) * w + o)) w = _
  rw [sm_pick (y := o) ho (fun i hi hz => by rw [Nat.zero_mul, Nat.zero_add, idB_at ho, if_neg hz, Nat.mul_zero]), Nat.zero_mul, Nat.zero_add, idB_at ho, if_pos rfl, Nat.mul_one]
/-! rows of ways by their numbers, from either end -/
theorem ixW_cong {w : Nat} {f g : Nat → Nat} : ∀ {n : Nat}, (∀ i, i < n → f i = g i) → ixW w f n = ixW w g n
  | 0, _ => rfl
  | n + 1, h => by rw [ixW, ixW, ixW_cong (n := n) (fun i hi => h i (by omega)), h n (by omega)]
theorem ixW_dig {w : Nat} (hw : 0 < w) : ∀ (n x : Nat), x < w ^ n → ixW w (fun i => x / w ^ (n - 1 - i) % w) n = x
  | 0, x, h => by
    have h : x < 1 := h
    show 0 = x
    omega
  | n + 1, x, h => by
    rw [ixW]
    have ih := ixW_dig hw n (x / w) (Nat.div_lt_of_lt_mul (by rw [Nat.mul_comm]; rw [Nat.pow_succ] at h; exact h))
    have e1 : ixW w (fun i => x / w ^ (n + 1 - 1 - i) % w) n = ixW w (fun i => x / w / w ^ (n - 1 - i) % w) n := ixW_cong fun i hi => by
      rw [Nat.div_div_eq_div_mul, show w * w ^ (n - 1 - i) = w ^ (n + 1 - 1 - i) by rw [Nat.mul_comm, ← Nat.pow_succ]; congr 1; omega]
    rw [e1, ih, show n + 1 - 1 - n = 0 by omega, Nat.pow_zero, Nat.div_one, Nat.mul_comm]
    exact Nat.div_add_mod x w
theorem ixW_get {w : Nat} (hw : 0 < w) {way : Nat → Nat} : ∀ (n i : Nat), (∀ i, i < n → way i < w) → i < n → ixW w way n / w ^ (n - 1 - i) % w = way i
  | 0, i, _, h => absurd h (Nat.not_lt_zero i)
  | n + 1, i, hway, h => by
    have hn := hway n (by omega)
    rw [ixW]
    by_cases e : i = n
    · subst e
      rw [show i + 1 - 1 - i = 0 by omega, Nat.pow_zero, Nat.div_one, Nat.add_comm, Nat.add_mul_mod_self_right, Nat.mod_eq_of_lt hn]
    · have e1 : n + 1 - 1 - i = (n - 1 - i) + 1 := by omega
      rw [e1, Nat.pow_succ, Nat.mul_comm (w ^ (n - 1 - i)) w, ← Nat.div_div_eq_div_mul]
      have e2 : (ixW w way n * w + way n) / w = ixW w way n := by rw [Nat.add_comm, Nat.add_mul_div_right _ _ hw, Nat.div_eq_of_lt hn, Nat.zero_add]
      rw [e2]
      exact ixW_get hw n i (fun i hi => hway i (by omega)) (by omega)
theorem dvS_way {w P : Nat} {e : Nat → Nat} {tb : Nat → Nat → Nat} {way way' : Nat → Nat} {n : Nat} (h : ∀ i, i < n → way i = way' i) : ∀ (l : List Nat), lvs l ≤ n → dvS w P e tb way n l = dvS w P e tb way' n l
  | [], _ => rfl
  | k :: l, hl => by
    have hl : (if k = 0 then 1 else 0) + lvs l ≤ n := hl
    have ih := dvS_way (w := w) (P := P) (e := e) (tb := tb) h l (by split at hl <;> omega)
    rw [dvS, dvS, ih]
    by_cases k0 : k = 0
    · rw [if_pos k0] at hl
      rw [if_pos k0, if_pos k0, h (n - lvs l - 1) (by omega)]
    · rw [if_neg k0, if_neg k0]
theorem dsA_mod {f g : List Nat → Nat} {P : Nat} {c : List zT} : ∀ (i : Nat), (∀ k, k < i → f (c.getD k zd).1 % P = g (c.getD k zd).1 % P) → dsA f P c i = dsA g P c i
  | 0, _ => rfl
  | i + 1, h => by
    rw [dsA, dsA, dsA_mod i (fun k hk => h k (by omega)), Nat.add_mod, Nat.mul_mod, h i (by omega), ← Nat.mul_mod, ← Nat.add_mod]
/-- a sum is 0 for all rows of ways -/
def hoP (w P : Nat) (e : Nat → Nat) (tb : Nat → Nat → Nat) (n : Nat) (c : List zT) : Prop := ∀ way : Nat → Nat, (∀ i, i < n → way i < w) → ∀ o, o < w → dsA (fun t => (dvS w P e tb way n t).1 0 o) P c c.length = 0
/-- the class's places -/
theorem hoP_c {w P A : Nat} (hw : 0 < w) {e : Nat → Nat} {tb : Nat → Nat → Nat} {n : Nat} {c : List zT} (hc : ∀ k, k < c.length → Tr A e n (c.getD k zd).1) : hoP w P e tb n c ↔ ∀ x, x < w ^ (n + 1) → dsA (fun t => bkS w P e tb t 0 1 (idB w) x) P c c.length = 0 := by
  constructor
  · intro h x hx
    have hx1 : x / w < w ^ n := Nat.div_lt_of_lt_mul (by rw [Nat.mul_comm]; rw [Nat.pow_succ] at hx; exact hx)
    have hx2 : x % w < w := Nat.mod_lt _ hw
    have hway : ∀ i, i < n → (fun i => x / w / w ^ (n - 1 - i) % w) i < w := fun i _ => Nat.mod_lt _ hw
    refine (dsA_mod _ fun k hk => ?_).trans (h _ hway (x % w) hx2)
    have e1 : x = ixW w (fun i => x / w / w ^ (n - 1 - i) % w) n * w + x % w := by
      rw [ixW_dig hw n (x / w) hx1, Nat.mul_comm]
      exact (Nat.div_add_mod x w).symm
    have := bk_tree (P := P) (tb := tb) hw hway hx2 (hc k hk)
    rw [← e1] at this
    exact this
  · intro h way hway o ho
    have hx := ixW_lt hway
    have hb : ixW w way n * w + o < w ^ (n + 1) := by
      have : (ixW w way n + 1) * w ≤ w ^ n * w := Nat.mul_le_mul_right w hx
      rw [Nat.succ_mul] at this
      rw [Nat.pow_succ]
      omega
    exact (dsA_mod _ fun k hk => (bk_tree (P := P) (tb := tb) hw hway ho (hc k hk)).symm).trans (h _ hb)
/-- the reference's numbers -/
theorem hoP_r {w P A : Nat} (hw : 0 < w) {e : Nat → Nat} {tb : Nat → Nat → Nat} {n : Nat} {c : List zT} (hc : ∀ k, k < c.length → Tr A e n (c.getD k zd).1) : hoP w P e tb n c ↔ ∀ r, r < w ^ n → ∀ o, o < w → dsA (fun t => (dvS w P e tb (fun i => r / w ^ i % w) n t).1 0 o) P c c.length = 0 := by
  constructor
  · intro h r hr o ho
    exact h _ (fun i _ => Nat.mod_lt _ hw) o ho
  · intro h way hway o ho
    have hrev : ∀ i, i < n → (fun i => way (n - 1 - i)) i < w := fun i hi => hway _ (by omega)
    refine (dsA_mod _ fun k hk => ?_).trans (h (ixW w (fun i => way (n - 1 - i)) n) (ixW_lt hrev) o ho)
    have ht := hc k hk
    have hd : ∀ i, i < n → way i = (fun i => ixW w (fun i => way (n - 1 - i)) n / w ^ i % w) i := fun i hi => by
      have := ixW_get hw n (n - 1 - i) hrev (by omega)
      rw [show n - 1 - (n - 1 - i) = i by omega] at this
      exact this.symm
    rw [dvS_way hd _ (by rw [ht.2]; exact Nat.le_refl _)]
