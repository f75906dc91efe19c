/-! how many trees there are at most, as long as there are 300 of each number of leaves at most -/
theorem tcT_ent {W W' : zWd} (h : W.2.1 = W'.2.1) : ∀ (m k : Nat), tcT W m k = tcT W' m k
  | 0, _ => rfl
  | m + 1, k => by
    have e1 : wA W = wA W' := by unfold wA; rw [h]
    have e2 : ∀ a, we W a = we W' a := fun a => by unfold we; rw [h]
    have e3 : tcT W m = tcT W' m := funext (tcT_ent h m)
    show (if k ≤ m then tcT W m k else if k = m + 1 then (if m = 0 then 1 else 0) + sm (fun a => foL (tcT W m) (we W a) (m + 1)) (wA W) else 0) = (if k ≤ m then tcT W' m k else if k = m + 1 then (if m = 0 then 1 else 0) + sm (fun a => foL (tcT W' m) (we W' a) (m + 1)) (wA W') else 0)
    rw [e3, e1]
    simp only [e2]
def tcl (es : List Nat) : Nat → List Nat
  | 0 => [0]
  | m + 1 => tcl es m ++ [(if m = 0 then 1 else 0) + (es.map (fun e => foL (fun k => (tcl es m).getD k 0) e (m + 1))).sum]
theorem sum_sm {f : Nat → Nat} : ∀ (es : List Nat), (es.map f).sum = sm (fun a => f (es.getD a 0)) es.length := by
  intro es
  have h : ∀ (r p : List Nat), (r.map f).sum + sm (fun a => f ((p ++ r).getD a 0)) p.length = sm (fun a => f ((p ++ r).getD a 0)) (p ++ r).length := by
    intro r
    induction r with
    | nil => intro p; simp
    | cons x r ih =>
      intro p
      have := ih (p ++ [x])
      rw [List.append_assoc, List.singleton_append] at this
      rw [← this, List.map_cons, List.sum_cons, List.length_append, List.length_singleton, sm]
      have e : (p ++ x :: r).getD p.length 0 = x := by simp
      rw [e]; omega
  have := h es []
  simpa [sm] using this
theorem tcl_len (es : List Nat) : ∀ m, (tcl es m).length = m + 1
  | 0 => rfl
  | m + 1 => by rw [tcl, List.length_append, tcl_len es m]; rfl
theorem tcl_tc {W : zWd} (hE : Eok (wA W) (we W)) : ∀ (m k : Nat), k ≤ m → (tcl W.2.1 m).getD k 0 = tc W k
  | 0, k, h => by
    have : k = 0 := by omega
    rw [this]; rfl
  | m + 1, k, h => by
    rw [tcl]
    by_cases q : k = m + 1
    · subst q
      have : (tcl W.2.1 m ++ [(if m = 0 then 1 else 0) + (W.2.1.map (fun e => foL (fun k => (tcl W.2.1 m).getD k 0) e (m + 1))).sum]).getD (m + 1) 0 = (if m = 0 then 1 else 0) + (W.2.1.map (fun e => foL (fun k => (tcl W.2.1 m).getD k 0) e (m + 1))).sum := by
        have := getD_snoc_eq (l := tcl W.2.1 m) (x := (if m = 0 then 1 else 0) + (W.2.1.map (fun e => foL (fun k => (tcl W.2.1 m).getD k 0) e (m + 1))).sum) (d := 0)
        rw [tcl_len] at this; exact this
      rw [this, tc_succ hE, sum_sm]
      congr 1
      refine sm_cong fun a ha => ?_
      exact foL_cong2 (hE.two a ha) fun j hj => tcl_tc hE m j (by omega)
    · rw [getD_snoc_lt (by rw [tcl_len]; omega)]
      exact tcl_tc hE m k (by omega)
def allE : List (List Nat) := [[]] ++ ([2, 3, 4].map fun a => [a]) ++ ([2, 3, 4].flatMap fun a => [2, 3, 4].map fun b => [a, b]) ++ ([2, 3, 4].flatMap fun a => [2, 3, 4].flatMap fun b => [2, 3, 4].map fun c => [a, b, c])
theorem ent_all {W : zWd} (hE : Eok (wA W) (we W)) : W.2.1 ∈ allE := by
  have h1 : W.2.1.length ≤ 3 := hE.1
  have h2 : ∀ a, a < W.2.1.length → 2 ≤ W.2.1.getD a 0 ∧ W.2.1.getD a 0 ≤ 4 := hE.2
  generalize W.2.1 = l at h1 h2
  have hv : ∀ x, 2 ≤ x ∧ x ≤ 4 → x = 2 ∨ x = 3 ∨ x = 4 := fun x h => by omega
  match l, h1, h2 with
  | [], _, _ => decide
  | [a], _, h2 =>
    have ha := hv a (h2 0 (by simp))
    rcases ha with rfl | rfl | rfl <;> decide
  | [a, b], _, h2 =>
    have ha := hv a (h2 0 (by simp))
    have hb := hv b (h2 1 (by simp))
    rcases ha with rfl | rfl | rfl <;> rcases hb with rfl | rfl | rfl <;> decide
  | [a, b, c], _, h2 =>
    have ha := hv a (h2 0 (by simp))
    have hb := hv b (h2 1 (by simp))
    have hc := hv c (h2 2 (by simp))
    rcases ha with rfl | rfl | rfl <;> rcases hb with rfl | rfl | rfl <;> rcases hc with rfl | rfl | rfl <;> decide
  | a :: b :: c :: d :: r, h1, _ => simp at h1
def smL (f : Nat → Nat) (L : List Nat) (n : Nat) : Nat := sm (fun k => f (L.getD k 0)) n
def cntB (L : List Nat) (n : Nat) : Bool := !((List.range (n + 1)).all fun k => decide (L.getD k 0 ≤ 300)) || (decide (smL (fun x => x) L (n + 1) ≤ 400) && decide (smL tri L (n + 1) ≤ 35261) && decide (smL (fun x => x * x) L (n + 1) ≤ 200000))
def cntC (L : List Nat) (n : Nat) : Bool := !decide (L.getD n 0 ≤ 300) || (List.range (n + 1)).all fun k => decide (L.getD k 0 ≤ 300)
theorem cnt_ok : (allE.all fun l => (List.range 8).all fun n => cntB (tcl l 7) n && cntC (tcl l 7) n) = true := by decide +kernel
theorem cnt_use {W : zWd} (hE : Eok (wA W) (we W)) {n : Nat} (hn : n ≤ 7) : cntB (tcl W.2.1 7) n = true ∧ cntC (tcl W.2.1 7) n = true := by
  have h1 := List.all_eq_true.mp cnt_ok _ (ent_all hE)
  have h2 := List.all_eq_true.mp h1 n (List.mem_range.mpr (by omega))
  simpa using h2
/-- from so many leaves down there are 300 at most -/
theorem tc_down {W : zWd} (hE : Eok (wA W) (we W)) {n k : Nat} (hn : n ≤ 7) (h : tc W n ≤ 300) (hk : k ≤ n) : tc W k ≤ 300 := by
  have := (cnt_use hE hn).2
  unfold cntC at this
  rw [tcl_tc hE 7 n hn] at this
  have h2 : ((List.range (n + 1)).all fun k => decide ((tcl W.2.1 7).getD k 0 ≤ 300)) = true := by simpa [h] using this
  have h3 := List.all_eq_true.mp h2 k (List.mem_range.mpr (by omega))
  rw [tcl_tc hE 7 k (by omega)] at h3
  exact of_decide_eq_true h3
theorem tc_sums {W : zWd} (hE : Eok (wA W) (we W)) {n : Nat} (hn : n ≤ 7) (h : ∀ k, k ≤ n → tc W k ≤ 300) : sm (tc W) (n + 1) ≤ 400 ∧ sm (fun k => tri (tc W k)) (n + 1) ≤ 35261 ∧ sm (fun k => tc W k * tc W k) (n + 1) ≤ 200000 := by
  have := (cnt_use hE hn).1
  unfold cntB smL at this
  have h2 : ((List.range (n + 1)).all fun k => decide ((tcl W.2.1 7).getD k 0 ≤ 300)) = true := List.all_eq_true.mpr fun k hk => by
    have := List.mem_range.mp hk
    rw [tcl_tc hE 7 k (by omega)]
    exact decide_eq_true (h k (by omega))
  rw [h2] at this
  have e1 : sm (fun k => (tcl W.2.1 7).getD k 0) (n + 1) = sm (tc W) (n + 1) := sm_cong fun k hk => tcl_tc hE 7 k (by omega)
  have e2 : sm (fun k => tri ((tcl W.2.1 7).getD k 0)) (n + 1) = sm (fun k => tri (tc W k)) (n + 1) := sm_cong fun k hk => by rw [tcl_tc hE 7 k (by omega)]
  have e3 : sm (fun k => (tcl W.2.1 7).getD k 0 * (tcl W.2.1 7).getD k 0) (n + 1) = sm (fun k => tc W k * tc W k) (n + 1) := sm_cong fun k hk => by rw [tcl_tc hE 7 k (by omega)]
  rw [e1, e2, e3] at this
  simpa [and_assoc] using this
