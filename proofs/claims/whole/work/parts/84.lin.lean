/-! sums of trees with whole numbers, and what they span by a prime -/
abbrev zL : Type := List (List Nat × Int)
def ev (g : List Nat → Int) : zL → Int
  | [] => 0
  | p :: r => p.2 * g p.1 + ev g r
def dl (t s : List Nat) : Int := if s = t then 1 else 0
def co (u : zL) (t : List Nat) : Int := ev (dl t) u
def scl (k : Int) (u : zL) : zL := u.map (fun p => (p.1, k * p.2))
def mp (f : List Nat → List Nat) (u : zL) : zL := u.map (fun p => (f p.1, p.2))
theorem ev_nil {g : List Nat → Int} : ev g [] = 0 := rfl
theorem ev_cons {g : List Nat → Int} {p : List Nat × Int} {r : zL} : ev g (p :: r) = p.2 * g p.1 + ev g r := rfl
theorem ev_app {g : List Nat → Int} : ∀ (u w : zL), ev g (u ++ w) = ev g u + ev g w
  | [], w => by simp [ev]
  | p :: r, w => by rw [List.cons_append, ev_cons, ev_cons, ev_app r w, Int.add_assoc]
theorem ev_sc {g : List Nat → Int} {k : Int} : ∀ (u : zL), ev g (scl k u) = k * ev g u
  | [] => by simp [ev, scl]
  | p :: r => by
    show k * p.2 * g p.1 + ev g (scl k r) = k * (p.2 * g p.1 + ev g r)
    rw [ev_sc r, Int.mul_add, Int.mul_assoc]
theorem ev_mp {g : List Nat → Int} {f : List Nat → List Nat} : ∀ (u : zL), ev g (mp f u) = ev (fun t => g (f t)) u
  | [] => rfl
  | p :: r => by
    show p.2 * g (f p.1) + ev g (mp f r) = _
    rw [ev_mp r]; rfl
theorem ev_cong {g h : List Nat → Int} : ∀ (u : zL), (∀ p, p ∈ u → g p.1 = h p.1) → ev g u = ev h u
  | [], _ => rfl
  | p :: r, hh => by rw [ev_cons, ev_cons, hh p List.mem_cons_self, ev_cong r (fun q hq => hh q (List.mem_cons_of_mem _ hq))]
theorem co_app {u w : zL} {t : List Nat} : co (u ++ w) t = co u t + co w t := ev_app u w
theorem co_sc {u : zL} {k : Int} {t : List Nat} : co (scl k u) t = k * co u t := ev_sc u
theorem co_nil {t : List Nat} : co [] t = 0 := rfl
theorem co_cons {p : List Nat × Int} {u : zL} {t : List Nat} : co (p :: u) t = p.2 * (if p.1 = t then 1 else 0) + co u t := rfl
/-- one tree's part taken apart -/
theorem ev_split {g : List Nat → Int} {t : List Nat} : ∀ (u : zL), ev g u = g t * co u t + ev g (u.filter (fun p => decide (p.1 ≠ t)))
  | [] => by simp [ev, co]
  | p :: r => by
    rw [ev_cons, ev_split (t := t) r, co_cons]
    by_cases h : p.1 = t
    · rw [List.filter_cons_of_neg (by simp [h]), if_pos h, h, Int.mul_add, Int.mul_one, Int.mul_comm p.2 (g t)]; omega
    · rw [List.filter_cons_of_pos (by simp [h]), if_neg h, ev_cons, Int.mul_zero, Int.zero_add]; omega
theorem len_filter_lt {t : List Nat} {p : List Nat × Int} {r : zL} (h : p.1 = t) : ((p :: r).filter (fun p => decide (p.1 ≠ t))).length < (p :: r).length := by
  rw [List.filter_cons_of_neg (by simp [h])]
  have := List.length_filter_le (fun p : List Nat × Int => decide (p.1 ≠ t)) r
  rw [List.length_cons]; omega
theorem co_filter {u : zL} {t s : List Nat} : co (u.filter (fun p => decide (p.1 ≠ t))) s = if s = t then 0 else co u s := by
  have h := ev_split (g := dl s) (t := t) u
  by_cases e : s = t
  · subst e
    rw [if_pos rfl]
    have : dl s s = 1 := if_pos rfl
    rw [this, Int.one_mul] at h
    unfold co at *
    omega
  · rw [if_neg e]
    have : dl s t = 0 := if_neg (fun z => e z.symm)
    rw [this, Int.zero_mul, Int.zero_add] at h
    exact h.symm
theorem ev_z {P : Int} {g : List Nat → Int} : ∀ (n : Nat) (u : zL), u.length ≤ n → (∀ t, P ∣ co u t) → P ∣ ev g u
  | _, [], _, _ => Int.dvd_zero P
  | 0, p :: r, h, _ => absurd h (by simp)
  | n + 1, p :: r, h, hc => by
    rw [ev_split (g := g) (t := p.1) (p :: r)]
    refine Int.dvd_add (Int.dvd_mul_of_dvd_right (hc p.1)) (ev_z n _ ?_ (fun s => ?_))
    · have := len_filter_lt (t := p.1) (p := p) (r := r) rfl
      omega
    · rw [co_filter]
      split
      · exact Int.dvd_zero P
      · exact hc s
/-- the same numbers by P -/
def Li (P : Nat) (u w : zL) : Prop := ∀ t, (P : Int) ∣ co u t - co w t
theorem Li.rf {P : Nat} {u : zL} : Li P u u := fun t => by rw [Int.sub_self]; exact Int.dvd_zero _
theorem Li.sy {P : Nat} {u w : zL} (h : Li P u w) : Li P w u := fun t => by
  have := Int.dvd_neg.mpr (h t)
  rw [Int.neg_sub] at this; exact this
theorem Li.tr {P : Nat} {u v w : zL} (h : Li P u v) (g : Li P v w) : Li P u w := fun t => by
  have := Int.dvd_add (h t) (g t)
  rw [show co u t - co v t + (co v t - co w t) = co u t - co w t by omega] at this; exact this
theorem Li.of {P : Nat} {u w : zL} (h : ∀ t, co u t = co w t) : Li P u w := fun t => by rw [h t, Int.sub_self]; exact Int.dvd_zero _
theorem Li.ev {P : Nat} {u w : zL} (h : Li P u w) (g : List Nat → Int) : (P : Int) ∣ _root_.Jvm.Pilot.CLeafWorldsLaw_law_r8483_d58aac.ev g u - _root_.Jvm.Pilot.CLeafWorldsLaw_law_r8483_d58aac.ev g w := by
  have := ev_z (P := P) (g := g) _ (u ++ scl (-1) w) (Nat.le_refl _) (fun t => by
    rw [co_app, co_sc, Int.neg_one_mul, ← Int.sub_eq_add_neg]; exact h t)
  rw [ev_app, ev_sc, Int.neg_one_mul, ← Int.sub_eq_add_neg] at this; exact this
theorem Li.mp {P : Nat} {u w : zL} (h : Li P u w) (f : List Nat → List Nat) : Li P (_root_.Jvm.Pilot.CLeafWorldsLaw_law_r8483_d58aac.mp f u) (_root_.Jvm.Pilot.CLeafWorldsLaw_law_r8483_d58aac.mp f w) := fun t => by
  unfold co
  rw [ev_mp, ev_mp]
  exact h.ev _
theorem Li.app {P : Nat} {u w u' w' : zL} (h : Li P u w) (g : Li P u' w') : Li P (u ++ u') (w ++ w') := fun t => by
  rw [co_app, co_app, show co u t + co u' t - (co w t + co w' t) = (co u t - co w t) + (co u' t - co w' t) by omega]
  exact Int.dvd_add (h t) (g t)
theorem Li.sc {P : Nat} {u w : zL} (h : Li P u w) (k : Int) : Li P (_root_.Jvm.Pilot.CLeafWorldsLaw_law_r8483_d58aac.scl k u) (_root_.Jvm.Pilot.CLeafWorldsLaw_law_r8483_d58aac.scl k w) := fun t => by
  rw [co_sc, co_sc, ← Int.mul_sub]
  exact Int.dvd_mul_of_dvd_right (h t)
/-- all that is made of G by adding and by numbers -/
def Sp (P : Nat) (G : zL → Prop) (v : zL) : Prop := ∀ Q : zL → Prop, Q [] → (∀ u w, Q u → Q w → Q (u ++ w)) → (∀ k u, Q u → Q (scl k u)) → (∀ u w, Li P u w → Q u → Q w) → (∀ g, G g → Q g) → Q v
theorem Sp.nil {P : Nat} {G : zL → Prop} : Sp P G [] := fun _ h _ _ _ _ => h
theorem Sp.app {P : Nat} {G : zL → Prop} {u w : zL} (h : Sp P G u) (g : Sp P G w) : Sp P G (u ++ w) := fun Q a b c d e => b _ _ (h Q a b c d e) (g Q a b c d e)
theorem Sp.sc {P : Nat} {G : zL → Prop} {u : zL} (h : Sp P G u) (k : Int) : Sp P G (_root_.Jvm.Pilot.CLeafWorldsLaw_law_r8483_d58aac.scl k u) := fun Q a b c d e => c k _ (h Q a b c d e)
theorem Sp.li {P : Nat} {G : zL → Prop} {u w : zL} (h : Sp P G u) (l : Li P u w) : Sp P G w := fun Q a b c d e => d _ _ l (h Q a b c d e)
theorem Sp.gen {P : Nat} {G : zL → Prop} {u : zL} (h : G u) : Sp P G u := fun _ _ _ _ _ e => e u h
theorem Sp.ind {P : Nat} {G : zL → Prop} {v : zL} (h : Sp P G v) (Q : zL → Prop) (a : Q []) (b : ∀ u w, Q u → Q w → Q (u ++ w)) (c : ∀ k u, Q u → Q (_root_.Jvm.Pilot.CLeafWorldsLaw_law_r8483_d58aac.scl k u)) (d : ∀ u w, Li P u w → Q u → Q w) (e : ∀ g, G g → Q g) : Q v := h Q a b c d e
theorem Sp.le {P : Nat} {G H : zL → Prop} {v : zL} (h : Sp P G v) (g : ∀ u, G u → Sp P H u) : Sp P H v := h _ Sp.nil (fun _ _ x y => x.app y) (fun k _ x => x.sc k) (fun _ _ l x => x.li l) g
theorem Sp.mono {P : Nat} {G H : zL → Prop} {v : zL} (h : Sp P G v) (g : ∀ u, G u → H u) : Sp P H v := h.le fun u hu => Sp.gen (g u hu)
theorem mp_app {f : List Nat → List Nat} {u w : zL} : mp f (u ++ w) = mp f u ++ mp f w := List.map_append
theorem mp_sc {f : List Nat → List Nat} {k : Int} {u : zL} : mp f (scl k u) = scl k (mp f u) := by
  unfold mp scl; rw [List.map_map, List.map_map]; rfl
theorem mp_mp {f g : List Nat → List Nat} {u : zL} : mp f (mp g u) = mp (fun t => f (g t)) u := by
  unfold mp; rw [List.map_map]; rfl
theorem Sp.mp {P : Nat} {G H : zL → Prop} {f : List Nat → List Nat} {v : zL} (h : Sp P G v) (g : ∀ u, G u → Sp P H (_root_.Jvm.Pilot.CLeafWorldsLaw_law_r8483_d58aac.mp f u)) : Sp P H (_root_.Jvm.Pilot.CLeafWorldsLaw_law_r8483_d58aac.mp f v) :=
  h (fun v => Sp P H (_root_.Jvm.Pilot.CLeafWorldsLaw_law_r8483_d58aac.mp f v)) Sp.nil (fun u w x y => by rw [mp_app]; exact x.app y) (fun k u x => by rw [mp_sc]; exact x.sc k) (fun u w l x => x.li (l.mp f)) g
/-- two sums, alike by G -/
def Cg (P : Nat) (G : zL → Prop) (u w : zL) : Prop := Sp P G (u ++ scl (-1) w)
theorem Cg.of {P : Nat} {G : zL → Prop} {u w : zL} (h : Li P u w) : Cg P G u w := Sp.nil.li fun t => by
  rw [co_nil, co_app, co_sc, Int.neg_one_mul, Int.zero_sub, ← Int.sub_eq_add_neg]
  exact Int.dvd_neg.mpr (h t)
theorem Cg.rf {P : Nat} {G : zL → Prop} {u : zL} : Cg P G u u := Cg.of Li.rf
theorem Cg.sy {P : Nat} {G : zL → Prop} {u w : zL} (h : Cg P G u w) : Cg P G w u := (Sp.sc h (-1)).li <| Li.of fun t => by
  rw [co_sc, co_app, co_sc, co_app, co_sc]; omega
theorem Cg.tr {P : Nat} {G : zL → Prop} {u v w : zL} (h : Cg P G u v) (g : Cg P G v w) : Cg P G u w := (Sp.app h g).li <| Li.of fun t => by
  rw [co_app, co_app, co_sc, co_app, co_sc, co_app, co_sc]; omega
theorem Cg.app {P : Nat} {G : zL → Prop} {u w u' w' : zL} (h : Cg P G u w) (g : Cg P G u' w') : Cg P G (u ++ u') (w ++ w') := (Sp.app h g).li <| Li.of fun t => by
  rw [co_app, co_app, co_sc, co_app, co_sc, co_app, co_app, co_sc, co_app]; omega
theorem Cg.sc {P : Nat} {G : zL → Prop} {u w : zL} (h : Cg P G u w) (k : Int) : Cg P G (_root_.Jvm.Pilot.CLeafWorldsLaw_law_r8483_d58aac.scl k u) (_root_.Jvm.Pilot.CLeafWorldsLaw_law_r8483_d58aac.scl k w) := (Sp.sc h k).li <| Li.of fun t => by
  rw [co_sc, co_app, co_sc, co_app, co_sc, co_sc, co_sc, Int.mul_add, Int.neg_one_mul, Int.neg_one_mul, Int.mul_neg]
theorem Cg.sp {P : Nat} {G : zL → Prop} {u w : zL} (h : Cg P G u w) (g : Sp P G w) : Sp P G u := (Sp.app h g).li <| Li.of fun t => by
  rw [co_app, co_app, co_sc]; omega
theorem Cg.le {P : Nat} {G H : zL → Prop} {u w : zL} (h : Cg P G u w) (g : ∀ u, G u → Sp P H u) : Cg P H u w := Sp.le h g
theorem Cg.mono {P : Nat} {G H : zL → Prop} {u w : zL} (h : Cg P G u w) (g : ∀ u, G u → H u) : Cg P H u w := Sp.mono h g
/-- a sum put for each tree -/
def bd (F : List Nat → zL) (u : zL) : zL := u.flatMap (fun p => scl p.2 (F p.1))
theorem bd_cons {F : List Nat → zL} {p : List Nat × Int} {u : zL} : bd F (p :: u) = scl p.2 (F p.1) ++ bd F u := List.flatMap_cons
theorem ev_bd {g : List Nat → Int} {F : List Nat → zL} : ∀ (u : zL), ev g (bd F u) = ev (fun t => ev g (F t)) u
  | [] => rfl
  | p :: r => by rw [bd_cons, ev_app, ev_sc, ev_bd r, ev_cons]
theorem Cg.bd {P : Nat} {G : zL → Prop} {F H : List Nat → zL} : ∀ (u : zL), (∀ p, p ∈ u → Cg P G (F p.1) (H p.1)) → Cg P G (_root_.Jvm.Pilot.CLeafWorldsLaw_law_r8483_d58aac.bd F u) (_root_.Jvm.Pilot.CLeafWorldsLaw_law_r8483_d58aac.bd H u)
  | [], _ => Cg.rf
  | p :: r, h => by
    rw [bd_cons, bd_cons]
    exact ((h p List.mem_cons_self).sc p.2).app (Cg.bd r fun q hq => h q (List.mem_cons_of_mem _ hq))
