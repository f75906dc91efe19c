/-! trees taken apart: entries, contexts, leaves filled, the last act -/
theorem Fs.flat {A : Nat} {e : Nat → Nat} : ∀ {us : List (List Nat)}, (∀ u, u ∈ us → Fs A e u 1) → Fs A e us.flatten us.length
  | [], _ => rfl
  | u :: us, h => by
    rw [List.flatten_cons, List.length_cons, Nat.add_comm]
    exact (h u List.mem_cons_self).app (Fs.flat fun v hv => h v (List.mem_cons_of_mem _ hv))
theorem Fs.split {A : Nat} {e : Nat → Nat} : ∀ {r : List Nat} {m : Nat}, Fs A e r m → ∃ us : List (List Nat), us.length = m ∧ (∀ u, u ∈ us → Fs A e u 1) ∧ r = us.flatten
  | [], m, h => ⟨[], by have : m = 0 := h; rw [this]; rfl, fun u hu => absurd hu List.not_mem_nil, rfl⟩
  | k :: r, m, h => by
    have h1 := h.1
    have h2 := h.2
    by_cases h0 : k = 0
    · rw [if_pos h0] at h2
      obtain ⟨us, e1, e2, e3⟩ := Fs.split h2
      refine ⟨[0] :: us, by rw [List.length_cons, e1]; omega, fun u hu => ?_, by rw [h0, e3]; rfl⟩
      rcases List.mem_cons.mp hu with rfl | hu
      · exact ⟨by omega, by rw [if_pos rfl]; rfl⟩
      · exact e2 u hu
    · rw [if_neg h0] at h2
      obtain ⟨us, e1, e2, e3⟩ := Fs.split h2.2
      refine ⟨(k :: (us.take (e (k - 1))).flatten) :: us.drop (e (k - 1)), ?_, fun u hu => ?_, ?_⟩
      · rw [List.length_cons, List.length_drop, e1]; omega
      · rcases List.mem_cons.mp hu with rfl | hu
        · refine ⟨by omega, ?_⟩
          rw [if_neg h0]
          refine ⟨h2.1, ?_⟩
          have := Fs.flat (us := us.take (e (k - 1))) (fun v hv => e2 v (List.mem_of_mem_take hv))
          rw [List.length_take, e1, Nat.min_eq_left (by omega)] at this
          simpa using this
        · exact e2 u (List.mem_of_mem_drop hu)
      · rw [List.flatten_cons, List.cons_append, ← List.flatten_append, List.take_append_drop, e3]
theorem Fs.pre {A : Nat} {e : Nat → Nat} : ∀ {u u' r r' : List Nat} {m : Nat}, Fs A e u m → Fs A e u' m → u ++ r = u' ++ r' → u = u' ∧ r = r'
  | [], [], r, r', m, _, _, h => ⟨rfl, h⟩
  | [], k :: u', r, r', m, h, g, _ => by have : m = 0 := h; have := g.1; omega
  | k :: u, [], r, r', m, h, g, _ => by have : m = 0 := g; have := h.1; omega
  | k :: u, l :: u', r, r', m, h, g, q => by
    rw [List.cons_append, List.cons_append] at q
    have q1 := (List.cons.inj q).1
    have q2 := (List.cons.inj q).2
    subst q1
    have h2 := h.2
    have g2 := g.2
    by_cases h0 : k = 0
    · rw [if_pos h0] at h2 g2
      obtain ⟨a, b⟩ := Fs.pre h2 g2 q2
      exact ⟨by rw [a], b⟩
    · rw [if_neg h0] at h2 g2
      obtain ⟨a, b⟩ := Fs.pre h2.2 g2.2 q2
      exact ⟨by rw [a], b⟩
theorem flat_inj {A : Nat} {e : Nat → Nat} : ∀ {us vs : List (List Nat)}, us.length = vs.length → (∀ u, u ∈ us → Fs A e u 1) → (∀ u, u ∈ vs → Fs A e u 1) → us.flatten = vs.flatten → us = vs
  | [], [], _, _, _, _ => rfl
  | [], _ :: _, h, _, _, _ => by simp at h
  | _ :: _, [], h, _, _, _ => by simp at h
  | u :: us, v :: vs, h, hu, hv, q => by
    rw [List.flatten_cons, List.flatten_cons] at q
    obtain ⟨a, b⟩ := Fs.pre (hu u List.mem_cons_self) (hv v List.mem_cons_self) q
    rw [a, flat_inj (by simpa using h) (fun x hx => hu x (List.mem_cons_of_mem _ hx)) (fun x hx => hv x (List.mem_cons_of_mem _ hx)) b]
theorem Fs.cut {A : Nat} {e : Nat → Nat} : ∀ {p r : List Nat} {m : Nat}, Fs A e (p ++ r) m → ∃ k, (∀ r', Fs A e r' k → Fs A e (p ++ r') m) ∧ Fs A e r k
  | [], r, m, h => ⟨m, fun _ z => z, h⟩
  | x :: p, r, m, h => by
    have h1 := h.1
    have h2 := h.2
    by_cases h0 : x = 0
    · rw [if_pos h0] at h2
      obtain ⟨k, a, b⟩ := Fs.cut h2
      exact ⟨k, fun r' z => ⟨h1, by rw [if_pos h0]; exact a r' z⟩, b⟩
    · rw [if_neg h0] at h2
      obtain ⟨k, a, b⟩ := Fs.cut h2.2
      exact ⟨k, fun r' z => ⟨h1, by rw [if_neg h0]; exact ⟨h2.1, a r' z⟩⟩, b⟩
theorem gr_z {r u : List Nat} : gr (0 :: r) 0 u = u ++ r := by simp [gr]
theorem gr_s {r u : List Nat} {i : Nat} : gr (0 :: r) (i + 1) u = 0 :: gr r i u := by simp [gr]
theorem gr_k {k i : Nat} {r u : List Nat} (h : k ≠ 0) : gr (k :: r) i u = k :: gr r i u := by simp [gr, h]
theorem gr_left : ∀ {x y : List Nat} {i : Nat} {u : List Nat}, i < lvs x → gr (x ++ y) i u = gr x i u ++ y
  | [], y, i, u, h => absurd h (by simp [lvs])
  | k :: x, y, i, u, h => by
    rw [List.cons_append]
    by_cases h0 : k = 0
    · rw [lvs, if_pos h0] at h
      rw [h0]
      cases i with
      | zero => rw [gr_z, gr_z, List.append_assoc]
      | succ i => rw [gr_s, gr_s, gr_left (by omega), List.cons_append]
    · rw [lvs, if_neg h0] at h
      rw [gr_k h0, gr_k h0, gr_left (by omega), List.cons_append]
theorem gr_right : ∀ {x y : List Nat} {i : Nat} {u : List Nat}, lvs x ≤ i → gr (x ++ y) i u = x ++ gr y (i - lvs x) u
  | [], y, i, u, _ => by simp [lvs]
  | k :: x, y, i, u, h => by
    rw [List.cons_append]
    by_cases h0 : k = 0
    · rw [lvs, if_pos h0] at h
      cases i with
      | zero => omega
      | succ i => rw [h0, gr_s, gr_right (by omega), lvs, if_pos rfl, show i + 1 - (1 + lvs x) = i - lvs x by omega]; rfl
    · rw [lvs, if_neg h0] at h
      rw [gr_k h0, gr_right (by omega), lvs, if_neg h0, Nat.zero_add]; rfl
theorem lvs_gr {t u : List Nat} {i : Nat} (h : i < lvs t) : lvs (gr t i u) + 1 = lvs t + lvs u := by
  obtain ⟨x, z, e1, e2, e3⟩ := gr_split t i u h
  rw [e3, e1, lvs_app, lvs_app, lvs_app]
  simp only [lvs, if_pos]; omega
/-- leaves filled in their order -/
def fl : List Nat → List (List Nat) → List Nat
  | [], _ => []
  | k :: r, us => if k = 0 then us.headD [] ++ fl r us.tail else k :: fl r us
theorem lvs_fl : ∀ {t : List Nat} {us : List (List Nat)}, lvs t = us.length → lvs (fl t us) = lvs us.flatten
  | [], us, h => by
    have : us = [] := List.length_eq_zero_iff.mp h.symm
    rw [this]; rfl
  | k :: r, us, h => by
    rw [fl]
    rw [lvs] at h
    by_cases h0 : k = 0
    · rw [if_pos h0] at h ⊢
      cases us with
      | nil => simp at h
      | cons u us =>
        rw [List.flatten_cons, lvs_app, lvs_app]
        show lvs u + lvs (fl r us) = _
        rw [lvs_fl (by simp at h; omega)]
    · rw [if_neg h0] at h ⊢
      rw [lvs, if_neg h0, lvs_fl (by omega), Nat.zero_add]
theorem Fs.fl {A : Nat} {e : Nat → Nat} : ∀ {t : List Nat} {us : List (List Nat)} {m : Nat}, Fs A e t m → lvs t = us.length → (∀ u, u ∈ us → Fs A e u 1) → Fs A e (_root_.Jvm.Pilot.CLeafWorldsLaw_law_r8483_d58aac.fl t us) m
  | [], us, m, h, _, _ => h
  | k :: r, us, m, h, hl, hu => by
    have h1 := h.1
    have h2 := h.2
    rw [_root_.Jvm.Pilot.CLeafWorldsLaw_law_r8483_d58aac.fl]
    rw [lvs] at hl
    by_cases h0 : k = 0
    · rw [if_pos h0] at h2 hl ⊢
      cases us with
      | nil => simp at hl
      | cons u us =>
        have := (hu u List.mem_cons_self).app (Fs.fl h2 (us := us) (by simp at hl; omega) (fun v hv => hu v (List.mem_cons_of_mem _ hv)))
        rw [show 1 + (m - 1) = m by omega] at this
        exact this
    · rw [if_neg h0] at h2 hl ⊢
      exact ⟨h1, by rw [if_neg h0]; exact ⟨h2.1, Fs.fl h2.2 (by omega) hu⟩⟩
def grs : List (List Nat) → Nat → List Nat → List (List Nat)
  | [], _, _ => []
  | v :: us, i, u => if i < lvs v then gr v i u :: us else v :: grs us (i - lvs v) u
theorem grs_len : ∀ {us : List (List Nat)} {i : Nat} {u : List Nat}, (grs us i u).length = us.length
  | [], _, _ => rfl
  | v :: us, i, u => by
    rw [grs]
    split
    · rfl
    · rw [List.length_cons, List.length_cons, grs_len]
theorem grs_flat : ∀ {us : List (List Nat)} {i : Nat} {u : List Nat}, i < lvs us.flatten → (grs us i u).flatten = gr us.flatten i u
  | [], i, u, h => absurd h (by simp [lvs])
  | v :: us, i, u, h => by
    rw [grs, List.flatten_cons]
    by_cases q : i < lvs v
    · rw [if_pos q, List.flatten_cons, gr_left q]
    · rw [List.flatten_cons, lvs_app] at h
      rw [if_neg q, List.flatten_cons, gr_right (by omega), grs_flat (by omega)]
theorem grs_fs {A : Nat} {e : Nat → Nat} {u : List Nat} (hu : Fs A e u 1) : ∀ {us : List (List Nat)} {i : Nat}, (∀ v, v ∈ us → Fs A e v 1) → ∀ v, v ∈ grs us i u → Fs A e v 1
  | [], i, _, v, hv => absurd hv List.not_mem_nil
  | w :: us, i, h, v, hv => by
    rw [grs] at hv
    split at hv
    · rename_i q
      rcases List.mem_cons.mp hv with rfl | hv
      · exact (Tr.gr ⟨h w List.mem_cons_self, rfl⟩ ⟨hu, rfl⟩ q).1
      · exact h v (List.mem_cons_of_mem _ hv)
    · rcases List.mem_cons.mp hv with rfl | hv
      · exact h _ List.mem_cons_self
      · exact grs_fs hu (fun x hx => h x (List.mem_cons_of_mem _ hx)) v hv
theorem gr_fl : ∀ {t : List Nat} {us : List (List Nat)} {i : Nat} {u : List Nat}, lvs t = us.length → i < lvs us.flatten → gr (fl t us) i u = fl t (grs us i u)
  | [], us, i, u, h, hi => by
    have : us = [] := List.length_eq_zero_iff.mp h.symm
    rw [this] at hi
    exact absurd hi (by simp [lvs])
  | k :: r, us, i, u, h, hi => by
    rw [fl, fl]
    rw [lvs] at h
    by_cases h0 : k = 0
    · rw [if_pos h0] at h ⊢
      rw [if_pos h0]
      cases us with
      | nil => simp at h
      | cons v us =>
        show gr (v ++ fl r us) i u = _
        rw [List.flatten_cons, lvs_app] at hi
        rw [grs]
        by_cases q : i < lvs v
        · rw [if_pos q, gr_left q]; rfl
        · rw [if_neg q, gr_right (by omega), gr_fl (by simp at h; omega) (by omega)]; rfl
    · rw [if_neg h0] at h ⊢
      rw [if_neg h0, gr_k h0, gr_fl (by omega) hi]
theorem fl_id : ∀ {t : List Nat} {n : Nat}, lvs t = n → fl t (List.replicate n [0]) = t
  | [], n, _ => rfl
  | k :: r, n, h => by
    rw [lvs] at h
    rw [fl]
    by_cases h0 : k = 0
    · rw [if_pos h0] at h ⊢
      cases n with
      | zero => omega
      | succ n =>
        rw [List.replicate_succ]
        show [0] ++ fl r (List.replicate n [0]) = _
        rw [fl_id (by omega), h0]; rfl
    · rw [if_neg h0] at h ⊢
      rw [fl_id (by omega)]
/-- behind the last act there are leaves alone -/
theorem last_act : ∀ (t : List Nat), acs t = 0 ∧ t = List.replicate t.length 0 ∨ ∃ p a z, t = p ++ (a + 1) :: List.replicate z 0
  | [] => Or.inl ⟨rfl, rfl⟩
  | k :: r => by
    rcases last_act r with ⟨h1, h2⟩ | ⟨p, a, z, h⟩
    · by_cases h0 : k = 0
      · left
        refine ⟨by rw [acs, if_pos h0, h1], ?_⟩
        rw [List.length_cons, List.replicate_succ, ← h2, h0]
      · right
        exact ⟨[], k - 1, r.length, by rw [← h2, show k - 1 + 1 = k by omega]; rfl⟩
    · right
      exact ⟨k :: p, a, z, by rw [h]; rfl⟩
theorem fs_repN {A : Nat} {e : Nat → Nat} : ∀ {z k : Nat}, Fs A e (List.replicate z 0) k → z = k
  | 0, k, h => h.symm
  | z + 1, k, h => by
    rw [List.replicate_succ] at h
    have h2 := h.2
    rw [if_pos rfl] at h2
    have := fs_repN h2
    have := h.1
    omega
/-- every tree but the leaf is a smaller one with an act put in a leaf -/
theorem tr_last {A : Nat} {e : Nat → Nat} (hE : Eok A e) {n : Nat} {t : List Nat} (ht : Tr A e n t) (hn : 2 ≤ n) : ∃ a m i t', a < A ∧ m + e a = n + 1 ∧ Tr A e m t' ∧ i < m ∧ t = gr t' i (acT a (e a)) := by
  rcases last_act t with ⟨h1, h2⟩ | ⟨p, a, z, h⟩
  · have h3 := ht.1
    rw [h2] at h3
    have h4 := fs_repN h3
    have h5 := ht.2
    rw [h2, lvs_rep] at h5
    omega
  · have h3 := ht.1
    rw [h] at h3
    obtain ⟨k, c1, c2⟩ := h3.cut
    have c3 := c2.2
    have c4 := c2.1
    rw [if_neg (by omega)] at c3
    have c5 := fs_repN c3.2
    have ha : a < A := by have := c3.1; omega
    have he := (hE.2 a ha).1
    simp only [Nat.add_sub_cancel] at c5
    have hl := ht.2
    rw [h, lvs_app] at hl
    simp only [lvs, if_neg (show ¬ a + 1 = 0 by omega), lvs_rep] at hl
    have h6 : Tr A e (lvs p + k) (p ++ List.replicate k 0) := ⟨c1 _ (fs_rep k), by rw [lvs_app, lvs_rep]⟩
    refine ⟨a, lvs p + k, lvs p, p ++ List.replicate k 0, ha, by omega, h6, by omega, ?_⟩
    rw [gr_right (Nat.le_refl _), Nat.sub_self, h]
    obtain ⟨j, rfl⟩ : ∃ j, k = j + 1 := ⟨k - 1, by omega⟩
    rw [List.replicate_succ, gr_z]
    unfold acT
    rw [List.cons_append, List.replicate_append_replicate, show e a + j = z by omega]
/-- where a place of a row of entries lies -/
theorem flat_at : ∀ {us : List (List Nat)} {x y : List Nat}, us.flatten = x ++ 0 :: y → ∃ (us1 : List (List Nat)) (v : List Nat) (us2 : List (List Nat)) (x2 y2 : List Nat), us = us1 ++ v :: us2 ∧ v = x2 ++ 0 :: y2 ∧ x = us1.flatten ++ x2 ∧ y = y2 ++ us2.flatten
  | [], x, y, h => by simp at h
  | u :: us, x, y, h => by
    rw [List.flatten_cons] at h
    rcases List.append_eq_append_iff.mp h with ⟨a, h1, h2⟩ | ⟨c, h1, h2⟩
    · obtain ⟨us1, v, us2, x2, y2, e1, e2, e3, e4⟩ := flat_at h2
      exact ⟨u :: us1, v, us2, x2, y2, by rw [e1]; rfl, e2, by rw [h1, e3, List.flatten_cons, List.append_assoc], e4⟩
    · cases c with
      | nil =>
        obtain ⟨us1, v, us2, x2, y2, e1, e2, e3, e4⟩ := flat_at (x := []) (y := y) h2.symm
        exact ⟨u :: us1, v, us2, x2, y2, by rw [e1]; rfl, e2, by
          have z : us1.flatten ++ x2 = [] := e3.symm
          rw [List.flatten_cons, List.append_assoc, z, h1]; simp, e4⟩
      | cons k c =>
        rw [List.cons_append] at h2
        have q1 := (List.cons.inj h2).1
        have q2 := (List.cons.inj h2).2
        subst q1
        exact ⟨[], u, us, x, c, rfl, h1, rfl, q2⟩
/-- a context with a root: an entry of it -/
theorem ctx_root {A : Nat} {e : Nat → Nat} {x y : List Nat} (h : Fs A e (x ++ 0 :: y) 1) : x = [] ∧ y = [] ∨ ∃ (a : Nat) (us1 us2 : List (List Nat)) (x2 y2 : List Nat), a < A ∧ us1.length + 1 + us2.length = e a ∧ (∀ u, u ∈ us1 → Fs A e u 1) ∧ (∀ u, u ∈ us2 → Fs A e u 1) ∧ Fs A e (x2 ++ 0 :: y2) 1 ∧ x = (a + 1) :: (us1.flatten ++ x2) ∧ y = y2 ++ us2.flatten := by
  cases x with
  | nil =>
    left
    have h2 := h.2
    rw [if_pos rfl] at h2
    refine ⟨rfl, ?_⟩
    cases y with
    | nil => rfl
    | cons k y => have := h2.1; omega
  | cons k x =>
    right
    have h2 := h.2
    by_cases h0 : k = 0
    · rw [if_pos h0] at h2
      cases x with
      | nil => have := h2.1; omega
      | cons l x => have := h2.1; omega
    · rw [if_neg h0] at h2
      obtain ⟨us, e1, e2, e3⟩ := Fs.split h2.2
      obtain ⟨us1, v, us2, x2, y2, f1, f2, f3, f4⟩ := flat_at e3.symm
      refine ⟨k - 1, us1, us2, x2, y2, by omega, ?_, fun u hu => e2 u (by rw [f1]; exact List.mem_append_left _ hu), fun u hu => e2 u (by rw [f1]; exact List.mem_append_right _ (List.mem_cons_of_mem _ hu)), by rw [← f2]; exact e2 v (by rw [f1]; exact List.mem_append_right _ List.mem_cons_self), by rw [f3, show k - 1 + 1 = k by omega], f4⟩
      rw [f1, List.length_append, List.length_cons] at e1
      omega
