/-! maps, pure: acts' images put in leaves from the root down, and from the leaves up -/
def jn (i : Nat) (u w : zL) : zL := bd (fun v => mp (fun t => gr t i v) u) w
def td (im : Nat → zL) : List Nat → Nat → zL → zL
  | [], _, u => u
  | k :: r, i, u => if k = 0 then td im r (i + 1) u else td im r i (jn i u (im (k - 1)))
def evS : List zL → (List (List Nat) → Int) → Int
  | [], g => g []
  | s :: Ss, g => ev (fun w => evS Ss (fun ws => g (w :: ws))) s
abbrev zC : Type := List (List (List Nat) × Int)
def chS : List zL → zC
  | [] => [([], 1)]
  | s :: Ss => s.flatMap (fun p => (chS Ss).map (fun q => (p.1 :: q.1, p.2 * q.2)))
def grS (b : Nat) (Ss : List zL) : zL := (chS Ss).map (fun q => ((b + 1) :: q.1.flatten, q.2))
def ins (e : Nat → Nat) : List Nat → List zL → List zL
  | [], _ => []
  | k :: r, Ss => if k = 0 then Ss.headD [] :: ins e r Ss.tail else grS (k - 1) ((ins e r Ss).take (e (k - 1))) :: (ins e r Ss).drop (e (k - 1))
def acM (e : Nat → Nat) (w : zL) (Ss : List zL) : zL := bd (fun v => (ins e v Ss).headD []) w
def bu (eW eK : Nat → Nat) (im : Nat → zL) : List Nat → List zL
  | [] => []
  | k :: r => if k = 0 then [([0], 1)] :: bu eW eK im r else acM eK (im (k - 1)) ((bu eW eK im r).take (eW (k - 1))) :: (bu eW eK im r).drop (eW (k - 1))
def evC (g : List (List Nat) → Int) : zC → Int
  | [] => 0
  | q :: r => q.2 * g q.1 + evC g r
theorem evC_app {g : List (List Nat) → Int} : ∀ (a b : zC), evC g (a ++ b) = evC g a + evC g b
  | [], b => by simp [evC]
  | q :: r, b => by
    show q.2 * g q.1 + evC g (r ++ b) = q.2 * g q.1 + evC g r + evC g b
    rw [evC_app r b, Int.add_assoc]
theorem evC_map {g : List (List Nat) → Int} {w : List Nat} {x : Int} : ∀ (a : zC), evC g (a.map (fun q => (w :: q.1, x * q.2))) = x * evC (fun ws => g (w :: ws)) a
  | [] => by simp [evC]
  | q :: r => by
    show x * q.2 * g (w :: q.1) + evC g (r.map (fun q => (w :: q.1, x * q.2))) = x * (q.2 * g (w :: q.1) + evC (fun ws => g (w :: ws)) r)
    rw [evC_map r, Int.mul_add, Int.mul_assoc]
theorem evC_ch {g : List (List Nat) → Int} : ∀ (Ss : List zL), evC g (chS Ss) = evS Ss g
  | [] => by show 1 * g [] + 0 = g []; omega
  | s :: Ss => by
    have aux : ∀ (s : zL), evC g (s.flatMap (fun p => (chS Ss).map (fun q => (p.1 :: q.1, p.2 * q.2)))) = ev (fun w => evS Ss (fun ws => g (w :: ws))) s := by
      intro s
      induction s with
      | nil => rfl
      | cons p r ih => rw [List.flatMap_cons, evC_app, evC_map, ih, ev_cons, evC_ch Ss]
    exact aux s
theorem ev_grS {g : List Nat → Int} {b : Nat} {Ss : List zL} : ev g (grS b Ss) = evS Ss (fun ws => g ((b + 1) :: ws.flatten)) := by
  rw [← evC_ch]
  unfold grS
  have : ∀ (a : zC), ev g (a.map (fun q => ((b + 1) :: q.1.flatten, q.2))) = evC (fun ws => g ((b + 1) :: ws.flatten)) a := by
    intro a
    induction a with
    | nil => rfl
    | cons q r ih => rw [List.map_cons, ev_cons, ih]; rfl
  exact this _
theorem evS_cong : ∀ {Ss : List zL} {g h : List (List Nat) → Int}, (∀ ws, ws.length = Ss.length → g ws = h ws) → evS Ss g = evS Ss h
  | [], g, h, z => z [] rfl
  | s :: Ss, g, h, z => ev_cong s fun p _ => evS_cong fun ws hw => z (p.1 :: ws) (by rw [List.length_cons, List.length_cons, hw])
theorem evS_app : ∀ {Ss Rs : List zL} {g : List (List Nat) → Int}, evS (Ss ++ Rs) g = evS Ss (fun ws => evS Rs (fun us => g (ws ++ us)))
  | [], Rs, g => rfl
  | s :: Ss, Rs, g => ev_cong s fun p _ => evS_app
theorem ins_len {A : Nat} {e : Nat → Nat} : ∀ {r : List Nat} {m : Nat} {Ss : List zL}, Fs A e r m → (ins e r Ss).length = m
  | [], m, Ss, h => by have : m = 0 := h; rw [this]; rfl
  | k :: r, m, Ss, h => by
    have h1 := h.1
    have h2 := h.2
    rw [ins]
    by_cases h0 : k = 0
    · rw [if_pos h0] at h2 ⊢
      rw [List.length_cons, ins_len h2]; omega
    · rw [if_neg h0] at h2 ⊢
      rw [List.length_cons, List.length_drop, ins_len h2.2]; omega
theorem ins_ev {A : Nat} {e : Nat → Nat} : ∀ {r : List Nat} {m : Nat} {Ss : List zL} {h : List Nat → Int}, Fs A e r m → Ss.length = lvs r → evS (ins e r Ss) (fun xs => h xs.flatten) = evS Ss (fun ws => h (fl r ws))
  | [], m, Ss, h, _, hl => by
    have : Ss = [] := List.length_eq_zero_iff.mp hl
    rw [this]; rfl
  | k :: r, m, Ss, h, hf, hl => by
    have h1 := hf.1
    have h2 := hf.2
    rw [ins]
    rw [lvs] at hl
    by_cases h0 : k = 0
    · rw [if_pos h0] at h2 hl ⊢
      cases Ss with
      | nil => simp at hl; omega
      | cons s Ss =>
        show ev (fun w => evS (ins e r Ss) (fun ws => h (w :: ws).flatten)) s = ev (fun w => evS Ss (fun ws => h (fl (k :: r) (w :: ws)))) s
        refine ev_cong s fun p _ => ?_
        have := ins_ev (r := r) (Ss := Ss) (h := fun t => h (p.1 ++ t)) h2 (by simp at hl; omega)
        rw [evS_cong (fun ws _ => show h (p.1 :: ws).flatten = (fun xs => (fun t => h (p.1 ++ t)) (List.flatten xs)) ws by rw [List.flatten_cons])]
        rw [this]
        exact evS_cong fun ws _ => by
          show h (p.1 ++ fl r ws) = h (fl (k :: r) (p.1 :: ws))
          rw [fl, if_pos h0]; rfl
    · rw [if_neg h0] at h2 hl ⊢
      have hI := ins_len (Ss := Ss) h2.2
      have hk : k - 1 + 1 = k := by omega
      have e1 := ins_ev (r := r) (Ss := Ss) (h := fun t => h (k :: t)) h2.2 (by omega)
      have e2 : evS Ss (fun ws => h (fl (k :: r) ws)) = evS Ss (fun ws => (fun t => h (k :: t)) (fl r ws)) := evS_cong fun ws _ => by
        show h (fl (k :: r) ws) = h (k :: fl r ws)
        rw [fl, if_neg h0]
      rw [e2, ← e1]
      conv => rhs; rw [← List.take_append_drop (e (k - 1)) (ins e r Ss)]
      rw [evS_app]
      show ev (fun w => evS ((ins e r Ss).drop (e (k - 1))) (fun ws => h (w :: ws).flatten)) (grS (k - 1) ((ins e r Ss).take (e (k - 1)))) = _
      rw [ev_grS, hk]
      exact evS_cong fun ws _ => evS_cong fun us _ => by
        show h ((k :: ws.flatten) :: us).flatten = h (k :: (ws ++ us).flatten)
        rw [List.flatten_cons, List.flatten_append, List.cons_append]
/-- a tree with sums in its leaves -/
theorem ins_one {A : Nat} {e : Nat → Nat} {v : List Nat} {Ss : List zL} {g : List Nat → Int} (hv : Fs A e v 1) (hl : Ss.length = lvs v) : ev g ((ins e v Ss).headD []) = evS Ss (fun ws => g (fl v ws)) := by
  have h1 := ins_len (Ss := Ss) hv
  have h2 := ins_ev (h := g) hv hl
  match hh : ins e v Ss, h1 with
  | [s], _ =>
    rw [hh] at h2
    rw [← h2]
    show ev g s = ev (fun w => g [w].flatten) s
    exact ev_cong s fun p _ => by simp
theorem ev_acM {A : Nat} {e : Nat → Nat} {w : zL} {Ss : List zL} {g : List Nat → Int} (hw : ∀ p, p ∈ w → Fs A e p.1 1 ∧ lvs p.1 = Ss.length) : ev g (acM e w Ss) = ev (fun v => evS Ss (fun ws => g (fl v ws))) w := by
  unfold acM
  rw [ev_bd]
  exact ev_cong w fun p hp => ins_one (hw p hp).1 (hw p hp).2.symm
theorem fl_more : ∀ {x : List Nat} {us vs : List (List Nat)}, lvs x ≤ us.length → fl x (us ++ vs) = fl x us
  | [], us, vs, _ => rfl
  | k :: r, us, vs, h => by
    rw [fl, fl]
    rw [lvs] at h
    by_cases h0 : k = 0
    · rw [if_pos h0] at h
      rw [if_pos h0, if_pos h0]
      cases us with
      | nil => simp at h
      | cons u us =>
        show u ++ fl r (us ++ vs) = u ++ fl r us
        rw [fl_more (by simp at h; omega)]
    · rw [if_neg h0] at h
      rw [if_neg h0, if_neg h0, fl_more (by omega)]
theorem fl_cat : ∀ {x y : List Nat} {us vs : List (List Nat)}, lvs x = us.length → fl (x ++ y) (us ++ vs) = fl x us ++ fl y vs
  | [], y, us, vs, h => by
    have : us = [] := List.length_eq_zero_iff.mp h.symm
    rw [this]; rfl
  | k :: r, y, us, vs, h => by
    rw [List.cons_append, fl, fl]
    rw [lvs] at h
    by_cases h0 : k = 0
    · rw [if_pos h0] at h
      rw [if_pos h0, if_pos h0]
      cases us with
      | nil => simp at h
      | cons u us =>
        show u ++ fl (r ++ y) (us ++ vs) = u ++ fl r us ++ fl y vs
        rw [fl_cat (by simp at h; omega), List.append_assoc]
    · rw [if_neg h0] at h
      rw [if_neg h0, if_neg h0, fl_cat (by omega), List.cons_append]
theorem fl_gr {t v : List Nat} {i : Nat} {xs ws us : List (List Nat)} (hi : i < lvs t) (hx : xs.length = i) (hw : lvs v = ws.length) : fl (gr t i v) (xs ++ (ws ++ us)) = fl t (xs ++ fl v ws :: us) := by
  obtain ⟨x, z, e1, e2, e3⟩ := gr_split t i v hi
  rw [e3, e1, List.append_assoc, fl_cat (by omega), fl_cat hw, fl_cat (by omega)]
  rfl
theorem bu_len {A : Nat} {eW eK : Nat → Nat} {im : Nat → zL} : ∀ {r : List Nat} {m : Nat}, Fs A eW r m → (bu eW eK im r).length = m
  | [], m, h => by have : m = 0 := h; rw [this]; rfl
  | k :: r, m, h => by
    have h1 := h.1
    have h2 := h.2
    rw [bu]
    by_cases h0 : k = 0
    · rw [if_pos h0] at h2 ⊢
      rw [List.length_cons, bu_len h2]; omega
    · rw [if_neg h0] at h2 ⊢
      rw [List.length_cons, List.length_drop, bu_len h2.2]; omega
theorem ev_jn {i : Nat} {u w : zL} {g : List Nat → Int} : ev g (jn i u w) = ev (fun t => ev (fun v => g (gr t i v)) w) u := by
  unfold jn
  rw [ev_bd, ← ev_ev]
  exact ev_cong w fun p _ => ev_mp u
theorem mem_bd {F : List Nat → zL} : ∀ {u : zL} {q : List Nat × Int}, q ∈ bd F u → ∃ p, p ∈ u ∧ ∃ r, r ∈ F p.1 ∧ q.1 = r.1
  | [], q, h => absurd h List.not_mem_nil
  | p :: u, q, h => by
    rw [bd_cons] at h
    rcases List.mem_append.mp h with h | h
    · obtain ⟨r, hr, rfl⟩ := List.mem_map.mp h
      exact ⟨p, List.mem_cons_self, r, hr, rfl⟩
    · obtain ⟨p', h1, h2⟩ := mem_bd h
      exact ⟨p', List.mem_cons_of_mem _ h1, h2⟩
theorem jn_mem {i : Nat} {u w : zL} {q : List Nat × Int} (h : q ∈ jn i u w) : ∃ t v, t ∈ u ∧ v ∈ w ∧ q.1 = gr t.1 i v.1 := by
  obtain ⟨v, hv, r, hr, e⟩ := mem_bd h
  obtain ⟨t, ht, e2⟩ := mp_mem hr
  exact ⟨t, v, ht, hv, e.trans e2⟩
/-- what is asked of images -/
def ImOk (A : Nat) (eW : Nat → Nat) (AK : Nat) (eK : Nat → Nat) (im : Nat → zL) : Prop := ∀ a, a < A → ∀ p, p ∈ im a → Tr AK eK (eW a) p.1
theorem td_bu {A AK : Nat} {eW eK : Nat → Nat} {im : Nat → zL} (him : ImOk A eW AK eK im) : ∀ (r : List Nat) (m i : Nat) (u : zL), Fs A eW r m → (∀ p, p ∈ u → lvs p.1 = i + m) → ∀ g, ev g (td im r i u) = ev (fun t => evS (bu eW eK im r) (fun ws => g (fl t (List.replicate i [0] ++ ws)))) u
  | [], m, i, u, hf, hu, g => by
    have : m = 0 := hf
    show ev g u = ev (fun t => g (fl t (List.replicate i [0] ++ []))) u
    exact ev_cong u fun p hp => by rw [List.append_nil, fl_id (by rw [hu p hp]; omega)]
  | k :: r, m, i, u, hf, hu, g => by
    have h1 := hf.1
    have h2 := hf.2
    rw [td, bu]
    by_cases h0 : k = 0
    · rw [if_pos h0] at h2 ⊢
      rw [if_pos h0, td_bu him r (m - 1) (i + 1) u h2 (fun p hp => by rw [hu p hp]; omega) g]
      refine ev_cong u fun p _ => ?_
      show _ = 1 * evS (bu eW eK im r) (fun ws => g (fl p.1 (List.replicate i [0] ++ [0] :: ws))) + 0
      rw [Int.one_mul, Int.add_zero]
      exact evS_cong fun ws _ => by rw [List.replicate_succ', List.append_assoc]; rfl
    · rw [if_neg h0] at h2 ⊢
      rw [if_neg h0]
      have hka : k - 1 < A := by omega
      rw [td_bu him r _ i (jn i u (im (k - 1))) h2.2 (fun q hq => by
        obtain ⟨t, v, ht, hv, e⟩ := jn_mem hq
        have l1 := hu t ht
        have l2 := (him (k - 1) hka v hv).2
        have l3 := lvs_gr (t := t.1) (u := v.1) (i := i) (by omega)
        rw [e]; omega) g, ev_jn]
      refine ev_cong u fun p hp => ?_
      have hb := bu_len (eK := eK) (im := im) h2.2
      have hbt : ((bu eW eK im r).take (eW (k - 1))).length = eW (k - 1) := by rw [List.length_take, hb]; omega
      show _ = ev (fun w => evS ((bu eW eK im r).drop (eW (k - 1))) (fun ws => g (fl p.1 (List.replicate i [0] ++ w :: ws)))) (acM eK (im (k - 1)) ((bu eW eK im r).take (eW (k - 1))))
      rw [ev_acM (A := AK) (fun q hq => ⟨(him _ hka q hq).1, by rw [hbt]; exact (him _ hka q hq).2⟩)]
      refine ev_cong _ fun v hv => ?_
      conv => lhs; rw [← List.take_append_drop (eW (k - 1)) (bu eW eK im r)]
      rw [evS_app]
      refine evS_cong fun ws hw => evS_cong fun us _ => ?_
      rw [fl_gr (by rw [hu p hp]; omega) (List.length_replicate ..) (by rw [hw, hbt]; exact (him _ hka v hv).2)]
/-- the image of a tree, from the leaves up -/
def buT (eW eK : Nat → Nat) (im : Nat → zL) (t : List Nat) : zL := (bu eW eK im t).headD []
def tdT (im : Nat → zL) (t : List Nat) : zL := td im t 0 [([0], 1)]
theorem td_bu1 {A AK : Nat} {eW eK : Nat → Nat} {im : Nat → zL} (him : ImOk A eW AK eK im) {t : List Nat} (ht : Fs A eW t 1) (g : List Nat → Int) : ev g (tdT im t) = ev g (buT eW eK im t) := by
  unfold tdT
  rw [td_bu him t 1 0 _ ht (fun p hp => by rw [List.mem_singleton.mp hp]; rfl)]
  have h1 := bu_len (eK := eK) (im := im) ht
  unfold buT
  match hh : bu eW eK im t, h1 with
  | [s], _ =>
    show 1 * ev (fun w => g (fl [0] (List.replicate 0 [0] ++ [w]))) s + 0 = ev g s
    rw [Int.one_mul, Int.add_zero]
    exact ev_cong s fun p _ => by
      show g (fl [0] [p.1]) = g p.1
      simp [fl]
theorem Tr.cat {A : Nat} {e : Nat → Nat} {b : Nat} {ws : List (List Nat)} (hb : b < A) (hl : ws.length = e b) (hw : ∀ w, w ∈ ws → Fs A e w 1) : Fs A e ((b + 1) :: ws.flatten) 1 := by
  refine ⟨by omega, ?_⟩
  rw [if_neg (by omega)]
  refine ⟨by omega, ?_⟩
  have := Fs.flat hw
  rw [hl] at this
  simpa using this
/-- trees of given leaves for each of some sums -/
def SsT (A : Nat) (e : Nat → Nat) : List zL → List Nat → Prop
  | [], ns => ns = []
  | s :: Ss, ns => ∃ n ms, ns = n :: ms ∧ (∀ p, p ∈ s → Tr A e n p.1) ∧ SsT A e Ss ms
theorem SsT.len {A : Nat} {e : Nat → Nat} : ∀ {Ss : List zL} {ns : List Nat}, SsT A e Ss ns → ns.length = Ss.length
  | [], ns, h => by have : ns = [] := h; rw [this]; rfl
  | s :: Ss, ns, h => by
    obtain ⟨n, ms, rfl, _, h2⟩ := h
    rw [List.length_cons, List.length_cons, h2.len]
theorem SsT.take {A : Nat} {e : Nat → Nat} : ∀ {Ss : List zL} {ns : List Nat} (k : Nat), SsT A e Ss ns → SsT A e (Ss.take k) (ns.take k)
  | Ss, ns, 0, _ => by rw [List.take_zero, List.take_zero]; rfl
  | [], ns, k + 1, h => by have : ns = [] := h; rw [this]; rfl
  | s :: Ss, ns, k + 1, h => by
    obtain ⟨n, ms, rfl, h1, h2⟩ := h
    exact ⟨n, ms.take k, rfl, h1, h2.take k⟩
theorem SsT.drop {A : Nat} {e : Nat → Nat} : ∀ {Ss : List zL} {ns : List Nat} (k : Nat), SsT A e Ss ns → SsT A e (Ss.drop k) (ns.drop k)
  | Ss, ns, 0, h => h
  | [], ns, k + 1, h => by have : ns = [] := h; rw [this]; rfl
  | s :: Ss, ns, k + 1, h => by
    obtain ⟨n, ms, rfl, h1, h2⟩ := h
    exact h2.drop k
theorem chS_mem {A : Nat} {e : Nat → Nat} : ∀ {Ss : List zL} {ns : List Nat}, SsT A e Ss ns → ∀ q, q ∈ chS Ss → q.1.length = Ss.length ∧ (∀ w, w ∈ q.1 → Fs A e w 1) ∧ lvs q.1.flatten = ns.sum
  | [], ns, h, q, hq => by
    have : ns = [] := h
    rw [List.mem_singleton.mp hq, this]
    exact ⟨rfl, fun w hw => absurd hw List.not_mem_nil, rfl⟩
  | s :: Ss, ns, h, q, hq => by
    obtain ⟨n, ms, rfl, h1, h2⟩ := h
    obtain ⟨p, hp, hq⟩ := List.mem_flatMap.mp hq
    obtain ⟨q', hq', rfl⟩ := List.mem_map.mp hq
    obtain ⟨a, b, c⟩ := chS_mem h2 q' hq'
    have ht := h1 p hp
    refine ⟨by rw [List.length_cons, List.length_cons, a], fun w hw => ?_, ?_⟩
    · rcases List.mem_cons.mp hw with rfl | hw
      · exact ht.1
      · exact b w hw
    · rw [List.flatten_cons, lvs_app, ht.2, c, List.sum_cons]
theorem grS_tr {A : Nat} {e : Nat → Nat} {b : Nat} {Ss : List zL} {ns : List Nat} (hb : b < A) (hl : Ss.length = e b) (h : SsT A e Ss ns) : ∀ p, p ∈ grS b Ss → Tr A e ns.sum p.1 := fun p hp => by
  obtain ⟨q, hq, rfl⟩ := List.mem_map.mp hp
  obtain ⟨a, b', c⟩ := chS_mem h q hq
  refine ⟨Tr.cat hb (a.trans hl) b', ?_⟩
  show lvs ((b + 1) :: q.1.flatten) = _
  rw [lvs, if_neg (by omega), Nat.zero_add, c]
