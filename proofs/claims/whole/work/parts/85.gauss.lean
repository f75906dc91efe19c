/-! rows with a top each, none in another: there is one such set of rows alone -/
def smz (f : Nat → Int) : Nat → Int
  | 0 => 0
  | n + 1 => smz f n + f n
theorem smz_cong {f g : Nat → Int} : ∀ {n : Nat}, (∀ i, i < n → f i = g i) → smz f n = smz g n
  | 0, _ => rfl
  | n + 1, h => by rw [smz, smz, smz_cong (fun i hi => h i (by omega)), h n (by omega)]
theorem smz_add {f g : Nat → Int} : ∀ {n : Nat}, smz (fun i => f i + g i) n = smz f n + smz g n
  | 0 => rfl
  | n + 1 => by rw [smz, smz, smz, smz_add]; omega
theorem smz_mul {f : Nat → Int} {k : Int} : ∀ {n : Nat}, smz (fun i => k * f i) n = k * smz f n
  | 0 => by simp [smz]
  | n + 1 => by rw [smz, smz, smz_mul, Int.mul_add]
theorem smz_dvd {P : Int} {f : Nat → Int} : ∀ {n : Nat}, (∀ i, i < n → P ∣ f i) → P ∣ smz f n
  | 0, _ => Int.dvd_zero P
  | n + 1, h => Int.dvd_add (smz_dvd fun i hi => h i (by omega)) (h n (by omega))
theorem smz_zero {f : Nat → Int} : ∀ {n : Nat}, (∀ i, i < n → f i = 0) → smz f n = 0
  | 0, _ => rfl
  | n + 1, h => by rw [smz, smz_zero (fun i hi => h i (by omega)), h n (by omega), Int.add_zero]
/-- all but one are 0 by P -/
theorem smz_one {P : Int} {f : Nat → Int} {j : Nat} : ∀ {n : Nat}, j < n → (∀ i, i < n → i ≠ j → P ∣ f i) → P ∣ smz f n - f j
  | 0, h, _ => absurd h (by omega)
  | n + 1, h, hc => by
    rw [smz]
    by_cases hj : j = n
    · subst hj
      rw [show smz f j + f j - f j = smz f j by omega]
      exact smz_dvd fun i hi => hc i (by omega) (by omega)
    · have := Int.dvd_add (smz_one (P := P) (f := f) (j := j) (n := n) (by omega) (fun i hi hn => hc i (by omega) hn)) (hc n (by omega) (by omega))
      rw [show smz f n - f j + f n = smz f n + f n - f j by omega] at this; exact this
theorem dvd_tr {P a b c : Int} (h : P ∣ a - b) (g : P ∣ b - c) : P ∣ a - c := by
  have := Int.dvd_add h g
  rw [show a - b + (b - c) = a - c by omega] at this; exact this
theorem dvd_sy {P a b : Int} (h : P ∣ a - b) : P ∣ b - a := by
  have := Int.dvd_neg.mpr h
  rw [Int.neg_sub] at this; exact this
theorem dvd_of {P a b : Int} (h : P ∣ a - b) (g : P ∣ b) : P ∣ a := by
  have := Int.dvd_add h g
  rw [show a - b + b = a by omega] at this; exact this
theorem dvd_mulL {P a b k : Int} (h : P ∣ a - b) : P ∣ k * a - k * b := by rw [← Int.mul_sub]; exact Int.dvd_mul_of_dvd_right h
theorem dvd_mulR {P a b k : Int} (h : P ∣ a - b) : P ∣ a * k - b * k := by rw [← Int.sub_mul]; exact Int.dvd_mul_of_dvd_left h
theorem dvd_add2 {P a b c d : Int} (h : P ∣ a - b) (g : P ∣ c - d) : P ∣ (a + c) - (b + d) := by
  have := Int.dvd_add h g
  rw [show a - b + (c - d) = a + c - (b + d) by omega] at this; exact this
theorem dvd_rf {P a : Int} : P ∣ a - a := by rw [Int.sub_self]; exact Int.dvd_zero _
/-- a row of numbers along the trees -/
def V (T : List (List Nat)) (v : Nat → Int) : zL := (List.range T.length).map (fun j => (T.getD j [], v j))
theorem ev_rng {g : List Nat → Int} {T : List (List Nat)} {v : Nat → Int} : ∀ (m : Nat), ev g ((List.range m).map (fun j => (T.getD j [], v j))) = smz (fun j => v j * g (T.getD j [])) m
  | 0 => rfl
  | m + 1 => by
    rw [List.range_succ, List.map_append, ev_app, ev_rng m, smz]
    show _ + (v m * g (T.getD m []) + 0) = _
    rw [Int.add_zero]
theorem ev_V {g : List Nat → Int} {T : List (List Nat)} {v : Nat → Int} : ev g (V T v) = smz (fun j => v j * g (T.getD j [])) T.length := ev_rng _
theorem smz_if {f : Nat → Int} {j : Nat} : ∀ {n : Nat}, j < n → smz (fun i => if i = j then f i else 0) n = f j
  | 0, h => absurd h (by omega)
  | n + 1, h => by
    rw [smz]
    by_cases hj : j = n
    · subst hj
      rw [if_pos rfl, smz_zero (fun i hi => if_neg (by omega)), Int.zero_add]
    · rw [smz_if (by omega), if_neg (fun z => hj z.symm), Int.add_zero]
theorem getD_inj {T : List (List Nat)} (hT : T.Nodup) {i j : Nat} (hi : i < T.length) (hj : j < T.length) (h : T.getD i [] = T.getD j []) : i = j := by
  rw [List.getD_eq_getElem?_getD, List.getD_eq_getElem?_getD, List.getElem?_eq_getElem hi, List.getElem?_eq_getElem hj] at h
  exact (List.getElem_inj hT).mp h
theorem co_V {T : List (List Nat)} (hT : T.Nodup) {v : Nat → Int} {k : Nat} (hk : k < T.length) : co (V T v) (T.getD k []) = v k := by
  unfold co
  rw [ev_V, smz_cong (g := fun i => if i = k then v i else 0) (fun i hi => ?_), smz_if hk]
  unfold dl
  by_cases e : i = k
  · rw [if_pos e, if_pos (by rw [e]), Int.mul_one]
  · rw [if_neg e, if_neg (fun z => e (getD_inj hT hi hk z)), Int.mul_zero]
theorem mem_gd {T : List (List Nat)} {k : Nat} (hk : k < T.length) : T.getD k [] ∈ T := by
  rw [List.getD_eq_getElem?_getD, List.getElem?_eq_getElem hk]; exact List.getElem_mem hk
theorem co_Vn {T : List (List Nat)} {v : Nat → Int} {t : List Nat} (ht : t ∉ T) : co (V T v) t = 0 := by
  unfold co
  rw [ev_V]
  refine smz_zero fun i hi => ?_
  unfold dl
  rw [if_neg (fun z => ht (by rw [← z]; exact mem_gd hi)), Int.mul_zero]
theorem mem_idx {T : List (List Nat)} {t : List Nat} (h : t ∈ T) : ∃ k, k < T.length ∧ T.getD k [] = t := by
  obtain ⟨k, hk, e⟩ := List.mem_iff_getElem.mp h
  exact ⟨k, hk, by rw [List.getD_eq_getElem?_getD, List.getElem?_eq_getElem hk]; exact e⟩
theorem co_out {t : List Nat} : ∀ {u : zL}, (∀ p, p ∈ u → p.1 ≠ t) → co u t = 0
  | [], _ => rfl
  | p :: r, h => by rw [co_cons, if_neg (h p List.mem_cons_self), co_out (fun q hq => h q (List.mem_cons_of_mem _ hq))]; simp
/-- two sums of trees of T, compared along T -/
theorem li_T {P : Nat} {T : List (List Nat)} {u w : zL} (hu : ∀ p, p ∈ u → p.1 ∈ T) (hw : ∀ p, p ∈ w → p.1 ∈ T) (h : ∀ k, k < T.length → (P : Int) ∣ co u (T.getD k []) - co w (T.getD k [])) : Li P u w := fun t => by
  by_cases ht : t ∈ T
  · obtain ⟨k, hk, e⟩ := mem_idx ht
    rw [← e]; exact h k hk
  · rw [co_out (fun p hp z => ht (by rw [← z]; exact hu p hp)), co_out (fun p hp z => ht (by rw [← z]; exact hw p hp))]; exact dvd_rf
theorem V_mem {T : List (List Nat)} {v : Nat → Int} : ∀ p, p ∈ V T v → p.1 ∈ T := fun p hp => by
  obtain ⟨j, hj, rfl⟩ := List.mem_map.mp hp
  exact mem_gd (List.mem_range.mp hj)
theorem li_V {P : Nat} {T : List (List Nat)} (hT : T.Nodup) {u : zL} (hu : ∀ p, p ∈ u → p.1 ∈ T) {v : Nat → Int} (h : ∀ k, k < T.length → (P : Int) ∣ co u (T.getD k []) - v k) : Li P u (V T v) := li_T hu V_mem fun k hk => by
  rw [co_V hT hk]; exact h k hk
theorem li_VV {P : Nat} {T : List (List Nat)} (hT : T.Nodup) {v w : Nat → Int} (h : ∀ k, k < T.length → (P : Int) ∣ v k - w k) : Li P (V T v) (V T w) := li_V hT V_mem fun k hk => by
  rw [co_V hT hk]; exact h k hk
theorem V_sc {T : List (List Nat)} {v : Nat → Int} {k : Int} : scl k (V T v) = V T (fun j => k * v j) := by
  unfold scl V; rw [List.map_map]; rfl
def Rw (T : List (List Nat)) (mk : Nat → Bool) (R : Nat → Nat → Int) (r : zL) : Prop := ∃ t, t < T.length ∧ mk t = true ∧ r = V T (R t)
def Ech (P : Nat) (m : Nat) (mk : Nat → Bool) (R : Nat → Nat → Int) : Prop := ∀ t, t < m → mk t = true → (P : Int) ∣ R t t - 1 ∧ ∀ s, t < s → s < m → (P : Int) ∣ R t s
def Red (P : Nat) (m : Nat) (mk : Nat → Bool) (R : Nat → Nat → Int) : Prop := ∀ t s, t < m → s < m → mk t = true → mk s = true → s ≠ t → (P : Int) ∣ R t s
/-- what is made of such rows is read off at their tops -/
theorem rep {P : Nat} {T : List (List Nat)} (hT : T.Nodup) {mk : Nat → Bool} {R : Nat → Nat → Int} (hE : Ech P T.length mk R) (hR : Red P T.length mk R) {u : zL} (hu : Sp P (Rw T mk R) u) : ∀ s, s < T.length → (P : Int) ∣ co u (T.getD s []) - smz (fun t => if mk t = true then co u (T.getD t []) * R t s else 0) T.length := by
  refine hu (fun u => ∀ s, s < T.length → (P : Int) ∣ co u (T.getD s []) - smz (fun t => if mk t = true then co u (T.getD t []) * R t s else 0) T.length) ?_ ?_ ?_ ?_ ?_
  · intro s hs
    rw [co_nil, smz_zero (fun i _ => by rw [co_nil, Int.zero_mul]; exact ite_self _)]
    simp
  · intro u w hu hw s hs
    rw [co_app, smz_cong (g := fun t => (if mk t = true then co u (T.getD t []) * R t s else 0) + (if mk t = true then co w (T.getD t []) * R t s else 0)) (fun i _ => by
      rw [co_app, Int.add_mul]
      split
      · rfl
      · rfl), smz_add]
    exact dvd_add2 (hu s hs) (hw s hs)
  · intro k u hu s hs
    rw [co_sc, smz_cong (g := fun t => k * (if mk t = true then co u (T.getD t []) * R t s else 0)) (fun i _ => by
      rw [co_sc, Int.mul_assoc]
      split
      · rfl
      · rw [Int.mul_zero]), smz_mul]
    exact dvd_mulL (hu s hs)
  · intro u w l hu s hs
    refine dvd_tr (dvd_sy (l _)) (dvd_tr (hu s hs) ?_)
    have := smz_dvd (P := P) (f := fun t => (if mk t = true then co u (T.getD t []) * R t s else 0) + -1 * (if mk t = true then co w (T.getD t []) * R t s else 0)) (n := T.length) (fun i _ => by
      show (P : Int) ∣ (if mk i = true then co u (T.getD i []) * R i s else 0) + -1 * (if mk i = true then co w (T.getD i []) * R i s else 0)
      split
      · rw [Int.neg_one_mul, ← Int.sub_eq_add_neg]; exact dvd_mulR (l _)
      · simp)
    rw [smz_add, smz_mul, Int.neg_one_mul, ← Int.sub_eq_add_neg] at this
    exact this
  · rintro g ⟨t, ht, hm, rfl⟩ s hs
    have h1 := smz_one (P := P) (f := fun i => if mk i = true then co (V T (R t)) (T.getD i []) * R i s else 0) (j := t) ht (fun i hi hn => by
      show (P : Int) ∣ if mk i = true then co (V T (R t)) (T.getD i []) * R i s else 0
      split
      · rename_i hmi
        rw [co_V hT hi]
        exact Int.dvd_mul_of_dvd_left (hR t i ht hi hm hmi hn)
      · exact Int.dvd_zero _)
    refine dvd_sy (dvd_tr h1 ?_)
    show (P : Int) ∣ (if mk t = true then co (V T (R t)) (T.getD t []) * R t s else 0) - _
    rw [if_pos hm, co_V hT ht, co_V hT hs]
    have := dvd_mulR (k := R t s) (hE t ht hm).1
    rw [Int.one_mul] at this; exact this
theorem mk_sub {P : Nat} (hP : 2 ≤ P) {T : List (List Nat)} (hT : T.Nodup) {mk mk' : Nat → Bool} {R R' : Nat → Nat → Int} (hE : Ech P T.length mk R) (hR : Red P T.length mk R) (hE' : Ech P T.length mk' R') {t : Nat} (ht : t < T.length) (hm : mk' t = true) (h : Sp P (Rw T mk R) (V T (R' t))) : mk t = true := by
  cases q : mk t with
  | true => rfl
  | false =>
    exfalso
    have h1 := rep hT hE hR h t ht
    rw [co_V hT ht] at h1
    have h2 : (P : Int) ∣ smz (fun s => if mk s = true then co (V T (R' t)) (T.getD s []) * R s t else 0) T.length := smz_dvd fun i hi => by
      split
      · rename_i hmi
        rw [co_V hT hi]
        rcases Nat.lt_trichotomy i t with g | g | g
        · exact Int.dvd_mul_of_dvd_right ((hE i hi hmi).2 t g ht)
        · rw [g, q] at hmi; cases hmi
        · exact Int.dvd_mul_of_dvd_left ((hE' t ht hm).2 i g hi)
      · exact Int.dvd_zero _
    have h3 := dvd_of h1 h2
    have h4 := dvd_of (dvd_sy (hE' t ht hm).1) h3
    have := Int.le_of_dvd (by omega) h4
    omega
/-- there is one set of rows alone -/
theorem ech_uniq {P : Nat} (hP : 2 ≤ P) {T : List (List Nat)} (hT : T.Nodup) {mk mk' : Nat → Bool} {R R' : Nat → Nat → Int} (hE : Ech P T.length mk R) (hR : Red P T.length mk R) (hE' : Ech P T.length mk' R') (hR' : Red P T.length mk' R') (h : ∀ u, Rw T mk R u → Sp P (Rw T mk' R') u) (h' : ∀ u, Rw T mk' R' u → Sp P (Rw T mk R) u) : ∀ t, t < T.length → mk t = mk' t ∧ (mk t = true → ∀ s, s < T.length → (P : Int) ∣ R' t s - R t s) := by
  have hmm : ∀ t, t < T.length → mk t = mk' t := fun t ht => by
    cases q : mk t with
    | true => exact (mk_sub hP hT hE' hR' hE ht q (h _ ⟨t, ht, q, rfl⟩)).symm
    | false =>
      cases q' : mk' t with
      | false => rfl
      | true => rw [mk_sub hP hT hE hR hE' ht q' (h' _ ⟨t, ht, q', rfl⟩)] at q; cases q
  intro t ht
  refine ⟨hmm t ht, fun hm s hs => ?_⟩
  have hm' : mk' t = true := (hmm t ht).symm.trans hm
  have h1 := rep hT hE hR (h' _ ⟨t, ht, hm', rfl⟩) s hs
  rw [co_V hT hs] at h1
  have h2 := smz_one (P := P) (f := fun i => if mk i = true then co (V T (R' t)) (T.getD i []) * R i s else 0) (j := t) ht (fun i hi hn => by
    show (P : Int) ∣ if mk i = true then co (V T (R' t)) (T.getD i []) * R i s else 0
    split
    · rename_i hmi
      rw [co_V hT hi]
      exact Int.dvd_mul_of_dvd_left (hR' t i ht hi hm' ((hmm i hi).symm.trans hmi) hn)
    · exact Int.dvd_zero _)
  refine dvd_tr h1 (dvd_tr h2 ?_)
  show (P : Int) ∣ (if mk t = true then co (V T (R' t)) (T.getD t []) * R t s else 0) - _
  rw [if_pos hm, co_V hT ht]
  have := dvd_mulR (k := R t s) (hE' t ht hm').1
  rw [Int.one_mul] at this; exact this
/-- one step of lessening -/
theorem cg_step {P : Nat} {T : List (List Nat)} (hT : T.Nodup) {mk : Nat → Bool} {R : Nat → Nat → Int} {t : Nat} (ht : t < T.length) (hm : mk t = true) {v v1 : Nat → Int} {c : Int} (h : ∀ j, j < T.length → (P : Int) ∣ v1 j - (v j - c * R t j)) : Cg P (Rw T mk R) (V T v) (V T v1) := by
  have h1 : Sp P (Rw T mk R) (scl c (V T (R t))) := (Sp.gen (show Rw T mk R _ from ⟨t, ht, hm, rfl⟩)).sc c
  refine h1.li (li_T (T := T) (by rw [V_sc]; exact V_mem) (fun p hp => ?_) fun k hk => ?_)
  · rcases List.mem_append.mp hp with q | q
    · exact V_mem p q
    · rw [V_sc] at q; exact V_mem p q
  · rw [co_app, co_sc, co_sc, co_V hT hk, co_V hT hk, co_V hT hk]
    have := h k hk
    rw [show c * R t k - (v k + -1 * v1 k) = v1 k - (v k - c * R t k) by omega]; exact this
