/-! the class's rules: all that is 0 by the laws is made of them -/
def RC (rl : Nat → Nat → Nat) (t j : Nat) : Int := if j = t then 1 else if j < t then -(rl t j : Int) else 0
def mkb (mk : Nat → Nat) (t : Nat) : Bool := mk t != 0
theorem mkb_t {mk : Nat → Nat} {t : Nat} : mkb mk t = true ↔ mk t ≠ 0 := by simp [mkb]
theorem ev_ev {G : List Nat → List Nat → Int} {q : zL} : ∀ (p : zL), ev (fun c => ev (fun d => G c d) q) p = ev (fun d => ev (fun c => G c d) p) q
  | [] => by
    rw [ev_nil]
    induction q with
    | nil => rfl
    | cons a r ih => rw [ev_cons, ← ih]; simp [ev]
  | a :: p => by
    rw [ev_cons, ev_ev p]
    clear ev_ev
    induction q with
    | nil => simp [ev]
    | cons b r ih =>
      rw [ev_cons, ev_cons, ev_cons, ev_cons] 
      have : ∀ x y z w : Int, x + y = z → a.2 * (b.2 * w + x) + (b.2 * ev (fun c => G c b.1) p + y) = b.2 * (a.2 * w + ev (fun c => G c b.1) p) + (a.2 * x + y) := fun x y z w _ => by
        rw [Int.mul_add, Int.mul_add, ← Int.mul_assoc, ← Int.mul_assoc, Int.mul_comm a.2 b.2]; omega
      rw [this _ _ _ _ rfl, ih]
theorem bd_V {P : Nat} {G : zL → Prop} {F : List Nat → zL} {T : List (List Nat)} {v : Nat → Int} {k : Nat} (hk : (P : Int) ∣ v k - 1) (h : ∀ j, j < T.length → j ≠ k → v j = 0 ∨ Sp P G (F (T.getD j []))) : ∀ m, m ≤ T.length → Cg P G (bd F ((List.range m).map (fun j => (T.getD j [], v j)))) (if k < m then F (T.getD k []) else [])
  | 0, _ => by rw [if_neg (by omega)]; exact Cg.rf
  | m + 1, hm => by
    rw [List.range_succ, List.map_append]
    have e : ∀ (a b : zL), bd F (a ++ b) = bd F a ++ bd F b := fun a b => List.flatMap_append
    rw [e]
    have ih := bd_V hk h m (by omega)
    have l1 : bd F ([m].map (fun j => (T.getD j [], v j))) = scl (v m) (F (T.getD m [])) := by
      show scl (v m) (F (T.getD m [])) ++ bd F [] = _
      rw [show bd F [] = [] from rfl, List.append_nil]
    rw [l1]
    by_cases q : m = k
    · subst q
      rw [if_neg (by omega)] at ih
      rw [if_pos (by omega)]
      have : Cg P G (scl (v m) (F (T.getD m []))) (F (T.getD m [])) := Cg.of fun t => by
        rw [co_sc]
        have := dvd_mulR (k := co (F (T.getD m [])) t) hk
        rw [Int.one_mul] at this; exact this
      exact ih.app this
    · have hz : Cg P G (scl (v m) (F (T.getD m []))) [] := by
        rcases h m (by omega) q with z | z
        · rw [z]
          exact Cg.of fun t => by rw [co_sc, Int.zero_mul, co_nil]; exact dvd_rf
        · have := z.sc (v m)
          unfold Cg
          rw [show scl (-1) [] = [] from rfl, List.append_nil]; exact this
      have := ih.app hz
      rw [List.append_nil] at this
      by_cases c : k < m
      · rw [if_pos c] at this; rw [if_pos (by omega)]; exact this
      · rw [if_neg c] at this; rw [if_neg (by omega)]; exact this
theorem bd_top {P : Nat} {G : zL → Prop} {F : List Nat → zL} {T : List (List Nat)} {v : Nat → Int} {k : Nat} (hkT : k < T.length) (hk : (P : Int) ∣ v k - 1) (h : ∀ j, j < T.length → j ≠ k → v j = 0 ∨ Sp P G (F (T.getD j []))) (hs : Sp P G (bd F (V T v))) : Sp P G (F (T.getD k [])) := by
  have := bd_V hk h T.length (Nat.le_refl _)
  rw [if_pos hkT] at this
  exact this.sy.sp hs
def Nm (W : zWd) (mk : Nat → Nat → Nat) (v : List Nat) : Prop := ∀ j, j < (tl W (lvs v)).length → (tl W (lvs v)).getD j [] = v → mk (lvs v) j = 0
def RwC (W : zWd) (mk : Nat → Nat → Nat) (rl : Nat → Nat → Nat → Nat) (n : Nat) : zL → Prop := Rw (tl W n) (mkb (mk n)) (RC (rl n))
def cx (a : Nat) (us1 us2 : List (List Nat)) (t : List Nat) : List Nat := (a + 1) :: us1.flatten ++ t ++ us2.flatten
/-- rows, as they are kept -/
def RowC (W : zWd) (mk : Nat → Nat → Nat) (rl : Nat → Nat → Nat → Nat) (n : Nat) : Prop := ∀ t, t < (tl W n).length → mk n t ≠ 0 → (∀ j, j < t → rl n t j < wP W) ∧ Id W n (V (tl W n) (RC (rl n) t)) ∧ ∀ j, j < t → mk n j ≠ 0 → rl n t j = 0
def LvC (W : zWd) (mk : Nat → Nat → Nat) (rl : Nat → Nat → Nat → Nat) (n : Nat) : Prop := RowC W mk rl n ∧ (∀ g, Gn W n g → Sp (wP W) (RwC W mk rl n) g) ∧ ∀ g, Id W n g → Sp (wP W) (fun r => UR W n r ∨ ∃ t, t < (tl W n).length ∧ mk n t = 2 ∧ r = V (tl W n) (RC (rl n) t)) g
/-- the first entry that is not normal is made so: that is had -/
def HE (W : zWd) (mk : Nat → Nat → Nat) (rl : Nat → Nat → Nat → Nat) (n : Nat) : Prop := ∀ a us1 us2 m k, a < wA W → us1.length + 1 + us2.length = we W a → (∀ u, u ∈ us1 → Fs (wA W) (we W) u 1) → (∀ u, u ∈ us2 → Fs (wA W) (we W) u 1) → lvs us1.flatten + m + lvs us2.flatten = n → k < (tl W m).length → mk m k ≠ 0 → (∀ u, u ∈ us1 → Nm W mk u) → Sp (wP W) (RwC W mk rl n) (mp (cx a us1 us2) (V (tl W m) (RC (rl m) k)))
theorem li_of_ev {P : Nat} {u w : zL} (h : ∀ g, ev g u = ev g w) : Li P u w := Li.of fun t => h (dl t)
theorem tl_tr {W : zWd} (hE : Eok (wA W) (we W)) {n j : Nat} (h : j < (tl W n).length) : Tr (wA W) (we W) n ((tl W n).getD j []) := (tl_mem hE).mp (mem_gd h)
theorem HE.all {W : zWd} (hW : Wok W) {mk : Nat → Nat → Nat} {rl : Nat → Nat → Nat → Nat} {n : Nat} (hH : HE W mk rl n) (hL : ∀ m, 1 ≤ m → m < n → RowC W mk rl m) {a m k : Nat} {us2 : List (List Nat)} (ha : a < wA W) (h2 : ∀ u, u ∈ us2 → Fs (wA W) (we W) u 1) (hk : k < (tl W m).length) (hm : mk m k ≠ 0) : ∀ (ws2 ws1 : List (List Nat)), (ws1 ++ ws2).length + 1 + us2.length = we W a → (∀ u, u ∈ ws1 ++ ws2 → Fs (wA W) (we W) u 1) → lvs (ws1 ++ ws2).flatten + m + lvs us2.flatten = n → (∀ u, u ∈ ws1 → Nm W mk u) → Sp (wP W) (RwC W mk rl n) (mp (cx a (ws1 ++ ws2) us2) (V (tl W m) (RC (rl m) k)))
  | [], ws1, hl, h1, hn, hN => by
    rw [List.append_nil] at *
    exact hH a ws1 us2 m k ha hl h1 h2 hn hk hm hN
  | w :: ws2, ws1, hl, h1, hn, hN => by
    have hE := hW.2.1
    by_cases hw : Nm W mk w
    · have := HE.all hW hH hL ha h2 hk hm ws2 (ws1 ++ [w]) (by simpa using hl) (by simpa using h1) (by simpa using hn) (fun u hu => by
        rcases List.mem_append.mp hu with q | q
        · exact hN u q
        · rw [List.mem_singleton.mp q]; exact hw)
      simpa using this
    · obtain ⟨s, hs, e, hmk⟩ : ∃ s, s < (tl W (lvs w)).length ∧ (tl W (lvs w)).getD s [] = w ∧ mk (lvs w) s ≠ 0 := by
        apply Classical.byContradiction
        intro z
        exact hw fun j hj e => Classical.byContradiction fun y => z ⟨j, hj, e, y⟩
      have hfw := h1 w (List.mem_append_right _ List.mem_cons_self)
      have hw1 := Fs.cnt hE.two hfw
      have hge := lvs_flat_ge hE (us := ws1 ++ w :: ws2) h1
      have hmp : 1 ≤ m := ((tl_tr hE hk).len hE).2
      have hwn : lvs w < n := by
        have := (hge.2 w (List.mem_append_right _ List.mem_cons_self)).2
        have : 1 ≤ (ws1 ++ w :: ws2).length := by simp; omega
        omega
      have hrow := hL (lvs w) (by omega) hwn s hs hmk
      have key : ∀ c, lvs c = lvs w → Fs (wA W) (we W) c 1 → (∀ u, u ∈ ws1 ++ c :: ws2 → Fs (wA W) (we W) u 1) ∧ lvs (ws1 ++ c :: ws2).flatten = lvs (ws1 ++ w :: ws2).flatten := fun c hc hf => by
        refine ⟨fun u hu => ?_, by simp [lvs_app, hc]⟩
        rcases List.mem_append.mp hu with q | q
        · exact h1 u (List.mem_append_left _ q)
        · rcases List.mem_cons.mp q with rfl | q
          · exact hf
          · exact h1 u (List.mem_append_right _ (List.mem_cons_of_mem _ q))
      have hb : Sp (wP W) (RwC W mk rl n) (bd (fun c => mp (cx a (ws1 ++ c :: ws2) us2) (V (tl W m) (RC (rl m) k))) (V (tl W (lvs w)) (RC (rl (lvs w)) s))) := by
        have hb2 : Sp (wP W) (RwC W mk rl n) (bd (fun d => mp (cx a ws1 (ws2 ++ d :: us2)) (V (tl W (lvs w)) (RC (rl (lvs w)) s))) (V (tl W m) (RC (rl m) k))) := by
          have : Cg (wP W) (RwC W mk rl n) (bd (fun d => mp (cx a ws1 (ws2 ++ d :: us2)) (V (tl W (lvs w)) (RC (rl (lvs w)) s))) (V (tl W m) (RC (rl m) k))) (bd (fun _ => []) (V (tl W m) (RC (rl m) k))) := Cg.bd _ fun p hp => by
            have hd := (tl_mem hE).mp (V_mem p hp)
            unfold Cg
            rw [show scl (-1) [] = [] from rfl, List.append_nil]
            refine hH a ws1 (ws2 ++ p.1 :: us2) (lvs w) s ha ?_ (fun u hu => h1 u (List.mem_append_left _ hu)) (fun u hu => ?_) ?_ hs hmk hN
            · rw [← hl]; simp; omega
            · rcases List.mem_append.mp hu with q | q
              · exact h1 u (List.mem_append_right _ (List.mem_cons_of_mem _ q))
              · rcases List.mem_cons.mp q with rfl | q
                · exact hd.1
                · exact h2 u q
            · rw [← hn]; simp [lvs_app, hd.2]; omega
          refine this.sp (Sp.nil.li (li_of_ev fun g => ?_))
          rw [ev_bd]
          generalize V (tl W m) (RC (rl m) k) = z
          induction z with
          | nil => rfl
          | cons p r ih => rw [ev_cons, ← ih]; simp [ev]
        refine hb2.li (li_of_ev fun g => ?_)
        rw [ev_bd, ev_bd]
        have e1 : ∀ d, ev g (mp (cx a ws1 (ws2 ++ d :: us2)) (V (tl W (lvs w)) (RC (rl (lvs w)) s))) = ev (fun c => g (cx a ws1 (ws2 ++ d :: us2) c)) (V (tl W (lvs w)) (RC (rl (lvs w)) s)) := fun d => ev_mp _
        have e2 : ∀ c, ev g (mp (cx a (ws1 ++ c :: ws2) us2) (V (tl W m) (RC (rl m) k))) = ev (fun d => g (cx a (ws1 ++ c :: ws2) us2 d)) (V (tl W m) (RC (rl m) k)) := fun c => ev_mp _
        simp only [e1, e2]
        rw [ev_ev]
        refine ev_cong _ fun p _ => ev_cong _ fun q _ => ?_
        unfold cx
        simp [List.append_assoc]
      have := bd_top (k := s) hs (by unfold RC; rw [if_pos rfl]; exact dvd_rf) (fun j hj hjs => ?_) hb
      · rw [e] at this; exact this
      · by_cases hlt : j < s
        · have hr : RC (rl (lvs w)) s j = -(rl (lvs w) s j : Int) := (if_neg hjs).trans (if_pos hlt)
          by_cases hj0 : mk (lvs w) j = 0
          · right
            have ht := tl_tr hE hj
            have kk := key _ ht.2 ht.1
            have := HE.all hW hH hL ha h2 hk hm ws2 (ws1 ++ [(tl W (lvs w)).getD j []]) (by rw [← hl]; simp) (by simpa using kk.1) (by have := kk.2; rw [← hn, ← kk.2]; simp) (fun u hu => by
              rcases List.mem_append.mp hu with q | q
              · exact hN u q
              · rw [List.mem_singleton.mp q]
                intro i hi ei
                rw [ht.2] at hi ei ⊢
                rw [getD_inj tl_nodup hi hj ei]; exact hj0)
            simpa using this
          · left
            rw [hr, hrow.2.2 j hlt hj0]; rfl
        · left
          exact (if_neg hjs).trans (if_neg hlt)
/-- all under the root is had -/
theorem UR.had {W : zWd} (hW : Wok W) {mk : Nat → Nat → Nat} {rl : Nat → Nat → Nat → Nat} {n : Nat} (hH : HE W mk rl n) (hL : ∀ m, 1 ≤ m → m < n → LvC W mk rl m) {g : zL} (h : UR W n g) : Sp (wP W) (RwC W mk rl n) g := by
  obtain ⟨a, us1, us2, m, w, ha, hl, h1, h2, hw, ht, hn, rfl⟩ := h
  have hE := hW.2.1
  cases w with
  | nil => exact Sp.nil
  | cons p w =>
    have hm1 := ((ht p List.mem_cons_self).len hE).2
    have g1 := lvs_flat_ge hE h1
    have g2 := lvs_flat_ge hE h2
    have he := hE.two a ha
    have hmn : m < n := by omega
    have hw2 : Sp (wP W) (RwC W mk rl m) (p :: w) := Sp.le hw (hL m hm1 hmn).2.1
    refine Sp.mp hw2 fun r hr => ?_
    obtain ⟨k, hk, hmk, rfl⟩ := hr
    have := HE.all hW hH (fun m a b => (hL m a b).1) ha h2 hk (mkb_t.mp hmk) us1 [] (by simpa using hl) (by simpa using h1) (by simpa using hn) (fun u hu => absurd hu List.not_mem_nil)
    exact this
/-- a level is done -/
theorem LvC.of {W : zWd} (hW : Wok W) {mk : Nat → Nat → Nat} {rl : Nat → Nat → Nat → Nat} {n : Nat} (hH : HE W mk rl n) (hL : ∀ m, 1 ≤ m → m < n → LvC W mk rl m) (hR : RowC W mk rl n)
    (hlaw : ∀ L, L < wL W → (lw W L).1 = n → Sp (wP W) (RwC W mk rl n) (lz (lw W L).2))
    (hplug : ∀ a m i t, a < wA W → m + we W a = n + 1 → i < m → 2 ≤ m → t < (tl W m).length → mk m t = 2 → Sp (wP W) (RwC W mk rl n) (mp (fun s => gr s i (acT a (we W a))) (V (tl W m) (RC (rl m) t))))
    (h1 : ∀ t, t < (tl W n).length → mk n t ≠ 0 → mk n t = 2 ∨ Sp (wP W) (fun r => UR W n r ∨ ∃ t, t < (tl W n).length ∧ mk n t = 2 ∧ r = V (tl W n) (RC (rl n) t)) (V (tl W n) (RC (rl n) t))) : LvC W mk rl n := by
  have hE := hW.2.1
  have hG : ∀ g, Gn W n g → Sp (wP W) (RwC W mk rl n) g := fun g hg => by
    rcases hg.cases hW with hf | hu
    · rcases hf.cases hW with ⟨L, hL', hn, rfl⟩ | ⟨a, m, i, g', ha, hme, hi, hm2, hf', rfl⟩
      · exact hlaw L hL' hn
      · have he := hE.two a ha
        have hc := (hL m (by omega) (by omega)).2.2 g' hf'.id
        refine Sp.mp hc fun r hr => ?_
        rcases hr with hr | ⟨t, ht, hmk, rfl⟩
        · exact UR.had hW hH hL (hr.gr hW (tr_acT ha).1 hi (by rw [(tr_acT (e := we W) ha).2]; omega))
        · exact hplug a m i t ha hme hi hm2 ht hmk
    · exact UR.had hW hH hL hu
  refine ⟨hR, hG, fun g hg => Sp.le (Sp.le hg hG) fun r hr => ?_⟩
  obtain ⟨t, ht, hmk, rfl⟩ := hr
  rcases h1 t ht (mkb_t.mp hmk) with q | q
  · exact Sp.gen (Or.inr ⟨t, ht, q, rfl⟩)
  · exact q
