/-! bare trees, as the class counts them -/
theorem nd_inj {x y : Nat} (hx : x ≤ 3) (hy : y ≤ 3) (h : nd x = nd y) : x = y := by
  unfold nd at h
  split at h <;> split at h <;> omega
theorem nd_le {x : Nat} (hx : x ≤ 3) : nd x ≤ 3 := by
  unfold nd
  split <;> omega
theorem b01_le (x : Bool) : b01 x ≤ 1 := by cases x <;> decide
def tIb (b x y _k : Nat) : Bool := (x == 700 || x == 701) && y == b

set_option maxRecDepth 100000 in
theorem lp_sa6 {S : zS} (hs : Sd S) {b : Nat} (hb4 : b < 4) {A : Nat} {e : Nat → Nat} (hE : Eok A e) (he : ∀ a, a < A → gI S 1003 b a = nI (e a)) {cnt pc : Nat} (hcnt : cnt ≤ 13) (hpc : pc ≤ 13) {pl : Int32} : ∀ (r u : List Nat) (i a m m' : Nat), i + r.length = pc → a + u.length = cnt → (∀ x, x ∈ r → x ≤ 3) → (∀ x, x ∈ u → x ≤ 3) → (∀ j, j < r.length → gI S 701 b (i + j) = nI (nd (r.getD j 0))) → (∀ j, j < u.length → gI S 700 b (a + j) = nI (nd (u.getD j 0))) → Fs A e r m → Fs A e u m' → m ≤ m' → Ok mX0_standsAt 6 [some (zr 0 b), some (zi pl), some (zi (nI cnt)), some (zi (nI pc)), some (zi (nI a)), some (zi (nI i))] [] S (fun x S1 => x = some (zi (nI (b01 (stn e r u)))) ∧ S1 = S) := by
  intro r
  induction r with
  | nil =>
    intro u i a m m' hi ha hr3 hu3 hr hu hf hg hm
    obtain rfl : i = pc := by simpa using hi
    refine r_iload (q := 8) dX0_standsAt_6 rfl rfl ?_
    refine r_iload_n (q := 9) dX0_standsAt_8 rfl rfl rfl ?_
    refine r_icmp_geN (q := 12) (t := 96) (by omega) (by omega) dX0_standsAt_9 (by decide) rfl (fun h9 => ?_) (fun h9 => absurd h9 (by omega))
    refine r_iconst (q := 97) (nI 1) dX0_standsAt_96 rfl (by decide) ?_
    refine r_zreturn (by decide) dX0_standsAt_97 rfl ?_
    exact ⟨rfl, rfl⟩
  | cons x r ih =>
    intro u i a m m' hi ha hr3 hu3 hr hu hf hg hm
    rw [List.length_cons] at hi
    have hx := hr3 x List.mem_cons_self
    have hr3' := fun q hq => hr3 q (List.mem_cons_of_mem _ hq)
    have r0 : gI S 701 b i = nI (nd x) := by have := hr 0 (by simp); rw [Nat.add_zero] at this; exact this
    have hr' : ∀ j, j < r.length → gI S 701 b (i + 1 + j) = nI (nd (r.getD j 0)) := fun j hj => by have := hr (j + 1) (by simp; omega); rw [show i + 1 + j = i + (j + 1) by omega]; exact this
    have h1 := hf.1
    have h2 := hf.2
    have hul : 1 ≤ u.length := by
      cases u with
      | nil => have : m' = 0 := hg; omega
      | cons y u => simp
    rw [stn]
    by_cases h0 : x = 0
    · subst h0
      rw [if_pos rfl] at h2 ⊢
      obtain ⟨t1, u', e1, e2, e3, e4⟩ := hg.one (by omega)
      rw [e4]
      have hul : u.length = t1.length + u'.length := by rw [e1, List.length_append]
      have ht1 : ∀ j, j < t1.length → gI S 700 b (a + j) = nI (nd (t1.getD j 0)) := fun j hj => by
        have := hu j (by omega)
        rw [e1, getD_appN, if_pos hj] at this
        exact this
      rw [show nd 0 = 3 from rfl] at r0
      refine r_iload (q := 8) dX0_standsAt_6 rfl rfl ?_
      refine r_iload_n (q := 9) dX0_standsAt_8 rfl rfl rfl ?_
      refine r_icmp_geN (q := 12) (t := 96) (by omega) (by omega) dX0_standsAt_9 (by decide) rfl (fun h9 => absurd h9 (by omega)) (fun h9 => ?_)
      refine r_iload (q := 14) dX0_standsAt_12 rfl rfl ?_
      refine r_iload_n (q := 15) dX0_standsAt_14 rfl rfl rfl ?_
      refine r_icmp_ltN (q := 18) (t := 20) (by omega) (by omega) dX0_standsAt_15 (by decide) rfl (fun h15 => ?_) (fun h15 => absurd h15 (by omega))
      refine r_aload_n (q := 21) dX0_standsAt_20 rfl rfl rfl ?_
      refine r_getr (q := 24) (some (6, b)) ck0 dX0_standsAt_21 rfl (k := 1) (by decide) wt378 rfl (hs.e (show b < 4 by omega)) (hs.r (show b < 4 by omega) (by decide)) ?_
      refine r_getr (q := 27) (some (701, b)) ck6 dX0_standsAt_24 rfl (k := 1) (by decide) wt100 rfl (hs.e (show b < 5 by omega)) (hs.r (show b < 5 by omega) (by decide)) ?_
      refine r_iload (q := 29) dX0_standsAt_27 rfl rfl ?_
      refine r_ialdN (q := 30) 13 (by decide) rfl dX0_standsAt_29 rfl (hs.e (show b < 5 by omega)) (hs.n rfl (show b < 5 by omega)) (by omega) (by decide) ?_
      refine r_topi (y := nI 3) r0 ?_
      refine r_iconst (q := 31) (nI 3) dX0_standsAt_30 rfl (by decide) ?_
      refine r_icmp_neN (q := 34) (t := 59) (by omega) (by omega) dX0_standsAt_31 (by decide) rfl (fun h31 => absurd h31 (by omega)) (fun h31 => ?_)
      refine r_aload_n (q := 35) dX0_standsAt_34 rfl rfl rfl ?_
      refine r_getr (q := 38) (some (6, b)) ck0 dX0_standsAt_35 rfl (k := 1) (by decide) wt378 rfl (hs.e (show b < 4 by omega)) (hs.r (show b < 4 by omega) (by decide)) ?_
      refine r_getr (q := 41) (some (700, b)) ck6 dX0_standsAt_38 rfl (k := 0) (by decide) wt98 rfl (hs.e (show b < 5 by omega)) (hs.r (show b < 5 by omega) (by decide)) ?_
      refine r_iload (q := 43) dX0_standsAt_41 rfl rfl ?_
      refine r_iload_n (q := 44) dX0_standsAt_43 rfl rfl rfl ?_
      refine r_aload_n (q := 45) dX0_standsAt_44 rfl rfl rfl ?_
      refine r_getr (q := 48) (some (9, b)) ck0 dX0_standsAt_45 rfl (k := 0) (by decide) wt374 rfl (hs.e (show b < 4 by omega)) (hs.r (show b < 4 by omega) (by decide)) ?_
      refine r_getr (q := 51) (some (1003, b)) ck9 dX0_standsAt_48 rfl (k := 3) (by decide) wt308 rfl (hs.e (show b < 4 by omega)) (hs.r (show b < 4 by omega) (by decide)) ?_
      refine r_callS (Mc := mX6_endOf) (q := 54) (As := [zr 700 b, zi (nI a), zi (nI cnt), zr 1003 b]) (st := []) dX0_standsAt_51 rfl rfl mkX6_endOf wt837 wt838 rfl (Nat.le_of_ble_eq_true rfl) (Nat.le_of_ble_eq_true rfl) (by decide) (by decide) (by decide) (Or.inl rfl) hs.some (ok_endOf hs (show b < 5 by omega) hb4 hcnt hE he e2 (by omega) ht1) (fun r51 S51 hp51 => ?_)
      obtain ⟨rfl, hq51⟩ := hp51
      rw [hq51]
      show Ok _ _ _ [zi (nI (a + t1.length))] _ _
      refine r_istore (q := 56) (L' := [some (zr 0 b), some (zi pl), some (zi (nI cnt)), some (zi (nI pc)), some (zi (nI (a + t1.length))), some (zi (nI i))]) dX0_standsAt_54 rfl (by decide) rfl ?_
      refine r_goto (q := 90) dX0_standsAt_56 (by decide) ?_
      refine r_iincN (q := 93) (L' := [some (zr 0 b), some (zi pl), some (zi (nI cnt)), some (zi (nI pc)), some (zi (nI (a + t1.length))), some (zi (nI (i + 1)))]) 1 rfl dX0_standsAt_90 rfl rfl (by decide) rfl ?_
      refine r_goto (q := 6) dX0_standsAt_93 (by decide) ?_
      exact ih u' (i + 1) (a + t1.length) (m - 1) (m' - 1) (by omega) (by omega) hr3' (fun q hq => hu3 q (by rw [e1]; exact List.mem_append_right _ hq)) hr' (fun j hj => by
        have := hu (t1.length + j) (by omega)
        rw [e1, getD_appN, if_neg (by omega), Nat.add_sub_cancel_left] at this
        rw [Nat.add_assoc]; exact this) h2 e3 (by omega)
    · rw [if_neg h0] at h2 ⊢
      have hn3 : nd x ≠ 3 := fun z => h0 ((nd_3 hx).mp z)
      have hnx := nd_le hx
      cases u with
      | nil => simp at hul
      | cons y u =>
        rw [List.length_cons] at ha
        have hy := hu3 y List.mem_cons_self
        have hny := nd_le hy
        have u0 : gI S 700 b a = nI (nd y) := by have := hu 0 (by simp); rw [Nat.add_zero] at this; exact this
        show Ok _ _ _ _ _ (fun z S1 => z = some (zi (nI (b01 (decide (y = x) && stn e r u)))) ∧ S1 = S)
        by_cases hyx : y = x
        · subst hyx
          have g2 := hg.2
          rw [if_neg h0] at g2
          rw [decide_eq_true rfl, Bool.true_and]
          refine r_iload (q := 8) dX0_standsAt_6 rfl rfl ?_
          refine r_iload_n (q := 9) dX0_standsAt_8 rfl rfl rfl ?_
          refine r_icmp_geN (q := 12) (t := 96) (by omega) (by omega) dX0_standsAt_9 (by decide) rfl (fun h9 => absurd h9 (by omega)) (fun h9 => ?_)
          refine r_iload (q := 14) dX0_standsAt_12 rfl rfl ?_
          refine r_iload_n (q := 15) dX0_standsAt_14 rfl rfl rfl ?_
          refine r_icmp_ltN (q := 18) (t := 20) (by omega) (by omega) dX0_standsAt_15 (by decide) rfl (fun h15 => ?_) (fun h15 => absurd h15 (by omega))
          refine r_aload_n (q := 21) dX0_standsAt_20 rfl rfl rfl ?_
          refine r_getr (q := 24) (some (6, b)) ck0 dX0_standsAt_21 rfl (k := 1) (by decide) wt378 rfl (hs.e (show b < 4 by omega)) (hs.r (show b < 4 by omega) (by decide)) ?_
          refine r_getr (q := 27) (some (701, b)) ck6 dX0_standsAt_24 rfl (k := 1) (by decide) wt100 rfl (hs.e (show b < 5 by omega)) (hs.r (show b < 5 by omega) (by decide)) ?_
          refine r_iload (q := 29) dX0_standsAt_27 rfl rfl ?_
          refine r_ialdN (q := 30) 13 (by decide) rfl dX0_standsAt_29 rfl (hs.e (show b < 5 by omega)) (hs.n rfl (show b < 5 by omega)) (by omega) (by decide) ?_
          refine r_topi (y := nI (nd y)) r0 ?_
          refine r_iconst (q := 31) (nI 3) dX0_standsAt_30 rfl (by decide) ?_
          refine r_icmp_neN (q := 34) (t := 59) (by omega) (by omega) dX0_standsAt_31 (by decide) rfl (fun h31 => ?_) (fun h31 => absurd h31 (by omega))
          refine r_aload_n (q := 60) dX0_standsAt_59 rfl rfl rfl ?_
          refine r_getr (q := 63) (some (6, b)) ck0 dX0_standsAt_60 rfl (k := 1) (by decide) wt378 rfl (hs.e (show b < 4 by omega)) (hs.r (show b < 4 by omega) (by decide)) ?_
          refine r_getr (q := 66) (some (700, b)) ck6 dX0_standsAt_63 rfl (k := 0) (by decide) wt98 rfl (hs.e (show b < 5 by omega)) (hs.r (show b < 5 by omega) (by decide)) ?_
          refine r_iload (q := 68) dX0_standsAt_66 rfl rfl ?_
          refine r_ialdN (q := 69) 13 (by decide) rfl dX0_standsAt_68 rfl (hs.e (show b < 5 by omega)) (hs.n rfl (show b < 5 by omega)) (by omega) (by decide) ?_
          refine r_topi (y := nI (nd y)) u0 ?_
          refine r_aload_n (q := 70) dX0_standsAt_69 rfl rfl rfl ?_
          refine r_getr (q := 73) (some (6, b)) ck0 dX0_standsAt_70 rfl (k := 1) (by decide) wt378 rfl (hs.e (show b < 4 by omega)) (hs.r (show b < 4 by omega) (by decide)) ?_
          refine r_getr (q := 76) (some (701, b)) ck6 dX0_standsAt_73 rfl (k := 1) (by decide) wt100 rfl (hs.e (show b < 5 by omega)) (hs.r (show b < 5 by omega) (by decide)) ?_
          refine r_iload (q := 78) dX0_standsAt_76 rfl rfl ?_
          refine r_ialdN (q := 79) 13 (by decide) rfl dX0_standsAt_78 rfl (hs.e (show b < 5 by omega)) (hs.n rfl (show b < 5 by omega)) (by omega) (by decide) ?_
          refine r_topi (y := nI (nd y)) r0 ?_
          refine r_icmp_neN (q := 82) (t := 88) (by omega) (by omega) dX0_standsAt_79 (by decide) rfl (fun h79 => absurd h79 (by omega)) (fun h79 => ?_)
          refine r_iincN (q := 85) (L' := [some (zr 0 b), some (zi pl), some (zi (nI cnt)), some (zi (nI pc)), some (zi (nI (a + 1))), some (zi (nI i))]) 1 rfl dX0_standsAt_82 rfl rfl (by decide) rfl ?_
          refine r_goto (q := 90) dX0_standsAt_85 (by decide) ?_
          refine r_iincN (q := 93) (L' := [some (zr 0 b), some (zi pl), some (zi (nI cnt)), some (zi (nI pc)), some (zi (nI (a + 1))), some (zi (nI (i + 1)))]) 1 rfl dX0_standsAt_90 rfl rfl (by decide) rfl ?_
          refine r_goto (q := 6) dX0_standsAt_93 (by decide) ?_
          exact ih u (i + 1) (a + 1) (m - 1 + e (y - 1)) (m' - 1 + e (y - 1)) (by omega) (by omega) hr3' (fun q hq => hu3 q (List.mem_cons_of_mem _ hq)) hr' (fun j hj => by
            have := hu (j + 1) (by simp; omega)
            rw [show a + 1 + j = a + (j + 1) by omega]; exact this) h2.2 g2.2 (by omega)
        · rw [decide_eq_false hyx, Bool.false_and]
          have hne : nd y ≠ nd x := fun z => hyx (nd_inj hy hx z)
          refine r_iload (q := 8) dX0_standsAt_6 rfl rfl ?_
          refine r_iload_n (q := 9) dX0_standsAt_8 rfl rfl rfl ?_
          refine r_icmp_geN (q := 12) (t := 96) (by omega) (by omega) dX0_standsAt_9 (by decide) rfl (fun h9 => absurd h9 (by omega)) (fun h9 => ?_)
          refine r_iload (q := 14) dX0_standsAt_12 rfl rfl ?_
          refine r_iload_n (q := 15) dX0_standsAt_14 rfl rfl rfl ?_
          refine r_icmp_ltN (q := 18) (t := 20) (by omega) (by omega) dX0_standsAt_15 (by decide) rfl (fun h15 => ?_) (fun h15 => absurd h15 (by omega))
          refine r_aload_n (q := 21) dX0_standsAt_20 rfl rfl rfl ?_
          refine r_getr (q := 24) (some (6, b)) ck0 dX0_standsAt_21 rfl (k := 1) (by decide) wt378 rfl (hs.e (show b < 4 by omega)) (hs.r (show b < 4 by omega) (by decide)) ?_
          refine r_getr (q := 27) (some (701, b)) ck6 dX0_standsAt_24 rfl (k := 1) (by decide) wt100 rfl (hs.e (show b < 5 by omega)) (hs.r (show b < 5 by omega) (by decide)) ?_
          refine r_iload (q := 29) dX0_standsAt_27 rfl rfl ?_
          refine r_ialdN (q := 30) 13 (by decide) rfl dX0_standsAt_29 rfl (hs.e (show b < 5 by omega)) (hs.n rfl (show b < 5 by omega)) (by omega) (by decide) ?_
          refine r_topi (y := nI (nd x)) r0 ?_
          refine r_iconst (q := 31) (nI 3) dX0_standsAt_30 rfl (by decide) ?_
          refine r_icmp_neN (q := 34) (t := 59) (by omega) (by omega) dX0_standsAt_31 (by decide) rfl (fun h31 => ?_) (fun h31 => absurd h31 (by omega))
          refine r_aload_n (q := 60) dX0_standsAt_59 rfl rfl rfl ?_
          refine r_getr (q := 63) (some (6, b)) ck0 dX0_standsAt_60 rfl (k := 1) (by decide) wt378 rfl (hs.e (show b < 4 by omega)) (hs.r (show b < 4 by omega) (by decide)) ?_
          refine r_getr (q := 66) (some (700, b)) ck6 dX0_standsAt_63 rfl (k := 0) (by decide) wt98 rfl (hs.e (show b < 5 by omega)) (hs.r (show b < 5 by omega) (by decide)) ?_
          refine r_iload (q := 68) dX0_standsAt_66 rfl rfl ?_
          refine r_ialdN (q := 69) 13 (by decide) rfl dX0_standsAt_68 rfl (hs.e (show b < 5 by omega)) (hs.n rfl (show b < 5 by omega)) (by omega) (by decide) ?_
          refine r_topi (y := nI (nd y)) u0 ?_
          refine r_aload_n (q := 70) dX0_standsAt_69 rfl rfl rfl ?_
          refine r_getr (q := 73) (some (6, b)) ck0 dX0_standsAt_70 rfl (k := 1) (by decide) wt378 rfl (hs.e (show b < 4 by omega)) (hs.r (show b < 4 by omega) (by decide)) ?_
          refine r_getr (q := 76) (some (701, b)) ck6 dX0_standsAt_73 rfl (k := 1) (by decide) wt100 rfl (hs.e (show b < 5 by omega)) (hs.r (show b < 5 by omega) (by decide)) ?_
          refine r_iload (q := 78) dX0_standsAt_76 rfl rfl ?_
          refine r_ialdN (q := 79) 13 (by decide) rfl dX0_standsAt_78 rfl (hs.e (show b < 5 by omega)) (hs.n rfl (show b < 5 by omega)) (by omega) (by decide) ?_
          refine r_topi (y := nI (nd x)) r0 ?_
          refine r_icmp_neN (q := 82) (t := 88) (by omega) (by omega) dX0_standsAt_79 (by decide) rfl (fun h79 => ?_) (fun h79 => absurd h79 (by omega))
          refine r_iconst (q := 89) (nI 0) dX0_standsAt_88 rfl (by decide) ?_
          refine r_zreturn (by decide) dX0_standsAt_89 rfl ?_
          exact ⟨rfl, rfl⟩

set_option maxRecDepth 100000 in
theorem ok_standsAt {S : zS} (hs : Sd S) {b : Nat} (hb4 : b < 4) {A : Nat} {e : Nat → Nat} (hE : Eok A e) (he : ∀ a, a < A → gI S 1003 b a = nI (e a)) {cnt a m' : Nat} (hcnt : cnt ≤ 13) {p u : List Nat} (hpc : p.length ≤ 13) (hp : Fs A e p 1) (ha : a + u.length = cnt) (hp3 : ∀ x, x ∈ p → x ≤ 3) (hu3 : ∀ x, x ∈ u → x ≤ 3) (hpr : ∀ j, j < p.length → gI S 701 b j = nI (nd (p.getD j 0))) (hur : ∀ j, j < u.length → gI S 700 b (a + j) = nI (nd (u.getD j 0))) (hg : Fs A e u m') (hm : 1 ≤ m') : Ok mX0_standsAt 0 (ent 6 [zr 0 b, zi (nI a), zi (nI cnt), zi (nI p.length)]) [] S (fun x S1 => x = some (zi (nI (b01 (stn e p u)))) ∧ S1 = S) := by
  show Ok mX0_standsAt 0 [some (zr 0 b), some (zi (nI a)), some (zi (nI cnt)), some (zi (nI p.length)), none, none] [] S _
  refine r_iload_n (q := 1) dX0_standsAt_0 rfl rfl rfl ?_
  refine r_istore (q := 3) (L' := [some (zr 0 b), some (zi (nI a)), some (zi (nI cnt)), some (zi (nI p.length)), some (zi (nI a)), none]) dX0_standsAt_1 rfl (by decide) rfl ?_
  refine r_iconst (q := 4) (nI 0) dX0_standsAt_3 rfl (by decide) ?_
  refine r_istore (q := 6) (L' := [some (zr 0 b), some (zi (nI a)), some (zi (nI cnt)), some (zi (nI p.length)), some (zi (nI a)), some (zi (nI 0))]) dX0_standsAt_4 rfl (by decide) rfl ?_
  exact lp_sa6 hs hb4 hE he hcnt hpc p u 0 a 1 m' (by omega) ha hp3 hu3 (fun j hj => by rw [Nat.zero_add]; exact hpr j hj) hur hp hg hm

set_option maxRecDepth 100000 in
theorem lp_ib111 {S : zS} (hs : Sd S) {b : Nat} (hb4 : b < 4) {W : zWd} (hW : Wok W) (hc : WC S b W) {n L : Nat} (hn7 : n ≤ 7) (hL : L < wL W) {t p : List Nat} (ht : Tr (wA W) (we W) n t) (hpe : p = ((lw W L).2.getD 0 zd).1) (h0 : 0 < (lw W L).2.length) (hrow : Rx S b t) (hpr : ∀ j, j < p.length → gI S 701 b j = nI (nd (p.getD j 0))) {tr fr : Int32} {Po : Option zV → zS → Prop} (Kf : isB W t = false → Po (some (zi (nI 0))) S) (Kt : okB W t L = true → ∀ w7, Ok mX0_isBare 137 [some (zr 0 b), some (zi (nI n)), some (zi tr), some (zi (nI t.length)), some (zi (nI L)), some (zi fr), some (zi (nI p.length)), w7] [] S Po) : ∀ (d s : Nat), s + d = t.length → (∀ s', s' < s → stn (we W) p (t.drop s') = false) → Ok mX0_isBare 111 [some (zr 0 b), some (zi (nI n)), some (zi tr), some (zi (nI t.length)), some (zi (nI L)), some (zi fr), some (zi (nI p.length)), some (zi (nI s))] [] S Po := by
  have hE := hW.2.1
  have htl := (ht.len hE).1
  obtain ⟨hlt, _⟩ := law_get hW hL h0
  rw [← hpe] at hlt
  have hll := (hlt.len hE).1
  have hL7 := (hW.2.2.2.2.2 L hL).2.1
  have h18 := hW.2.2.2.1
  intro d
  induction d with
  | zero =>
    intro s hsd hno
    obtain rfl : s = t.length := by omega
    have hf : hasP (we W) p t = false := by
      unfold hasP
      rw [List.any_eq_false]
      intro x hx
      have := hno x (List.mem_range.mp hx)
      rw [this]; simp
    have hk : okB W t L = true := by unfold okB; rw [← hpe, hf]; simp
    refine r_iload (q := 113) dX0_isBare_111 rfl rfl ?_
    refine r_iload_n (q := 114) dX0_isBare_113 rfl rfl rfl ?_
    refine r_icmp_geN (q := 117) (t := 137) (by omega) (by omega) dX0_isBare_114 (by decide) rfl (fun h114 => ?_) (fun h114 => absurd h114 (by omega))
    exact Kt hk _
  | succ d ih =>
    intro s hsd hno
    have e0 : t = t.take s ++ t.drop s := (List.take_append_drop s t).symm
    have h1 := ht.1
    rw [e0] at h1
    obtain ⟨k, c1, c2⟩ := h1.cut
    have hdl : (t.drop s).length = t.length - s := List.length_drop
    have hk1 : 1 ≤ k := by
      rcases Nat.lt_or_ge 0 k with q | q
      · exact q
      · have h0 : k = 0 := by omega
        subst h0
        cases hd : t.drop s with
        | nil => rw [hd] at hdl; simp at hdl; omega
        | cons x u => rw [hd] at c2; exact absurd c2.1 (by omega)
    have hsa := ok_standsAt hs hb4 hE (fun a ha => (hc.2.2.2.1 a ha).1) (cnt := t.length) (a := s) (p := p) (u := t.drop s) (by omega) (by omega) hlt.1 (by omega) (hlt.tok hE) (fun x hx => ht.tok hE x (List.mem_of_mem_drop hx)) hpr (fun j hj => by
      rw [hdl] at hj
      have := hrow (s + j) (by omega)
      rw [this, List.getD_eq_getElem?_getD (l := t.drop s), List.getElem?_drop, List.getD_eq_getElem?_getD]) c2 hk1
    cases hst : stn (we W) p (t.drop s) with
    | true =>
      rw [hst] at hsa
      have hf : hasP (we W) p t = true := by
        unfold hasP
        rw [List.any_eq_true]
        exact ⟨s, List.mem_range.mpr (by omega), hst⟩
      have hB : isB W t = false := isB_f hL (by unfold okB; rw [← hpe, hf, decide_eq_false (by omega)]; rfl)
      refine r_iload (q := 113) dX0_isBare_111 rfl rfl ?_
      refine r_iload_n (q := 114) dX0_isBare_113 rfl rfl rfl ?_
      refine r_icmp_geN (q := 117) (t := 137) (by omega) (by omega) dX0_isBare_114 (by decide) rfl (fun h114 => absurd h114 (by omega)) (fun h114 => ?_)
      refine r_aload_n (q := 118) dX0_isBare_117 rfl rfl rfl ?_
      refine r_iload (q := 120) dX0_isBare_118 rfl rfl ?_
      refine r_iload_n (q := 121) dX0_isBare_120 rfl rfl rfl ?_
      refine r_iload (q := 123) dX0_isBare_121 rfl rfl ?_
      refine r_callV (Mc := mX0_standsAt) (q := 126) (As := [zi (nI s), zi (nI t.length), zi (nI p.length)]) (st := []) ck0 dX0_isBare_123 rfl rfl mkX0_standsAt wt932 wt934 wp48 rfl (Nat.le_of_ble_eq_true rfl) (Nat.le_of_ble_eq_true rfl) (by decide) (by decide) (by decide) (Or.inl rfl) (hs.e (show b < 4 by omega)) hsa (fun r123 S123 hp123 => ?_)
      obtain ⟨rfl, hq123⟩ := hp123
      rw [hq123]
      show Ok _ _ _ [zi (nI 1)] _ _
      refine r_if_eqN (q := 129) (t := 131) (by omega) dX0_isBare_126 (by decide) rfl (fun h126 => absurd h126 (by omega)) (fun h126 => ?_)
      refine r_iconst (q := 130) (nI 0) dX0_isBare_129 rfl (by decide) ?_
      refine r_zreturn (by decide) dX0_isBare_130 rfl ?_
      exact Kf hB
    | false =>
      rw [hst] at hsa
      refine r_iload (q := 113) dX0_isBare_111 rfl rfl ?_
      refine r_iload_n (q := 114) dX0_isBare_113 rfl rfl rfl ?_
      refine r_icmp_geN (q := 117) (t := 137) (by omega) (by omega) dX0_isBare_114 (by decide) rfl (fun h114 => absurd h114 (by omega)) (fun h114 => ?_)
      refine r_aload_n (q := 118) dX0_isBare_117 rfl rfl rfl ?_
      refine r_iload (q := 120) dX0_isBare_118 rfl rfl ?_
      refine r_iload_n (q := 121) dX0_isBare_120 rfl rfl rfl ?_
      refine r_iload (q := 123) dX0_isBare_121 rfl rfl ?_
      refine r_callV (Mc := mX0_standsAt) (q := 126) (As := [zi (nI s), zi (nI t.length), zi (nI p.length)]) (st := []) ck0 dX0_isBare_123 rfl rfl mkX0_standsAt wt932 wt934 wp48 rfl (Nat.le_of_ble_eq_true rfl) (Nat.le_of_ble_eq_true rfl) (by decide) (by decide) (by decide) (Or.inl rfl) (hs.e (show b < 4 by omega)) hsa (fun r123 S123 hp123 => ?_)
      obtain ⟨rfl, hq123⟩ := hp123
      rw [hq123]
      show Ok _ _ _ [zi (nI 0)] _ _
      refine r_if_eqN (q := 129) (t := 131) (by omega) dX0_isBare_126 (by decide) rfl (fun h126 => ?_) (fun h126 => absurd h126 (by omega))
      refine r_iincN (q := 134) (L' := [some (zr 0 b), some (zi (nI n)), some (zi tr), some (zi (nI t.length)), some (zi (nI L)), some (zi fr), some (zi (nI p.length)), some (zi (nI (s + 1)))]) 1 rfl dX0_isBare_131 rfl rfl (by decide) rfl ?_
      refine r_goto (q := 111) dX0_isBare_134 (by decide) ?_
      exact ih (s + 1) (by omega) (fun s' h => if e9 : s' = s then by rw [e9]; exact hst else hno s' (by omega))

set_option maxRecDepth 100000 in
theorem lp_ib21 {b : Nat} (hb4 : b < 4) {W : zWd} (hW : Wok W) {n : Nat} (hn7 : n ≤ 7) {t : List Nat} (ht : Tr (wA W) (we W) n t) {tr : Int32} {S0 : zS} : ∀ (d L : Nat) (S : zS) (w5 w6 w7 : Option zV), L + d = wL W → Sd S → Fr (tIb b) S0 S → WC S b W → Rx S b t → (∀ l, l < L → okB W t l = true) → Ok mX0_isBare 21 [some (zr 0 b), some (zi (nI n)), some (zi tr), some (zi (nI t.length)), some (zi (nI L)), w5, w6, w7] [] S (fun x S1 => x = some (zi (nI (b01 (isB W t)))) ∧ Fr (tIb b) S0 S1) := by
  have hE := hW.2.1
  have h18 := hW.2.2.2.1
  have htl := (ht.len hE).1
  intro d
  induction d with
  | zero =>
    intro L S w5 w6 w7 hd hs f0 hc hrow hok
    obtain rfl : L = wL W := by omega
    have b1 := hc.2.2.1
    rw [isB_t hok]
    refine r_mask [true, true, true, true, true, false, false, false] rfl ?_
    refine r_iload (q := 23) dX0_isBare_21 rfl rfl ?_
    refine r_aload_n (q := 24) dX0_isBare_23 rfl rfl rfl ?_
    refine r_getr (q := 27) (some (9, b)) ck0 dX0_isBare_24 rfl (k := 0) (by decide) wt374 rfl (hs.e (show b < 4 by omega)) (hs.r (show b < 4 by omega) (by decide)) ?_
    refine r_geti (q := 30) ck9 dX0_isBare_27 rfl (k := 4) (by decide) wt315 (Or.inl rfl) (hs.e (show b < 4 by omega)) ?_
    refine r_topi (y := nI (wL W)) b1 ?_
    refine r_icmp_geN (q := 33) (t := 143) (by omega) (by omega) dX0_isBare_30 (by decide) rfl (fun h30 => ?_) (fun h30 => absurd h30 (by omega))
    refine r_iconst (q := 144) (nI 1) dX0_isBare_143 rfl (by decide) ?_
    refine r_zreturn (by decide) dX0_isBare_144 rfl ?_
    exact ⟨rfl, f0⟩
  | succ d ih =>
    intro L S w5 w6 w7 hd hs f0 hc hrow hok
    have hL : L < wL W := by omega
    have b1 := hc.2.2.1
    have b2 := hc.2.2.2.2.2.1 L (by omega)
    have b3 := hc.2.2.2.2.2.1 (L + 1) (by omega)
    rw [lf_succ hL] at b3
    have b4 := hc.2.2.2.2.1 L hL
    have hlf2 := hW.lf2 hL
    have hL7 := (hW.2.2.2.2.2 L hL).2.1
    have hL2 := (hW.2.2.2.2.2 L hL).1
    refine r_mask [true, true, true, true, true, false, false, false] rfl ?_
    by_cases hln : (lw W L).1 ≤ n
    · by_cases h0 : (lw W L).2.length = 0
      · have hk : okB W t L = true := by simp [okB, h0]
        rw [h0, Nat.add_zero] at b3
        refine r_iload (q := 23) dX0_isBare_21 rfl rfl ?_
        refine r_aload_n (q := 24) dX0_isBare_23 rfl rfl rfl ?_
        refine r_getr (q := 27) (some (9, b)) ck0 dX0_isBare_24 rfl (k := 0) (by decide) wt374 rfl (hs.e (show b < 4 by omega)) (hs.r (show b < 4 by omega) (by decide)) ?_
        refine r_geti (q := 30) ck9 dX0_isBare_27 rfl (k := 4) (by decide) wt315 (Or.inl rfl) (hs.e (show b < 4 by omega)) ?_
        refine r_topi (y := nI (wL W)) b1 ?_
        refine r_icmp_geN (q := 33) (t := 143) (by omega) (by omega) dX0_isBare_30 (by decide) rfl (fun h30 => absurd h30 (by omega)) (fun h30 => ?_)
        refine r_aload_n (q := 34) dX0_isBare_33 rfl rfl rfl ?_
        refine r_getr (q := 37) (some (9, b)) ck0 dX0_isBare_34 rfl (k := 0) (by decide) wt374 rfl (hs.e (show b < 4 by omega)) (hs.r (show b < 4 by omega) (by decide)) ?_
        refine r_getr (q := 40) (some (1006, b)) ck9 dX0_isBare_37 rfl (k := 6) (by decide) wt327 rfl (hs.e (show b < 4 by omega)) (hs.r (show b < 4 by omega) (by decide)) ?_
        refine r_iload (q := 42) dX0_isBare_40 rfl rfl ?_
        refine r_ialdN (q := 43) 19 (by decide) rfl dX0_isBare_42 rfl (hs.e (show b < 4 by omega)) (hs.n rfl (show b < 4 by omega)) (by omega) (by decide) ?_
        refine r_topi (y := nI (lf W L)) b2 ?_
        refine r_istore (q := 45) (L' := [some (zr 0 b), some (zi (nI n)), some (zi tr), some (zi (nI t.length)), some (zi (nI L)), some (zi (nI (lf W L))), none, none]) dX0_isBare_43 rfl (by decide) rfl ?_
        refine r_aload_n (q := 46) dX0_isBare_45 rfl rfl rfl ?_
        refine r_getr (q := 49) (some (9, b)) ck0 dX0_isBare_46 rfl (k := 0) (by decide) wt374 rfl (hs.e (show b < 4 by omega)) (hs.r (show b < 4 by omega) (by decide)) ?_
        refine r_getr (q := 52) (some (1005, b)) ck9 dX0_isBare_49 rfl (k := 5) (by decide) wt321 rfl (hs.e (show b < 4 by omega)) (hs.r (show b < 4 by omega) (by decide)) ?_
        refine r_iload (q := 54) dX0_isBare_52 rfl rfl ?_
        refine r_ialdN (q := 55) 18 (by decide) rfl dX0_isBare_54 rfl (hs.e (show b < 4 by omega)) (hs.n rfl (show b < 4 by omega)) (by omega) (by decide) ?_
        refine r_topi (y := nI ((lw W L).1)) b4 ?_
        refine r_iload_n (q := 56) dX0_isBare_55 rfl rfl rfl ?_
        refine r_icmp_gtN (q := 59) (t := 137) (by omega) (by omega) dX0_isBare_56 (by decide) rfl (fun h56 => absurd h56 (by omega)) (fun h56 => ?_)
        refine r_iload (q := 61) dX0_isBare_59 rfl rfl ?_
        refine r_aload_n (q := 62) dX0_isBare_61 rfl rfl rfl ?_
        refine r_getr (q := 65) (some (9, b)) ck0 dX0_isBare_62 rfl (k := 0) (by decide) wt374 rfl (hs.e (show b < 4 by omega)) (hs.r (show b < 4 by omega) (by decide)) ?_
        refine r_getr (q := 68) (some (1006, b)) ck9 dX0_isBare_65 rfl (k := 6) (by decide) wt327 rfl (hs.e (show b < 4 by omega)) (hs.r (show b < 4 by omega) (by decide)) ?_
        refine r_iload (q := 70) dX0_isBare_68 rfl rfl ?_
        refine r_iconst (q := 71) (nI 1) dX0_isBare_70 rfl (by decide) ?_
        refine r_iaddN (q := 72) dX0_isBare_71 rfl ?_
        refine r_ialdN (q := 73) 19 (by decide) rfl dX0_isBare_72 rfl (hs.e (show b < 4 by omega)) (hs.n rfl (show b < 4 by omega)) (by omega) (by decide) ?_
        refine r_topi (y := nI (lf W L)) b3 ?_
        refine r_icmp_geN (q := 76) (t := 137) (by omega) (by omega) dX0_isBare_73 (by decide) rfl (fun h73 => ?_) (fun h73 => absurd h73 (by omega))
        refine r_iincN (q := 140) (L' := [some (zr 0 b), some (zi (nI n)), some (zi tr), some (zi (nI t.length)), some (zi (nI (L + 1))), some (zi (nI (lf W L))), none, none]) 1 rfl dX0_isBare_137 rfl rfl (by decide) rfl ?_
        refine r_goto (q := 21) dX0_isBare_140 (by decide) ?_
        exact ih (L + 1) S _ _ _ (by omega) hs f0 hc hrow (fun l hl => if e9 : l = L then by rw [e9]; exact hk else hok l (by omega))
      · obtain ⟨hlt, _⟩ := law_get hW hL (show 0 < (lw W L).2.length by omega)
        have b5 := (hc.2.2.2.2.2.2 L 0 hL (by omega)).1
        rw [Nat.add_zero] at b5
        refine r_iload (q := 23) dX0_isBare_21 rfl rfl ?_
        refine r_aload_n (q := 24) dX0_isBare_23 rfl rfl rfl ?_
        refine r_getr (q := 27) (some (9, b)) ck0 dX0_isBare_24 rfl (k := 0) (by decide) wt374 rfl (hs.e (show b < 4 by omega)) (hs.r (show b < 4 by omega) (by decide)) ?_
        refine r_geti (q := 30) ck9 dX0_isBare_27 rfl (k := 4) (by decide) wt315 (Or.inl rfl) (hs.e (show b < 4 by omega)) ?_
        refine r_topi (y := nI (wL W)) b1 ?_
        refine r_icmp_geN (q := 33) (t := 143) (by omega) (by omega) dX0_isBare_30 (by decide) rfl (fun h30 => absurd h30 (by omega)) (fun h30 => ?_)
        refine r_aload_n (q := 34) dX0_isBare_33 rfl rfl rfl ?_
        refine r_getr (q := 37) (some (9, b)) ck0 dX0_isBare_34 rfl (k := 0) (by decide) wt374 rfl (hs.e (show b < 4 by omega)) (hs.r (show b < 4 by omega) (by decide)) ?_
        refine r_getr (q := 40) (some (1006, b)) ck9 dX0_isBare_37 rfl (k := 6) (by decide) wt327 rfl (hs.e (show b < 4 by omega)) (hs.r (show b < 4 by omega) (by decide)) ?_
        refine r_iload (q := 42) dX0_isBare_40 rfl rfl ?_
        refine r_ialdN (q := 43) 19 (by decide) rfl dX0_isBare_42 rfl (hs.e (show b < 4 by omega)) (hs.n rfl (show b < 4 by omega)) (by omega) (by decide) ?_
        refine r_topi (y := nI (lf W L)) b2 ?_
        refine r_istore (q := 45) (L' := [some (zr 0 b), some (zi (nI n)), some (zi tr), some (zi (nI t.length)), some (zi (nI L)), some (zi (nI (lf W L))), none, none]) dX0_isBare_43 rfl (by decide) rfl ?_
        refine r_aload_n (q := 46) dX0_isBare_45 rfl rfl rfl ?_
        refine r_getr (q := 49) (some (9, b)) ck0 dX0_isBare_46 rfl (k := 0) (by decide) wt374 rfl (hs.e (show b < 4 by omega)) (hs.r (show b < 4 by omega) (by decide)) ?_
        refine r_getr (q := 52) (some (1005, b)) ck9 dX0_isBare_49 rfl (k := 5) (by decide) wt321 rfl (hs.e (show b < 4 by omega)) (hs.r (show b < 4 by omega) (by decide)) ?_
        refine r_iload (q := 54) dX0_isBare_52 rfl rfl ?_
        refine r_ialdN (q := 55) 18 (by decide) rfl dX0_isBare_54 rfl (hs.e (show b < 4 by omega)) (hs.n rfl (show b < 4 by omega)) (by omega) (by decide) ?_
        refine r_topi (y := nI ((lw W L).1)) b4 ?_
        refine r_iload_n (q := 56) dX0_isBare_55 rfl rfl rfl ?_
        refine r_icmp_gtN (q := 59) (t := 137) (by omega) (by omega) dX0_isBare_56 (by decide) rfl (fun h56 => absurd h56 (by omega)) (fun h56 => ?_)
        refine r_iload (q := 61) dX0_isBare_59 rfl rfl ?_
        refine r_aload_n (q := 62) dX0_isBare_61 rfl rfl rfl ?_
        refine r_getr (q := 65) (some (9, b)) ck0 dX0_isBare_62 rfl (k := 0) (by decide) wt374 rfl (hs.e (show b < 4 by omega)) (hs.r (show b < 4 by omega) (by decide)) ?_
        refine r_getr (q := 68) (some (1006, b)) ck9 dX0_isBare_65 rfl (k := 6) (by decide) wt327 rfl (hs.e (show b < 4 by omega)) (hs.r (show b < 4 by omega) (by decide)) ?_
        refine r_iload (q := 70) dX0_isBare_68 rfl rfl ?_
        refine r_iconst (q := 71) (nI 1) dX0_isBare_70 rfl (by decide) ?_
        refine r_iaddN (q := 72) dX0_isBare_71 rfl ?_
        refine r_ialdN (q := 73) 19 (by decide) rfl dX0_isBare_72 rfl (hs.e (show b < 4 by omega)) (hs.n rfl (show b < 4 by omega)) (by omega) (by decide) ?_
        refine r_topi (y := nI (lf W L + (lw W L).2.length)) b3 ?_
        refine r_icmp_geN (q := 76) (t := 137) (by omega) (by omega) dX0_isBare_73 (by decide) rfl (fun h73 => absurd h73 (by omega)) (fun h73 => ?_)
        refine r_aload_n (q := 77) dX0_isBare_76 rfl rfl rfl ?_
        refine r_getr (q := 80) (some (9, b)) ck0 dX0_isBare_77 rfl (k := 0) (by decide) wt374 rfl (hs.e (show b < 4 by omega)) (hs.r (show b < 4 by omega) (by decide)) ?_
        refine r_getr (q := 83) (some (1007, b)) ck9 dX0_isBare_80 rfl (k := 7) (by decide) wt332 rfl (hs.e (show b < 4 by omega)) (hs.r (show b < 4 by omega) (by decide)) ?_
        refine r_iload (q := 85) dX0_isBare_83 rfl rfl ?_
        refine r_ialdN (q := 86) 200 (by decide) rfl dX0_isBare_85 rfl (hs.e (show b < 4 by omega)) (hs.n rfl (show b < 4 by omega)) (by omega) (by decide) ?_
        refine r_topi (y := nI (ky ((lw W L).2.getD 0 zd).1)) b5 ?_
        refine r_aload_n (q := 87) dX0_isBare_86 rfl rfl rfl ?_
        refine r_getr (q := 90) (some (9, b)) ck0 dX0_isBare_87 rfl (k := 0) (by decide) wt374 rfl (hs.e (show b < 4 by omega)) (hs.r (show b < 4 by omega) (by decide)) ?_
        refine r_getr (q := 93) (some (1005, b)) ck9 dX0_isBare_90 rfl (k := 5) (by decide) wt321 rfl (hs.e (show b < 4 by omega)) (hs.r (show b < 4 by omega) (by decide)) ?_
        refine r_iload (q := 95) dX0_isBare_93 rfl rfl ?_
        refine r_ialdN (q := 96) 18 (by decide) rfl dX0_isBare_95 rfl (hs.e (show b < 4 by omega)) (hs.n rfl (show b < 4 by omega)) (by omega) (by decide) ?_
        refine r_topi (y := nI ((lw W L).1)) b4 ?_
        refine r_aload_n (q := 97) dX0_isBare_96 rfl rfl rfl ?_
        refine r_getr (q := 100) (some (6, b)) ck0 dX0_isBare_97 rfl (k := 1) (by decide) wt378 rfl (hs.e (show b < 4 by omega)) (hs.r (show b < 4 by omega) (by decide)) ?_
        refine r_getr (q := 103) (some (701, b)) ck6 dX0_isBare_100 rfl (k := 1) (by decide) wt100 rfl (hs.e (show b < 5 by omega)) (hs.r (show b < 5 by omega) (by decide)) ?_
        refine r_callS (Mc := mX6_open) (q := 106) (As := [zi (nI (ky ((lw W L).2.getD 0 zd).1)), zi (nI ((lw W L).1)), zr 701 b]) (st := []) dX0_isBare_103 rfl rfl mkX6_open wt836 wt746 rfl (Nat.le_of_ble_eq_true rfl) (Nat.le_of_ble_eq_true rfl) (by decide) (by decide) (by decide) (Or.inl rfl) hs.some (ok_open_701 hs (show b < 5 by omega) hE hlt hL7) (fun r103 S103 hp103 => ?_)
        obtain ⟨rfl, hq103⟩ := hp103
        rw [hq103]
        have f1 : Fr (tIb b) S (stR S 701 b ((((lw W L).2.getD 0 zd).1).map nd)) := Fr.stR Fr.rf (fun _ => by simp [tIb])
        show Ok _ _ _ [zi (nI (((lw W L).2.getD 0 zd).1.length))] _ _
        refine r_istore (q := 108) (L' := [some (zr 0 b), some (zi (nI n)), some (zi tr), some (zi (nI t.length)), some (zi (nI L)), some (zi (nI (lf W L))), some (zi (nI (((lw W L).2.getD 0 zd).1.length))), none]) dX0_isBare_106 rfl (by decide) rfl ?_
        refine r_iconst (q := 109) (nI 0) dX0_isBare_108 rfl (by decide) ?_
        refine r_istore (q := 111) (L' := [some (zr 0 b), some (zi (nI n)), some (zi tr), some (zi (nI t.length)), some (zi (nI L)), some (zi (nI (lf W L))), some (zi (nI (((lw W L).2.getD 0 zd).1.length))), some (zi (nI 0))]) dX0_isBare_109 rfl (by decide) rfl ?_
        have hrow1 : Rx (stR S 701 b ((((lw W L).2.getD 0 zd).1).map nd)) b t := fun j hj => by rw [gI_stR_x (by omega)]; exact hrow j hj
        have hc1 : WC (stR S 701 b ((((lw W L).2.getD 0 zd).1).map nd)) b W := hc.fr f1 (fun a k ha => by simp [tIb]; omega)
        refine lp_ib111 (S := stR S 701 b ((((lw W L).2.getD 0 zd).1).map nd)) hs hb4 hW hc1 hn7 hL ht rfl (by omega) hrow1 (fun j hj => by rw [gI_stR_k (by simpa using hj), getD_map hj]) (fun hB => ⟨by rw [hB]; rfl, f0.tr f1⟩) (fun hk w7 => ?_) t.length 0 (by omega) (fun s' h => absurd h (by omega))
        refine r_mask [true, true, true, true, true, false, false, false] rfl ?_
        refine r_iincN (q := 140) (L' := [some (zr 0 b), some (zi (nI n)), some (zi tr), some (zi (nI t.length)), some (zi (nI (L + 1))), none, none, none]) 1 rfl dX0_isBare_137 rfl rfl (by decide) rfl ?_
        refine r_goto (q := 21) dX0_isBare_140 (by decide) ?_
        exact ih (L + 1) (stR S 701 b ((((lw W L).2.getD 0 zd).1).map nd)) _ _ _ (by omega) hs (f0.tr f1) hc1 hrow1 (fun l hl => if e9 : l = L then by rw [e9]; exact hk else hok l (by omega))
    · have hk : okB W t L = true := by
        by_cases h0 : (lw W L).2.length = 0
        · simp [okB, h0]
        · obtain ⟨hlt, _⟩ := law_get hW hL (show 0 < (lw W L).2.length by omega)
          have hf : hasP (we W) ((lw W L).2.getD 0 zd).1 t = false := by
            cases z : hasP (we W) ((lw W L).2.getD 0 zd).1 t with
            | false => rfl
            | true =>
              have := hasP_lvs hE hlt.1 ht z
              rw [hlt.2] at this
              omega
          unfold okB; rw [hf]; simp
      refine r_iload (q := 23) dX0_isBare_21 rfl rfl ?_
      refine r_aload_n (q := 24) dX0_isBare_23 rfl rfl rfl ?_
      refine r_getr (q := 27) (some (9, b)) ck0 dX0_isBare_24 rfl (k := 0) (by decide) wt374 rfl (hs.e (show b < 4 by omega)) (hs.r (show b < 4 by omega) (by decide)) ?_
      refine r_geti (q := 30) ck9 dX0_isBare_27 rfl (k := 4) (by decide) wt315 (Or.inl rfl) (hs.e (show b < 4 by omega)) ?_
      refine r_topi (y := nI (wL W)) b1 ?_
      refine r_icmp_geN (q := 33) (t := 143) (by omega) (by omega) dX0_isBare_30 (by decide) rfl (fun h30 => absurd h30 (by omega)) (fun h30 => ?_)
      refine r_aload_n (q := 34) dX0_isBare_33 rfl rfl rfl ?_
      refine r_getr (q := 37) (some (9, b)) ck0 dX0_isBare_34 rfl (k := 0) (by decide) wt374 rfl (hs.e (show b < 4 by omega)) (hs.r (show b < 4 by omega) (by decide)) ?_
      refine r_getr (q := 40) (some (1006, b)) ck9 dX0_isBare_37 rfl (k := 6) (by decide) wt327 rfl (hs.e (show b < 4 by omega)) (hs.r (show b < 4 by omega) (by decide)) ?_
      refine r_iload (q := 42) dX0_isBare_40 rfl rfl ?_
      refine r_ialdN (q := 43) 19 (by decide) rfl dX0_isBare_42 rfl (hs.e (show b < 4 by omega)) (hs.n rfl (show b < 4 by omega)) (by omega) (by decide) ?_
      refine r_topi (y := nI (lf W L)) b2 ?_
      refine r_istore (q := 45) (L' := [some (zr 0 b), some (zi (nI n)), some (zi tr), some (zi (nI t.length)), some (zi (nI L)), some (zi (nI (lf W L))), none, none]) dX0_isBare_43 rfl (by decide) rfl ?_
      refine r_aload_n (q := 46) dX0_isBare_45 rfl rfl rfl ?_
      refine r_getr (q := 49) (some (9, b)) ck0 dX0_isBare_46 rfl (k := 0) (by decide) wt374 rfl (hs.e (show b < 4 by omega)) (hs.r (show b < 4 by omega) (by decide)) ?_
      refine r_getr (q := 52) (some (1005, b)) ck9 dX0_isBare_49 rfl (k := 5) (by decide) wt321 rfl (hs.e (show b < 4 by omega)) (hs.r (show b < 4 by omega) (by decide)) ?_
      refine r_iload (q := 54) dX0_isBare_52 rfl rfl ?_
      refine r_ialdN (q := 55) 18 (by decide) rfl dX0_isBare_54 rfl (hs.e (show b < 4 by omega)) (hs.n rfl (show b < 4 by omega)) (by omega) (by decide) ?_
      refine r_topi (y := nI ((lw W L).1)) b4 ?_
      refine r_iload_n (q := 56) dX0_isBare_55 rfl rfl rfl ?_
      refine r_icmp_gtN (q := 59) (t := 137) (by omega) (by omega) dX0_isBare_56 (by decide) rfl (fun h56 => ?_) (fun h56 => absurd h56 (by omega))
      refine r_iincN (q := 140) (L' := [some (zr 0 b), some (zi (nI n)), some (zi tr), some (zi (nI t.length)), some (zi (nI (L + 1))), some (zi (nI (lf W L))), none, none]) 1 rfl dX0_isBare_137 rfl rfl (by decide) rfl ?_
      refine r_goto (q := 21) dX0_isBare_140 (by decide) ?_
      exact ih (L + 1) S _ _ _ (by omega) hs f0 hc hrow (fun l hl => if e9 : l = L then by rw [e9]; exact hk else hok l (by omega))

set_option maxRecDepth 100000 in
theorem ok_isBare {S : zS} (hs : Sd S) {b : Nat} (hb4 : b < 4) {W : zWd} (hW : Wok W) (hc : WC S b W) {n f0 : Nat} (hn7 : n ≤ 7) (hL : Lx S b n f0 (tl W n)) {i : Nat} (hi : i < (tl W n).length) : Ok mX0_isBare 0 (ent 8 [zr 0 b, zi (nI n), zi (nI i)]) [] S (fun x S1 => x = some (zi (nI (b01 (isB W ((tl W n).getD i []))))) ∧ Fr (tIb b) S S1) := by
  have htr := tl_tr hW.2.1 hi
  have hT300 := hL.2.2.2.1
  show Ok mX0_isBare 0 [some (zr 0 b), some (zi (nI n)), some (zi (nI i)), none, none, none, none, none] [] S _
  refine r_aload_n (q := 1) dX0_isBare_0 rfl rfl rfl ?_
  refine r_iload_n (q := 2) dX0_isBare_1 rfl rfl rfl ?_
  refine r_iload_n (q := 3) dX0_isBare_2 rfl rfl rfl ?_
  refine r_callV (Mc := mX0_keyOf) (q := 6) (As := [zi (nI n), zi (nI i)]) (st := []) ck0 dX0_isBare_3 rfl rfl mkX0_keyOf wt792 wt793 wt794 rfl (Nat.le_of_ble_eq_true rfl) (Nat.le_of_ble_eq_true rfl) (by decide) (by decide) (by decide) (Or.inl rfl) (hs.e (show b < 4 by omega)) (ok_keyOf hs hb4 hn7 hL hi) (fun r3 S3 hp3 => ?_)
  obtain ⟨rfl, hq3⟩ := hp3
  rw [hq3]
  show Ok _ _ _ [zi (nI (ky ((tl W n).getD i [])))] _ _
  refine r_iload_n (q := 7) dX0_isBare_6 rfl rfl rfl ?_
  refine r_aload_n (q := 8) dX0_isBare_7 rfl rfl rfl ?_
  refine r_getr (q := 11) (some (6, b)) ck0 dX0_isBare_8 rfl (k := 1) (by decide) wt378 rfl (hs.e (show b < 4 by omega)) (hs.r (show b < 4 by omega) (by decide)) ?_
  refine r_getr (q := 14) (some (700, b)) ck6 dX0_isBare_11 rfl (k := 0) (by decide) wt98 rfl (hs.e (show b < 5 by omega)) (hs.r (show b < 5 by omega) (by decide)) ?_
  refine r_callS (Mc := mX6_open) (q := 17) (As := [zi (nI (ky ((tl W n).getD i []))), zi (nI n), zr 700 b]) (st := []) dX0_isBare_14 rfl rfl mkX6_open wt836 wt746 rfl (Nat.le_of_ble_eq_true rfl) (Nat.le_of_ble_eq_true rfl) (by decide) (by decide) (by decide) (Or.inl rfl) hs.some (ok_open_700 hs (show b < 5 by omega) hW.2.1 htr hn7) (fun r14 S14 hp14 => ?_)
  obtain ⟨rfl, hq14⟩ := hp14
  rw [hq14]
  have f1 : Fr (tIb b) S (stR S 700 b (((tl W n).getD i []).map nd)) := Fr.stR Fr.rf (fun _ => by simp [tIb])
  show Ok _ _ _ [zi (nI (((tl W n).getD i []).length))] _ _
  refine r_istore_n (q := 18) (L' := [some (zr 0 b), some (zi (nI n)), some (zi (nI i)), some (zi (nI (((tl W n).getD i []).length))), none, none, none, none]) dX0_isBare_17 rfl rfl (by decide) rfl ?_
  refine r_iconst (q := 19) (nI 0) dX0_isBare_18 rfl (by decide) ?_
  refine r_istore (q := 21) (L' := [some (zr 0 b), some (zi (nI n)), some (zi (nI i)), some (zi (nI (((tl W n).getD i []).length))), some (zi (nI 0)), none, none, none]) dX0_isBare_19 rfl (by decide) rfl ?_
  exact lp_ib21 hb4 hW hn7 htr (wL W) 0 (stR S 700 b (((tl W n).getD i []).map nd)) none none none (by omega) hs f1 (hc.fr f1 (fun a k ha => by simp [tIb]; omega)) (fun j hj => by rw [gI_stR_k (by simpa using hj), getD_map hj]) (fun l hl => absurd hl (by omega))

/-- a bare tree that is not normal -/
def Unc (W : zWd) (n : Nat) (mk : Nat → Nat) (k : Nat) : Prop := ∃ t, t < k ∧ isB W ((tl W n).getD t []) = true ∧ mk t ≠ 0
theorem Unc.step {W : zWd} {n : Nat} {mk : Nat → Nat} {k : Nat} : Unc W n mk (k + 1) ↔ Unc W n mk k ∨ isB W ((tl W n).getD k []) = true ∧ mk k ≠ 0 := by
  constructor
  · rintro ⟨t, h1, h2⟩
    by_cases e : t = k
    · subst e; exact Or.inr h2
    · exact Or.inl ⟨t, by omega, h2⟩
  · rintro (⟨t, h1, h2⟩ | h)
    · exact ⟨t, by omega, h2⟩
    · exact ⟨k, by omega, h⟩
def tCb (b n x y k : Nat) : Bool := tIb b x y k || y == b && (x == 109 || x == 110) && k == n
theorem tCb_ib {b n : Nat} (x y k : Nat) (h : tIb b x y k = true) : tCb b n x y k = true := by simp [tCb, h]

set_option maxRecDepth 100000 in
theorem lp_cb21 {b : Nat} (hb4 : b < 4) {W : zWd} (hW : Wok W) {n f0 : Nat} (hn7 : n ≤ 7) {mk : Nat → Nat} {Po : Option zV → zS → Prop} : ∀ (d t : Nat) (S : zS) (x : Bool), t + d = (tl W n).length → Sd S → WC S b W → Lx S b n f0 (tl W n) → Mx S b f0 (tl W n).length mk → gI S 110 b n = nI (b01 x) → (x = true ↔ Unc W n mk t) → (∀ S1 y, Fr (tCb b n) S S1 → gI S1 110 b n = nI (b01 y) → (y = true ↔ Unc W n mk (tl W n).length) → Ok mX0_countBare 77 [some (zr 0 b), some (zi (nI n)), some (zi (nI (nB W n (tl W n).length))), some (zi (nI ((tl W n).length)))] [] S1 Po) → Ok mX0_countBare 21 [some (zr 0 b), some (zi (nI n)), some (zi (nI (nB W n t))), some (zi (nI t))] [] S Po := by
  have hE := hW.2.1
  intro d
  induction d with
  | zero =>
    intro t S x hd hs hc hL hM hx hu K
    obtain rfl : t = (tl W n).length := by omega
    have hT300 := hL.2.2.2.1
    refine r_iload_n (q := 22) dX0_countBare_21 rfl rfl rfl ?_
    refine r_aload_n (q := 23) dX0_countBare_22 rfl rfl rfl ?_
    refine r_iload_n (q := 24) dX0_countBare_23 rfl rfl rfl ?_
    refine r_callV (Mc := mX0_treesOf) (q := 27) (As := [zi (nI n)]) (st := [zi (nI ((tl W n).length))]) ck0 dX0_countBare_24 rfl rfl mkX0_treesOf wt788 wt789 wt790 rfl (Nat.le_of_ble_eq_true rfl) (Nat.le_of_ble_eq_true rfl) (by decide) (by decide) (by decide) (Or.inl rfl) (hs.e (show b < 4 by omega)) (ok_treesOf hs hb4 hn7 hL) (fun r24 S24 hp24 => ?_)
    obtain ⟨rfl, hq24⟩ := hp24
    rw [hq24]
    show Ok _ _ _ [zi (nI ((tl W n).length)), zi (nI ((tl W n).length))] _ _
    refine r_icmp_geN (q := 30) (t := 77) (by omega) (by omega) dX0_countBare_27 (by decide) rfl (fun h27 => ?_) (fun h27 => absurd h27 (by omega))
    exact K S x Fr.rf hx hu
  | succ d ih =>
    intro t S x hd hs hc hL hM hx hu K
    have hT300 := hL.2.2.2.1
    have ht : t < (tl W n).length := by omega
    have hnb : nB W n (t + 1) = nB W n t + (if isB W ((tl W n).getD t []) = true then 1 else 0) := rfl
    have hle : nB W n t ≤ t := nB_le t
    have hib := ok_isBare hs hb4 hW hc hn7 hL ht
    cases hB : isB W ((tl W n).getD t []) with
    | false =>
      rw [hB] at hib hnb
      refine r_iload_n (q := 22) dX0_countBare_21 rfl rfl rfl ?_
      refine r_aload_n (q := 23) dX0_countBare_22 rfl rfl rfl ?_
      refine r_iload_n (q := 24) dX0_countBare_23 rfl rfl rfl ?_
      refine r_callV (Mc := mX0_treesOf) (q := 27) (As := [zi (nI n)]) (st := [zi (nI t)]) ck0 dX0_countBare_24 rfl rfl mkX0_treesOf wt788 wt789 wt790 rfl (Nat.le_of_ble_eq_true rfl) (Nat.le_of_ble_eq_true rfl) (by decide) (by decide) (by decide) (Or.inl rfl) (hs.e (show b < 4 by omega)) (ok_treesOf hs hb4 hn7 hL) (fun r24 S24 hp24 => ?_)
      obtain ⟨rfl, hq24⟩ := hp24
      rw [hq24]
      show Ok _ _ _ [zi (nI ((tl W n).length)), zi (nI t)] _ _
      refine r_icmp_geN (q := 30) (t := 77) (by omega) (by omega) dX0_countBare_27 (by decide) rfl (fun h27 => absurd h27 (by omega)) (fun h27 => ?_)
      refine r_aload_n (q := 31) dX0_countBare_30 rfl rfl rfl ?_
      refine r_iload_n (q := 32) dX0_countBare_31 rfl rfl rfl ?_
      refine r_iload_n (q := 33) dX0_countBare_32 rfl rfl rfl ?_
      refine r_callV (Mc := mX0_isBare) (q := 36) (As := [zi (nI n), zi (nI t)]) (st := []) ck0 dX0_countBare_33 rfl rfl mkX0_isBare wt928 wt930 wp47 rfl (Nat.le_of_ble_eq_true rfl) (Nat.le_of_ble_eq_true rfl) (by decide) (by decide) (by decide) (Or.inl rfl) (hs.e (show b < 4 by omega)) hib (fun r33 S33 hp33 => ?_)
      obtain ⟨rfl, f1⟩ := hp33
      have hs1 := hs.fr f1
      have hc1 : WC S33 b W := hc.fr f1 (fun a k ha => by simp [tIb]; omega)
      have hL1 := hL.fr f1 (fun k => ⟨rfl, rfl⟩)
      have hM1 := hM.fr f1 (fun k => rfl)
      have hx1 := (f1.1 110 b n rfl).trans hx
      show Ok _ _ _ [zi (nI 0)] _ _
      refine r_if_eqN (q := 39) (t := 71) (by omega) dX0_countBare_36 (by decide) rfl (fun h36 => ?_) (fun h36 => absurd h36 (by omega))
      refine r_iincN (q := 74) (L' := [some (zr 0 b), some (zi (nI n)), some (zi (nI (nB W n t))), some (zi (nI (t + 1)))]) 1 rfl dX0_countBare_71 rfl rfl (by decide) rfl ?_
      refine r_goto (q := 21) dX0_countBare_74 (by decide) ?_
      have q := ih (t + 1) S33 x (by omega) hs1 hc1 hL1 hM1 hx1 (hu.trans ⟨fun z => Unc.step.mpr (Or.inl z), fun z => (Unc.step.mp z).resolve_right (fun y => absurd y.1 (by rw [hB]; decide))⟩) (fun S1 y y1 y2 y3 => K S1 y ((f1.mono tCb_ib).tr y1) y2 y3)
      rw [hnb] at q
      exact q
    | true =>
      rw [hB] at hib hnb
      by_cases hm : mk t = 0
      · cases x with
        | true =>
          rw [show b01 true = 1 from rfl] at hx
          refine r_iload_n (q := 22) dX0_countBare_21 rfl rfl rfl ?_
          refine r_aload_n (q := 23) dX0_countBare_22 rfl rfl rfl ?_
          refine r_iload_n (q := 24) dX0_countBare_23 rfl rfl rfl ?_
          refine r_callV (Mc := mX0_treesOf) (q := 27) (As := [zi (nI n)]) (st := [zi (nI t)]) ck0 dX0_countBare_24 rfl rfl mkX0_treesOf wt788 wt789 wt790 rfl (Nat.le_of_ble_eq_true rfl) (Nat.le_of_ble_eq_true rfl) (by decide) (by decide) (by decide) (Or.inl rfl) (hs.e (show b < 4 by omega)) (ok_treesOf hs hb4 hn7 hL) (fun r24 S24 hp24 => ?_)
          obtain ⟨rfl, hq24⟩ := hp24
          rw [hq24]
          show Ok _ _ _ [zi (nI ((tl W n).length)), zi (nI t)] _ _
          refine r_icmp_geN (q := 30) (t := 77) (by omega) (by omega) dX0_countBare_27 (by decide) rfl (fun h27 => absurd h27 (by omega)) (fun h27 => ?_)
          refine r_aload_n (q := 31) dX0_countBare_30 rfl rfl rfl ?_
          refine r_iload_n (q := 32) dX0_countBare_31 rfl rfl rfl ?_
          refine r_iload_n (q := 33) dX0_countBare_32 rfl rfl rfl ?_
          refine r_callV (Mc := mX0_isBare) (q := 36) (As := [zi (nI n), zi (nI t)]) (st := []) ck0 dX0_countBare_33 rfl rfl mkX0_isBare wt928 wt930 wp47 rfl (Nat.le_of_ble_eq_true rfl) (Nat.le_of_ble_eq_true rfl) (by decide) (by decide) (by decide) (Or.inl rfl) (hs.e (show b < 4 by omega)) hib (fun r33 S33 hp33 => ?_)
          obtain ⟨rfl, f1⟩ := hp33
          have hs1 := hs.fr f1
          have hc1 : WC S33 b W := hc.fr f1 (fun a k ha => by simp [tIb]; omega)
          have hL1 := hL.fr f1 (fun k => ⟨rfl, rfl⟩)
          have hM1 := hM.fr f1 (fun k => rfl)
          have hx1 := (f1.1 110 b n rfl).trans hx
          show Ok _ _ _ [zi (nI 1)] _ _
          refine r_if_eqN (q := 39) (t := 71) (by omega) dX0_countBare_36 (by decide) rfl (fun h36 => absurd h36 (by omega)) (fun h36 => ?_)
          refine r_iincN (q := 42) (L' := [some (zr 0 b), some (zi (nI n)), some (zi (nI (nB W n t + 1))), some (zi (nI t))]) 1 rfl dX0_countBare_39 rfl rfl (by decide) rfl ?_
          refine r_aload_n (q := 43) dX0_countBare_42 rfl rfl rfl ?_
          refine r_getr (q := 46) (some (110, b)) ck0 dX0_countBare_43 rfl (k := 10) (by decide) wt388 rfl (hs1.e (show b < 4 by omega)) (hs1.r (show b < 4 by omega) (by decide)) ?_
          refine r_iload_n (q := 47) dX0_countBare_46 rfl rfl rfl ?_
          refine r_aload_n (q := 48) dX0_countBare_47 rfl rfl rfl ?_
          refine r_getr (q := 51) (some (110, b)) ck0 dX0_countBare_48 rfl (k := 10) (by decide) wt388 rfl (hs1.e (show b < 4 by omega)) (hs1.r (show b < 4 by omega) (by decide)) ?_
          refine r_iload_n (q := 52) dX0_countBare_51 rfl rfl rfl ?_
          refine r_zaldN (q := 53) 8 (by decide) rfl dX0_countBare_52 rfl (hs1.e (show b < 4 by omega)) (hs1.n rfl (show b < 4 by omega)) (by omega) (by decide) ?_
          refine r_topi (y := nI 1) hx1 ?_
          refine r_if_neN (q := 56) (t := 65) (by omega) dX0_countBare_53 (by decide) rfl (fun h53 => ?_) (fun h53 => absurd h53 (by omega))
          refine r_iconst (q := 66) (nI 1) dX0_countBare_65 rfl (by decide) ?_
          refine r_goto (q := 70) dX0_countBare_66 (by decide) ?_
          refine r_zastN (q := 71) (by decide) 8 (by decide) rfl dX0_countBare_70 rfl (hs1.e (show b < 4 by omega)) (hs1.n rfl (show b < 4 by omega)) (by omega) (by decide) ?_
          refine r_iincN (q := 74) (L' := [some (zr 0 b), some (zi (nI n)), some (zi (nI (nB W n t + 1))), some (zi (nI (t + 1)))]) 1 rfl dX0_countBare_71 rfl rfl (by decide) rfl ?_
          refine r_goto (q := 21) dX0_countBare_74 (by decide) ?_
          have f2 : Fr (tCb b n) S33 (sI S33 110 b n (nI 1)) := (Fr.rf).i (by simp [tCb])
          have f3 : Fr (fun x y k => x == 110) S33 (sI S33 110 b n (nI 1)) := (Fr.rf).i (by simp)
          have q := ih (t + 1) (sI S33 110 b n (nI 1)) true (by omega) (hs1.fr f2) (hc1.fr f3 (fun a k ha => by simp; omega)) (hL1.fr f3 (fun k => ⟨rfl, rfl⟩)) (hM1.fr f3 (fun k => rfl)) (by rw [gI_sI, if_pos ⟨rfl, rfl, rfl⟩]; rfl) (hu.trans ⟨fun z => Unc.step.mpr (Or.inl z), fun z => (Unc.step.mp z).resolve_right (fun y => y.2 hm)⟩) (fun S1 y y1 y2 y3 => K S1 y (((f1.mono tCb_ib).tr f2).tr y1) y2 y3)
          rw [hnb] at q
          exact q
        | false =>
          rw [show b01 false = 0 from rfl] at hx
          refine r_iload_n (q := 22) dX0_countBare_21 rfl rfl rfl ?_
          refine r_aload_n (q := 23) dX0_countBare_22 rfl rfl rfl ?_
          refine r_iload_n (q := 24) dX0_countBare_23 rfl rfl rfl ?_
          refine r_callV (Mc := mX0_treesOf) (q := 27) (As := [zi (nI n)]) (st := [zi (nI t)]) ck0 dX0_countBare_24 rfl rfl mkX0_treesOf wt788 wt789 wt790 rfl (Nat.le_of_ble_eq_true rfl) (Nat.le_of_ble_eq_true rfl) (by decide) (by decide) (by decide) (Or.inl rfl) (hs.e (show b < 4 by omega)) (ok_treesOf hs hb4 hn7 hL) (fun r24 S24 hp24 => ?_)
          obtain ⟨rfl, hq24⟩ := hp24
          rw [hq24]
          show Ok _ _ _ [zi (nI ((tl W n).length)), zi (nI t)] _ _
          refine r_icmp_geN (q := 30) (t := 77) (by omega) (by omega) dX0_countBare_27 (by decide) rfl (fun h27 => absurd h27 (by omega)) (fun h27 => ?_)
          refine r_aload_n (q := 31) dX0_countBare_30 rfl rfl rfl ?_
          refine r_iload_n (q := 32) dX0_countBare_31 rfl rfl rfl ?_
          refine r_iload_n (q := 33) dX0_countBare_32 rfl rfl rfl ?_
          refine r_callV (Mc := mX0_isBare) (q := 36) (As := [zi (nI n), zi (nI t)]) (st := []) ck0 dX0_countBare_33 rfl rfl mkX0_isBare wt928 wt930 wp47 rfl (Nat.le_of_ble_eq_true rfl) (Nat.le_of_ble_eq_true rfl) (by decide) (by decide) (by decide) (Or.inl rfl) (hs.e (show b < 4 by omega)) hib (fun r33 S33 hp33 => ?_)
          obtain ⟨rfl, f1⟩ := hp33
          have hs1 := hs.fr f1
          have hc1 : WC S33 b W := hc.fr f1 (fun a k ha => by simp [tIb]; omega)
          have hL1 := hL.fr f1 (fun k => ⟨rfl, rfl⟩)
          have hM1 := hM.fr f1 (fun k => rfl)
          have hx1 := (f1.1 110 b n rfl).trans hx
          show Ok _ _ _ [zi (nI 1)] _ _
          refine r_if_eqN (q := 39) (t := 71) (by omega) dX0_countBare_36 (by decide) rfl (fun h36 => absurd h36 (by omega)) (fun h36 => ?_)
          refine r_iincN (q := 42) (L' := [some (zr 0 b), some (zi (nI n)), some (zi (nI (nB W n t + 1))), some (zi (nI t))]) 1 rfl dX0_countBare_39 rfl rfl (by decide) rfl ?_
          refine r_aload_n (q := 43) dX0_countBare_42 rfl rfl rfl ?_
          refine r_getr (q := 46) (some (110, b)) ck0 dX0_countBare_43 rfl (k := 10) (by decide) wt388 rfl (hs1.e (show b < 4 by omega)) (hs1.r (show b < 4 by omega) (by decide)) ?_
          refine r_iload_n (q := 47) dX0_countBare_46 rfl rfl rfl ?_
          refine r_aload_n (q := 48) dX0_countBare_47 rfl rfl rfl ?_
          refine r_getr (q := 51) (some (110, b)) ck0 dX0_countBare_48 rfl (k := 10) (by decide) wt388 rfl (hs1.e (show b < 4 by omega)) (hs1.r (show b < 4 by omega) (by decide)) ?_
          refine r_iload_n (q := 52) dX0_countBare_51 rfl rfl rfl ?_
          refine r_zaldN (q := 53) 8 (by decide) rfl dX0_countBare_52 rfl (hs1.e (show b < 4 by omega)) (hs1.n rfl (show b < 4 by omega)) (by omega) (by decide) ?_
          refine r_topi (y := nI 0) hx1 ?_
          refine r_if_neN (q := 56) (t := 65) (by omega) dX0_countBare_53 (by decide) rfl (fun h53 => absurd h53 (by omega)) (fun h53 => ?_)
          refine r_aload_n (q := 57) dX0_countBare_56 rfl rfl rfl ?_
          refine r_iload_n (q := 58) dX0_countBare_57 rfl rfl rfl ?_
          refine r_iload_n (q := 59) dX0_countBare_58 rfl rfl rfl ?_
          refine r_callV (Mc := mX0_isNormal) (q := 62) (As := [zi (nI n), zi (nI t)]) (st := [zi (nI n), zr 110 b]) ck0 dX0_countBare_59 rfl rfl mkX0_isNormal wt844 wt845 wt846 rfl (Nat.le_of_ble_eq_true rfl) (Nat.le_of_ble_eq_true rfl) (by decide) (by decide) (by decide) (Or.inl rfl) (hs1.e (show b < 4 by omega)) (ok_isNormal_y hs1 hb4 hn7 hL1 hM1 ht hm) (fun r59 S59 hp59 => ?_)
          obtain ⟨rfl, hq59⟩ := hp59
          rw [hq59]
          show Ok _ _ _ [zi (nI 1), zi (nI n), zr 110 b] _ _
          refine r_if_neN (q := 65) (t := 69) (by omega) dX0_countBare_62 (by decide) rfl (fun h62 => ?_) (fun h62 => absurd h62 (by omega))
          refine r_iconst (q := 70) (nI 0) dX0_countBare_69 rfl (by decide) ?_
          refine r_zastN (q := 71) (by decide) 8 (by decide) rfl dX0_countBare_70 rfl (hs1.e (show b < 4 by omega)) (hs1.n rfl (show b < 4 by omega)) (by omega) (by decide) ?_
          refine r_iincN (q := 74) (L' := [some (zr 0 b), some (zi (nI n)), some (zi (nI (nB W n t + 1))), some (zi (nI (t + 1)))]) 1 rfl dX0_countBare_71 rfl rfl (by decide) rfl ?_
          refine r_goto (q := 21) dX0_countBare_74 (by decide) ?_
          have f2 : Fr (tCb b n) S33 (sI S33 110 b n (nI 0)) := (Fr.rf).i (by simp [tCb])
          have f3 : Fr (fun x y k => x == 110) S33 (sI S33 110 b n (nI 0)) := (Fr.rf).i (by simp)
          have q := ih (t + 1) (sI S33 110 b n (nI 0)) false (by omega) (hs1.fr f2) (hc1.fr f3 (fun a k ha => by simp; omega)) (hL1.fr f3 (fun k => ⟨rfl, rfl⟩)) (hM1.fr f3 (fun k => rfl)) (by rw [gI_sI, if_pos ⟨rfl, rfl, rfl⟩]; rfl) (hu.trans ⟨fun z => Unc.step.mpr (Or.inl z), fun z => (Unc.step.mp z).resolve_right (fun y => y.2 hm)⟩) (fun S1 y y1 y2 y3 => K S1 y (((f1.mono tCb_ib).tr f2).tr y1) y2 y3)
          rw [hnb] at q
          exact q
      · cases x with
        | true =>
          rw [show b01 true = 1 from rfl] at hx
          refine r_iload_n (q := 22) dX0_countBare_21 rfl rfl rfl ?_
          refine r_aload_n (q := 23) dX0_countBare_22 rfl rfl rfl ?_
          refine r_iload_n (q := 24) dX0_countBare_23 rfl rfl rfl ?_
          refine r_callV (Mc := mX0_treesOf) (q := 27) (As := [zi (nI n)]) (st := [zi (nI t)]) ck0 dX0_countBare_24 rfl rfl mkX0_treesOf wt788 wt789 wt790 rfl (Nat.le_of_ble_eq_true rfl) (Nat.le_of_ble_eq_true rfl) (by decide) (by decide) (by decide) (Or.inl rfl) (hs.e (show b < 4 by omega)) (ok_treesOf hs hb4 hn7 hL) (fun r24 S24 hp24 => ?_)
          obtain ⟨rfl, hq24⟩ := hp24
          rw [hq24]
          show Ok _ _ _ [zi (nI ((tl W n).length)), zi (nI t)] _ _
          refine r_icmp_geN (q := 30) (t := 77) (by omega) (by omega) dX0_countBare_27 (by decide) rfl (fun h27 => absurd h27 (by omega)) (fun h27 => ?_)
          refine r_aload_n (q := 31) dX0_countBare_30 rfl rfl rfl ?_
          refine r_iload_n (q := 32) dX0_countBare_31 rfl rfl rfl ?_
          refine r_iload_n (q := 33) dX0_countBare_32 rfl rfl rfl ?_
          refine r_callV (Mc := mX0_isBare) (q := 36) (As := [zi (nI n), zi (nI t)]) (st := []) ck0 dX0_countBare_33 rfl rfl mkX0_isBare wt928 wt930 wp47 rfl (Nat.le_of_ble_eq_true rfl) (Nat.le_of_ble_eq_true rfl) (by decide) (by decide) (by decide) (Or.inl rfl) (hs.e (show b < 4 by omega)) hib (fun r33 S33 hp33 => ?_)
          obtain ⟨rfl, f1⟩ := hp33
          have hs1 := hs.fr f1
          have hc1 : WC S33 b W := hc.fr f1 (fun a k ha => by simp [tIb]; omega)
          have hL1 := hL.fr f1 (fun k => ⟨rfl, rfl⟩)
          have hM1 := hM.fr f1 (fun k => rfl)
          have hx1 := (f1.1 110 b n rfl).trans hx
          show Ok _ _ _ [zi (nI 1)] _ _
          refine r_if_eqN (q := 39) (t := 71) (by omega) dX0_countBare_36 (by decide) rfl (fun h36 => absurd h36 (by omega)) (fun h36 => ?_)
          refine r_iincN (q := 42) (L' := [some (zr 0 b), some (zi (nI n)), some (zi (nI (nB W n t + 1))), some (zi (nI t))]) 1 rfl dX0_countBare_39 rfl rfl (by decide) rfl ?_
          refine r_aload_n (q := 43) dX0_countBare_42 rfl rfl rfl ?_
          refine r_getr (q := 46) (some (110, b)) ck0 dX0_countBare_43 rfl (k := 10) (by decide) wt388 rfl (hs1.e (show b < 4 by omega)) (hs1.r (show b < 4 by omega) (by decide)) ?_
          refine r_iload_n (q := 47) dX0_countBare_46 rfl rfl rfl ?_
          refine r_aload_n (q := 48) dX0_countBare_47 rfl rfl rfl ?_
          refine r_getr (q := 51) (some (110, b)) ck0 dX0_countBare_48 rfl (k := 10) (by decide) wt388 rfl (hs1.e (show b < 4 by omega)) (hs1.r (show b < 4 by omega) (by decide)) ?_
          refine r_iload_n (q := 52) dX0_countBare_51 rfl rfl rfl ?_
          refine r_zaldN (q := 53) 8 (by decide) rfl dX0_countBare_52 rfl (hs1.e (show b < 4 by omega)) (hs1.n rfl (show b < 4 by omega)) (by omega) (by decide) ?_
          refine r_topi (y := nI 1) hx1 ?_
          refine r_if_neN (q := 56) (t := 65) (by omega) dX0_countBare_53 (by decide) rfl (fun h53 => ?_) (fun h53 => absurd h53 (by omega))
          refine r_iconst (q := 66) (nI 1) dX0_countBare_65 rfl (by decide) ?_
          refine r_goto (q := 70) dX0_countBare_66 (by decide) ?_
          refine r_zastN (q := 71) (by decide) 8 (by decide) rfl dX0_countBare_70 rfl (hs1.e (show b < 4 by omega)) (hs1.n rfl (show b < 4 by omega)) (by omega) (by decide) ?_
          refine r_iincN (q := 74) (L' := [some (zr 0 b), some (zi (nI n)), some (zi (nI (nB W n t + 1))), some (zi (nI (t + 1)))]) 1 rfl dX0_countBare_71 rfl rfl (by decide) rfl ?_
          refine r_goto (q := 21) dX0_countBare_74 (by decide) ?_
          have f2 : Fr (tCb b n) S33 (sI S33 110 b n (nI 1)) := (Fr.rf).i (by simp [tCb])
          have f3 : Fr (fun x y k => x == 110) S33 (sI S33 110 b n (nI 1)) := (Fr.rf).i (by simp)
          have q := ih (t + 1) (sI S33 110 b n (nI 1)) true (by omega) (hs1.fr f2) (hc1.fr f3 (fun a k ha => by simp; omega)) (hL1.fr f3 (fun k => ⟨rfl, rfl⟩)) (hM1.fr f3 (fun k => rfl)) (by rw [gI_sI, if_pos ⟨rfl, rfl, rfl⟩]; rfl) (⟨fun _ => Unc.step.mpr (Or.inr ⟨hB, hm⟩), fun _ => rfl⟩) (fun S1 y y1 y2 y3 => K S1 y (((f1.mono tCb_ib).tr f2).tr y1) y2 y3)
          rw [hnb] at q
          exact q
        | false =>
          rw [show b01 false = 0 from rfl] at hx
          refine r_iload_n (q := 22) dX0_countBare_21 rfl rfl rfl ?_
          refine r_aload_n (q := 23) dX0_countBare_22 rfl rfl rfl ?_
          refine r_iload_n (q := 24) dX0_countBare_23 rfl rfl rfl ?_
          refine r_callV (Mc := mX0_treesOf) (q := 27) (As := [zi (nI n)]) (st := [zi (nI t)]) ck0 dX0_countBare_24 rfl rfl mkX0_treesOf wt788 wt789 wt790 rfl (Nat.le_of_ble_eq_true rfl) (Nat.le_of_ble_eq_true rfl) (by decide) (by decide) (by decide) (Or.inl rfl) (hs.e (show b < 4 by omega)) (ok_treesOf hs hb4 hn7 hL) (fun r24 S24 hp24 => ?_)
          obtain ⟨rfl, hq24⟩ := hp24
          rw [hq24]
          show Ok _ _ _ [zi (nI ((tl W n).length)), zi (nI t)] _ _
          refine r_icmp_geN (q := 30) (t := 77) (by omega) (by omega) dX0_countBare_27 (by decide) rfl (fun h27 => absurd h27 (by omega)) (fun h27 => ?_)
          refine r_aload_n (q := 31) dX0_countBare_30 rfl rfl rfl ?_
          refine r_iload_n (q := 32) dX0_countBare_31 rfl rfl rfl ?_
          refine r_iload_n (q := 33) dX0_countBare_32 rfl rfl rfl ?_
          refine r_callV (Mc := mX0_isBare) (q := 36) (As := [zi (nI n), zi (nI t)]) (st := []) ck0 dX0_countBare_33 rfl rfl mkX0_isBare wt928 wt930 wp47 rfl (Nat.le_of_ble_eq_true rfl) (Nat.le_of_ble_eq_true rfl) (by decide) (by decide) (by decide) (Or.inl rfl) (hs.e (show b < 4 by omega)) hib (fun r33 S33 hp33 => ?_)
          obtain ⟨rfl, f1⟩ := hp33
          have hs1 := hs.fr f1
          have hc1 : WC S33 b W := hc.fr f1 (fun a k ha => by simp [tIb]; omega)
          have hL1 := hL.fr f1 (fun k => ⟨rfl, rfl⟩)
          have hM1 := hM.fr f1 (fun k => rfl)
          have hx1 := (f1.1 110 b n rfl).trans hx
          show Ok _ _ _ [zi (nI 1)] _ _
          refine r_if_eqN (q := 39) (t := 71) (by omega) dX0_countBare_36 (by decide) rfl (fun h36 => absurd h36 (by omega)) (fun h36 => ?_)
          refine r_iincN (q := 42) (L' := [some (zr 0 b), some (zi (nI n)), some (zi (nI (nB W n t + 1))), some (zi (nI t))]) 1 rfl dX0_countBare_39 rfl rfl (by decide) rfl ?_
          refine r_aload_n (q := 43) dX0_countBare_42 rfl rfl rfl ?_
          refine r_getr (q := 46) (some (110, b)) ck0 dX0_countBare_43 rfl (k := 10) (by decide) wt388 rfl (hs1.e (show b < 4 by omega)) (hs1.r (show b < 4 by omega) (by decide)) ?_
          refine r_iload_n (q := 47) dX0_countBare_46 rfl rfl rfl ?_
          refine r_aload_n (q := 48) dX0_countBare_47 rfl rfl rfl ?_
          refine r_getr (q := 51) (some (110, b)) ck0 dX0_countBare_48 rfl (k := 10) (by decide) wt388 rfl (hs1.e (show b < 4 by omega)) (hs1.r (show b < 4 by omega) (by decide)) ?_
          refine r_iload_n (q := 52) dX0_countBare_51 rfl rfl rfl ?_
          refine r_zaldN (q := 53) 8 (by decide) rfl dX0_countBare_52 rfl (hs1.e (show b < 4 by omega)) (hs1.n rfl (show b < 4 by omega)) (by omega) (by decide) ?_
          refine r_topi (y := nI 0) hx1 ?_
          refine r_if_neN (q := 56) (t := 65) (by omega) dX0_countBare_53 (by decide) rfl (fun h53 => absurd h53 (by omega)) (fun h53 => ?_)
          refine r_aload_n (q := 57) dX0_countBare_56 rfl rfl rfl ?_
          refine r_iload_n (q := 58) dX0_countBare_57 rfl rfl rfl ?_
          refine r_iload_n (q := 59) dX0_countBare_58 rfl rfl rfl ?_
          refine r_callV (Mc := mX0_isNormal) (q := 62) (As := [zi (nI n), zi (nI t)]) (st := [zi (nI n), zr 110 b]) ck0 dX0_countBare_59 rfl rfl mkX0_isNormal wt844 wt845 wt846 rfl (Nat.le_of_ble_eq_true rfl) (Nat.le_of_ble_eq_true rfl) (by decide) (by decide) (by decide) (Or.inl rfl) (hs1.e (show b < 4 by omega)) (ok_isNormal_n hs1 hb4 hn7 hL1 hM1 ht hm) (fun r59 S59 hp59 => ?_)
          obtain ⟨rfl, hq59⟩ := hp59
          rw [hq59]
          show Ok _ _ _ [zi (nI 0), zi (nI n), zr 110 b] _ _
          refine r_if_neN (q := 65) (t := 69) (by omega) dX0_countBare_62 (by decide) rfl (fun h62 => absurd h62 (by omega)) (fun h62 => ?_)
          refine r_iconst (q := 66) (nI 1) dX0_countBare_65 rfl (by decide) ?_
          refine r_goto (q := 70) dX0_countBare_66 (by decide) ?_
          refine r_zastN (q := 71) (by decide) 8 (by decide) rfl dX0_countBare_70 rfl (hs1.e (show b < 4 by omega)) (hs1.n rfl (show b < 4 by omega)) (by omega) (by decide) ?_
          refine r_iincN (q := 74) (L' := [some (zr 0 b), some (zi (nI n)), some (zi (nI (nB W n t + 1))), some (zi (nI (t + 1)))]) 1 rfl dX0_countBare_71 rfl rfl (by decide) rfl ?_
          refine r_goto (q := 21) dX0_countBare_74 (by decide) ?_
          have f2 : Fr (tCb b n) S33 (sI S33 110 b n (nI 1)) := (Fr.rf).i (by simp [tCb])
          have f3 : Fr (fun x y k => x == 110) S33 (sI S33 110 b n (nI 1)) := (Fr.rf).i (by simp)
          have q := ih (t + 1) (sI S33 110 b n (nI 1)) true (by omega) (hs1.fr f2) (hc1.fr f3 (fun a k ha => by simp; omega)) (hL1.fr f3 (fun k => ⟨rfl, rfl⟩)) (hM1.fr f3 (fun k => rfl)) (by rw [gI_sI, if_pos ⟨rfl, rfl, rfl⟩]; rfl) (⟨fun _ => Unc.step.mpr (Or.inr ⟨hB, hm⟩), fun _ => rfl⟩) (fun S1 y y1 y2 y3 => K S1 y (((f1.mono tCb_ib).tr f2).tr y1) y2 y3)
          rw [hnb] at q
          exact q

theorem lvC_uniq {W : zWd} (hW : Wok W) {mk mk' : Nat → Nat → Nat} {rl rl' : Nat → Nat → Nat → Nat} {n : Nat} (h : LvC W mk rl n) (h' : LvC W mk' rl' n) : ∀ t, t < (tl W n).length → (mk n t ≠ 0 ↔ mk' n t ≠ 0) := fun t ht => by
  have := (ech_uniq hW.1.1 tl_nodup LvC.ech h.red LvC.ech h'.red (fun u hu => by
    obtain ⟨s, hs, hm, rfl⟩ := hu
    exact Sp.le (h.1 s hs (mkb_t.mp hm)).2.1 h'.2.1) (fun u hu => by
    obtain ⟨s, hs, hm, rfl⟩ := hu
    exact Sp.le (h'.1 s hs (mkb_t.mp hm)).2.1 h.2.1) t ht).1
  rw [← mkb_t (mk := mk n), ← mkb_t (mk := mk' n), this]
/-- the numbers of bare trees that are kept -/
def Bc (S : zS) (b : Nat) (W : zWd) : Prop := ∀ n, 1 ≤ n → n ≤ 7 → gI S 109 b n = -1 ∨ gI S 109 b n = nI (nB W n (tl W n).length) ∧ ∃ x, gI S 110 b n = nI (b01 x) ∧ ∀ mk rl, LvC W mk rl n → (x = true ↔ Unc W n (mk n) (tl W n).length)
theorem Unc.eq {W : zWd} {n k : Nat} {mk mk' : Nat → Nat} (h : ∀ t, t < k → (mk t ≠ 0 ↔ mk' t ≠ 0)) : Unc W n mk k ↔ Unc W n mk' k := ⟨fun ⟨t, a, b, c⟩ => ⟨t, a, b, (h t a).mp c⟩, fun ⟨t, a, b, c⟩ => ⟨t, a, b, (h t a).mpr c⟩⟩
theorem nI_neg {k : Nat} (h : k ≤ 300) : nI k ≠ -1 := fun z => by
  have h1 := congrArg Int32.toInt z
  rw [nI_toInt (by omega)] at h1
  have h2 : (-1 : Int32).toInt = -1 := by decide
  omega

set_option maxRecDepth 100000 in
theorem ok_countBare_y {S : zS} (hs : Sd S) {b : Nat} (hb4 : b < 4) {W : zWd} (hW : Wok W) (hc : WC S b W) {n0 : Nat} {mk : Nat → Nat → Nat} {rl : Nat → Nat → Nat → Nat} (hB : CB S b W n0 mk rl) (hbc : Bc S b W) {n : Nat} (hn1 : 1 ≤ n) (hn7 : n ≤ 7) (hn : n ≤ n0) (h9 : gI S 109 b n = nI (nB W n (tl W n).length)) {x : Bool} (hx : gI S 110 b n = nI (b01 x)) (hy : ∀ mk rl, LvC W mk rl n → (x = true ↔ Unc W n (mk n) (tl W n).length)) : Ok mX0_countBare 0 (ent 4 [zr 0 b, zi (nI n)]) [] S (fun r S1 => r = some (zi (nI (nB W n (tl W n).length))) ∧ Fr (tCb b n) S S1 ∧ Bc S1 b W ∧ ∃ x, gI S1 110 b n = nI (b01 x) ∧ (x = true ↔ Unc W n (mk n) (tl W n).length)) := by
  obtain ⟨hL, hM, hU⟩ := hB.2.2.2.1 n hn1 hn
  have hT300 := hL.2.2.2.1
  have hle := nB_le (W := W) (n := n) (tl W n).length
  have hlc := (hB.2.2.2.2.2.2.2.2.2 n hn1 hn).2
  show Ok mX0_countBare 0 [some (zr 0 b), some (zi (nI n)), none, none] [] S _
  refine r_aload_n (q := 1) dX0_countBare_0 rfl rfl rfl ?_
  refine r_getr (q := 4) (some (109, b)) ck0 dX0_countBare_1 rfl (k := 9) (by decide) wt387 rfl (hs.e (show b < 4 by omega)) (hs.r (show b < 4 by omega) (by decide)) ?_
  refine r_iload_n (q := 5) dX0_countBare_4 rfl rfl rfl ?_
  refine r_ialdN (q := 6) 8 (by decide) rfl dX0_countBare_5 rfl (hs.e (show b < 4 by omega)) (hs.n rfl (show b < 4 by omega)) (by omega) (by decide) ?_
  refine r_topi (y := nI (nB W n (tl W n).length)) h9 ?_
  refine r_iconst (q := 7) ((-1 : Int32)) dX0_countBare_6 rfl (by decide) ?_
  refine r_icmp_ne (q := 10) (t := 84) dX0_countBare_7 (by decide) rfl (fun h7 => ?_) (fun h7 => absurd h7 (fun z => z (nI_neg (by omega))))
  refine r_aload_n (q := 85) dX0_countBare_84 rfl rfl rfl ?_
  refine r_getr (q := 88) (some (109, b)) ck0 dX0_countBare_85 rfl (k := 9) (by decide) wt387 rfl (hs.e (show b < 4 by omega)) (hs.r (show b < 4 by omega) (by decide)) ?_
  refine r_iload_n (q := 89) dX0_countBare_88 rfl rfl rfl ?_
  refine r_ialdN (q := 90) 8 (by decide) rfl dX0_countBare_89 rfl (hs.e (show b < 4 by omega)) (hs.n rfl (show b < 4 by omega)) (by omega) (by decide) ?_
  refine r_topi (y := nI (nB W n (tl W n).length)) h9 ?_
  refine r_ireturn dX0_countBare_90 rfl ?_
  exact ⟨rfl, Fr.rf, hbc, x, hx, hy mk rl hlc⟩

set_option maxRecDepth 100000 in
theorem ok_countBare_n {S : zS} (hs : Sd S) {b : Nat} (hb4 : b < 4) {W : zWd} (hW : Wok W) (hc : WC S b W) {n0 : Nat} {mk : Nat → Nat → Nat} {rl : Nat → Nat → Nat → Nat} (hB : CB S b W n0 mk rl) (hbc : Bc S b W) {n : Nat} (hn1 : 1 ≤ n) (hn7 : n ≤ 7) (hn : n ≤ n0) (h9 : gI S 109 b n = -1) : Ok mX0_countBare 0 (ent 4 [zr 0 b, zi (nI n)]) [] S (fun r S1 => r = some (zi (nI (nB W n (tl W n).length))) ∧ Fr (tCb b n) S S1 ∧ Bc S1 b W ∧ ∃ x, gI S1 110 b n = nI (b01 x) ∧ (x = true ↔ Unc W n (mk n) (tl W n).length)) := by
  obtain ⟨hL, hM, hU⟩ := hB.2.2.2.1 n hn1 hn
  have hT300 := hL.2.2.2.1
  have hle := nB_le (W := W) (n := n) (tl W n).length
  have hlc := (hB.2.2.2.2.2.2.2.2.2 n hn1 hn).2
  show Ok mX0_countBare 0 [some (zr 0 b), some (zi (nI n)), none, none] [] S _
  refine r_aload_n (q := 1) dX0_countBare_0 rfl rfl rfl ?_
  refine r_getr (q := 4) (some (109, b)) ck0 dX0_countBare_1 rfl (k := 9) (by decide) wt387 rfl (hs.e (show b < 4 by omega)) (hs.r (show b < 4 by omega) (by decide)) ?_
  refine r_iload_n (q := 5) dX0_countBare_4 rfl rfl rfl ?_
  refine r_ialdN (q := 6) 8 (by decide) rfl dX0_countBare_5 rfl (hs.e (show b < 4 by omega)) (hs.n rfl (show b < 4 by omega)) (by omega) (by decide) ?_
  refine r_iconst (q := 7) ((-1 : Int32)) dX0_countBare_6 rfl (by decide) ?_
  refine r_icmp_ne (q := 10) (t := 84) dX0_countBare_7 (by decide) rfl (fun h7 => absurd h7 (fun z => z h9)) (fun h7 => ?_)
  refine r_iconst (q := 11) (nI 0) dX0_countBare_10 rfl (by decide) ?_
  refine r_istore_n (q := 12) (L' := [some (zr 0 b), some (zi (nI n)), some (zi (nI 0)), none]) dX0_countBare_11 rfl rfl (by decide) rfl ?_
  refine r_aload_n (q := 13) dX0_countBare_12 rfl rfl rfl ?_
  refine r_getr (q := 16) (some (110, b)) ck0 dX0_countBare_13 rfl (k := 10) (by decide) wt388 rfl (hs.e (show b < 4 by omega)) (hs.r (show b < 4 by omega) (by decide)) ?_
  refine r_iload_n (q := 17) dX0_countBare_16 rfl rfl rfl ?_
  refine r_iconst (q := 18) (nI 0) dX0_countBare_17 rfl (by decide) ?_
  refine r_zastN (q := 19) (by decide) 8 (by decide) rfl dX0_countBare_18 rfl (hs.e (show b < 4 by omega)) (hs.n rfl (show b < 4 by omega)) (by omega) (by decide) ?_
  refine r_iconst (q := 20) (nI 0) dX0_countBare_19 rfl (by decide) ?_
  refine r_istore_n (q := 21) (L' := [some (zr 0 b), some (zi (nI n)), some (zi (nI 0)), some (zi (nI 0))]) dX0_countBare_20 rfl rfl (by decide) rfl ?_
  have f0 : Fr (tCb b n) S (sI S 110 b n (nI 0)) := (Fr.rf).i (by simp [tCb])
  have f9 : Fr (fun x y k => x == 110) S (sI S 110 b n (nI 0)) := (Fr.rf).i (by simp)
  refine lp_cb21 (S := sI S 110 b n (nI 0)) (x := false) hb4 hW hn7 (mk := mk n) (tl W n).length 0 (by omega) hs (hc.fr f9 (fun a k ha => by simp; omega)) (hL.fr f9 (fun k => ⟨rfl, rfl⟩)) (hM.fr f9 (fun k => rfl)) (by rw [gI_sI, if_pos ⟨rfl, rfl, rfl⟩]; rfl) ⟨fun z => (by cases z), fun ⟨t, a, _⟩ => absurd a (by omega)⟩ (fun S1 y y1 y2 y3 => ?_)
  have f1 : Fr (tCb b n) S S1 := f0.tr y1
  have hs1 := hs.fr f1
  refine r_aload_n (q := 78) dX0_countBare_77 rfl rfl rfl ?_
  refine r_getr (q := 81) (some (109, b)) ck0 dX0_countBare_78 rfl (k := 9) (by decide) wt387 rfl (hs1.e (show b < 4 by omega)) (hs1.r (show b < 4 by omega) (by decide)) ?_
  refine r_iload_n (q := 82) dX0_countBare_81 rfl rfl rfl ?_
  refine r_iload_n (q := 83) dX0_countBare_82 rfl rfl rfl ?_
  refine r_iastN (q := 84) 8 (by decide) rfl dX0_countBare_83 rfl (hs1.e (show b < 4 by omega)) (hs1.n rfl (show b < 4 by omega)) (by omega) (by decide) ?_
  refine r_aload_n (q := 85) dX0_countBare_84 rfl rfl rfl ?_
  refine r_getr (q := 88) (some (109, b)) ck0 dX0_countBare_85 rfl (k := 9) (by decide) wt387 rfl (hs1.e (show b < 4 by omega)) (hs1.r (show b < 4 by omega) (by decide)) ?_
  refine r_iload_n (q := 89) dX0_countBare_88 rfl rfl rfl ?_
  refine r_ialdN (q := 90) 8 (by decide) rfl dX0_countBare_89 rfl (hs1.e (show b < 4 by omega)) (hs1.n rfl (show b < 4 by omega)) (by omega) (by decide) ?_
  refine r_topi (y := nI (nB W n (tl W n).length)) (by simp [gI_sI, gJ_sJ, gI_sJ, gJ_sI]) ?_
  refine r_ireturn dX0_countBare_90 rfl ?_
  have f2 : Fr (tCb b n) S (sI S1 109 b n (nI (nB W n (tl W n).length))) := f1.i (by simp [tCb])
  refine ⟨rfl, f2, fun m m1 m7 => ?_, y, by rw [gI_sI, if_neg (by omega)]; exact y2, y3⟩
  by_cases e : m = n
  · subst e
    refine Or.inr ⟨by rw [gI_sI, if_pos ⟨rfl, rfl, rfl⟩], y, by rw [gI_sI, if_neg (by omega)]; exact y2, fun mk' rl' h' => y3.trans (Unc.eq (lvC_uniq hW hlc h'))⟩
  · have e1 : gI (sI S1 109 b n (nI (nB W n (tl W n).length))) 109 b m = gI S 109 b m := f2.1 _ _ _ (by simp [tCb, tIb]; omega)
    have e2 : gI (sI S1 109 b n (nI (nB W n (tl W n).length))) 110 b m = gI S 110 b m := f2.1 _ _ _ (by simp [tCb, tIb]; omega)
    rw [e1, e2]
    exact hbc m m1 m7

theorem ok_countBare {S : zS} (hs : Sd S) {b : Nat} (hb4 : b < 4) {W : zWd} (hW : Wok W) (hc : WC S b W) {n0 : Nat} {mk : Nat → Nat → Nat} {rl : Nat → Nat → Nat → Nat} (hB : CB S b W n0 mk rl) (hbc : Bc S b W) {n : Nat} (hn1 : 1 ≤ n) (hn7 : n ≤ 7) (hn : n ≤ n0) : Ok mX0_countBare 0 (ent 4 [zr 0 b, zi (nI n)]) [] S (fun r S1 => r = some (zi (nI (nB W n (tl W n).length))) ∧ Fr (tCb b n) S S1 ∧ Bc S1 b W ∧ ∃ x, gI S1 110 b n = nI (b01 x) ∧ (x = true ↔ Unc W n (mk n) (tl W n).length)) := by
  rcases hbc n hn1 hn7 with h | ⟨h1, x, h2, h3⟩
  · exact ok_countBare_n hs hb4 hW hc hB hbc hn1 hn7 hn h
  · exact ok_countBare_y hs hb4 hW hc hB hbc hn1 hn7 hn h1 h2 h3

