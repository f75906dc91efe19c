/-! Inv at the start, and the law's Ok -/
theorem rst_start : Rst sStart := by
  have hC : wqC w0 (fun a k => gI sStart a 0 k) (fun a k => gJ sStart a 0 k) := ⟨s0_9.1, s0_9.2.1, s0_9.2.2, fun a ha => absurd ha (Nat.not_lt_zero a), fun L hL => absurd hL (Nat.not_lt_zero L), fun L hL => by
    have : L = 0 := Nat.le_zero.mp hL
    rw [this]
    exact (s0_1006 0 (by omega)).1, fun L k hL _ => absurd hL (Nat.not_lt_zero L), fun m a b => s0_1009 m (by omega) a⟩
  have hR : wqR w0 (fun k => gI sStart 1306 0 (0 + k)) (fun i => gJ sStart 1308 0 (0 + i)) := ⟨s0_1306.1, s0_1306.2.1, s0_1306.2.2.1, fun a ha => absurd ha (Nat.not_lt_zero a), fun L hL => absurd hL (Nat.not_lt_zero L), fun L hL => by
    have : L = 0 := Nat.le_zero.mp hL
    rw [this]
    exact s0_1306.2.2.2.1, fun L k hL _ => absurd hL (Nat.not_lt_zero L)⟩
  have i0 := s0_1006 0 (by omega)
  have r0 : rfr w0 (0 + 1) = 0 := by show 0 + tri 0 = 0; decide
  have hB0 : CB sStart 0 w0 0 (fun _ _ => 0) (fun _ _ _ => 0) := ⟨s0_0.1, by omega, fun k hk => by rw [show k = 0 by omega]; exact (Nat.zero_le _ : tc w0 0 ≤ 300), fun k a b => absurd a (by omega), i0.2.1, i0.2.2.1.trans (by rw [r0]), by rw [r0]; exact Nat.zero_le _, by rw [i0.2.2.2]; omega, by rw [i0.2.2.2]; omega, fun k a b => absurd a (by omega)⟩
  refine ⟨0, w0, [], 0, 0, by omega, s0_3, ⟨wok0, hC, hR⟩, tape_nil s0_tp.1 s0_tp.2, ⟨1, by omega, by omega, s0_7, s0_1306.2.2.2.2.1, fun k hk => ?_⟩, fun k hk => ⟨0, (s0_tb k hk).1, by decide⟩, ?_, ⟨1, 0, s0_8.1, s0_1306.2.2.2.2.2.1, s0_8.2, s0_1306.2.2.2.2.2.2, by omega, [], rfl, sm_none wok0, fun k hk => absurd hk (Nat.not_lt_zero k)⟩, ⟨s0_ps.1, s0_ps.2.1, by omega, s0_ps.2.2, by omega, fun i hi => absurd hi (Nat.not_lt_zero i)⟩, fun j hj => ⟨32, 0, (s0_tl j hj).1, (s0_tl j hj).2.1, by omega, by omega, (s0_tl j hj).2.2, by omega⟩, fun m hm => Or.inl (s0_1204 m hm), s0_f, s0_b, ⟨⟨_, _, _, hB0⟩, fun z => absurd z s0_12.1, fun z => absurd z s0_12.1, ?_⟩, ?_, ?_, ⟨gN sStart 200 0, s0_200.1, rfl, s0_200.2.1, s0_200.2.2⟩⟩
  · rw [Nat.zero_add]
    exact (s0_tb k hk).1.trans (s0_tb k hk).2.symm
  · intro m hm s hs hq
    have h1 := (s0_1204 m hm).1.symm.trans hq
    have h2 := congrArg Int32.toInt h1
    rw [nI_toInt (by omega), show ((-1 : Int32)).toInt = -1 by decide] at h2
    omega
  · intro P p2 p97 hq
    exact absurd ((nI_eq (by omega) (by omega)).mp (s0_12.2.symm.trans hq)) (by omega)
  · intro b hb
    obtain ⟨j1, j2, j3, j4⟩ := s0_1006 b hb
    exact ⟨j1, j2, j3, by rw [j4]; omega, by rw [j4]; omega⟩
  · intro b hb hq
    have nm : ∀ m, m < 2 → gI sStart 1204 0 m ≠ nI b := fun m hm hq => by
      have h1 := (s0_1204 m hm).1.symm.trans hq
      have h2 := congrArg Int32.toInt h1
      rw [nI_toInt (by omega), show ((-1 : Int32)).toInt = -1 by decide] at h2
      omega
    have e : b = 0 := by
      rcases hq with q | q | q
      · exact ((nI_eq (by omega) (by omega)).mp (s0_3.symm.trans q)).symm
      · exact absurd q (nm 0 (by omega))
      · exact absurd q (nm 1 (by omega))
    subst e
    exact ⟨Slot.mk wok0 hC ⟨_, _, _, hB0⟩ (fun n n1 n7 => Or.inl (s0_109 n (by omega))), DcS.mk wok0 hC ⟨0, by omega, s0_0.2, fun mk R q k a c => absurd a (by omega)⟩⟩
def InvW (k : Nat) (S : zS) : Prop := Inv 600000 7000000 (min k 512) S
theorem invW_e {k : Nat} (h : k ≤ 512) : InvW k = Inv 600000 7000000 k := by
  funext S
  unfold InvW
  rw [Nat.min_eq_left h]
theorem invW_0 : InvW 0 sStart := ⟨⟨sd_sStart, s0_5.1, s0_5.2, by have := s0_room.1; omega, by have := s0_room.2; omega⟩, rst_start⟩
theorem invW_s (k : Nat) (S : zS) (h : InvW k S) : InvW (k + 1) S := by
  by_cases e : k + 1 ≤ 512
  · rw [invW_e e]
    rw [invW_e (by omega)] at h
    exact h.stay
  · unfold InvW at h ⊢
    rw [Nat.min_eq_right (by omega)] at h ⊢
    exact h
theorem invW_i (k : Nat) (S : zS) (h : InvW k S) : Sd S ∧ gE S 5000 0 = true ∧ gN S 5000 0 = 1 ∧ gC S ≤ 601024 ∧ gQ S ≤ 7293033 := by
  obtain ⟨⟨h1, h2, h3, h4, h5⟩, -⟩ := h
  exact ⟨h1, h2, h3, by omega, by omega⟩
theorem w_feed : pr_feed 3072 InvW := by
  unfold pr_feed
  intro k S
  by_cases hk : 6 * k + 6 ≤ 3072
  · have e1 := invW_e (k := k) (by omega)
    have e2 := invW_e (k := k + 1) (by omega)
    rw [e1, e2]
    exact st_feed (NN := 3072) (A0 := 600000) (B0 := 7000000) k S
  · intros
    omega
theorem w_end : pr_end 3072 InvW := by
  unfold pr_end
  intro k S
  by_cases hk : 6 * k + 6 ≤ 3072
  · have e1 := invW_e (k := k) (by omega)
    have e2 := invW_e (k := k + 1) (by omega)
    rw [e1, e2]
    exact st_end (NN := 3072) (A0 := 600000) (B0 := 7000000) k S
  · intros
    omega
theorem w_world : pr_world 3072 InvW := by
  unfold pr_world
  intro k S
  by_cases hk : 6 * k + 6 ≤ 3072
  · have e1 := invW_e (k := k) (by omega)
    have e2 := invW_e (k := k + 1) (by omega)
    rw [e1, e2]
    exact st_world (NN := 3072) (A0 := 600000) (B0 := 7000000) k S
  · intros
    omega
theorem w_fault : pr_fault 3072 InvW := by
  unfold pr_fault
  intro k S
  by_cases hk : 6 * k + 6 ≤ 3072
  · have e1 := invW_e (k := k) (by omega)
    have e2 := invW_e (k := k + 1) (by omega)
    rw [e1, e2]
    exact st_fault (NN := 3072) (A0 := 600000) (B0 := 7000000) k S
  · intros
    omega
theorem w_act : pr_act 3072 InvW := by
  unfold pr_act
  intro k S
  by_cases hk : 6 * k + 6 ≤ 3072
  · have e1 := invW_e (k := k) (by omega)
    have e2 := invW_e (k := k + 1) (by omega)
    rw [e1, e2]
    exact st_act (NN := 3072) (A0 := 600000) (B0 := 7000000) k S
  · intros
    omega
theorem w_law : pr_law 3072 InvW := by
  unfold pr_law
  intro k S
  by_cases hk : 6 * k + 6 ≤ 3072
  · have e1 := invW_e (k := k) (by omega)
    have e2 := invW_e (k := k + 1) (by omega)
    rw [e1, e2]
    exact st_law (NN := 3072) (A0 := 600000) (B0 := 7000000) k S
  · intros
    omega
theorem w_take : pr_take 3072 InvW := by
  unfold pr_take
  intro k S
  by_cases hk : 6 * k + 6 ≤ 3072
  · have e1 := invW_e (k := k) (by omega)
    have e2 := invW_e (k := k + 1) (by omega)
    rw [e1, e2]
    exact st_take (NN := 3072) (A0 := 600000) (B0 := 7000000) k S
  · intros
    omega
theorem w_trees : pr_trees 3072 InvW := by
  unfold pr_trees
  intro k S
  by_cases hk : 6 * k + 6 ≤ 3072
  · have e1 := invW_e (k := k) (by omega)
    have e2 := invW_e (k := k + 1) (by omega)
    rw [e1, e2]
    exact st_trees (NN := 3072) (A0 := 600000) (B0 := 7000000) k S
  · intros
    omega
theorem w_sum : pr_sum 3072 InvW := by
  unfold pr_sum
  intro k S
  by_cases hk : 6 * k + 6 ≤ 3072
  · have e1 := invW_e (k := k) (by omega)
    have e2 := invW_e (k := k + 1) (by omega)
    rw [e1, e2]
    exact st_sum (NN := 3072) (A0 := 600000) (B0 := 7000000) k S
  · intros
    omega
theorem w_leaves : pr_leaves 3072 InvW := by
  unfold pr_leaves
  intro k S
  by_cases hk : 6 * k + 6 ≤ 3072
  · have e1 := invW_e (k := k) (by omega)
    have e2 := invW_e (k := k + 1) (by omega)
    rw [e1, e2]
    exact st_leaves (NN := 3072) (A0 := 600000) (B0 := 7000000) k S
  · intros
    omega
theorem w_termAt : pr_termAt 3072 InvW := by
  unfold pr_termAt
  intro k S
  by_cases hk : 6 * k + 6 ≤ 3072
  · have e1 := invW_e (k := k) (by omega)
    have e2 := invW_e (k := k + 1) (by omega)
    rw [e1, e2]
    exact st_termAt (NN := 3072) (A0 := 600000) (B0 := 7000000) k S
  · intros
    omega
theorem w_reduce : pr_reduce 3072 InvW := by
  unfold pr_reduce
  intro k S
  by_cases hk : 6 * k + 6 ≤ 3072
  · have e1 := invW_e (k := k) (by omega)
    have e2 := invW_e (k := k + 1) (by omega)
    rw [e1, e2]
    exact st_reduce (NN := 3072) (A0 := 600000) (B0 := 7000000) k S
  · intros
    omega
theorem w_size : pr_size 3072 InvW := by
  unfold pr_size
  intro k S
  by_cases hk : 6 * k + 6 ≤ 3072
  · have e1 := invW_e (k := k) (by omega)
    have e2 := invW_e (k := k + 1) (by omega)
    rw [e1, e2]
    exact st_size (NN := 3072) (A0 := 600000) (B0 := 7000000) k S
  · intros
    omega
theorem w_normalAt : pr_normalAt 3072 InvW := by
  unfold pr_normalAt
  intro k S
  by_cases hk : 6 * k + 6 ≤ 3072
  · have e1 := invW_e (k := k) (by omega)
    have e2 := invW_e (k := k + 1) (by omega)
    rw [e1, e2]
    exact st_normalAt (NN := 3072) (A0 := 600000) (B0 := 7000000) k S
  · intros
    omega
theorem w_bare : pr_bare 3072 InvW := by
  unfold pr_bare
  intro k S
  by_cases hk : 6 * k + 6 ≤ 3072
  · have e1 := invW_e (k := k) (by omega)
    have e2 := invW_e (k := k + 1) (by omega)
    rw [e1, e2]
    exact st_bare (NN := 3072) (A0 := 600000) (B0 := 7000000) k S
  · intros
    omega
theorem w_closed : pr_closed 3072 InvW := by
  unfold pr_closed
  intro k S
  by_cases hk : 6 * k + 6 ≤ 3072
  · have e1 := invW_e (k := k) (by omega)
    have e2 := invW_e (k := k + 1) (by omega)
    rw [e1, e2]
    exact st_closed (NN := 3072) (A0 := 600000) (B0 := 7000000) k S
  · intros
    omega
theorem w_plug : pr_plug 3072 InvW := by
  unfold pr_plug
  intro k S
  by_cases hk : 6 * k + 6 ≤ 3072
  · have e1 := invW_e (k := k) (by omega)
    have e2 := invW_e (k := k + 1) (by omega)
    rw [e1, e2]
    exact st_plug (NN := 3072) (A0 := 600000) (B0 := 7000000) k S
  · intros
    omega
theorem w_times : pr_times 3072 InvW := by
  unfold pr_times
  intro k S
  by_cases hk : 6 * k + 6 ≤ 3072
  · have e1 := invW_e (k := k) (by omega)
    have e2 := invW_e (k := k + 1) (by omega)
    rw [e1, e2]
    exact st_times (NN := 3072) (A0 := 600000) (B0 := 7000000) k S
  · intros
    omega
theorem w_add : pr_add 3072 InvW := by
  unfold pr_add
  intro k S
  by_cases hk : 6 * k + 6 ≤ 3072
  · have e1 := invW_e (k := k) (by omega)
    have e2 := invW_e (k := k + 1) (by omega)
    rw [e1, e2]
    exact st_add (NN := 3072) (A0 := 600000) (B0 := 7000000) k S
  · intros
    omega
theorem w_undo : pr_undo 3072 InvW := by
  unfold pr_undo
  intro k S
  by_cases hk : 6 * k + 6 ≤ 3072
  · have e1 := invW_e (k := k) (by omega)
    have e2 := invW_e (k := k + 1) (by omega)
    rw [e1, e2]
    exact st_undo (NN := 3072) (A0 := 600000) (B0 := 7000000) k S
  · intros
    omega
theorem w_dual : pr_dual 3072 InvW := by
  unfold pr_dual
  intro k S
  by_cases hk : 6 * k + 6 ≤ 3072
  · have e1 := invW_e (k := k) (by omega)
    have e2 := invW_e (k := k + 1) (by omega)
    rw [e1, e2]
    exact st_dual (NN := 3072) (A0 := 600000) (B0 := 7000000) k S
  · intros
    omega
theorem w_koszul : pr_koszul 3072 InvW := by
  unfold pr_koszul
  intro k S
  by_cases hk : 6 * k + 6 ≤ 3072
  · have e1 := invW_e (k := k) (by omega)
    have e2 := invW_e (k := k + 1) (by omega)
    rw [e1, e2]
    exact st_koszul (NN := 3072) (A0 := 600000) (B0 := 7000000) k S
  · intros
    omega
theorem w_layered : pr_layered 3072 InvW := by
  unfold pr_layered
  intro k S
  by_cases hk : 6 * k + 6 ≤ 3072
  · have e1 := invW_e (k := k) (by omega)
    have e2 := invW_e (k := k + 1) (by omega)
    rw [e1, e2]
    exact st_layered (NN := 3072) (A0 := 600000) (B0 := 7000000) k S
  · intros
    omega
theorem w_map : pr_map 3072 InvW := by
  unfold pr_map
  intro k S
  by_cases hk : 6 * k + 6 ≤ 3072
  · have e1 := invW_e (k := k) (by omega)
    have e2 := invW_e (k := k + 1) (by omega)
    rw [e1, e2]
    exact st_map (NN := 3072) (A0 := 600000) (B0 := 7000000) k S
  · intros
    omega
theorem w_broken : pr_broken 3072 InvW := by
  unfold pr_broken
  intro k S
  by_cases hk : 6 * k + 6 ≤ 3072
  · have e1 := invW_e (k := k) (by omega)
    have e2 := invW_e (k := k + 1) (by omega)
    rw [e1, e2]
    exact st_broken (NN := 3072) (A0 := 600000) (B0 := 7000000) k S
  · intros
    omega
theorem w_space : pr_space 3072 InvW := by
  unfold pr_space
  intro k S
  by_cases hk : 6 * k + 6 ≤ 3072
  · have e1 := invW_e (k := k) (by omega)
    have e2 := invW_e (k := k + 1) (by omega)
    rw [e1, e2]
    exact st_space (NN := 3072) (A0 := 600000) (B0 := 7000000) k S
  · intros
    omega
theorem w_table : pr_table 3072 InvW := by
  unfold pr_table
  intro k S
  by_cases hk : 6 * k + 6 ≤ 3072
  · have e1 := invW_e (k := k) (by omega)
    have e2 := invW_e (k := k + 1) (by omega)
    rw [e1, e2]
    exact st_table (NN := 3072) (A0 := 600000) (B0 := 7000000) k S
  · intros
    omega
theorem w_holds : pr_holds 3072 InvW := by
  unfold pr_holds
  intro k S
  by_cases hk : 6 * k + 6 ≤ 3072
  · have e1 := invW_e (k := k) (by omega)
    have e2 := invW_e (k := k + 1) (by omega)
    rw [e1, e2]
    exact st_holds (NN := 3072) (A0 := 600000) (B0 := 7000000) k S
  · intros
    omega
theorem w_done : pr_done 3072 InvW := by
  unfold pr_done
  intro k S
  by_cases hk : 6 * k + 6 ≤ 3072
  · have e1 := invW_e (k := k) (by omega)
    have e2 := invW_e (k := k + 1) (by omega)
    rw [e1, e2]
    exact st_done (NN := 3072) (A0 := 600000) (B0 := 7000000) k S
  · intros
    omega
theorem w_drawn : pr_drawn 3072 InvW := by
  unfold pr_drawn
  intro k S
  by_cases hk : 6 * k + 6 ≤ 3072
  · have e1 := invW_e (k := k) (by omega)
    have e2 := invW_e (k := k + 1) (by omega)
    rw [e1, e2]
    exact st_drawn (NN := 3072) (A0 := 600000) (B0 := 7000000) k S
  · intros
    omega
theorem w_image : pr_image 3072 InvW := by
  unfold pr_image
  intro k S
  by_cases hk : 6 * k + 6 ≤ 3072
  · have e1 := invW_e (k := k) (by omega)
    have e2 := invW_e (k := k + 1) (by omega)
    rw [e1, e2]
    exact st_image (NN := 3072) (A0 := 600000) (B0 := 7000000) k S
  · intros
    omega
theorem w_restore : pr_restore 3072 InvW := by
  unfold pr_restore
  intro k S
  by_cases hk : 6 * k + 6 ≤ 3072
  · have e1 := invW_e (k := k) (by omega)
    have e2 := invW_e (k := k + 1) (by omega)
    rw [e1, e2]
    exact st_restore (NN := 3072) (A0 := 600000) (B0 := 7000000) k S
  · intros
    omega
theorem w_count : pr_count 3072 InvW := by
  unfold pr_count
  intro k S
  by_cases hk : 6 * k + 6 ≤ 3072
  · have e1 := invW_e (k := k) (by omega)
    have e2 := invW_e (k := k + 1) (by omega)
    rw [e1, e2]
    exact st_count (NN := 3072) (A0 := 600000) (B0 := 7000000) k S
  · intros
    omega
theorem w_term : pr_term 3072 InvW := by
  unfold pr_term
  intro n f k S
  by_cases hk : 6 * k + 6 ≤ 3072
  · have e1 := invW_e (k := k) (by omega)
    have e2 := invW_e (k := k + 1) (by omega)
    rw [e1, e2]
    exact st_term (NN := 3072) (A0 := 600000) (B0 := 7000000) n f k S
  · intros
    omega
theorem w_undone : pr_undone 3072 InvW := by
  unfold pr_undone
  intro n f k S
  by_cases hk : 6 * k + 6 ≤ 3072
  · have e1 := invW_e (k := k) (by omega)
    have e2 := invW_e (k := k + 1) (by omega)
    rw [e1, e2]
    exact st_undone (NN := 3072) (A0 := 600000) (B0 := 7000000) n f k S
  · intros
    omega
theorem law_okW (n : Nat) (f : Nat → Int32) (hn : n ≤ 3072) : Ok (mL_law n f) 0 [some (zr 77777 0), none, none, none, none, none, none, none] [] z0 (fun r S1 => r = some (zi (nI 1)) ∧ gC S1 ≤ 601024 ∧ gQ S1 ≤ 7293033) := law_ok_of (Nat.le_refl _) invW_i w_feed w_end w_world w_fault w_act w_law w_take w_trees w_sum w_leaves w_termAt w_reduce w_size w_normalAt w_bare w_closed w_plug w_times w_add w_undo w_dual w_koszul w_layered w_map w_broken w_space w_table w_holds w_done w_drawn w_image w_restore w_count w_term w_undone invW_s invW_0 n f hn
