set_option maxRecDepth 100000 in
set_option maxHeartbeats 8000000 in
theorem law_ok_of {NN : Nat} {Inv : Nat → zS → Prop} (hNN : NN ≤ 3072) (hinv : ∀ k S, Inv k S → Sd S ∧ gE S 5000 0 = true ∧ gN S 5000 0 = 1 ∧ gC S ≤ 601024 ∧ gQ S ≤ 7293033) (h_feed : pr_feed NN Inv) (h_end : pr_end NN Inv) (h_world : pr_world NN Inv) (h_fault : pr_fault NN Inv) (h_act : pr_act NN Inv) (h_law : pr_law NN Inv) (h_take : pr_take NN Inv) (h_trees : pr_trees NN Inv) (h_sum : pr_sum NN Inv) (h_leaves : pr_leaves NN Inv) (h_termAt : pr_termAt NN Inv) (h_reduce : pr_reduce NN Inv) (h_size : pr_size NN Inv) (h_normalAt : pr_normalAt NN Inv) (h_bare : pr_bare NN Inv) (h_closed : pr_closed NN Inv) (h_plug : pr_plug NN Inv) (h_times : pr_times NN Inv) (h_add : pr_add NN Inv) (h_undo : pr_undo NN Inv) (h_dual : pr_dual NN Inv) (h_koszul : pr_koszul NN Inv) (h_layered : pr_layered NN Inv) (h_map : pr_map NN Inv) (h_broken : pr_broken NN Inv) (h_space : pr_space NN Inv) (h_table : pr_table NN Inv) (h_holds : pr_holds NN Inv) (h_done : pr_done NN Inv) (h_drawn : pr_drawn NN Inv) (h_image : pr_image NN Inv) (h_restore : pr_restore NN Inv) (h_count : pr_count NN Inv) (h_term : pr_term NN Inv) (h_undone : pr_undone NN Inv) (hstay : ∀ k S, Inv k S → Inv (k + 1) S) (h0 : Inv 0 sStart) (n : Nat) (f : Nat → Int32) (hn : n ≤ NN) : Ok (mL_law n f) 0 [some (zr 77777 0), none, none, none, none, none, none, none] [] z0 (fun r S1 => r = some (zi (nI 1)) ∧ gC S1 ≤ 601024 ∧ gQ S1 ≤ 7293033) := by
  refine r_new (q := 3) (a := 11) (b := 0) (Nat.le_of_ble_eq_true rfl) ck11 (by decide) dL_law_0 rfl wt21 wt22 wt1 (by decide +kernel) rfl rfl ?_
  refine r_dup (q := 4) dL_law_3 rfl rfl ?_
  refine r_callI (Mc := mX11_init) (q := 7) (As := []) (st := [zr 11 0]) dL_law_4 rfl rfl mkX11_init rfl rfl wt23 wt24 rfl (Nat.le_of_ble_eq_true rfl) (Nat.le_of_ble_eq_true rfl) (Nat.le_of_ble_eq_true rfl) (Nat.le_of_ble_eq_true rfl) (Nat.le_of_ble_eq_true rfl) ⟨Or.inr rfl, trivial⟩ ⟨Or.inl ⟨(by decide +kernel), rfl⟩, trivial⟩ ok_X11_init (fun r4 S4 hp4 => ?_)
  obtain ⟨rfl, hq4⟩ := hp4
  rw [hq4]
  show Ok _ _ _ [zr 11 0] _ _
  refine r_astore_n (q := 8) (L' := [some (zr 77777 0), some (zr 11 0), none, none, none, none, none, none]) dL_law_7 rfl rfl (Nat.le_of_ble_eq_true rfl) rfl ?_
  refine r_new (q := 11) (a := 12) (b := 0) (Nat.le_of_ble_eq_true rfl) ck12 (by decide) dL_law_8 rfl wt1264 wt1258 wt14 (by decide +kernel) rfl rfl ?_
  refine r_dup (q := 12) dL_law_11 rfl rfl ?_
  refine r_callI (Mc := mX12_init) (q := 15) (As := []) (st := [zr 12 0]) dL_law_12 rfl rfl mkX12_init rfl rfl wt1265 wt1266 rfl (Nat.le_of_ble_eq_true rfl) (Nat.le_of_ble_eq_true rfl) (Nat.le_of_ble_eq_true rfl) (Nat.le_of_ble_eq_true rfl) (Nat.le_of_ble_eq_true rfl) ⟨Or.inr rfl, ⟨Or.inl ⟨(by decide +kernel), rfl⟩, trivial⟩⟩ ⟨Or.inl ⟨(by decide +kernel), rfl⟩, trivial⟩ ok_X12_init (fun r12 S12 hp12 => ?_)
  obtain ⟨rfl, hq12⟩ := hp12
  rw [hq12]
  show Ok _ _ _ [zr 12 0] _ _
  refine r_astore_n (q := 16) (L' := [some (zr 77777 0), some (zr 11 0), some (zr 12 0), none, none, none, none, none]) dL_law_15 rfl rfl (Nat.le_of_ble_eq_true rfl) rfl ?_
  refine r_iconst (q := 17) (nI 1) dL_law_16 rfl (by decide) ?_
  refine r_newa (q := 19) (a := 5000) (b := 0) (n := 1) (Or.inl (Nat.le_of_ble_eq_true rfl)) (by decide) (by decide) (by decide) rfl dL_law_17 rfl wt173 (by decide) (by decide +kernel) rfl rfl ?_
  refine r_astore_n (q := 20) (L' := [some (zr 77777 0), some (zr 11 0), some (zr 12 0), some (zr 5000 0), none, none, none, none]) dL_law_19 rfl rfl (Nat.le_of_ble_eq_true rfl) rfl ?_
  refine r_iconst (q := 21) (nI 0) dL_law_20 rfl (by decide) ?_
  refine r_istore (q := 23) (L' := [some (zr 77777 0), some (zr 11 0), some (zr 12 0), some (zr 5000 0), some (zi (nI 0)), none, none, none]) dL_law_21 rfl (Nat.le_of_ble_eq_true rfl) rfl ?_
  exact law_loop hNN hinv h_feed h_end h_world h_fault h_act h_law h_take h_trees h_sum h_leaves h_termAt h_reduce h_size h_normalAt h_bare h_closed h_plug h_times h_add h_undo h_dual h_koszul h_layered h_map h_broken h_space h_table h_holds h_done h_drawn h_image h_restore h_count h_term h_undone hstay hn n 0 0 _ rfl (by omega) (Nat.zero_le _) h0

