theorem tk_get {r : List Nat} {rs : List (List Nat)} {i : Nat} (h : i < r.length) : (tk (r :: rs)).getD i 0 = r.getD i 0 := by
  rw [tk_cons, List.getD_eq_getElem?_getD, List.getD_eq_getElem?_getD, List.getElem?_append_left h]
theorem tk_get0 {r : List Nat} {rs : List (List Nat)} : (tk (r :: rs)).getD r.length 0 = 0 := by
  rw [tk_cons, List.getD_eq_getElem?_getD, List.getElem?_append_right (Nat.le_refl _), Nat.sub_self]; rfl
theorem tk_getS {r : List Nat} {rs : List (List Nat)} {i : Nat} : (tk (r :: rs)).getD (r.length + 1 + i) 0 = (tk rs).getD i 0 := by
  rw [tk_cons, List.getD_eq_getElem?_getD, List.getD_eq_getElem?_getD, List.getElem?_append_right (by omega), show r.length + 1 + i - r.length = i + 1 by omega, List.getElem?_cons_succ]

set_option maxRecDepth 100000 in
theorem lp_cd0_702 {Po : Option zV → zS → Prop} {S : zS} (hs : Sd S) {b : Nat} (hb5 : b < 5) {fr to : Nat} (hto : to ≤ 13) {key sh rf : Int32} : ∀ (r : List Nat) (p : Nat), (∀ k, k ∈ r → 1 ≤ k ∧ k ≤ 3) → p + r.length < to → (∀ i, i < r.length → gI S 702 b (p + i) = nI (nd (r.getD i 0))) → Ok mX6_code 12 [some (zr 702 b), some (zi (nI fr)), some (zi (nI to)), some (zi key), some (zi sh), some (zi rf), some (zi (nI (p + r.length))), none] [] S Po → Ok mX6_code 12 [some (zr 702 b), some (zi (nI fr)), some (zi (nI to)), some (zi key), some (zi sh), some (zi rf), some (zi (nI p)), none] [] S Po := by
  intro r
  induction r with
  | nil => exact fun p _ _ _ K => K
  | cons k r ih =>
    intro p h3 hp hr K
    have hk := h3 k List.mem_cons_self
    have r0 : gI S 702 b p = nI (k - 1) := by have := hr 0 (by simp); rw [Nat.add_zero] at this; rw [this]; show nI (nd k) = _; unfold nd; rw [if_neg (by omega)]
    rw [List.length_cons] at hp K
    refine r_iload (q := 14) dX6_code_12 rfl rfl ?_
    refine r_if_ltN (q := 17) (t := 112) (by omega) dX6_code_14 (by decide) rfl ?_
    refine r_iload (q := 19) dX6_code_17 rfl rfl ?_
    refine r_iload_n (q := 20) dX6_code_19 rfl rfl rfl ?_
    refine r_icmp_geN (q := 23) (t := 112) (by omega) (by omega) dX6_code_20 (by decide) rfl (fun h20 => absurd h20 (by omega)) (fun h20 => ?_)
    refine r_iload (q := 25) dX6_code_23 rfl rfl ?_
    refine r_aload_n (q := 26) dX6_code_25 rfl rfl rfl ?_
    refine r_alen (q := 27) (by decide) (by decide) dX6_code_26 rfl (hs.e (show b < 5 by omega)) ?_
    refine r_topi (y := nI 13) (congrArg nI (hs.n rfl (show b < 5 by omega))) ?_
    refine r_icmp_geN (q := 30) (t := 112) (by omega) (by omega) dX6_code_27 (by decide) rfl (fun h27 => absurd h27 (by omega)) (fun h27 => ?_)
    refine r_aload_n (q := 31) dX6_code_30 rfl rfl rfl ?_
    refine r_iload (q := 33) dX6_code_31 rfl rfl ?_
    refine r_ialdN (q := 34) 13 (by decide) rfl dX6_code_33 rfl (hs.e (show b < 5 by omega)) (hs.n rfl (show b < 5 by omega)) (by omega) (by decide) ?_
    refine r_topi (y := nI (k - 1)) r0 ?_
    refine r_iconst (q := 35) (nI 3) dX6_code_34 rfl (by decide) ?_
    refine r_icmp_neN (q := 38) (t := 106) (by omega) (by omega) dX6_code_35 (by decide) rfl (fun h35 => ?_) (fun h35 => absurd h35 (by omega))
    refine r_iincN (q := 109) (L' := [some (zr 702 b), some (zi (nI fr)), some (zi (nI to)), some (zi key), some (zi sh), some (zi rf), some (zi (nI (p + 1))), none]) 1 rfl dX6_code_106 rfl rfl (by decide) rfl ?_
    refine r_goto (q := 12) dX6_code_109 (by decide) ?_
    refine ih (p + 1) (fun q hq => h3 q (List.mem_cons_of_mem _ hq)) (by omega) (fun i hi => by have := hr (i + 1) (by simp; omega); rw [show p + 1 + i = p + (i + 1) by omega]; exact this) (by rw [show p + 1 + r.length = p + (r.length + 1) by omega]; exact K)

set_option maxRecDepth 100000 in
theorem lp_cd2_702 {Po : Option zV → zS → Prop} {S : zS} (hs : Sd S) {b : Nat} (hb5 : b < 5) {fr to : Nat} (hto : to ≤ 13) {rf q : Nat} (hq : q < to) : ∀ (r : List Nat) (j kc B : Nat), (∀ k, k ∈ r → 1 ≤ k ∧ k ≤ 3) → j + r.length = q → (∀ i, i < r.length → gI S 702 b (j + i) = nI (nd (r.getD i 0))) → 2 * r.length ≤ B → B ≤ 30 → kc % 2 ^ B = 0 → kc + 2 ^ B ≤ 2 ^ 30 → Ok mX6_code 100 [some (zr 702 b), some (zi (nI fr)), some (zi (nI to)), some (zi (nI (kc + ac2 B r))), some (zi (nI (B - 2 * r.length))), some (zi (nI rf)), some (zi (nI q)), some (zi (nI q))] [] S Po → Ok mX6_code 65 [some (zr 702 b), some (zi (nI fr)), some (zi (nI to)), some (zi (nI kc)), some (zi (nI B)), some (zi (nI rf)), some (zi (nI q)), some (zi (nI j))] [] S Po := by
  intro r
  induction r with
  | nil =>
    intro j kc B h3 hj hr hB hB30 hm hk K
    obtain rfl : j = q := by simpa using hj
    refine r_iload (q := 67) dX6_code_65 rfl rfl ?_
    refine r_iload (q := 69) dX6_code_67 rfl rfl ?_
    refine r_icmp_geN (q := 72) (t := 100) (by omega) (by omega) dX6_code_69 (by decide) rfl (fun h69 => ?_) (fun h69 => absurd h69 (by omega))
    exact K
  | cons k r ih =>
    intro j kc B h3 hj hr hB hB30 hm hkc K
    have hk := h3 k List.mem_cons_self
    have r0 : gI S 702 b j = nI (k - 1) := by have := hr 0 (by simp); rw [Nat.add_zero] at this; rw [this]; show nI (nd k) = _; unfold nd; rw [if_neg (by omega)]
    rw [List.length_cons] at hj hB K
    have p4 : 2 ^ B = 4 * 2 ^ (B - 2) := by rw [show B = B - 2 + 2 by omega, Nat.pow_add]; simp; omega
    have hv : (k - 1) * 2 ^ (B - 2) ≤ 2 * 2 ^ (B - 2) := Nat.mul_le_mul_right _ (by omega)
    have hpos : 0 < 2 ^ (B - 2) := Nat.pow_pos (by omega)
    have hm' : (kc + (k - 1) * 2 ^ (B - 2)) % 2 ^ (B - 2) = 0 := by rw [Nat.add_mul_mod_self_right]; have := Nat.mod_mod_of_dvd kc (Nat.pow_dvd_pow 2 (show B - 2 ≤ B by omega)); rw [hm] at this; rw [← this]; rfl
    refine r_iload (q := 67) dX6_code_65 rfl rfl ?_
    refine r_iload (q := 69) dX6_code_67 rfl rfl ?_
    refine r_icmp_geN (q := 72) (t := 100) (by omega) (by omega) dX6_code_69 (by decide) rfl (fun h69 => absurd h69 (by omega)) (fun h69 => ?_)
    refine r_idecN (q := 75) (L' := [some (zr 702 b), some (zi (nI fr)), some (zi (nI to)), some (zi (nI kc)), some (zi (nI (B - 2))), some (zi (nI rf)), some (zi (nI q)), some (zi (nI j))]) 2 (by omega) rfl dX6_code_72 rfl rfl (by decide) rfl ?_
    refine r_iload_n (q := 76) dX6_code_75 rfl rfl rfl ?_
    refine r_iload (q := 78) dX6_code_76 rfl rfl ?_
    refine r_if_geN (q := 81) (t := 85) (by omega) dX6_code_78 (by decide) rfl ?_
    refine r_aload_n (q := 86) dX6_code_85 rfl rfl rfl ?_
    refine r_iload (q := 88) dX6_code_86 rfl rfl ?_
    refine r_ialdN (q := 89) 13 (by decide) rfl dX6_code_88 rfl (hs.e (show b < 5 by omega)) (hs.n rfl (show b < 5 by omega)) (by omega) (by decide) ?_
    refine r_topi (y := nI (k - 1)) r0 ?_
    refine r_iload (q := 91) dX6_code_89 rfl rfl ?_
    refine r_ishl (q := 92) dX6_code_91 rfl ?_
    refine r_topi (y := nI ((k - 1) * 2 ^ (B - 2))) (shl_N (by omega) (by omega)) ?_
    refine r_ior (q := 93) dX6_code_92 rfl ?_
    refine r_topi (y := nI (kc + (k - 1) * 2 ^ (B - 2))) (or_mod hm (by omega)) ?_
    refine r_istore_n (q := 94) (L' := [some (zr 702 b), some (zi (nI fr)), some (zi (nI to)), some (zi (nI (kc + (k - 1) * 2 ^ (B - 2)))), some (zi (nI (B - 2))), some (zi (nI rf)), some (zi (nI q)), some (zi (nI j))]) dX6_code_93 rfl rfl (by decide) rfl ?_
    refine r_iincN (q := 97) (L' := [some (zr 702 b), some (zi (nI fr)), some (zi (nI to)), some (zi (nI (kc + (k - 1) * 2 ^ (B - 2)))), some (zi (nI (B - 2))), some (zi (nI rf)), some (zi (nI q)), some (zi (nI (j + 1)))]) 1 rfl dX6_code_94 rfl rfl (by decide) rfl ?_
    refine r_goto (q := 65) dX6_code_97 (by decide) ?_
    refine ih (j + 1) _ (B - 2) (fun q hq => h3 q (List.mem_cons_of_mem _ hq)) (by omega) (fun i hi => by have := hr (i + 1) (by simp; omega); rw [show j + 1 + i = j + (i + 1) by omega]; exact this) (by omega) (by omega) hm' (by omega) (by rw [show B - 2 - 2 * r.length = B - 2 * (r.length + 1) by omega, Nat.add_assoc]; exact K)

set_option maxRecDepth 100000 in
theorem lp_cd1_702 {S : zS} (hs : Sd S) {b : Nat} (hb5 : b < 5) {fr to : Nat} (hto : to ≤ 13) : ∀ (rs : List (List Nat)) (p kc B : Nat), Ru rs → Bt B rs → B ≤ 30 → p + (tk rs).length = to → kc % 2 ^ B = 0 → kc + 2 ^ B ≤ 2 ^ 30 → (∀ i, i < (tk rs).length → gI S 702 b (p + i) = nI (nd ((tk rs).getD i 0))) → Ok mX6_code 12 [some (zr 702 b), some (zi (nI fr)), some (zi (nI to)), some (zi (nI kc)), some (zi (nI B)), some (zi (nI p)), some (zi (nI p)), none] [] S (fun r S1 => r = some (zi (nI (kc + kr B rs))) ∧ S1 = S) := by
  intro rs
  induction rs with
  | nil =>
    intro p kc B hr hb hB hp hm hk hrow
    obtain rfl : p = to := by simpa [tk] using hp
    refine r_iload (q := 14) dX6_code_12 rfl rfl ?_
    refine r_if_ltN (q := 17) (t := 112) (by omega) dX6_code_14 (by decide) rfl ?_
    refine r_iload (q := 19) dX6_code_17 rfl rfl ?_
    refine r_iload_n (q := 20) dX6_code_19 rfl rfl rfl ?_
    refine r_icmp_geN (q := 23) (t := 112) (by omega) (by omega) dX6_code_20 (by decide) rfl (fun h20 => ?_) (fun h20 => absurd h20 (by omega))
    refine r_iload_n (q := 113) dX6_code_112 rfl rfl rfl ?_
    refine r_ireturn dX6_code_113 rfl ?_
    exact ⟨rfl, rfl⟩
  | cons r rs ih =>
    intro p kc B hr hb hB hp hm hk hrow
    have hl : (tk (r :: rs)).length = r.length + ((tk rs).length + 1) := by rw [tk_cons, List.length_append, List.length_cons]
    rw [hl] at hp
    have r0 : gI S 702 b (p + r.length) = nI 3 := by rw [hrow r.length (by omega), tk_get0]; rfl
    have hpos : 0 < 2 ^ B := Nat.pow_pos (by omega)
    refine lp_cd0_702 hs hb5 hto r p hr.hd (by omega) (fun i hi => by rw [hrow i (by omega), tk_get hi]) ?_
    have hrow' : ∀ i, i < (tk rs).length → gI S 702 b (p + r.length + 1 + i) = nI (nd ((tk rs).getD i 0)) := fun i hi => by rw [show p + r.length + 1 + i = p + (r.length + 1 + i) by omega, hrow _ (by omega), tk_getS]
    by_cases he : rs = []
    · have e0 := hb.1 he
      subst e0
      subst he
      have hlt : p < to := by simp at hp; omega
      have r0 : gI S 702 b p = nI 3 := r0
      have ep : p + 1 = to := by simp [tk] at hp; omega
      have ekr : kr B [[]] = 0 := by simp [kr, ac2]
      rw [ekr, Nat.add_zero]
      show Ok mX6_code 12 [some (zr 702 b), some (zi (nI fr)), some (zi (nI to)), some (zi (nI kc)), some (zi (nI B)), some (zi (nI p)), some (zi (nI p)), none] [] S _
      rcases (show B = 0 ∨ B = 1 ∨ B = 2 ∨ 3 ≤ B by omega) with rfl | rfl | rfl | h3
      · refine r_iload (q := 14) dX6_code_12 rfl rfl ?_
        refine r_if_ltN (q := 17) (t := 112) (by omega) dX6_code_14 (by decide) rfl ?_
        refine r_iload (q := 19) dX6_code_17 rfl rfl ?_
        refine r_iload_n (q := 20) dX6_code_19 rfl rfl rfl ?_
        refine r_icmp_geN (q := 23) (t := 112) (by omega) (by omega) dX6_code_20 (by decide) rfl (fun h20 => absurd h20 (by omega)) (fun h20 => ?_)
        refine r_iload (q := 25) dX6_code_23 rfl rfl ?_
        refine r_aload_n (q := 26) dX6_code_25 rfl rfl rfl ?_
        refine r_alen (q := 27) (by decide) (by decide) dX6_code_26 rfl (hs.e (show b < 5 by omega)) ?_
        refine r_topi (y := nI 13) (congrArg nI (hs.n rfl (show b < 5 by omega))) ?_
        refine r_icmp_geN (q := 30) (t := 112) (by omega) (by omega) dX6_code_27 (by decide) rfl (fun h27 => absurd h27 (by omega)) (fun h27 => ?_)
        refine r_aload_n (q := 31) dX6_code_30 rfl rfl rfl ?_
        refine r_iload (q := 33) dX6_code_31 rfl rfl ?_
        refine r_ialdN (q := 34) 13 (by decide) rfl dX6_code_33 rfl (hs.e (show b < 5 by omega)) (hs.n rfl (show b < 5 by omega)) (by omega) (by decide) ?_
        refine r_topi (y := nI 3) r0 ?_
        refine r_iconst (q := 35) (nI 3) dX6_code_34 rfl (by decide) ?_
        refine r_icmp_neN (q := 38) (t := 106) (by omega) (by omega) dX6_code_35 (by decide) rfl (fun h35 => absurd h35 (by omega)) (fun h35 => ?_)
        refine r_iinc (q := 41) (L' := [some (zr 702 b), some (zi (nI fr)), some (zi (nI to)), some (zi (nI kc)), some (zi (-3 : Int32)), some (zi (nI p)), some (zi (nI p)), none]) (-3 : Int32) dX6_code_38 rfl rfl (by decide) (by decide) rfl ?_
        refine r_iload_n (q := 42) dX6_code_41 rfl rfl rfl ?_
        refine r_iload (q := 44) dX6_code_42 rfl rfl ?_
        refine r_if_ge (q := 47) (t := 51) dX6_code_44 (by decide) rfl (fun h44 => absurd h44 (by decide)) (fun h44 => ?_)
        refine r_iconst (q := 48) (nI 0) dX6_code_47 rfl (by decide) ?_
        refine r_goto (q := 59) dX6_code_48 (by decide) ?_
        refine r_ior (q := 60) dX6_code_59 rfl ?_
        refine r_topi (y := nI kc) (by rw [or_N, Nat.or_zero]) ?_
        refine r_istore_n (q := 61) (L' := [some (zr 702 b), some (zi (nI fr)), some (zi (nI to)), some (zi (nI kc)), some (zi (-3 : Int32)), some (zi (nI p)), some (zi (nI p)), none]) dX6_code_60 rfl rfl (by decide) rfl ?_
        refine r_iload (q := 63) dX6_code_61 rfl rfl ?_
        refine r_istore (q := 65) (L' := [some (zr 702 b), some (zi (nI fr)), some (zi (nI to)), some (zi (nI kc)), some (zi (-3 : Int32)), some (zi (nI p)), some (zi (nI p)), some (zi (nI p))]) dX6_code_63 rfl (by decide) rfl ?_
        refine r_iload (q := 67) dX6_code_65 rfl rfl ?_
        refine r_iload (q := 69) dX6_code_67 rfl rfl ?_
        refine r_icmp_geN (q := 72) (t := 100) (by omega) (by omega) dX6_code_69 (by decide) rfl (fun h69 => ?_) (fun h69 => absurd h69 (by omega))
        refine r_iload (q := 102) dX6_code_100 rfl rfl ?_
        refine r_iconst (q := 103) (nI 1) dX6_code_102 rfl (by decide) ?_
        refine r_iaddN (q := 104) dX6_code_103 rfl ?_
        refine r_istore (q := 106) (L' := [some (zr 702 b), some (zi (nI fr)), some (zi (nI to)), some (zi (nI kc)), some (zi (-3 : Int32)), some (zi (nI (p + 1))), some (zi (nI p)), some (zi (nI p))]) dX6_code_104 rfl (by decide) rfl ?_
        refine r_iincN (q := 109) (L' := [some (zr 702 b), some (zi (nI fr)), some (zi (nI to)), some (zi (nI kc)), some (zi (-3 : Int32)), some (zi (nI (p + 1))), some (zi (nI (p + 1))), some (zi (nI p))]) 1 rfl dX6_code_106 rfl rfl (by decide) rfl ?_
        refine r_goto (q := 12) dX6_code_109 (by decide) ?_
        refine r_iload (q := 14) dX6_code_12 rfl rfl ?_
        refine r_if_ltN (q := 17) (t := 112) (by omega) dX6_code_14 (by decide) rfl ?_
        refine r_iload (q := 19) dX6_code_17 rfl rfl ?_
        refine r_iload_n (q := 20) dX6_code_19 rfl rfl rfl ?_
        refine r_icmp_geN (q := 23) (t := 112) (by omega) (by omega) dX6_code_20 (by decide) rfl (fun h20 => ?_) (fun h20 => absurd h20 (by omega))
        refine r_iload_n (q := 113) dX6_code_112 rfl rfl rfl ?_
        refine r_ireturn dX6_code_113 rfl ?_
        exact ⟨rfl, rfl⟩
      · refine r_iload (q := 14) dX6_code_12 rfl rfl ?_
        refine r_if_ltN (q := 17) (t := 112) (by omega) dX6_code_14 (by decide) rfl ?_
        refine r_iload (q := 19) dX6_code_17 rfl rfl ?_
        refine r_iload_n (q := 20) dX6_code_19 rfl rfl rfl ?_
        refine r_icmp_geN (q := 23) (t := 112) (by omega) (by omega) dX6_code_20 (by decide) rfl (fun h20 => absurd h20 (by omega)) (fun h20 => ?_)
        refine r_iload (q := 25) dX6_code_23 rfl rfl ?_
        refine r_aload_n (q := 26) dX6_code_25 rfl rfl rfl ?_
        refine r_alen (q := 27) (by decide) (by decide) dX6_code_26 rfl (hs.e (show b < 5 by omega)) ?_
        refine r_topi (y := nI 13) (congrArg nI (hs.n rfl (show b < 5 by omega))) ?_
        refine r_icmp_geN (q := 30) (t := 112) (by omega) (by omega) dX6_code_27 (by decide) rfl (fun h27 => absurd h27 (by omega)) (fun h27 => ?_)
        refine r_aload_n (q := 31) dX6_code_30 rfl rfl rfl ?_
        refine r_iload (q := 33) dX6_code_31 rfl rfl ?_
        refine r_ialdN (q := 34) 13 (by decide) rfl dX6_code_33 rfl (hs.e (show b < 5 by omega)) (hs.n rfl (show b < 5 by omega)) (by omega) (by decide) ?_
        refine r_topi (y := nI 3) r0 ?_
        refine r_iconst (q := 35) (nI 3) dX6_code_34 rfl (by decide) ?_
        refine r_icmp_neN (q := 38) (t := 106) (by omega) (by omega) dX6_code_35 (by decide) rfl (fun h35 => absurd h35 (by omega)) (fun h35 => ?_)
        refine r_iinc (q := 41) (L' := [some (zr 702 b), some (zi (nI fr)), some (zi (nI to)), some (zi (nI kc)), some (zi (-2 : Int32)), some (zi (nI p)), some (zi (nI p)), none]) (-2 : Int32) dX6_code_38 rfl rfl (by decide) (by decide) rfl ?_
        refine r_iload_n (q := 42) dX6_code_41 rfl rfl rfl ?_
        refine r_iload (q := 44) dX6_code_42 rfl rfl ?_
        refine r_if_ge (q := 47) (t := 51) dX6_code_44 (by decide) rfl (fun h44 => absurd h44 (by decide)) (fun h44 => ?_)
        refine r_iconst (q := 48) (nI 0) dX6_code_47 rfl (by decide) ?_
        refine r_goto (q := 59) dX6_code_48 (by decide) ?_
        refine r_ior (q := 60) dX6_code_59 rfl ?_
        refine r_topi (y := nI kc) (by rw [or_N, Nat.or_zero]) ?_
        refine r_istore_n (q := 61) (L' := [some (zr 702 b), some (zi (nI fr)), some (zi (nI to)), some (zi (nI kc)), some (zi (-2 : Int32)), some (zi (nI p)), some (zi (nI p)), none]) dX6_code_60 rfl rfl (by decide) rfl ?_
        refine r_iload (q := 63) dX6_code_61 rfl rfl ?_
        refine r_istore (q := 65) (L' := [some (zr 702 b), some (zi (nI fr)), some (zi (nI to)), some (zi (nI kc)), some (zi (-2 : Int32)), some (zi (nI p)), some (zi (nI p)), some (zi (nI p))]) dX6_code_63 rfl (by decide) rfl ?_
        refine r_iload (q := 67) dX6_code_65 rfl rfl ?_
        refine r_iload (q := 69) dX6_code_67 rfl rfl ?_
        refine r_icmp_geN (q := 72) (t := 100) (by omega) (by omega) dX6_code_69 (by decide) rfl (fun h69 => ?_) (fun h69 => absurd h69 (by omega))
        refine r_iload (q := 102) dX6_code_100 rfl rfl ?_
        refine r_iconst (q := 103) (nI 1) dX6_code_102 rfl (by decide) ?_
        refine r_iaddN (q := 104) dX6_code_103 rfl ?_
        refine r_istore (q := 106) (L' := [some (zr 702 b), some (zi (nI fr)), some (zi (nI to)), some (zi (nI kc)), some (zi (-2 : Int32)), some (zi (nI (p + 1))), some (zi (nI p)), some (zi (nI p))]) dX6_code_104 rfl (by decide) rfl ?_
        refine r_iincN (q := 109) (L' := [some (zr 702 b), some (zi (nI fr)), some (zi (nI to)), some (zi (nI kc)), some (zi (-2 : Int32)), some (zi (nI (p + 1))), some (zi (nI (p + 1))), some (zi (nI p))]) 1 rfl dX6_code_106 rfl rfl (by decide) rfl ?_
        refine r_goto (q := 12) dX6_code_109 (by decide) ?_
        refine r_iload (q := 14) dX6_code_12 rfl rfl ?_
        refine r_if_ltN (q := 17) (t := 112) (by omega) dX6_code_14 (by decide) rfl ?_
        refine r_iload (q := 19) dX6_code_17 rfl rfl ?_
        refine r_iload_n (q := 20) dX6_code_19 rfl rfl rfl ?_
        refine r_icmp_geN (q := 23) (t := 112) (by omega) (by omega) dX6_code_20 (by decide) rfl (fun h20 => ?_) (fun h20 => absurd h20 (by omega))
        refine r_iload_n (q := 113) dX6_code_112 rfl rfl rfl ?_
        refine r_ireturn dX6_code_113 rfl ?_
        exact ⟨rfl, rfl⟩
      · refine r_iload (q := 14) dX6_code_12 rfl rfl ?_
        refine r_if_ltN (q := 17) (t := 112) (by omega) dX6_code_14 (by decide) rfl ?_
        refine r_iload (q := 19) dX6_code_17 rfl rfl ?_
        refine r_iload_n (q := 20) dX6_code_19 rfl rfl rfl ?_
        refine r_icmp_geN (q := 23) (t := 112) (by omega) (by omega) dX6_code_20 (by decide) rfl (fun h20 => absurd h20 (by omega)) (fun h20 => ?_)
        refine r_iload (q := 25) dX6_code_23 rfl rfl ?_
        refine r_aload_n (q := 26) dX6_code_25 rfl rfl rfl ?_
        refine r_alen (q := 27) (by decide) (by decide) dX6_code_26 rfl (hs.e (show b < 5 by omega)) ?_
        refine r_topi (y := nI 13) (congrArg nI (hs.n rfl (show b < 5 by omega))) ?_
        refine r_icmp_geN (q := 30) (t := 112) (by omega) (by omega) dX6_code_27 (by decide) rfl (fun h27 => absurd h27 (by omega)) (fun h27 => ?_)
        refine r_aload_n (q := 31) dX6_code_30 rfl rfl rfl ?_
        refine r_iload (q := 33) dX6_code_31 rfl rfl ?_
        refine r_ialdN (q := 34) 13 (by decide) rfl dX6_code_33 rfl (hs.e (show b < 5 by omega)) (hs.n rfl (show b < 5 by omega)) (by omega) (by decide) ?_
        refine r_topi (y := nI 3) r0 ?_
        refine r_iconst (q := 35) (nI 3) dX6_code_34 rfl (by decide) ?_
        refine r_icmp_neN (q := 38) (t := 106) (by omega) (by omega) dX6_code_35 (by decide) rfl (fun h35 => absurd h35 (by omega)) (fun h35 => ?_)
        refine r_iinc (q := 41) (L' := [some (zr 702 b), some (zi (nI fr)), some (zi (nI to)), some (zi (nI kc)), some (zi (-1 : Int32)), some (zi (nI p)), some (zi (nI p)), none]) (-1 : Int32) dX6_code_38 rfl rfl (by decide) (by decide) rfl ?_
        refine r_iload_n (q := 42) dX6_code_41 rfl rfl rfl ?_
        refine r_iload (q := 44) dX6_code_42 rfl rfl ?_
        refine r_if_ge (q := 47) (t := 51) dX6_code_44 (by decide) rfl (fun h44 => absurd h44 (by decide)) (fun h44 => ?_)
        refine r_iconst (q := 48) (nI 0) dX6_code_47 rfl (by decide) ?_
        refine r_goto (q := 59) dX6_code_48 (by decide) ?_
        refine r_ior (q := 60) dX6_code_59 rfl ?_
        refine r_topi (y := nI kc) (by rw [or_N, Nat.or_zero]) ?_
        refine r_istore_n (q := 61) (L' := [some (zr 702 b), some (zi (nI fr)), some (zi (nI to)), some (zi (nI kc)), some (zi (-1 : Int32)), some (zi (nI p)), some (zi (nI p)), none]) dX6_code_60 rfl rfl (by decide) rfl ?_
        refine r_iload (q := 63) dX6_code_61 rfl rfl ?_
        refine r_istore (q := 65) (L' := [some (zr 702 b), some (zi (nI fr)), some (zi (nI to)), some (zi (nI kc)), some (zi (-1 : Int32)), some (zi (nI p)), some (zi (nI p)), some (zi (nI p))]) dX6_code_63 rfl (by decide) rfl ?_
        refine r_iload (q := 67) dX6_code_65 rfl rfl ?_
        refine r_iload (q := 69) dX6_code_67 rfl rfl ?_
        refine r_icmp_geN (q := 72) (t := 100) (by omega) (by omega) dX6_code_69 (by decide) rfl (fun h69 => ?_) (fun h69 => absurd h69 (by omega))
        refine r_iload (q := 102) dX6_code_100 rfl rfl ?_
        refine r_iconst (q := 103) (nI 1) dX6_code_102 rfl (by decide) ?_
        refine r_iaddN (q := 104) dX6_code_103 rfl ?_
        refine r_istore (q := 106) (L' := [some (zr 702 b), some (zi (nI fr)), some (zi (nI to)), some (zi (nI kc)), some (zi (-1 : Int32)), some (zi (nI (p + 1))), some (zi (nI p)), some (zi (nI p))]) dX6_code_104 rfl (by decide) rfl ?_
        refine r_iincN (q := 109) (L' := [some (zr 702 b), some (zi (nI fr)), some (zi (nI to)), some (zi (nI kc)), some (zi (-1 : Int32)), some (zi (nI (p + 1))), some (zi (nI (p + 1))), some (zi (nI p))]) 1 rfl dX6_code_106 rfl rfl (by decide) rfl ?_
        refine r_goto (q := 12) dX6_code_109 (by decide) ?_
        refine r_iload (q := 14) dX6_code_12 rfl rfl ?_
        refine r_if_ltN (q := 17) (t := 112) (by omega) dX6_code_14 (by decide) rfl ?_
        refine r_iload (q := 19) dX6_code_17 rfl rfl ?_
        refine r_iload_n (q := 20) dX6_code_19 rfl rfl rfl ?_
        refine r_icmp_geN (q := 23) (t := 112) (by omega) (by omega) dX6_code_20 (by decide) rfl (fun h20 => ?_) (fun h20 => absurd h20 (by omega))
        refine r_iload_n (q := 113) dX6_code_112 rfl rfl rfl ?_
        refine r_ireturn dX6_code_113 rfl ?_
        exact ⟨rfl, rfl⟩
      · refine r_iload (q := 14) dX6_code_12 rfl rfl ?_
        refine r_if_ltN (q := 17) (t := 112) (by omega) dX6_code_14 (by decide) rfl ?_
        refine r_iload (q := 19) dX6_code_17 rfl rfl ?_
        refine r_iload_n (q := 20) dX6_code_19 rfl rfl rfl ?_
        refine r_icmp_geN (q := 23) (t := 112) (by omega) (by omega) dX6_code_20 (by decide) rfl (fun h20 => absurd h20 (by omega)) (fun h20 => ?_)
        refine r_iload (q := 25) dX6_code_23 rfl rfl ?_
        refine r_aload_n (q := 26) dX6_code_25 rfl rfl rfl ?_
        refine r_alen (q := 27) (by decide) (by decide) dX6_code_26 rfl (hs.e (show b < 5 by omega)) ?_
        refine r_topi (y := nI 13) (congrArg nI (hs.n rfl (show b < 5 by omega))) ?_
        refine r_icmp_geN (q := 30) (t := 112) (by omega) (by omega) dX6_code_27 (by decide) rfl (fun h27 => absurd h27 (by omega)) (fun h27 => ?_)
        refine r_aload_n (q := 31) dX6_code_30 rfl rfl rfl ?_
        refine r_iload (q := 33) dX6_code_31 rfl rfl ?_
        refine r_ialdN (q := 34) 13 (by decide) rfl dX6_code_33 rfl (hs.e (show b < 5 by omega)) (hs.n rfl (show b < 5 by omega)) (by omega) (by decide) ?_
        refine r_topi (y := nI 3) r0 ?_
        refine r_iconst (q := 35) (nI 3) dX6_code_34 rfl (by decide) ?_
        refine r_icmp_neN (q := 38) (t := 106) (by omega) (by omega) dX6_code_35 (by decide) rfl (fun h35 => absurd h35 (by omega)) (fun h35 => ?_)
        refine r_idecN (q := 41) (L' := [some (zr 702 b), some (zi (nI fr)), some (zi (nI to)), some (zi (nI kc)), some (zi (nI (B - 3))), some (zi (nI p)), some (zi (nI p)), none]) 3 (by omega) rfl dX6_code_38 rfl rfl (by decide) rfl ?_
        refine r_iload_n (q := 42) dX6_code_41 rfl rfl rfl ?_
        refine r_iload (q := 44) dX6_code_42 rfl rfl ?_
        refine r_if_geN (q := 47) (t := 51) (by omega) dX6_code_44 (by decide) rfl ?_
        refine r_iload (q := 53) dX6_code_51 rfl rfl ?_
        refine r_iload (q := 55) dX6_code_53 rfl rfl ?_
        refine r_isubN (q := 56) (by omega) dX6_code_55 rfl ?_
        refine r_iload (q := 58) dX6_code_56 rfl rfl ?_
        refine r_ishl (q := 59) dX6_code_58 rfl ?_
        refine r_topi (y := nI 0) (by rw [Nat.sub_self, shl_N (by omega) (by omega), Nat.zero_mul]) ?_
        refine r_ior (q := 60) dX6_code_59 rfl ?_
        refine r_topi (y := nI kc) (by rw [or_N, Nat.or_zero]) ?_
        refine r_istore_n (q := 61) (L' := [some (zr 702 b), some (zi (nI fr)), some (zi (nI to)), some (zi (nI kc)), some (zi (nI (B - 3))), some (zi (nI p)), some (zi (nI p)), none]) dX6_code_60 rfl rfl (by decide) rfl ?_
        refine r_iload (q := 63) dX6_code_61 rfl rfl ?_
        refine r_istore (q := 65) (L' := [some (zr 702 b), some (zi (nI fr)), some (zi (nI to)), some (zi (nI kc)), some (zi (nI (B - 3))), some (zi (nI p)), some (zi (nI p)), some (zi (nI p))]) dX6_code_63 rfl (by decide) rfl ?_
        refine r_iload (q := 67) dX6_code_65 rfl rfl ?_
        refine r_iload (q := 69) dX6_code_67 rfl rfl ?_
        refine r_icmp_geN (q := 72) (t := 100) (by omega) (by omega) dX6_code_69 (by decide) rfl (fun h69 => ?_) (fun h69 => absurd h69 (by omega))
        refine r_iload (q := 102) dX6_code_100 rfl rfl ?_
        refine r_iconst (q := 103) (nI 1) dX6_code_102 rfl (by decide) ?_
        refine r_iaddN (q := 104) dX6_code_103 rfl ?_
        refine r_istore (q := 106) (L' := [some (zr 702 b), some (zi (nI fr)), some (zi (nI to)), some (zi (nI kc)), some (zi (nI (B - 3))), some (zi (nI (p + 1))), some (zi (nI p)), some (zi (nI p))]) dX6_code_104 rfl (by decide) rfl ?_
        refine r_iincN (q := 109) (L' := [some (zr 702 b), some (zi (nI fr)), some (zi (nI to)), some (zi (nI kc)), some (zi (nI (B - 3))), some (zi (nI (p + 1))), some (zi (nI (p + 1))), some (zi (nI p))]) 1 rfl dX6_code_106 rfl rfl (by decide) rfl ?_
        refine r_goto (q := 12) dX6_code_109 (by decide) ?_
        refine r_iload (q := 14) dX6_code_12 rfl rfl ?_
        refine r_if_ltN (q := 17) (t := 112) (by omega) dX6_code_14 (by decide) rfl ?_
        refine r_iload (q := 19) dX6_code_17 rfl rfl ?_
        refine r_iload_n (q := 20) dX6_code_19 rfl rfl rfl ?_
        refine r_icmp_geN (q := 23) (t := 112) (by omega) (by omega) dX6_code_20 (by decide) rfl (fun h20 => ?_) (fun h20 => absurd h20 (by omega))
        refine r_iload_n (q := 113) dX6_code_112 rfl rfl rfl ?_
        refine r_ireturn dX6_code_113 rfl ?_
        exact ⟨rfl, rfl⟩
    · obtain ⟨b1, b2, b3⟩ := hb.2 he
      have p8 : 2 ^ B = 8 * 2 ^ (B - 3) := by rw [show B = B - 3 + 3 by omega, Nat.pow_add]; simp; omega
      have hv : r.length * 2 ^ (B - 3) ≤ 7 * 2 ^ (B - 3) := Nat.mul_le_mul_right _ b2
      have hpos3 : 0 < 2 ^ (B - 3) := Nat.pow_pos (by omega)
      have hm' : (kc + r.length * 2 ^ (B - 3)) % 2 ^ (B - 3) = 0 := by rw [Nat.add_mul_mod_self_right]; have := Nat.mod_mod_of_dvd kc (Nat.pow_dvd_pow 2 (show B - 3 ≤ B by omega)); rw [hm] at this; rw [← this]; rfl
      have klt := kr_lt rs _ hr.tl b3
      have alt := ac2_lt r (B - 3) (2 ^ (B - 3 - 2 * r.length) - 1) hr.hd (by omega) (by have : 0 < 2 ^ (B - 3 - 2 * r.length) := Nat.pow_pos (by omega); omega)
      have am := ac2_mod r (B - 3) (by omega)
      have hposC : 0 < 2 ^ (B - 3 - 2 * r.length) := Nat.pow_pos (by omega)
      have hm2 : (kc + r.length * 2 ^ (B - 3) + ac2 (B - 3) r) % 2 ^ (B - 3 - 2 * r.length) = 0 := by
        have := Nat.mod_mod_of_dvd (kc + r.length * 2 ^ (B - 3)) (Nat.pow_dvd_pow 2 (show B - 3 - 2 * r.length ≤ B - 3 by omega))
        rw [hm', Nat.zero_mod] at this
        rw [Nat.add_mod, am, ← this, Nat.zero_add, Nat.zero_mod]
      refine r_iload (q := 14) dX6_code_12 rfl rfl ?_
      refine r_if_ltN (q := 17) (t := 112) (by omega) dX6_code_14 (by decide) rfl ?_
      refine r_iload (q := 19) dX6_code_17 rfl rfl ?_
      refine r_iload_n (q := 20) dX6_code_19 rfl rfl rfl ?_
      refine r_icmp_geN (q := 23) (t := 112) (by omega) (by omega) dX6_code_20 (by decide) rfl (fun h20 => absurd h20 (by omega)) (fun h20 => ?_)
      refine r_iload (q := 25) dX6_code_23 rfl rfl ?_
      refine r_aload_n (q := 26) dX6_code_25 rfl rfl rfl ?_
      refine r_alen (q := 27) (by decide) (by decide) dX6_code_26 rfl (hs.e (show b < 5 by omega)) ?_
      refine r_topi (y := nI 13) (congrArg nI (hs.n rfl (show b < 5 by omega))) ?_
      refine r_icmp_geN (q := 30) (t := 112) (by omega) (by omega) dX6_code_27 (by decide) rfl (fun h27 => absurd h27 (by omega)) (fun h27 => ?_)
      refine r_aload_n (q := 31) dX6_code_30 rfl rfl rfl ?_
      refine r_iload (q := 33) dX6_code_31 rfl rfl ?_
      refine r_ialdN (q := 34) 13 (by decide) rfl dX6_code_33 rfl (hs.e (show b < 5 by omega)) (hs.n rfl (show b < 5 by omega)) (by omega) (by decide) ?_
      refine r_topi (y := nI 3) r0 ?_
      refine r_iconst (q := 35) (nI 3) dX6_code_34 rfl (by decide) ?_
      refine r_icmp_neN (q := 38) (t := 106) (by omega) (by omega) dX6_code_35 (by decide) rfl (fun h35 => absurd h35 (by omega)) (fun h35 => ?_)
      refine r_idecN (q := 41) (L' := [some (zr 702 b), some (zi (nI fr)), some (zi (nI to)), some (zi (nI kc)), some (zi (nI (B - 3))), some (zi (nI p)), some (zi (nI (p + r.length))), none]) 3 (by omega) rfl dX6_code_38 rfl rfl (by decide) rfl ?_
      refine r_iload_n (q := 42) dX6_code_41 rfl rfl rfl ?_
      refine r_iload (q := 44) dX6_code_42 rfl rfl ?_
      refine r_if_geN (q := 47) (t := 51) (by omega) dX6_code_44 (by decide) rfl ?_
      refine r_iload (q := 53) dX6_code_51 rfl rfl ?_
      refine r_iload (q := 55) dX6_code_53 rfl rfl ?_
      refine r_isubN (q := 56) (by omega) dX6_code_55 rfl ?_
      refine r_topi (y := nI r.length) (congrArg nI (by omega)) ?_
      refine r_iload (q := 58) dX6_code_56 rfl rfl ?_
      refine r_ishl (q := 59) dX6_code_58 rfl ?_
      refine r_topi (y := nI (r.length * 2 ^ (B - 3))) (shl_N (by omega) (by omega)) ?_
      refine r_ior (q := 60) dX6_code_59 rfl ?_
      refine r_topi (y := nI (kc + r.length * 2 ^ (B - 3))) (or_mod hm (by omega)) ?_
      refine r_istore_n (q := 61) (L' := [some (zr 702 b), some (zi (nI fr)), some (zi (nI to)), some (zi (nI (kc + r.length * 2 ^ (B - 3)))), some (zi (nI (B - 3))), some (zi (nI p)), some (zi (nI (p + r.length))), none]) dX6_code_60 rfl rfl (by decide) rfl ?_
      refine r_iload (q := 63) dX6_code_61 rfl rfl ?_
      refine r_istore (q := 65) (L' := [some (zr 702 b), some (zi (nI fr)), some (zi (nI to)), some (zi (nI (kc + r.length * 2 ^ (B - 3)))), some (zi (nI (B - 3))), some (zi (nI p)), some (zi (nI (p + r.length))), some (zi (nI p))]) dX6_code_63 rfl (by decide) rfl ?_
      refine lp_cd2_702 hs hb5 hto (by omega) r p _ (B - 3) hr.hd (by omega) (fun i hi => by rw [hrow i (by omega), tk_get hi]) (by omega) (by omega) hm' (by omega) ?_
      refine r_iload (q := 102) dX6_code_100 rfl rfl ?_
      refine r_iconst (q := 103) (nI 1) dX6_code_102 rfl (by decide) ?_
      refine r_iaddN (q := 104) dX6_code_103 rfl ?_
      refine r_istore (q := 106) (L' := [some (zr 702 b), some (zi (nI fr)), some (zi (nI to)), some (zi (nI (kc + r.length * 2 ^ (B - 3) + ac2 (B - 3) r))), some (zi (nI (B - 3 - 2 * r.length))), some (zi (nI ((p + r.length) + 1))), some (zi (nI (p + r.length))), some (zi (nI (p + r.length)))]) dX6_code_104 rfl (by decide) rfl ?_
      refine r_iincN (q := 109) (L' := [some (zr 702 b), some (zi (nI fr)), some (zi (nI to)), some (zi (nI (kc + r.length * 2 ^ (B - 3) + ac2 (B - 3) r))), some (zi (nI (B - 3 - 2 * r.length))), some (zi (nI ((p + r.length) + 1))), some (zi (nI (p + r.length + 1))), some (zi (nI (p + r.length)))]) 1 rfl dX6_code_106 rfl rfl (by decide) rfl ?_
      refine r_goto (q := 12) dX6_code_109 (by decide) ?_
      refine r_mask [true, true, true, true, true, true, true, false] rfl ?_
      have q := ih (p + r.length + 1) (kc + r.length * 2 ^ (B - 3) + ac2 (B - 3) r) (B - 3 - 2 * r.length) hr.tl b3 (by omega) (by omega) hm2 (by omega) hrow'
      rw [kr, show kc + (r.length * 2 ^ (B - 3) + (ac2 (B - 3) r + kr (B - 3 - 2 * r.length) rs)) = kc + r.length * 2 ^ (B - 3) + ac2 (B - 3) r + kr (B - 3 - 2 * r.length) rs by omega]
      exact q

set_option maxRecDepth 100000 in
theorem ok_code_702 {S : zS} (hs : Sd S) {b : Nat} (hb5 : b < 5) {fr to : Nat} (hto : to ≤ 13) {A n : Nat} {e : Nat → Nat} (hE : Eok A e) {t : List Nat} (ht : Tr A e n t) (hn : n ≤ 7) (hl : fr + t.length = to) (hrow : ∀ i, i < t.length → gI S 702 b (fr + i) = nI (nd (t.getD i 0))) : Ok mX6_code 0 (ent 8 [zr 702 b, zi (nI fr), zi (nI to)]) [] S (fun r S1 => r = some (zi (nI (ky t))) ∧ S1 = S) := by
  obtain ⟨h1, h2, h3, h4⟩ := ht.rn hE hn
  show Ok mX6_code 0 [some (zr 702 b), some (zi (nI fr)), some (zi (nI to)), none, none, none, none, none] [] S _
  refine r_iconst (q := 1) (nI 0) dX6_code_0 rfl (by decide) ?_
  refine r_istore_n (q := 2) (L' := [some (zr 702 b), some (zi (nI fr)), some (zi (nI to)), some (zi (nI 0)), none, none, none, none]) dX6_code_1 rfl rfl (by decide) rfl ?_
  refine r_bipush (q := 4) (nI 30) dX6_code_2 rfl (by decide) ?_
  refine r_istore (q := 6) (L' := [some (zr 702 b), some (zi (nI fr)), some (zi (nI to)), some (zi (nI 0)), some (zi (nI 30)), none, none, none]) dX6_code_4 rfl (by decide) rfl ?_
  refine r_iload_n (q := 7) dX6_code_6 rfl rfl rfl ?_
  refine r_istore (q := 9) (L' := [some (zr 702 b), some (zi (nI fr)), some (zi (nI to)), some (zi (nI 0)), some (zi (nI 30)), some (zi (nI fr)), none, none]) dX6_code_7 rfl (by decide) rfl ?_
  refine r_iload_n (q := 10) dX6_code_9 rfl rfl rfl ?_
  refine r_istore (q := 12) (L' := [some (zr 702 b), some (zi (nI fr)), some (zi (nI to)), some (zi (nI 0)), some (zi (nI 30)), some (zi (nI fr)), some (zi (nI fr)), none]) dX6_code_10 rfl (by decide) rfl ?_
  have q := lp_cd1_702 hs hb5 (fr := fr) hto (rns t) fr 0 30 h2 h4 (by omega) (by rw [← h1]; exact hl) (by simp) (by omega) (fun i hi => by rw [← h1] at hi ⊢; exact hrow i hi)
  rw [Nat.zero_add] at q
  exact q

set_option maxRecDepth 100000 in
theorem lp_cd0_700 {Po : Option zV → zS → Prop} {S : zS} (hs : Sd S) {b : Nat} (hb5 : b < 5) {fr to : Nat} (hto : to ≤ 13) {key sh rf : Int32} : ∀ (r : List Nat) (p : Nat), (∀ k, k ∈ r → 1 ≤ k ∧ k ≤ 3) → p + r.length < to → (∀ i, i < r.length → gI S 700 b (p + i) = nI (nd (r.getD i 0))) → Ok mX6_code 12 [some (zr 700 b), some (zi (nI fr)), some (zi (nI to)), some (zi key), some (zi sh), some (zi rf), some (zi (nI (p + r.length))), none] [] S Po → Ok mX6_code 12 [some (zr 700 b), some (zi (nI fr)), some (zi (nI to)), some (zi key), some (zi sh), some (zi rf), some (zi (nI p)), none] [] S Po := by
  intro r
  induction r with
  | nil => exact fun p _ _ _ K => K
  | cons k r ih =>
    intro p h3 hp hr K
    have hk := h3 k List.mem_cons_self
    have r0 : gI S 700 b p = nI (k - 1) := by have := hr 0 (by simp); rw [Nat.add_zero] at this; rw [this]; show nI (nd k) = _; unfold nd; rw [if_neg (by omega)]
    rw [List.length_cons] at hp K
    refine r_iload (q := 14) dX6_code_12 rfl rfl ?_
    refine r_if_ltN (q := 17) (t := 112) (by omega) dX6_code_14 (by decide) rfl ?_
    refine r_iload (q := 19) dX6_code_17 rfl rfl ?_
    refine r_iload_n (q := 20) dX6_code_19 rfl rfl rfl ?_
    refine r_icmp_geN (q := 23) (t := 112) (by omega) (by omega) dX6_code_20 (by decide) rfl (fun h20 => absurd h20 (by omega)) (fun h20 => ?_)
    refine r_iload (q := 25) dX6_code_23 rfl rfl ?_
    refine r_aload_n (q := 26) dX6_code_25 rfl rfl rfl ?_
    refine r_alen (q := 27) (by decide) (by decide) dX6_code_26 rfl (hs.e (show b < 5 by omega)) ?_
    refine r_topi (y := nI 13) (congrArg nI (hs.n rfl (show b < 5 by omega))) ?_
    refine r_icmp_geN (q := 30) (t := 112) (by omega) (by omega) dX6_code_27 (by decide) rfl (fun h27 => absurd h27 (by omega)) (fun h27 => ?_)
    refine r_aload_n (q := 31) dX6_code_30 rfl rfl rfl ?_
    refine r_iload (q := 33) dX6_code_31 rfl rfl ?_
    refine r_ialdN (q := 34) 13 (by decide) rfl dX6_code_33 rfl (hs.e (show b < 5 by omega)) (hs.n rfl (show b < 5 by omega)) (by omega) (by decide) ?_
    refine r_topi (y := nI (k - 1)) r0 ?_
    refine r_iconst (q := 35) (nI 3) dX6_code_34 rfl (by decide) ?_
    refine r_icmp_neN (q := 38) (t := 106) (by omega) (by omega) dX6_code_35 (by decide) rfl (fun h35 => ?_) (fun h35 => absurd h35 (by omega))
    refine r_iincN (q := 109) (L' := [some (zr 700 b), some (zi (nI fr)), some (zi (nI to)), some (zi key), some (zi sh), some (zi rf), some (zi (nI (p + 1))), none]) 1 rfl dX6_code_106 rfl rfl (by decide) rfl ?_
    refine r_goto (q := 12) dX6_code_109 (by decide) ?_
    refine ih (p + 1) (fun q hq => h3 q (List.mem_cons_of_mem _ hq)) (by omega) (fun i hi => by have := hr (i + 1) (by simp; omega); rw [show p + 1 + i = p + (i + 1) by omega]; exact this) (by rw [show p + 1 + r.length = p + (r.length + 1) by omega]; exact K)

set_option maxRecDepth 100000 in
theorem lp_cd2_700 {Po : Option zV → zS → Prop} {S : zS} (hs : Sd S) {b : Nat} (hb5 : b < 5) {fr to : Nat} (hto : to ≤ 13) {rf q : Nat} (hq : q < to) : ∀ (r : List Nat) (j kc B : Nat), (∀ k, k ∈ r → 1 ≤ k ∧ k ≤ 3) → j + r.length = q → (∀ i, i < r.length → gI S 700 b (j + i) = nI (nd (r.getD i 0))) → 2 * r.length ≤ B → B ≤ 30 → kc % 2 ^ B = 0 → kc + 2 ^ B ≤ 2 ^ 30 → Ok mX6_code 100 [some (zr 700 b), some (zi (nI fr)), some (zi (nI to)), some (zi (nI (kc + ac2 B r))), some (zi (nI (B - 2 * r.length))), some (zi (nI rf)), some (zi (nI q)), some (zi (nI q))] [] S Po → Ok mX6_code 65 [some (zr 700 b), some (zi (nI fr)), some (zi (nI to)), some (zi (nI kc)), some (zi (nI B)), some (zi (nI rf)), some (zi (nI q)), some (zi (nI j))] [] S Po := by
  intro r
  induction r with
  | nil =>
    intro j kc B h3 hj hr hB hB30 hm hk K
    obtain rfl : j = q := by simpa using hj
    refine r_iload (q := 67) dX6_code_65 rfl rfl ?_
    refine r_iload (q := 69) dX6_code_67 rfl rfl ?_
    refine r_icmp_geN (q := 72) (t := 100) (by omega) (by omega) dX6_code_69 (by decide) rfl (fun h69 => ?_) (fun h69 => absurd h69 (by omega))
    exact K
  | cons k r ih =>
    intro j kc B h3 hj hr hB hB30 hm hkc K
    have hk := h3 k List.mem_cons_self
    have r0 : gI S 700 b j = nI (k - 1) := by have := hr 0 (by simp); rw [Nat.add_zero] at this; rw [this]; show nI (nd k) = _; unfold nd; rw [if_neg (by omega)]
    rw [List.length_cons] at hj hB K
    have p4 : 2 ^ B = 4 * 2 ^ (B - 2) := by rw [show B = B - 2 + 2 by omega, Nat.pow_add]; simp; omega
    have hv : (k - 1) * 2 ^ (B - 2) ≤ 2 * 2 ^ (B - 2) := Nat.mul_le_mul_right _ (by omega)
    have hpos : 0 < 2 ^ (B - 2) := Nat.pow_pos (by omega)
    have hm' : (kc + (k - 1) * 2 ^ (B - 2)) % 2 ^ (B - 2) = 0 := by rw [Nat.add_mul_mod_self_right]; have := Nat.mod_mod_of_dvd kc (Nat.pow_dvd_pow 2 (show B - 2 ≤ B by omega)); rw [hm] at this; rw [← this]; rfl
    refine r_iload (q := 67) dX6_code_65 rfl rfl ?_
    refine r_iload (q := 69) dX6_code_67 rfl rfl ?_
    refine r_icmp_geN (q := 72) (t := 100) (by omega) (by omega) dX6_code_69 (by decide) rfl (fun h69 => absurd h69 (by omega)) (fun h69 => ?_)
    refine r_idecN (q := 75) (L' := [some (zr 700 b), some (zi (nI fr)), some (zi (nI to)), some (zi (nI kc)), some (zi (nI (B - 2))), some (zi (nI rf)), some (zi (nI q)), some (zi (nI j))]) 2 (by omega) rfl dX6_code_72 rfl rfl (by decide) rfl ?_
    refine r_iload_n (q := 76) dX6_code_75 rfl rfl rfl ?_
    refine r_iload (q := 78) dX6_code_76 rfl rfl ?_
    refine r_if_geN (q := 81) (t := 85) (by omega) dX6_code_78 (by decide) rfl ?_
    refine r_aload_n (q := 86) dX6_code_85 rfl rfl rfl ?_
    refine r_iload (q := 88) dX6_code_86 rfl rfl ?_
    refine r_ialdN (q := 89) 13 (by decide) rfl dX6_code_88 rfl (hs.e (show b < 5 by omega)) (hs.n rfl (show b < 5 by omega)) (by omega) (by decide) ?_
    refine r_topi (y := nI (k - 1)) r0 ?_
    refine r_iload (q := 91) dX6_code_89 rfl rfl ?_
    refine r_ishl (q := 92) dX6_code_91 rfl ?_
    refine r_topi (y := nI ((k - 1) * 2 ^ (B - 2))) (shl_N (by omega) (by omega)) ?_
    refine r_ior (q := 93) dX6_code_92 rfl ?_
    refine r_topi (y := nI (kc + (k - 1) * 2 ^ (B - 2))) (or_mod hm (by omega)) ?_
    refine r_istore_n (q := 94) (L' := [some (zr 700 b), some (zi (nI fr)), some (zi (nI to)), some (zi (nI (kc + (k - 1) * 2 ^ (B - 2)))), some (zi (nI (B - 2))), some (zi (nI rf)), some (zi (nI q)), some (zi (nI j))]) dX6_code_93 rfl rfl (by decide) rfl ?_
    refine r_iincN (q := 97) (L' := [some (zr 700 b), some (zi (nI fr)), some (zi (nI to)), some (zi (nI (kc + (k - 1) * 2 ^ (B - 2)))), some (zi (nI (B - 2))), some (zi (nI rf)), some (zi (nI q)), some (zi (nI (j + 1)))]) 1 rfl dX6_code_94 rfl rfl (by decide) rfl ?_
    refine r_goto (q := 65) dX6_code_97 (by decide) ?_
    refine ih (j + 1) _ (B - 2) (fun q hq => h3 q (List.mem_cons_of_mem _ hq)) (by omega) (fun i hi => by have := hr (i + 1) (by simp; omega); rw [show j + 1 + i = j + (i + 1) by omega]; exact this) (by omega) (by omega) hm' (by omega) (by rw [show B - 2 - 2 * r.length = B - 2 * (r.length + 1) by omega, Nat.add_assoc]; exact K)

set_option maxRecDepth 100000 in
theorem lp_cd1_700 {S : zS} (hs : Sd S) {b : Nat} (hb5 : b < 5) {fr to : Nat} (hto : to ≤ 13) : ∀ (rs : List (List Nat)) (p kc B : Nat), Ru rs → Bt B rs → B ≤ 30 → p + (tk rs).length = to → kc % 2 ^ B = 0 → kc + 2 ^ B ≤ 2 ^ 30 → (∀ i, i < (tk rs).length → gI S 700 b (p + i) = nI (nd ((tk rs).getD i 0))) → Ok mX6_code 12 [some (zr 700 b), some (zi (nI fr)), some (zi (nI to)), some (zi (nI kc)), some (zi (nI B)), some (zi (nI p)), some (zi (nI p)), none] [] S (fun r S1 => r = some (zi (nI (kc + kr B rs))) ∧ S1 = S) := by
  intro rs
  induction rs with
  | nil =>
    intro p kc B hr hb hB hp hm hk hrow
    obtain rfl : p = to := by simpa [tk] using hp
    refine r_iload (q := 14) dX6_code_12 rfl rfl ?_
    refine r_if_ltN (q := 17) (t := 112) (by omega) dX6_code_14 (by decide) rfl ?_
    refine r_iload (q := 19) dX6_code_17 rfl rfl ?_
    refine r_iload_n (q := 20) dX6_code_19 rfl rfl rfl ?_
    refine r_icmp_geN (q := 23) (t := 112) (by omega) (by omega) dX6_code_20 (by decide) rfl (fun h20 => ?_) (fun h20 => absurd h20 (by omega))
    refine r_iload_n (q := 113) dX6_code_112 rfl rfl rfl ?_
    refine r_ireturn dX6_code_113 rfl ?_
    exact ⟨rfl, rfl⟩
  | cons r rs ih =>
    intro p kc B hr hb hB hp hm hk hrow
    have hl : (tk (r :: rs)).length = r.length + ((tk rs).length + 1) := by rw [tk_cons, List.length_append, List.length_cons]
    rw [hl] at hp
    have r0 : gI S 700 b (p + r.length) = nI 3 := by rw [hrow r.length (by omega), tk_get0]; rfl
    have hpos : 0 < 2 ^ B := Nat.pow_pos (by omega)
    refine lp_cd0_700 hs hb5 hto r p hr.hd (by omega) (fun i hi => by rw [hrow i (by omega), tk_get hi]) ?_
    have hrow' : ∀ i, i < (tk rs).length → gI S 700 b (p + r.length + 1 + i) = nI (nd ((tk rs).getD i 0)) := fun i hi => by rw [show p + r.length + 1 + i = p + (r.length + 1 + i) by omega, hrow _ (by omega), tk_getS]
    by_cases he : rs = []
    · have e0 := hb.1 he
      subst e0
      subst he
      have hlt : p < to := by simp at hp; omega
      have r0 : gI S 700 b p = nI 3 := r0
      have ep : p + 1 = to := by simp [tk] at hp; omega
      have ekr : kr B [[]] = 0 := by simp [kr, ac2]
      rw [ekr, Nat.add_zero]
      show Ok mX6_code 12 [some (zr 700 b), some (zi (nI fr)), some (zi (nI to)), some (zi (nI kc)), some (zi (nI B)), some (zi (nI p)), some (zi (nI p)), none] [] S _
      rcases (show B = 0 ∨ B = 1 ∨ B = 2 ∨ 3 ≤ B by omega) with rfl | rfl | rfl | h3
      · refine r_iload (q := 14) dX6_code_12 rfl rfl ?_
        refine r_if_ltN (q := 17) (t := 112) (by omega) dX6_code_14 (by decide) rfl ?_
        refine r_iload (q := 19) dX6_code_17 rfl rfl ?_
        refine r_iload_n (q := 20) dX6_code_19 rfl rfl rfl ?_
        refine r_icmp_geN (q := 23) (t := 112) (by omega) (by omega) dX6_code_20 (by decide) rfl (fun h20 => absurd h20 (by omega)) (fun h20 => ?_)
        refine r_iload (q := 25) dX6_code_23 rfl rfl ?_
        refine r_aload_n (q := 26) dX6_code_25 rfl rfl rfl ?_
        refine r_alen (q := 27) (by decide) (by decide) dX6_code_26 rfl (hs.e (show b < 5 by omega)) ?_
        refine r_topi (y := nI 13) (congrArg nI (hs.n rfl (show b < 5 by omega))) ?_
        refine r_icmp_geN (q := 30) (t := 112) (by omega) (by omega) dX6_code_27 (by decide) rfl (fun h27 => absurd h27 (by omega)) (fun h27 => ?_)
        refine r_aload_n (q := 31) dX6_code_30 rfl rfl rfl ?_
        refine r_iload (q := 33) dX6_code_31 rfl rfl ?_
        refine r_ialdN (q := 34) 13 (by decide) rfl dX6_code_33 rfl (hs.e (show b < 5 by omega)) (hs.n rfl (show b < 5 by omega)) (by omega) (by decide) ?_
        refine r_topi (y := nI 3) r0 ?_
        refine r_iconst (q := 35) (nI 3) dX6_code_34 rfl (by decide) ?_
        refine r_icmp_neN (q := 38) (t := 106) (by omega) (by omega) dX6_code_35 (by decide) rfl (fun h35 => absurd h35 (by omega)) (fun h35 => ?_)
        refine r_iinc (q := 41) (L' := [some (zr 700 b), some (zi (nI fr)), some (zi (nI to)), some (zi (nI kc)), some (zi (-3 : Int32)), some (zi (nI p)), some (zi (nI p)), none]) (-3 : Int32) dX6_code_38 rfl rfl (by decide) (by decide) rfl ?_
        refine r_iload_n (q := 42) dX6_code_41 rfl rfl rfl ?_
        refine r_iload (q := 44) dX6_code_42 rfl rfl ?_
        refine r_if_ge (q := 47) (t := 51) dX6_code_44 (by decide) rfl (fun h44 => absurd h44 (by decide)) (fun h44 => ?_)
        refine r_iconst (q := 48) (nI 0) dX6_code_47 rfl (by decide) ?_
        refine r_goto (q := 59) dX6_code_48 (by decide) ?_
        refine r_ior (q := 60) dX6_code_59 rfl ?_
        refine r_topi (y := nI kc) (by rw [or_N, Nat.or_zero]) ?_
        refine r_istore_n (q := 61) (L' := [some (zr 700 b), some (zi (nI fr)), some (zi (nI to)), some (zi (nI kc)), some (zi (-3 : Int32)), some (zi (nI p)), some (zi (nI p)), none]) dX6_code_60 rfl rfl (by decide) rfl ?_
        refine r_iload (q := 63) dX6_code_61 rfl rfl ?_
        refine r_istore (q := 65) (L' := [some (zr 700 b), some (zi (nI fr)), some (zi (nI to)), some (zi (nI kc)), some (zi (-3 : Int32)), some (zi (nI p)), some (zi (nI p)), some (zi (nI p))]) dX6_code_63 rfl (by decide) rfl ?_
        refine r_iload (q := 67) dX6_code_65 rfl rfl ?_
        refine r_iload (q := 69) dX6_code_67 rfl rfl ?_
        refine r_icmp_geN (q := 72) (t := 100) (by omega) (by omega) dX6_code_69 (by decide) rfl (fun h69 => ?_) (fun h69 => absurd h69 (by omega))
        refine r_iload (q := 102) dX6_code_100 rfl rfl ?_
        refine r_iconst (q := 103) (nI 1) dX6_code_102 rfl (by decide) ?_
        refine r_iaddN (q := 104) dX6_code_103 rfl ?_
        refine r_istore (q := 106) (L' := [some (zr 700 b), some (zi (nI fr)), some (zi (nI to)), some (zi (nI kc)), some (zi (-3 : Int32)), some (zi (nI (p + 1))), some (zi (nI p)), some (zi (nI p))]) dX6_code_104 rfl (by decide) rfl ?_
        refine r_iincN (q := 109) (L' := [some (zr 700 b), some (zi (nI fr)), some (zi (nI to)), some (zi (nI kc)), some (zi (-3 : Int32)), some (zi (nI (p + 1))), some (zi (nI (p + 1))), some (zi (nI p))]) 1 rfl dX6_code_106 rfl rfl (by decide) rfl ?_
        refine r_goto (q := 12) dX6_code_109 (by decide) ?_
        refine r_iload (q := 14) dX6_code_12 rfl rfl ?_
        refine r_if_ltN (q := 17) (t := 112) (by omega) dX6_code_14 (by decide) rfl ?_
        refine r_iload (q := 19) dX6_code_17 rfl rfl ?_
        refine r_iload_n (q := 20) dX6_code_19 rfl rfl rfl ?_
        refine r_icmp_geN (q := 23) (t := 112) (by omega) (by omega) dX6_code_20 (by decide) rfl (fun h20 => ?_) (fun h20 => absurd h20 (by omega))
        refine r_iload_n (q := 113) dX6_code_112 rfl rfl rfl ?_
        refine r_ireturn dX6_code_113 rfl ?_
        exact ⟨rfl, rfl⟩
      · refine r_iload (q := 14) dX6_code_12 rfl rfl ?_
        refine r_if_ltN (q := 17) (t := 112) (by omega) dX6_code_14 (by decide) rfl ?_
        refine r_iload (q := 19) dX6_code_17 rfl rfl ?_
        refine r_iload_n (q := 20) dX6_code_19 rfl rfl rfl ?_
        refine r_icmp_geN (q := 23) (t := 112) (by omega) (by omega) dX6_code_20 (by decide) rfl (fun h20 => absurd h20 (by omega)) (fun h20 => ?_)
        refine r_iload (q := 25) dX6_code_23 rfl rfl ?_
        refine r_aload_n (q := 26) dX6_code_25 rfl rfl rfl ?_
        refine r_alen (q := 27) (by decide) (by decide) dX6_code_26 rfl (hs.e (show b < 5 by omega)) ?_
        refine r_topi (y := nI 13) (congrArg nI (hs.n rfl (show b < 5 by omega))) ?_
        refine r_icmp_geN (q := 30) (t := 112) (by omega) (by omega) dX6_code_27 (by decide) rfl (fun h27 => absurd h27 (by omega)) (fun h27 => ?_)
        refine r_aload_n (q := 31) dX6_code_30 rfl rfl rfl ?_
        refine r_iload (q := 33) dX6_code_31 rfl rfl ?_
        refine r_ialdN (q := 34) 13 (by decide) rfl dX6_code_33 rfl (hs.e (show b < 5 by omega)) (hs.n rfl (show b < 5 by omega)) (by omega) (by decide) ?_
        refine r_topi (y := nI 3) r0 ?_
        refine r_iconst (q := 35) (nI 3) dX6_code_34 rfl (by decide) ?_
        refine r_icmp_neN (q := 38) (t := 106) (by omega) (by omega) dX6_code_35 (by decide) rfl (fun h35 => absurd h35 (by omega)) (fun h35 => ?_)
        refine r_iinc (q := 41) (L' := [some (zr 700 b), some (zi (nI fr)), some (zi (nI to)), some (zi (nI kc)), some (zi (-2 : Int32)), some (zi (nI p)), some (zi (nI p)), none]) (-2 : Int32) dX6_code_38 rfl rfl (by decide) (by decide) rfl ?_
        refine r_iload_n (q := 42) dX6_code_41 rfl rfl rfl ?_
        refine r_iload (q := 44) dX6_code_42 rfl rfl ?_
        refine r_if_ge (q := 47) (t := 51) dX6_code_44 (by decide) rfl (fun h44 => absurd h44 (by decide)) (fun h44 => ?_)
        refine r_iconst (q := 48) (nI 0) dX6_code_47 rfl (by decide) ?_
        refine r_goto (q := 59) dX6_code_48 (by decide) ?_
        refine r_ior (q := 60) dX6_code_59 rfl ?_
        refine r_topi (y := nI kc) (by rw [or_N, Nat.or_zero]) ?_
        refine r_istore_n (q := 61) (L' := [some (zr 700 b), some (zi (nI fr)), some (zi (nI to)), some (zi (nI kc)), some (zi (-2 : Int32)), some (zi (nI p)), some (zi (nI p)), none]) dX6_code_60 rfl rfl (by decide) rfl ?_
        refine r_iload (q := 63) dX6_code_61 rfl rfl ?_
        refine r_istore (q := 65) (L' := [some (zr 700 b), some (zi (nI fr)), some (zi (nI to)), some (zi (nI kc)), some (zi (-2 : Int32)), some (zi (nI p)), some (zi (nI p)), some (zi (nI p))]) dX6_code_63 rfl (by decide) rfl ?_
        refine r_iload (q := 67) dX6_code_65 rfl rfl ?_
        refine r_iload (q := 69) dX6_code_67 rfl rfl ?_
        refine r_icmp_geN (q := 72) (t := 100) (by omega) (by omega) dX6_code_69 (by decide) rfl (fun h69 => ?_) (fun h69 => absurd h69 (by omega))
        refine r_iload (q := 102) dX6_code_100 rfl rfl ?_
        refine r_iconst (q := 103) (nI 1) dX6_code_102 rfl (by decide) ?_
        refine r_iaddN (q := 104) dX6_code_103 rfl ?_
        refine r_istore (q := 106) (L' := [some (zr 700 b), some (zi (nI fr)), some (zi (nI to)), some (zi (nI kc)), some (zi (-2 : Int32)), some (zi (nI (p + 1))), some (zi (nI p)), some (zi (nI p))]) dX6_code_104 rfl (by decide) rfl ?_
        refine r_iincN (q := 109) (L' := [some (zr 700 b), some (zi (nI fr)), some (zi (nI to)), some (zi (nI kc)), some (zi (-2 : Int32)), some (zi (nI (p + 1))), some (zi (nI (p + 1))), some (zi (nI p))]) 1 rfl dX6_code_106 rfl rfl (by decide) rfl ?_
        refine r_goto (q := 12) dX6_code_109 (by decide) ?_
        refine r_iload (q := 14) dX6_code_12 rfl rfl ?_
        refine r_if_ltN (q := 17) (t := 112) (by omega) dX6_code_14 (by decide) rfl ?_
        refine r_iload (q := 19) dX6_code_17 rfl rfl ?_
        refine r_iload_n (q := 20) dX6_code_19 rfl rfl rfl ?_
        refine r_icmp_geN (q := 23) (t := 112) (by omega) (by omega) dX6_code_20 (by decide) rfl (fun h20 => ?_) (fun h20 => absurd h20 (by omega))
        refine r_iload_n (q := 113) dX6_code_112 rfl rfl rfl ?_
        refine r_ireturn dX6_code_113 rfl ?_
        exact ⟨rfl, rfl⟩
      · refine r_iload (q := 14) dX6_code_12 rfl rfl ?_
        refine r_if_ltN (q := 17) (t := 112) (by omega) dX6_code_14 (by decide) rfl ?_
        refine r_iload (q := 19) dX6_code_17 rfl rfl ?_
        refine r_iload_n (q := 20) dX6_code_19 rfl rfl rfl ?_
        refine r_icmp_geN (q := 23) (t := 112) (by omega) (by omega) dX6_code_20 (by decide) rfl (fun h20 => absurd h20 (by omega)) (fun h20 => ?_)
        refine r_iload (q := 25) dX6_code_23 rfl rfl ?_
        refine r_aload_n (q := 26) dX6_code_25 rfl rfl rfl ?_
        refine r_alen (q := 27) (by decide) (by decide) dX6_code_26 rfl (hs.e (show b < 5 by omega)) ?_
        refine r_topi (y := nI 13) (congrArg nI (hs.n rfl (show b < 5 by omega))) ?_
        refine r_icmp_geN (q := 30) (t := 112) (by omega) (by omega) dX6_code_27 (by decide) rfl (fun h27 => absurd h27 (by omega)) (fun h27 => ?_)
        refine r_aload_n (q := 31) dX6_code_30 rfl rfl rfl ?_
        refine r_iload (q := 33) dX6_code_31 rfl rfl ?_
        refine r_ialdN (q := 34) 13 (by decide) rfl dX6_code_33 rfl (hs.e (show b < 5 by omega)) (hs.n rfl (show b < 5 by omega)) (by omega) (by decide) ?_
        refine r_topi (y := nI 3) r0 ?_
        refine r_iconst (q := 35) (nI 3) dX6_code_34 rfl (by decide) ?_
        refine r_icmp_neN (q := 38) (t := 106) (by omega) (by omega) dX6_code_35 (by decide) rfl (fun h35 => absurd h35 (by omega)) (fun h35 => ?_)
        refine r_iinc (q := 41) (L' := [some (zr 700 b), some (zi (nI fr)), some (zi (nI to)), some (zi (nI kc)), some (zi (-1 : Int32)), some (zi (nI p)), some (zi (nI p)), none]) (-1 : Int32) dX6_code_38 rfl rfl (by decide) (by decide) rfl ?_
        refine r_iload_n (q := 42) dX6_code_41 rfl rfl rfl ?_
        refine r_iload (q := 44) dX6_code_42 rfl rfl ?_
        refine r_if_ge (q := 47) (t := 51) dX6_code_44 (by decide) rfl (fun h44 => absurd h44 (by decide)) (fun h44 => ?_)
        refine r_iconst (q := 48) (nI 0) dX6_code_47 rfl (by decide) ?_
        refine r_goto (q := 59) dX6_code_48 (by decide) ?_
        refine r_ior (q := 60) dX6_code_59 rfl ?_
        refine r_topi (y := nI kc) (by rw [or_N, Nat.or_zero]) ?_
        refine r_istore_n (q := 61) (L' := [some (zr 700 b), some (zi (nI fr)), some (zi (nI to)), some (zi (nI kc)), some (zi (-1 : Int32)), some (zi (nI p)), some (zi (nI p)), none]) dX6_code_60 rfl rfl (by decide) rfl ?_
        refine r_iload (q := 63) dX6_code_61 rfl rfl ?_
        refine r_istore (q := 65) (L' := [some (zr 700 b), some (zi (nI fr)), some (zi (nI to)), some (zi (nI kc)), some (zi (-1 : Int32)), some (zi (nI p)), some (zi (nI p)), some (zi (nI p))]) dX6_code_63 rfl (by decide) rfl ?_
        refine r_iload (q := 67) dX6_code_65 rfl rfl ?_
        refine r_iload (q := 69) dX6_code_67 rfl rfl ?_
        refine r_icmp_geN (q := 72) (t := 100) (by omega) (by omega) dX6_code_69 (by decide) rfl (fun h69 => ?_) (fun h69 => absurd h69 (by omega))
        refine r_iload (q := 102) dX6_code_100 rfl rfl ?_
        refine r_iconst (q := 103) (nI 1) dX6_code_102 rfl (by decide) ?_
        refine r_iaddN (q := 104) dX6_code_103 rfl ?_
        refine r_istore (q := 106) (L' := [some (zr 700 b), some (zi (nI fr)), some (zi (nI to)), some (zi (nI kc)), some (zi (-1 : Int32)), some (zi (nI (p + 1))), some (zi (nI p)), some (zi (nI p))]) dX6_code_104 rfl (by decide) rfl ?_
        refine r_iincN (q := 109) (L' := [some (zr 700 b), some (zi (nI fr)), some (zi (nI to)), some (zi (nI kc)), some (zi (-1 : Int32)), some (zi (nI (p + 1))), some (zi (nI (p + 1))), some (zi (nI p))]) 1 rfl dX6_code_106 rfl rfl (by decide) rfl ?_
        refine r_goto (q := 12) dX6_code_109 (by decide) ?_
        refine r_iload (q := 14) dX6_code_12 rfl rfl ?_
        refine r_if_ltN (q := 17) (t := 112) (by omega) dX6_code_14 (by decide) rfl ?_
        refine r_iload (q := 19) dX6_code_17 rfl rfl ?_
        refine r_iload_n (q := 20) dX6_code_19 rfl rfl rfl ?_
        refine r_icmp_geN (q := 23) (t := 112) (by omega) (by omega) dX6_code_20 (by decide) rfl (fun h20 => ?_) (fun h20 => absurd h20 (by omega))
        refine r_iload_n (q := 113) dX6_code_112 rfl rfl rfl ?_
        refine r_ireturn dX6_code_113 rfl ?_
        exact ⟨rfl, rfl⟩
      · refine r_iload (q := 14) dX6_code_12 rfl rfl ?_
        refine r_if_ltN (q := 17) (t := 112) (by omega) dX6_code_14 (by decide) rfl ?_
        refine r_iload (q := 19) dX6_code_17 rfl rfl ?_
        refine r_iload_n (q := 20) dX6_code_19 rfl rfl rfl ?_
        refine r_icmp_geN (q := 23) (t := 112) (by omega) (by omega) dX6_code_20 (by decide) rfl (fun h20 => absurd h20 (by omega)) (fun h20 => ?_)
        refine r_iload (q := 25) dX6_code_23 rfl rfl ?_
        refine r_aload_n (q := 26) dX6_code_25 rfl rfl rfl ?_
        refine r_alen (q := 27) (by decide) (by decide) dX6_code_26 rfl (hs.e (show b < 5 by omega)) ?_
        refine r_topi (y := nI 13) (congrArg nI (hs.n rfl (show b < 5 by omega))) ?_
        refine r_icmp_geN (q := 30) (t := 112) (by omega) (by omega) dX6_code_27 (by decide) rfl (fun h27 => absurd h27 (by omega)) (fun h27 => ?_)
        refine r_aload_n (q := 31) dX6_code_30 rfl rfl rfl ?_
        refine r_iload (q := 33) dX6_code_31 rfl rfl ?_
        refine r_ialdN (q := 34) 13 (by decide) rfl dX6_code_33 rfl (hs.e (show b < 5 by omega)) (hs.n rfl (show b < 5 by omega)) (by omega) (by decide) ?_
        refine r_topi (y := nI 3) r0 ?_
        refine r_iconst (q := 35) (nI 3) dX6_code_34 rfl (by decide) ?_
        refine r_icmp_neN (q := 38) (t := 106) (by omega) (by omega) dX6_code_35 (by decide) rfl (fun h35 => absurd h35 (by omega)) (fun h35 => ?_)
        refine r_idecN (q := 41) (L' := [some (zr 700 b), some (zi (nI fr)), some (zi (nI to)), some (zi (nI kc)), some (zi (nI (B - 3))), some (zi (nI p)), some (zi (nI p)), none]) 3 (by omega) rfl dX6_code_38 rfl rfl (by decide) rfl ?_
        refine r_iload_n (q := 42) dX6_code_41 rfl rfl rfl ?_
        refine r_iload (q := 44) dX6_code_42 rfl rfl ?_
        refine r_if_geN (q := 47) (t := 51) (by omega) dX6_code_44 (by decide) rfl ?_
        refine r_iload (q := 53) dX6_code_51 rfl rfl ?_
        refine r_iload (q := 55) dX6_code_53 rfl rfl ?_
        refine r_isubN (q := 56) (by omega) dX6_code_55 rfl ?_
        refine r_iload (q := 58) dX6_code_56 rfl rfl ?_
        refine r_ishl (q := 59) dX6_code_58 rfl ?_
        refine r_topi (y := nI 0) (by rw [Nat.sub_self, shl_N (by omega) (by omega), Nat.zero_mul]) ?_
        refine r_ior (q := 60) dX6_code_59 rfl ?_
        refine r_topi (y := nI kc) (by rw [or_N, Nat.or_zero]) ?_
        refine r_istore_n (q := 61) (L' := [some (zr 700 b), some (zi (nI fr)), some (zi (nI to)), some (zi (nI kc)), some (zi (nI (B - 3))), some (zi (nI p)), some (zi (nI p)), none]) dX6_code_60 rfl rfl (by decide) rfl ?_
        refine r_iload (q := 63) dX6_code_61 rfl rfl ?_
        refine r_istore (q := 65) (L' := [some (zr 700 b), some (zi (nI fr)), some (zi (nI to)), some (zi (nI kc)), some (zi (nI (B - 3))), some (zi (nI p)), some (zi (nI p)), some (zi (nI p))]) dX6_code_63 rfl (by decide) rfl ?_
        refine r_iload (q := 67) dX6_code_65 rfl rfl ?_
        refine r_iload (q := 69) dX6_code_67 rfl rfl ?_
        refine r_icmp_geN (q := 72) (t := 100) (by omega) (by omega) dX6_code_69 (by decide) rfl (fun h69 => ?_) (fun h69 => absurd h69 (by omega))
        refine r_iload (q := 102) dX6_code_100 rfl rfl ?_
        refine r_iconst (q := 103) (nI 1) dX6_code_102 rfl (by decide) ?_
        refine r_iaddN (q := 104) dX6_code_103 rfl ?_
        refine r_istore (q := 106) (L' := [some (zr 700 b), some (zi (nI fr)), some (zi (nI to)), some (zi (nI kc)), some (zi (nI (B - 3))), some (zi (nI (p + 1))), some (zi (nI p)), some (zi (nI p))]) dX6_code_104 rfl (by decide) rfl ?_
        refine r_iincN (q := 109) (L' := [some (zr 700 b), some (zi (nI fr)), some (zi (nI to)), some (zi (nI kc)), some (zi (nI (B - 3))), some (zi (nI (p + 1))), some (zi (nI (p + 1))), some (zi (nI p))]) 1 rfl dX6_code_106 rfl rfl (by decide) rfl ?_
        refine r_goto (q := 12) dX6_code_109 (by decide) ?_
        refine r_iload (q := 14) dX6_code_12 rfl rfl ?_
        refine r_if_ltN (q := 17) (t := 112) (by omega) dX6_code_14 (by decide) rfl ?_
        refine r_iload (q := 19) dX6_code_17 rfl rfl ?_
        refine r_iload_n (q := 20) dX6_code_19 rfl rfl rfl ?_
        refine r_icmp_geN (q := 23) (t := 112) (by omega) (by omega) dX6_code_20 (by decide) rfl (fun h20 => ?_) (fun h20 => absurd h20 (by omega))
        refine r_iload_n (q := 113) dX6_code_112 rfl rfl rfl ?_
        refine r_ireturn dX6_code_113 rfl ?_
        exact ⟨rfl, rfl⟩
    · obtain ⟨b1, b2, b3⟩ := hb.2 he
      have p8 : 2 ^ B = 8 * 2 ^ (B - 3) := by rw [show B = B - 3 + 3 by omega, Nat.pow_add]; simp; omega
      have hv : r.length * 2 ^ (B - 3) ≤ 7 * 2 ^ (B - 3) := Nat.mul_le_mul_right _ b2
      have hpos3 : 0 < 2 ^ (B - 3) := Nat.pow_pos (by omega)
      have hm' : (kc + r.length * 2 ^ (B - 3)) % 2 ^ (B - 3) = 0 := by rw [Nat.add_mul_mod_self_right]; have := Nat.mod_mod_of_dvd kc (Nat.pow_dvd_pow 2 (show B - 3 ≤ B by omega)); rw [hm] at this; rw [← this]; rfl
      have klt := kr_lt rs _ hr.tl b3
      have alt := ac2_lt r (B - 3) (2 ^ (B - 3 - 2 * r.length) - 1) hr.hd (by omega) (by have : 0 < 2 ^ (B - 3 - 2 * r.length) := Nat.pow_pos (by omega); omega)
      have am := ac2_mod r (B - 3) (by omega)
      have hposC : 0 < 2 ^ (B - 3 - 2 * r.length) := Nat.pow_pos (by omega)
      have hm2 : (kc + r.length * 2 ^ (B - 3) + ac2 (B - 3) r) % 2 ^ (B - 3 - 2 * r.length) = 0 := by
        have := Nat.mod_mod_of_dvd (kc + r.length * 2 ^ (B - 3)) (Nat.pow_dvd_pow 2 (show B - 3 - 2 * r.length ≤ B - 3 by omega))
        rw [hm', Nat.zero_mod] at this
        rw [Nat.add_mod, am, ← this, Nat.zero_add, Nat.zero_mod]
      refine r_iload (q := 14) dX6_code_12 rfl rfl ?_
      refine r_if_ltN (q := 17) (t := 112) (by omega) dX6_code_14 (by decide) rfl ?_
      refine r_iload (q := 19) dX6_code_17 rfl rfl ?_
      refine r_iload_n (q := 20) dX6_code_19 rfl rfl rfl ?_
      refine r_icmp_geN (q := 23) (t := 112) (by omega) (by omega) dX6_code_20 (by decide) rfl (fun h20 => absurd h20 (by omega)) (fun h20 => ?_)
      refine r_iload (q := 25) dX6_code_23 rfl rfl ?_
      refine r_aload_n (q := 26) dX6_code_25 rfl rfl rfl ?_
      refine r_alen (q := 27) (by decide) (by decide) dX6_code_26 rfl (hs.e (show b < 5 by omega)) ?_
      refine r_topi (y := nI 13) (congrArg nI (hs.n rfl (show b < 5 by omega))) ?_
      refine r_icmp_geN (q := 30) (t := 112) (by omega) (by omega) dX6_code_27 (by decide) rfl (fun h27 => absurd h27 (by omega)) (fun h27 => ?_)
      refine r_aload_n (q := 31) dX6_code_30 rfl rfl rfl ?_
      refine r_iload (q := 33) dX6_code_31 rfl rfl ?_
      refine r_ialdN (q := 34) 13 (by decide) rfl dX6_code_33 rfl (hs.e (show b < 5 by omega)) (hs.n rfl (show b < 5 by omega)) (by omega) (by decide) ?_
      refine r_topi (y := nI 3) r0 ?_
      refine r_iconst (q := 35) (nI 3) dX6_code_34 rfl (by decide) ?_
      refine r_icmp_neN (q := 38) (t := 106) (by omega) (by omega) dX6_code_35 (by decide) rfl (fun h35 => absurd h35 (by omega)) (fun h35 => ?_)
      refine r_idecN (q := 41) (L' := [some (zr 700 b), some (zi (nI fr)), some (zi (nI to)), some (zi (nI kc)), some (zi (nI (B - 3))), some (zi (nI p)), some (zi (nI (p + r.length))), none]) 3 (by omega) rfl dX6_code_38 rfl rfl (by decide) rfl ?_
      refine r_iload_n (q := 42) dX6_code_41 rfl rfl rfl ?_
      refine r_iload (q := 44) dX6_code_42 rfl rfl ?_
      refine r_if_geN (q := 47) (t := 51) (by omega) dX6_code_44 (by decide) rfl ?_
      refine r_iload (q := 53) dX6_code_51 rfl rfl ?_
      refine r_iload (q := 55) dX6_code_53 rfl rfl ?_
      refine r_isubN (q := 56) (by omega) dX6_code_55 rfl ?_
      refine r_topi (y := nI r.length) (congrArg nI (by omega)) ?_
      refine r_iload (q := 58) dX6_code_56 rfl rfl ?_
      refine r_ishl (q := 59) dX6_code_58 rfl ?_
      refine r_topi (y := nI (r.length * 2 ^ (B - 3))) (shl_N (by omega) (by omega)) ?_
      refine r_ior (q := 60) dX6_code_59 rfl ?_
      refine r_topi (y := nI (kc + r.length * 2 ^ (B - 3))) (or_mod hm (by omega)) ?_
      refine r_istore_n (q := 61) (L' := [some (zr 700 b), some (zi (nI fr)), some (zi (nI to)), some (zi (nI (kc + r.length * 2 ^ (B - 3)))), some (zi (nI (B - 3))), some (zi (nI p)), some (zi (nI (p + r.length))), none]) dX6_code_60 rfl rfl (by decide) rfl ?_
      refine r_iload (q := 63) dX6_code_61 rfl rfl ?_
      refine r_istore (q := 65) (L' := [some (zr 700 b), some (zi (nI fr)), some (zi (nI to)), some (zi (nI (kc + r.length * 2 ^ (B - 3)))), some (zi (nI (B - 3))), some (zi (nI p)), some (zi (nI (p + r.length))), some (zi (nI p))]) dX6_code_63 rfl (by decide) rfl ?_
      refine lp_cd2_700 hs hb5 hto (by omega) r p _ (B - 3) hr.hd (by omega) (fun i hi => by rw [hrow i (by omega), tk_get hi]) (by omega) (by omega) hm' (by omega) ?_
      refine r_iload (q := 102) dX6_code_100 rfl rfl ?_
      refine r_iconst (q := 103) (nI 1) dX6_code_102 rfl (by decide) ?_
      refine r_iaddN (q := 104) dX6_code_103 rfl ?_
      refine r_istore (q := 106) (L' := [some (zr 700 b), some (zi (nI fr)), some (zi (nI to)), some (zi (nI (kc + r.length * 2 ^ (B - 3) + ac2 (B - 3) r))), some (zi (nI (B - 3 - 2 * r.length))), some (zi (nI ((p + r.length) + 1))), some (zi (nI (p + r.length))), some (zi (nI (p + r.length)))]) dX6_code_104 rfl (by decide) rfl ?_
      refine r_iincN (q := 109) (L' := [some (zr 700 b), some (zi (nI fr)), some (zi (nI to)), some (zi (nI (kc + r.length * 2 ^ (B - 3) + ac2 (B - 3) r))), some (zi (nI (B - 3 - 2 * r.length))), some (zi (nI ((p + r.length) + 1))), some (zi (nI (p + r.length + 1))), some (zi (nI (p + r.length)))]) 1 rfl dX6_code_106 rfl rfl (by decide) rfl ?_
      refine r_goto (q := 12) dX6_code_109 (by decide) ?_
      refine r_mask [true, true, true, true, true, true, true, false] rfl ?_
      have q := ih (p + r.length + 1) (kc + r.length * 2 ^ (B - 3) + ac2 (B - 3) r) (B - 3 - 2 * r.length) hr.tl b3 (by omega) (by omega) hm2 (by omega) hrow'
      rw [kr, show kc + (r.length * 2 ^ (B - 3) + (ac2 (B - 3) r + kr (B - 3 - 2 * r.length) rs)) = kc + r.length * 2 ^ (B - 3) + ac2 (B - 3) r + kr (B - 3 - 2 * r.length) rs by omega]
      exact q

set_option maxRecDepth 100000 in
theorem ok_code_700 {S : zS} (hs : Sd S) {b : Nat} (hb5 : b < 5) {fr to : Nat} (hto : to ≤ 13) {A n : Nat} {e : Nat → Nat} (hE : Eok A e) {t : List Nat} (ht : Tr A e n t) (hn : n ≤ 7) (hl : fr + t.length = to) (hrow : ∀ i, i < t.length → gI S 700 b (fr + i) = nI (nd (t.getD i 0))) : Ok mX6_code 0 (ent 8 [zr 700 b, zi (nI fr), zi (nI to)]) [] S (fun r S1 => r = some (zi (nI (ky t))) ∧ S1 = S) := by
  obtain ⟨h1, h2, h3, h4⟩ := ht.rn hE hn
  show Ok mX6_code 0 [some (zr 700 b), some (zi (nI fr)), some (zi (nI to)), none, none, none, none, none] [] S _
  refine r_iconst (q := 1) (nI 0) dX6_code_0 rfl (by decide) ?_
  refine r_istore_n (q := 2) (L' := [some (zr 700 b), some (zi (nI fr)), some (zi (nI to)), some (zi (nI 0)), none, none, none, none]) dX6_code_1 rfl rfl (by decide) rfl ?_
  refine r_bipush (q := 4) (nI 30) dX6_code_2 rfl (by decide) ?_
  refine r_istore (q := 6) (L' := [some (zr 700 b), some (zi (nI fr)), some (zi (nI to)), some (zi (nI 0)), some (zi (nI 30)), none, none, none]) dX6_code_4 rfl (by decide) rfl ?_
  refine r_iload_n (q := 7) dX6_code_6 rfl rfl rfl ?_
  refine r_istore (q := 9) (L' := [some (zr 700 b), some (zi (nI fr)), some (zi (nI to)), some (zi (nI 0)), some (zi (nI 30)), some (zi (nI fr)), none, none]) dX6_code_7 rfl (by decide) rfl ?_
  refine r_iload_n (q := 10) dX6_code_9 rfl rfl rfl ?_
  refine r_istore (q := 12) (L' := [some (zr 700 b), some (zi (nI fr)), some (zi (nI to)), some (zi (nI 0)), some (zi (nI 30)), some (zi (nI fr)), some (zi (nI fr)), none]) dX6_code_10 rfl (by decide) rfl ?_
  have q := lp_cd1_700 hs hb5 (fr := fr) hto (rns t) fr 0 30 h2 h4 (by omega) (by rw [← h1]; exact hl) (by simp) (by omega) (fun i hi => by rw [← h1] at hi ⊢; exact hrow i hi)
  rw [Nat.zero_add] at q
  exact q

set_option maxRecDepth 100000 in
theorem lp_cd0_510 {Po : Option zV → zS → Prop} {S : zS} (hs : Sd S)  {fr to : Nat} (hto : to ≤ 480) {key sh rf : Int32} : ∀ (r : List Nat) (p : Nat), (∀ k, k ∈ r → 1 ≤ k ∧ k ≤ 3) → p + r.length < to → (∀ i, i < r.length → gI S 510 0 (p + i) = nI (nd (r.getD i 0))) → Ok mX6_code 12 [some (zr 510 0), some (zi (nI fr)), some (zi (nI to)), some (zi key), some (zi sh), some (zi rf), some (zi (nI (p + r.length))), none] [] S Po → Ok mX6_code 12 [some (zr 510 0), some (zi (nI fr)), some (zi (nI to)), some (zi key), some (zi sh), some (zi rf), some (zi (nI p)), none] [] S Po := by
  intro r
  induction r with
  | nil => exact fun p _ _ _ K => K
  | cons k r ih =>
    intro p h3 hp hr K
    have hk := h3 k List.mem_cons_self
    have r0 : gI S 510 0 p = nI (k - 1) := by have := hr 0 (by simp); rw [Nat.add_zero] at this; rw [this]; show nI (nd k) = _; unfold nd; rw [if_neg (by omega)]
    rw [List.length_cons] at hp K
    refine r_iload (q := 14) dX6_code_12 rfl rfl ?_
    refine r_if_ltN (q := 17) (t := 112) (by omega) dX6_code_14 (by decide) rfl ?_
    refine r_iload (q := 19) dX6_code_17 rfl rfl ?_
    refine r_iload_n (q := 20) dX6_code_19 rfl rfl rfl ?_
    refine r_icmp_geN (q := 23) (t := 112) (by omega) (by omega) dX6_code_20 (by decide) rfl (fun h20 => absurd h20 (by omega)) (fun h20 => ?_)
    refine r_iload (q := 25) dX6_code_23 rfl rfl ?_
    refine r_aload_n (q := 26) dX6_code_25 rfl rfl rfl ?_
    refine r_alen (q := 27) (by decide) (by decide) dX6_code_26 rfl (hs.e (by decide)) ?_
    refine r_topi (y := nI 480) (congrArg nI (hs.n rfl (by decide))) ?_
    refine r_icmp_geN (q := 30) (t := 112) (by omega) (by omega) dX6_code_27 (by decide) rfl (fun h27 => absurd h27 (by omega)) (fun h27 => ?_)
    refine r_aload_n (q := 31) dX6_code_30 rfl rfl rfl ?_
    refine r_iload (q := 33) dX6_code_31 rfl rfl ?_
    refine r_ialdN (q := 34) 480 (by decide) rfl dX6_code_33 rfl (hs.e (by decide)) (hs.n rfl (by decide)) (by omega) (by decide) ?_
    refine r_topi (y := nI (k - 1)) r0 ?_
    refine r_iconst (q := 35) (nI 3) dX6_code_34 rfl (by decide) ?_
    refine r_icmp_neN (q := 38) (t := 106) (by omega) (by omega) dX6_code_35 (by decide) rfl (fun h35 => ?_) (fun h35 => absurd h35 (by omega))
    refine r_iincN (q := 109) (L' := [some (zr 510 0), some (zi (nI fr)), some (zi (nI to)), some (zi key), some (zi sh), some (zi rf), some (zi (nI (p + 1))), none]) 1 rfl dX6_code_106 rfl rfl (by decide) rfl ?_
    refine r_goto (q := 12) dX6_code_109 (by decide) ?_
    refine ih (p + 1) (fun q hq => h3 q (List.mem_cons_of_mem _ hq)) (by omega) (fun i hi => by have := hr (i + 1) (by simp; omega); rw [show p + 1 + i = p + (i + 1) by omega]; exact this) (by rw [show p + 1 + r.length = p + (r.length + 1) by omega]; exact K)

set_option maxRecDepth 100000 in
theorem lp_cd2_510 {Po : Option zV → zS → Prop} {S : zS} (hs : Sd S)  {fr to : Nat} (hto : to ≤ 480) {rf q : Nat} (hq : q < to) : ∀ (r : List Nat) (j kc B : Nat), (∀ k, k ∈ r → 1 ≤ k ∧ k ≤ 3) → j + r.length = q → (∀ i, i < r.length → gI S 510 0 (j + i) = nI (nd (r.getD i 0))) → 2 * r.length ≤ B → B ≤ 30 → kc % 2 ^ B = 0 → kc + 2 ^ B ≤ 2 ^ 30 → Ok mX6_code 100 [some (zr 510 0), some (zi (nI fr)), some (zi (nI to)), some (zi (nI (kc + ac2 B r))), some (zi (nI (B - 2 * r.length))), some (zi (nI rf)), some (zi (nI q)), some (zi (nI q))] [] S Po → Ok mX6_code 65 [some (zr 510 0), some (zi (nI fr)), some (zi (nI to)), some (zi (nI kc)), some (zi (nI B)), some (zi (nI rf)), some (zi (nI q)), some (zi (nI j))] [] S Po := by
  intro r
  induction r with
  | nil =>
    intro j kc B h3 hj hr hB hB30 hm hk K
    obtain rfl : j = q := by simpa using hj
    refine r_iload (q := 67) dX6_code_65 rfl rfl ?_
    refine r_iload (q := 69) dX6_code_67 rfl rfl ?_
    refine r_icmp_geN (q := 72) (t := 100) (by omega) (by omega) dX6_code_69 (by decide) rfl (fun h69 => ?_) (fun h69 => absurd h69 (by omega))
    exact K
  | cons k r ih =>
    intro j kc B h3 hj hr hB hB30 hm hkc K
    have hk := h3 k List.mem_cons_self
    have r0 : gI S 510 0 j = nI (k - 1) := by have := hr 0 (by simp); rw [Nat.add_zero] at this; rw [this]; show nI (nd k) = _; unfold nd; rw [if_neg (by omega)]
    rw [List.length_cons] at hj hB K
    have p4 : 2 ^ B = 4 * 2 ^ (B - 2) := by rw [show B = B - 2 + 2 by omega, Nat.pow_add]; simp; omega
    have hv : (k - 1) * 2 ^ (B - 2) ≤ 2 * 2 ^ (B - 2) := Nat.mul_le_mul_right _ (by omega)
    have hpos : 0 < 2 ^ (B - 2) := Nat.pow_pos (by omega)
    have hm' : (kc + (k - 1) * 2 ^ (B - 2)) % 2 ^ (B - 2) = 0 := by rw [Nat.add_mul_mod_self_right]; have := Nat.mod_mod_of_dvd kc (Nat.pow_dvd_pow 2 (show B - 2 ≤ B by omega)); rw [hm] at this; rw [← this]; rfl
    refine r_iload (q := 67) dX6_code_65 rfl rfl ?_
    refine r_iload (q := 69) dX6_code_67 rfl rfl ?_
    refine r_icmp_geN (q := 72) (t := 100) (by omega) (by omega) dX6_code_69 (by decide) rfl (fun h69 => absurd h69 (by omega)) (fun h69 => ?_)
    refine r_idecN (q := 75) (L' := [some (zr 510 0), some (zi (nI fr)), some (zi (nI to)), some (zi (nI kc)), some (zi (nI (B - 2))), some (zi (nI rf)), some (zi (nI q)), some (zi (nI j))]) 2 (by omega) rfl dX6_code_72 rfl rfl (by decide) rfl ?_
    refine r_iload_n (q := 76) dX6_code_75 rfl rfl rfl ?_
    refine r_iload (q := 78) dX6_code_76 rfl rfl ?_
    refine r_if_geN (q := 81) (t := 85) (by omega) dX6_code_78 (by decide) rfl ?_
    refine r_aload_n (q := 86) dX6_code_85 rfl rfl rfl ?_
    refine r_iload (q := 88) dX6_code_86 rfl rfl ?_
    refine r_ialdN (q := 89) 480 (by decide) rfl dX6_code_88 rfl (hs.e (by decide)) (hs.n rfl (by decide)) (by omega) (by decide) ?_
    refine r_topi (y := nI (k - 1)) r0 ?_
    refine r_iload (q := 91) dX6_code_89 rfl rfl ?_
    refine r_ishl (q := 92) dX6_code_91 rfl ?_
    refine r_topi (y := nI ((k - 1) * 2 ^ (B - 2))) (shl_N (by omega) (by omega)) ?_
    refine r_ior (q := 93) dX6_code_92 rfl ?_
    refine r_topi (y := nI (kc + (k - 1) * 2 ^ (B - 2))) (or_mod hm (by omega)) ?_
    refine r_istore_n (q := 94) (L' := [some (zr 510 0), some (zi (nI fr)), some (zi (nI to)), some (zi (nI (kc + (k - 1) * 2 ^ (B - 2)))), some (zi (nI (B - 2))), some (zi (nI rf)), some (zi (nI q)), some (zi (nI j))]) dX6_code_93 rfl rfl (by decide) rfl ?_
    refine r_iincN (q := 97) (L' := [some (zr 510 0), some (zi (nI fr)), some (zi (nI to)), some (zi (nI (kc + (k - 1) * 2 ^ (B - 2)))), some (zi (nI (B - 2))), some (zi (nI rf)), some (zi (nI q)), some (zi (nI (j + 1)))]) 1 rfl dX6_code_94 rfl rfl (by decide) rfl ?_
    refine r_goto (q := 65) dX6_code_97 (by decide) ?_
    refine ih (j + 1) _ (B - 2) (fun q hq => h3 q (List.mem_cons_of_mem _ hq)) (by omega) (fun i hi => by have := hr (i + 1) (by simp; omega); rw [show j + 1 + i = j + (i + 1) by omega]; exact this) (by omega) (by omega) hm' (by omega) (by rw [show B - 2 - 2 * r.length = B - 2 * (r.length + 1) by omega, Nat.add_assoc]; exact K)

set_option maxRecDepth 100000 in
theorem lp_cd1_510 {S : zS} (hs : Sd S)  {fr to : Nat} (hto : to ≤ 480) : ∀ (rs : List (List Nat)) (p kc B : Nat), Ru rs → Bt B rs → B ≤ 30 → p + (tk rs).length = to → kc % 2 ^ B = 0 → kc + 2 ^ B ≤ 2 ^ 30 → (∀ i, i < (tk rs).length → gI S 510 0 (p + i) = nI (nd ((tk rs).getD i 0))) → Ok mX6_code 12 [some (zr 510 0), some (zi (nI fr)), some (zi (nI to)), some (zi (nI kc)), some (zi (nI B)), some (zi (nI p)), some (zi (nI p)), none] [] S (fun r S1 => r = some (zi (nI (kc + kr B rs))) ∧ S1 = S) := by
  intro rs
  induction rs with
  | nil =>
    intro p kc B hr hb hB hp hm hk hrow
    obtain rfl : p = to := by simpa [tk] using hp
    refine r_iload (q := 14) dX6_code_12 rfl rfl ?_
    refine r_if_ltN (q := 17) (t := 112) (by omega) dX6_code_14 (by decide) rfl ?_
    refine r_iload (q := 19) dX6_code_17 rfl rfl ?_
    refine r_iload_n (q := 20) dX6_code_19 rfl rfl rfl ?_
    refine r_icmp_geN (q := 23) (t := 112) (by omega) (by omega) dX6_code_20 (by decide) rfl (fun h20 => ?_) (fun h20 => absurd h20 (by omega))
    refine r_iload_n (q := 113) dX6_code_112 rfl rfl rfl ?_
    refine r_ireturn dX6_code_113 rfl ?_
    exact ⟨rfl, rfl⟩
  | cons r rs ih =>
    intro p kc B hr hb hB hp hm hk hrow
    have hl : (tk (r :: rs)).length = r.length + ((tk rs).length + 1) := by rw [tk_cons, List.length_append, List.length_cons]
    rw [hl] at hp
    have r0 : gI S 510 0 (p + r.length) = nI 3 := by rw [hrow r.length (by omega), tk_get0]; rfl
    have hpos : 0 < 2 ^ B := Nat.pow_pos (by omega)
    refine lp_cd0_510 hs hto r p hr.hd (by omega) (fun i hi => by rw [hrow i (by omega), tk_get hi]) ?_
    have hrow' : ∀ i, i < (tk rs).length → gI S 510 0 (p + r.length + 1 + i) = nI (nd ((tk rs).getD i 0)) := fun i hi => by rw [show p + r.length + 1 + i = p + (r.length + 1 + i) by omega, hrow _ (by omega), tk_getS]
    by_cases he : rs = []
    · have e0 := hb.1 he
      subst e0
      subst he
      have hlt : p < to := by simp at hp; omega
      have r0 : gI S 510 0 p = nI 3 := r0
      have ep : p + 1 = to := by simp [tk] at hp; omega
      have ekr : kr B [[]] = 0 := by simp [kr, ac2]
      rw [ekr, Nat.add_zero]
      show Ok mX6_code 12 [some (zr 510 0), some (zi (nI fr)), some (zi (nI to)), some (zi (nI kc)), some (zi (nI B)), some (zi (nI p)), some (zi (nI p)), none] [] S _
      rcases (show B = 0 ∨ B = 1 ∨ B = 2 ∨ 3 ≤ B by omega) with rfl | rfl | rfl | h3
      · refine r_iload (q := 14) dX6_code_12 rfl rfl ?_
        refine r_if_ltN (q := 17) (t := 112) (by omega) dX6_code_14 (by decide) rfl ?_
        refine r_iload (q := 19) dX6_code_17 rfl rfl ?_
        refine r_iload_n (q := 20) dX6_code_19 rfl rfl rfl ?_
        refine r_icmp_geN (q := 23) (t := 112) (by omega) (by omega) dX6_code_20 (by decide) rfl (fun h20 => absurd h20 (by omega)) (fun h20 => ?_)
        refine r_iload (q := 25) dX6_code_23 rfl rfl ?_
        refine r_aload_n (q := 26) dX6_code_25 rfl rfl rfl ?_
        refine r_alen (q := 27) (by decide) (by decide) dX6_code_26 rfl (hs.e (by decide)) ?_
        refine r_topi (y := nI 480) (congrArg nI (hs.n rfl (by decide))) ?_
        refine r_icmp_geN (q := 30) (t := 112) (by omega) (by omega) dX6_code_27 (by decide) rfl (fun h27 => absurd h27 (by omega)) (fun h27 => ?_)
        refine r_aload_n (q := 31) dX6_code_30 rfl rfl rfl ?_
        refine r_iload (q := 33) dX6_code_31 rfl rfl ?_
        refine r_ialdN (q := 34) 480 (by decide) rfl dX6_code_33 rfl (hs.e (by decide)) (hs.n rfl (by decide)) (by omega) (by decide) ?_
        refine r_topi (y := nI 3) r0 ?_
        refine r_iconst (q := 35) (nI 3) dX6_code_34 rfl (by decide) ?_
        refine r_icmp_neN (q := 38) (t := 106) (by omega) (by omega) dX6_code_35 (by decide) rfl (fun h35 => absurd h35 (by omega)) (fun h35 => ?_)
        refine r_iinc (q := 41) (L' := [some (zr 510 0), some (zi (nI fr)), some (zi (nI to)), some (zi (nI kc)), some (zi (-3 : Int32)), some (zi (nI p)), some (zi (nI p)), none]) (-3 : Int32) dX6_code_38 rfl rfl (by decide) (by decide) rfl ?_
        refine r_iload_n (q := 42) dX6_code_41 rfl rfl rfl ?_
        refine r_iload (q := 44) dX6_code_42 rfl rfl ?_
        refine r_if_ge (q := 47) (t := 51) dX6_code_44 (by decide) rfl (fun h44 => absurd h44 (by decide)) (fun h44 => ?_)
        refine r_iconst (q := 48) (nI 0) dX6_code_47 rfl (by decide) ?_
        refine r_goto (q := 59) dX6_code_48 (by decide) ?_
        refine r_ior (q := 60) dX6_code_59 rfl ?_
        refine r_topi (y := nI kc) (by rw [or_N, Nat.or_zero]) ?_
        refine r_istore_n (q := 61) (L' := [some (zr 510 0), some (zi (nI fr)), some (zi (nI to)), some (zi (nI kc)), some (zi (-3 : Int32)), some (zi (nI p)), some (zi (nI p)), none]) dX6_code_60 rfl rfl (by decide) rfl ?_
        refine r_iload (q := 63) dX6_code_61 rfl rfl ?_
        refine r_istore (q := 65) (L' := [some (zr 510 0), some (zi (nI fr)), some (zi (nI to)), some (zi (nI kc)), some (zi (-3 : Int32)), some (zi (nI p)), some (zi (nI p)), some (zi (nI p))]) dX6_code_63 rfl (by decide) rfl ?_
        refine r_iload (q := 67) dX6_code_65 rfl rfl ?_
        refine r_iload (q := 69) dX6_code_67 rfl rfl ?_
        refine r_icmp_geN (q := 72) (t := 100) (by omega) (by omega) dX6_code_69 (by decide) rfl (fun h69 => ?_) (fun h69 => absurd h69 (by omega))
        refine r_iload (q := 102) dX6_code_100 rfl rfl ?_
        refine r_iconst (q := 103) (nI 1) dX6_code_102 rfl (by decide) ?_
        refine r_iaddN (q := 104) dX6_code_103 rfl ?_
        refine r_istore (q := 106) (L' := [some (zr 510 0), some (zi (nI fr)), some (zi (nI to)), some (zi (nI kc)), some (zi (-3 : Int32)), some (zi (nI (p + 1))), some (zi (nI p)), some (zi (nI p))]) dX6_code_104 rfl (by decide) rfl ?_
        refine r_iincN (q := 109) (L' := [some (zr 510 0), some (zi (nI fr)), some (zi (nI to)), some (zi (nI kc)), some (zi (-3 : Int32)), some (zi (nI (p + 1))), some (zi (nI (p + 1))), some (zi (nI p))]) 1 rfl dX6_code_106 rfl rfl (by decide) rfl ?_
        refine r_goto (q := 12) dX6_code_109 (by decide) ?_
        refine r_iload (q := 14) dX6_code_12 rfl rfl ?_
        refine r_if_ltN (q := 17) (t := 112) (by omega) dX6_code_14 (by decide) rfl ?_
        refine r_iload (q := 19) dX6_code_17 rfl rfl ?_
        refine r_iload_n (q := 20) dX6_code_19 rfl rfl rfl ?_
        refine r_icmp_geN (q := 23) (t := 112) (by omega) (by omega) dX6_code_20 (by decide) rfl (fun h20 => ?_) (fun h20 => absurd h20 (by omega))
        refine r_iload_n (q := 113) dX6_code_112 rfl rfl rfl ?_
        refine r_ireturn dX6_code_113 rfl ?_
        exact ⟨rfl, rfl⟩
      · refine r_iload (q := 14) dX6_code_12 rfl rfl ?_
        refine r_if_ltN (q := 17) (t := 112) (by omega) dX6_code_14 (by decide) rfl ?_
        refine r_iload (q := 19) dX6_code_17 rfl rfl ?_
        refine r_iload_n (q := 20) dX6_code_19 rfl rfl rfl ?_
        refine r_icmp_geN (q := 23) (t := 112) (by omega) (by omega) dX6_code_20 (by decide) rfl (fun h20 => absurd h20 (by omega)) (fun h20 => ?_)
        refine r_iload (q := 25) dX6_code_23 rfl rfl ?_
        refine r_aload_n (q := 26) dX6_code_25 rfl rfl rfl ?_
        refine r_alen (q := 27) (by decide) (by decide) dX6_code_26 rfl (hs.e (by decide)) ?_
        refine r_topi (y := nI 480) (congrArg nI (hs.n rfl (by decide))) ?_
        refine r_icmp_geN (q := 30) (t := 112) (by omega) (by omega) dX6_code_27 (by decide) rfl (fun h27 => absurd h27 (by omega)) (fun h27 => ?_)
        refine r_aload_n (q := 31) dX6_code_30 rfl rfl rfl ?_
        refine r_iload (q := 33) dX6_code_31 rfl rfl ?_
        refine r_ialdN (q := 34) 480 (by decide) rfl dX6_code_33 rfl (hs.e (by decide)) (hs.n rfl (by decide)) (by omega) (by decide) ?_
        refine r_topi (y := nI 3) r0 ?_
        refine r_iconst (q := 35) (nI 3) dX6_code_34 rfl (by decide) ?_
        refine r_icmp_neN (q := 38) (t := 106) (by omega) (by omega) dX6_code_35 (by decide) rfl (fun h35 => absurd h35 (by omega)) (fun h35 => ?_)
        refine r_iinc (q := 41) (L' := [some (zr 510 0), some (zi (nI fr)), some (zi (nI to)), some (zi (nI kc)), some (zi (-2 : Int32)), some (zi (nI p)), some (zi (nI p)), none]) (-2 : Int32) dX6_code_38 rfl rfl (by decide) (by decide) rfl ?_
        refine r_iload_n (q := 42) dX6_code_41 rfl rfl rfl ?_
        refine r_iload (q := 44) dX6_code_42 rfl rfl ?_
        refine r_if_ge (q := 47) (t := 51) dX6_code_44 (by decide) rfl (fun h44 => absurd h44 (by decide)) (fun h44 => ?_)
        refine r_iconst (q := 48) (nI 0) dX6_code_47 rfl (by decide) ?_
        refine r_goto (q := 59) dX6_code_48 (by decide) ?_
        refine r_ior (q := 60) dX6_code_59 rfl ?_
        refine r_topi (y := nI kc) (by rw [or_N, Nat.or_zero]) ?_
        refine r_istore_n (q := 61) (L' := [some (zr 510 0), some (zi (nI fr)), some (zi (nI to)), some (zi (nI kc)), some (zi (-2 : Int32)), some (zi (nI p)), some (zi (nI p)), none]) dX6_code_60 rfl rfl (by decide) rfl ?_
        refine r_iload (q := 63) dX6_code_61 rfl rfl ?_
        refine r_istore (q := 65) (L' := [some (zr 510 0), some (zi (nI fr)), some (zi (nI to)), some (zi (nI kc)), some (zi (-2 : Int32)), some (zi (nI p)), some (zi (nI p)), some (zi (nI p))]) dX6_code_63 rfl (by decide) rfl ?_
        refine r_iload (q := 67) dX6_code_65 rfl rfl ?_
        refine r_iload (q := 69) dX6_code_67 rfl rfl ?_
        refine r_icmp_geN (q := 72) (t := 100) (by omega) (by omega) dX6_code_69 (by decide) rfl (fun h69 => ?_) (fun h69 => absurd h69 (by omega))
        refine r_iload (q := 102) dX6_code_100 rfl rfl ?_
        refine r_iconst (q := 103) (nI 1) dX6_code_102 rfl (by decide) ?_
        refine r_iaddN (q := 104) dX6_code_103 rfl ?_
        refine r_istore (q := 106) (L' := [some (zr 510 0), some (zi (nI fr)), some (zi (nI to)), some (zi (nI kc)), some (zi (-2 : Int32)), some (zi (nI (p + 1))), some (zi (nI p)), some (zi (nI p))]) dX6_code_104 rfl (by decide) rfl ?_
        refine r_iincN (q := 109) (L' := [some (zr 510 0), some (zi (nI fr)), some (zi (nI to)), some (zi (nI kc)), some (zi (-2 : Int32)), some (zi (nI (p + 1))), some (zi (nI (p + 1))), some (zi (nI p))]) 1 rfl dX6_code_106 rfl rfl (by decide) rfl ?_
        refine r_goto (q := 12) dX6_code_109 (by decide) ?_
        refine r_iload (q := 14) dX6_code_12 rfl rfl ?_
        refine r_if_ltN (q := 17) (t := 112) (by omega) dX6_code_14 (by decide) rfl ?_
        refine r_iload (q := 19) dX6_code_17 rfl rfl ?_
        refine r_iload_n (q := 20) dX6_code_19 rfl rfl rfl ?_
        refine r_icmp_geN (q := 23) (t := 112) (by omega) (by omega) dX6_code_20 (by decide) rfl (fun h20 => ?_) (fun h20 => absurd h20 (by omega))
        refine r_iload_n (q := 113) dX6_code_112 rfl rfl rfl ?_
        refine r_ireturn dX6_code_113 rfl ?_
        exact ⟨rfl, rfl⟩
      · refine r_iload (q := 14) dX6_code_12 rfl rfl ?_
        refine r_if_ltN (q := 17) (t := 112) (by omega) dX6_code_14 (by decide) rfl ?_
        refine r_iload (q := 19) dX6_code_17 rfl rfl ?_
        refine r_iload_n (q := 20) dX6_code_19 rfl rfl rfl ?_
        refine r_icmp_geN (q := 23) (t := 112) (by omega) (by omega) dX6_code_20 (by decide) rfl (fun h20 => absurd h20 (by omega)) (fun h20 => ?_)
        refine r_iload (q := 25) dX6_code_23 rfl rfl ?_
        refine r_aload_n (q := 26) dX6_code_25 rfl rfl rfl ?_
        refine r_alen (q := 27) (by decide) (by decide) dX6_code_26 rfl (hs.e (by decide)) ?_
        refine r_topi (y := nI 480) (congrArg nI (hs.n rfl (by decide))) ?_
        refine r_icmp_geN (q := 30) (t := 112) (by omega) (by omega) dX6_code_27 (by decide) rfl (fun h27 => absurd h27 (by omega)) (fun h27 => ?_)
        refine r_aload_n (q := 31) dX6_code_30 rfl rfl rfl ?_
        refine r_iload (q := 33) dX6_code_31 rfl rfl ?_
        refine r_ialdN (q := 34) 480 (by decide) rfl dX6_code_33 rfl (hs.e (by decide)) (hs.n rfl (by decide)) (by omega) (by decide) ?_
        refine r_topi (y := nI 3) r0 ?_
        refine r_iconst (q := 35) (nI 3) dX6_code_34 rfl (by decide) ?_
        refine r_icmp_neN (q := 38) (t := 106) (by omega) (by omega) dX6_code_35 (by decide) rfl (fun h35 => absurd h35 (by omega)) (fun h35 => ?_)
        refine r_iinc (q := 41) (L' := [some (zr 510 0), some (zi (nI fr)), some (zi (nI to)), some (zi (nI kc)), some (zi (-1 : Int32)), some (zi (nI p)), some (zi (nI p)), none]) (-1 : Int32) dX6_code_38 rfl rfl (by decide) (by decide) rfl ?_
        refine r_iload_n (q := 42) dX6_code_41 rfl rfl rfl ?_
        refine r_iload (q := 44) dX6_code_42 rfl rfl ?_
        refine r_if_ge (q := 47) (t := 51) dX6_code_44 (by decide) rfl (fun h44 => absurd h44 (by decide)) (fun h44 => ?_)
        refine r_iconst (q := 48) (nI 0) dX6_code_47 rfl (by decide) ?_
        refine r_goto (q := 59) dX6_code_48 (by decide) ?_
        refine r_ior (q := 60) dX6_code_59 rfl ?_
        refine r_topi (y := nI kc) (by rw [or_N, Nat.or_zero]) ?_
        refine r_istore_n (q := 61) (L' := [some (zr 510 0), some (zi (nI fr)), some (zi (nI to)), some (zi (nI kc)), some (zi (-1 : Int32)), some (zi (nI p)), some (zi (nI p)), none]) dX6_code_60 rfl rfl (by decide) rfl ?_
        refine r_iload (q := 63) dX6_code_61 rfl rfl ?_
        refine r_istore (q := 65) (L' := [some (zr 510 0), some (zi (nI fr)), some (zi (nI to)), some (zi (nI kc)), some (zi (-1 : Int32)), some (zi (nI p)), some (zi (nI p)), some (zi (nI p))]) dX6_code_63 rfl (by decide) rfl ?_
        refine r_iload (q := 67) dX6_code_65 rfl rfl ?_
        refine r_iload (q := 69) dX6_code_67 rfl rfl ?_
        refine r_icmp_geN (q := 72) (t := 100) (by omega) (by omega) dX6_code_69 (by decide) rfl (fun h69 => ?_) (fun h69 => absurd h69 (by omega))
        refine r_iload (q := 102) dX6_code_100 rfl rfl ?_
        refine r_iconst (q := 103) (nI 1) dX6_code_102 rfl (by decide) ?_
        refine r_iaddN (q := 104) dX6_code_103 rfl ?_
        refine r_istore (q := 106) (L' := [some (zr 510 0), some (zi (nI fr)), some (zi (nI to)), some (zi (nI kc)), some (zi (-1 : Int32)), some (zi (nI (p + 1))), some (zi (nI p)), some (zi (nI p))]) dX6_code_104 rfl (by decide) rfl ?_
        refine r_iincN (q := 109) (L' := [some (zr 510 0), some (zi (nI fr)), some (zi (nI to)), some (zi (nI kc)), some (zi (-1 : Int32)), some (zi (nI (p + 1))), some (zi (nI (p + 1))), some (zi (nI p))]) 1 rfl dX6_code_106 rfl rfl (by decide) rfl ?_
        refine r_goto (q := 12) dX6_code_109 (by decide) ?_
        refine r_iload (q := 14) dX6_code_12 rfl rfl ?_
        refine r_if_ltN (q := 17) (t := 112) (by omega) dX6_code_14 (by decide) rfl ?_
        refine r_iload (q := 19) dX6_code_17 rfl rfl ?_
        refine r_iload_n (q := 20) dX6_code_19 rfl rfl rfl ?_
        refine r_icmp_geN (q := 23) (t := 112) (by omega) (by omega) dX6_code_20 (by decide) rfl (fun h20 => ?_) (fun h20 => absurd h20 (by omega))
        refine r_iload_n (q := 113) dX6_code_112 rfl rfl rfl ?_
        refine r_ireturn dX6_code_113 rfl ?_
        exact ⟨rfl, rfl⟩
      · refine r_iload (q := 14) dX6_code_12 rfl rfl ?_
        refine r_if_ltN (q := 17) (t := 112) (by omega) dX6_code_14 (by decide) rfl ?_
        refine r_iload (q := 19) dX6_code_17 rfl rfl ?_
        refine r_iload_n (q := 20) dX6_code_19 rfl rfl rfl ?_
        refine r_icmp_geN (q := 23) (t := 112) (by omega) (by omega) dX6_code_20 (by decide) rfl (fun h20 => absurd h20 (by omega)) (fun h20 => ?_)
        refine r_iload (q := 25) dX6_code_23 rfl rfl ?_
        refine r_aload_n (q := 26) dX6_code_25 rfl rfl rfl ?_
        refine r_alen (q := 27) (by decide) (by decide) dX6_code_26 rfl (hs.e (by decide)) ?_
        refine r_topi (y := nI 480) (congrArg nI (hs.n rfl (by decide))) ?_
        refine r_icmp_geN (q := 30) (t := 112) (by omega) (by omega) dX6_code_27 (by decide) rfl (fun h27 => absurd h27 (by omega)) (fun h27 => ?_)
        refine r_aload_n (q := 31) dX6_code_30 rfl rfl rfl ?_
        refine r_iload (q := 33) dX6_code_31 rfl rfl ?_
        refine r_ialdN (q := 34) 480 (by decide) rfl dX6_code_33 rfl (hs.e (by decide)) (hs.n rfl (by decide)) (by omega) (by decide) ?_
        refine r_topi (y := nI 3) r0 ?_
        refine r_iconst (q := 35) (nI 3) dX6_code_34 rfl (by decide) ?_
        refine r_icmp_neN (q := 38) (t := 106) (by omega) (by omega) dX6_code_35 (by decide) rfl (fun h35 => absurd h35 (by omega)) (fun h35 => ?_)
        refine r_idecN (q := 41) (L' := [some (zr 510 0), some (zi (nI fr)), some (zi (nI to)), some (zi (nI kc)), some (zi (nI (B - 3))), some (zi (nI p)), some (zi (nI p)), none]) 3 (by omega) rfl dX6_code_38 rfl rfl (by decide) rfl ?_
        refine r_iload_n (q := 42) dX6_code_41 rfl rfl rfl ?_
        refine r_iload (q := 44) dX6_code_42 rfl rfl ?_
        refine r_if_geN (q := 47) (t := 51) (by omega) dX6_code_44 (by decide) rfl ?_
        refine r_iload (q := 53) dX6_code_51 rfl rfl ?_
        refine r_iload (q := 55) dX6_code_53 rfl rfl ?_
        refine r_isubN (q := 56) (by omega) dX6_code_55 rfl ?_
        refine r_iload (q := 58) dX6_code_56 rfl rfl ?_
        refine r_ishl (q := 59) dX6_code_58 rfl ?_
        refine r_topi (y := nI 0) (by rw [Nat.sub_self, shl_N (by omega) (by omega), Nat.zero_mul]) ?_
        refine r_ior (q := 60) dX6_code_59 rfl ?_
        refine r_topi (y := nI kc) (by rw [or_N, Nat.or_zero]) ?_
        refine r_istore_n (q := 61) (L' := [some (zr 510 0), some (zi (nI fr)), some (zi (nI to)), some (zi (nI kc)), some (zi (nI (B - 3))), some (zi (nI p)), some (zi (nI p)), none]) dX6_code_60 rfl rfl (by decide) rfl ?_
        refine r_iload (q := 63) dX6_code_61 rfl rfl ?_
        refine r_istore (q := 65) (L' := [some (zr 510 0), some (zi (nI fr)), some (zi (nI to)), some (zi (nI kc)), some (zi (nI (B - 3))), some (zi (nI p)), some (zi (nI p)), some (zi (nI p))]) dX6_code_63 rfl (by decide) rfl ?_
        refine r_iload (q := 67) dX6_code_65 rfl rfl ?_
        refine r_iload (q := 69) dX6_code_67 rfl rfl ?_
        refine r_icmp_geN (q := 72) (t := 100) (by omega) (by omega) dX6_code_69 (by decide) rfl (fun h69 => ?_) (fun h69 => absurd h69 (by omega))
        refine r_iload (q := 102) dX6_code_100 rfl rfl ?_
        refine r_iconst (q := 103) (nI 1) dX6_code_102 rfl (by decide) ?_
        refine r_iaddN (q := 104) dX6_code_103 rfl ?_
        refine r_istore (q := 106) (L' := [some (zr 510 0), some (zi (nI fr)), some (zi (nI to)), some (zi (nI kc)), some (zi (nI (B - 3))), some (zi (nI (p + 1))), some (zi (nI p)), some (zi (nI p))]) dX6_code_104 rfl (by decide) rfl ?_
        refine r_iincN (q := 109) (L' := [some (zr 510 0), some (zi (nI fr)), some (zi (nI to)), some (zi (nI kc)), some (zi (nI (B - 3))), some (zi (nI (p + 1))), some (zi (nI (p + 1))), some (zi (nI p))]) 1 rfl dX6_code_106 rfl rfl (by decide) rfl ?_
        refine r_goto (q := 12) dX6_code_109 (by decide) ?_
        refine r_iload (q := 14) dX6_code_12 rfl rfl ?_
        refine r_if_ltN (q := 17) (t := 112) (by omega) dX6_code_14 (by decide) rfl ?_
        refine r_iload (q := 19) dX6_code_17 rfl rfl ?_
        refine r_iload_n (q := 20) dX6_code_19 rfl rfl rfl ?_
        refine r_icmp_geN (q := 23) (t := 112) (by omega) (by omega) dX6_code_20 (by decide) rfl (fun h20 => ?_) (fun h20 => absurd h20 (by omega))
        refine r_iload_n (q := 113) dX6_code_112 rfl rfl rfl ?_
        refine r_ireturn dX6_code_113 rfl ?_
        exact ⟨rfl, rfl⟩
    · obtain ⟨b1, b2, b3⟩ := hb.2 he
      have p8 : 2 ^ B = 8 * 2 ^ (B - 3) := by rw [show B = B - 3 + 3 by omega, Nat.pow_add]; simp; omega
      have hv : r.length * 2 ^ (B - 3) ≤ 7 * 2 ^ (B - 3) := Nat.mul_le_mul_right _ b2
      have hpos3 : 0 < 2 ^ (B - 3) := Nat.pow_pos (by omega)
      have hm' : (kc + r.length * 2 ^ (B - 3)) % 2 ^ (B - 3) = 0 := by rw [Nat.add_mul_mod_self_right]; have := Nat.mod_mod_of_dvd kc (Nat.pow_dvd_pow 2 (show B - 3 ≤ B by omega)); rw [hm] at this; rw [← this]; rfl
      have klt := kr_lt rs _ hr.tl b3
      have alt := ac2_lt r (B - 3) (2 ^ (B - 3 - 2 * r.length) - 1) hr.hd (by omega) (by have : 0 < 2 ^ (B - 3 - 2 * r.length) := Nat.pow_pos (by omega); omega)
      have am := ac2_mod r (B - 3) (by omega)
      have hposC : 0 < 2 ^ (B - 3 - 2 * r.length) := Nat.pow_pos (by omega)
      have hm2 : (kc + r.length * 2 ^ (B - 3) + ac2 (B - 3) r) % 2 ^ (B - 3 - 2 * r.length) = 0 := by
        have := Nat.mod_mod_of_dvd (kc + r.length * 2 ^ (B - 3)) (Nat.pow_dvd_pow 2 (show B - 3 - 2 * r.length ≤ B - 3 by omega))
        rw [hm', Nat.zero_mod] at this
        rw [Nat.add_mod, am, ← this, Nat.zero_add, Nat.zero_mod]
      refine r_iload (q := 14) dX6_code_12 rfl rfl ?_
      refine r_if_ltN (q := 17) (t := 112) (by omega) dX6_code_14 (by decide) rfl ?_
      refine r_iload (q := 19) dX6_code_17 rfl rfl ?_
      refine r_iload_n (q := 20) dX6_code_19 rfl rfl rfl ?_
      refine r_icmp_geN (q := 23) (t := 112) (by omega) (by omega) dX6_code_20 (by decide) rfl (fun h20 => absurd h20 (by omega)) (fun h20 => ?_)
      refine r_iload (q := 25) dX6_code_23 rfl rfl ?_
      refine r_aload_n (q := 26) dX6_code_25 rfl rfl rfl ?_
      refine r_alen (q := 27) (by decide) (by decide) dX6_code_26 rfl (hs.e (by decide)) ?_
      refine r_topi (y := nI 480) (congrArg nI (hs.n rfl (by decide))) ?_
      refine r_icmp_geN (q := 30) (t := 112) (by omega) (by omega) dX6_code_27 (by decide) rfl (fun h27 => absurd h27 (by omega)) (fun h27 => ?_)
      refine r_aload_n (q := 31) dX6_code_30 rfl rfl rfl ?_
      refine r_iload (q := 33) dX6_code_31 rfl rfl ?_
      refine r_ialdN (q := 34) 480 (by decide) rfl dX6_code_33 rfl (hs.e (by decide)) (hs.n rfl (by decide)) (by omega) (by decide) ?_
      refine r_topi (y := nI 3) r0 ?_
      refine r_iconst (q := 35) (nI 3) dX6_code_34 rfl (by decide) ?_
      refine r_icmp_neN (q := 38) (t := 106) (by omega) (by omega) dX6_code_35 (by decide) rfl (fun h35 => absurd h35 (by omega)) (fun h35 => ?_)
      refine r_idecN (q := 41) (L' := [some (zr 510 0), some (zi (nI fr)), some (zi (nI to)), some (zi (nI kc)), some (zi (nI (B - 3))), some (zi (nI p)), some (zi (nI (p + r.length))), none]) 3 (by omega) rfl dX6_code_38 rfl rfl (by decide) rfl ?_
      refine r_iload_n (q := 42) dX6_code_41 rfl rfl rfl ?_
      refine r_iload (q := 44) dX6_code_42 rfl rfl ?_
      refine r_if_geN (q := 47) (t := 51) (by omega) dX6_code_44 (by decide) rfl ?_
      refine r_iload (q := 53) dX6_code_51 rfl rfl ?_
      refine r_iload (q := 55) dX6_code_53 rfl rfl ?_
      refine r_isubN (q := 56) (by omega) dX6_code_55 rfl ?_
      refine r_topi (y := nI r.length) (congrArg nI (by omega)) ?_
      refine r_iload (q := 58) dX6_code_56 rfl rfl ?_
      refine r_ishl (q := 59) dX6_code_58 rfl ?_
      refine r_topi (y := nI (r.length * 2 ^ (B - 3))) (shl_N (by omega) (by omega)) ?_
      refine r_ior (q := 60) dX6_code_59 rfl ?_
      refine r_topi (y := nI (kc + r.length * 2 ^ (B - 3))) (or_mod hm (by omega)) ?_
      refine r_istore_n (q := 61) (L' := [some (zr 510 0), some (zi (nI fr)), some (zi (nI to)), some (zi (nI (kc + r.length * 2 ^ (B - 3)))), some (zi (nI (B - 3))), some (zi (nI p)), some (zi (nI (p + r.length))), none]) dX6_code_60 rfl rfl (by decide) rfl ?_
      refine r_iload (q := 63) dX6_code_61 rfl rfl ?_
      refine r_istore (q := 65) (L' := [some (zr 510 0), some (zi (nI fr)), some (zi (nI to)), some (zi (nI (kc + r.length * 2 ^ (B - 3)))), some (zi (nI (B - 3))), some (zi (nI p)), some (zi (nI (p + r.length))), some (zi (nI p))]) dX6_code_63 rfl (by decide) rfl ?_
      refine lp_cd2_510 hs hto (by omega) r p _ (B - 3) hr.hd (by omega) (fun i hi => by rw [hrow i (by omega), tk_get hi]) (by omega) (by omega) hm' (by omega) ?_
      refine r_iload (q := 102) dX6_code_100 rfl rfl ?_
      refine r_iconst (q := 103) (nI 1) dX6_code_102 rfl (by decide) ?_
      refine r_iaddN (q := 104) dX6_code_103 rfl ?_
      refine r_istore (q := 106) (L' := [some (zr 510 0), some (zi (nI fr)), some (zi (nI to)), some (zi (nI (kc + r.length * 2 ^ (B - 3) + ac2 (B - 3) r))), some (zi (nI (B - 3 - 2 * r.length))), some (zi (nI ((p + r.length) + 1))), some (zi (nI (p + r.length))), some (zi (nI (p + r.length)))]) dX6_code_104 rfl (by decide) rfl ?_
      refine r_iincN (q := 109) (L' := [some (zr 510 0), some (zi (nI fr)), some (zi (nI to)), some (zi (nI (kc + r.length * 2 ^ (B - 3) + ac2 (B - 3) r))), some (zi (nI (B - 3 - 2 * r.length))), some (zi (nI ((p + r.length) + 1))), some (zi (nI (p + r.length + 1))), some (zi (nI (p + r.length)))]) 1 rfl dX6_code_106 rfl rfl (by decide) rfl ?_
      refine r_goto (q := 12) dX6_code_109 (by decide) ?_
      refine r_mask [true, true, true, true, true, true, true, false] rfl ?_
      have q := ih (p + r.length + 1) (kc + r.length * 2 ^ (B - 3) + ac2 (B - 3) r) (B - 3 - 2 * r.length) hr.tl b3 (by omega) (by omega) hm2 (by omega) hrow'
      rw [kr, show kc + (r.length * 2 ^ (B - 3) + (ac2 (B - 3) r + kr (B - 3 - 2 * r.length) rs)) = kc + r.length * 2 ^ (B - 3) + ac2 (B - 3) r + kr (B - 3 - 2 * r.length) rs by omega]
      exact q

set_option maxRecDepth 100000 in
theorem ok_code_510 {S : zS} (hs : Sd S)  {fr to : Nat} (hto : to ≤ 480) {A n : Nat} {e : Nat → Nat} (hE : Eok A e) {t : List Nat} (ht : Tr A e n t) (hn : n ≤ 7) (hl : fr + t.length = to) (hrow : ∀ i, i < t.length → gI S 510 0 (fr + i) = nI (nd (t.getD i 0))) : Ok mX6_code 0 (ent 8 [zr 510 0, zi (nI fr), zi (nI to)]) [] S (fun r S1 => r = some (zi (nI (ky t))) ∧ S1 = S) := by
  obtain ⟨h1, h2, h3, h4⟩ := ht.rn hE hn
  show Ok mX6_code 0 [some (zr 510 0), some (zi (nI fr)), some (zi (nI to)), none, none, none, none, none] [] S _
  refine r_iconst (q := 1) (nI 0) dX6_code_0 rfl (by decide) ?_
  refine r_istore_n (q := 2) (L' := [some (zr 510 0), some (zi (nI fr)), some (zi (nI to)), some (zi (nI 0)), none, none, none, none]) dX6_code_1 rfl rfl (by decide) rfl ?_
  refine r_bipush (q := 4) (nI 30) dX6_code_2 rfl (by decide) ?_
  refine r_istore (q := 6) (L' := [some (zr 510 0), some (zi (nI fr)), some (zi (nI to)), some (zi (nI 0)), some (zi (nI 30)), none, none, none]) dX6_code_4 rfl (by decide) rfl ?_
  refine r_iload_n (q := 7) dX6_code_6 rfl rfl rfl ?_
  refine r_istore (q := 9) (L' := [some (zr 510 0), some (zi (nI fr)), some (zi (nI to)), some (zi (nI 0)), some (zi (nI 30)), some (zi (nI fr)), none, none]) dX6_code_7 rfl (by decide) rfl ?_
  refine r_iload_n (q := 10) dX6_code_9 rfl rfl rfl ?_
  refine r_istore (q := 12) (L' := [some (zr 510 0), some (zi (nI fr)), some (zi (nI to)), some (zi (nI 0)), some (zi (nI 30)), some (zi (nI fr)), some (zi (nI fr)), none]) dX6_code_10 rfl (by decide) rfl ?_
  have q := lp_cd1_510 hs (fr := fr) hto (rns t) fr 0 30 h2 h4 (by omega) (by rw [← h1]; exact hl) (by simp) (by omega) (fun i hi => by rw [← h1] at hi ⊢; exact hrow i hi)
  rw [Nat.zero_add] at q
  exact q

