theorem nodup_le : ∀ (l U : List (List Nat)), l.Nodup → (∀ x, x ∈ l → x ∈ U) → l.length ≤ U.length
  | [], _, _, _ => Nat.zero_le _
  | x :: l, U, hn, hU => by
    obtain ⟨h1, h2⟩ := List.nodup_cons.mp hn
    have hx := hU x List.mem_cons_self
    have := nodup_le l (U.erase x) h2 (fun y hy => (List.mem_erase_of_ne (fun (z : y = x) => h1 (by rw [← z]; exact hy))).mpr (hU y (List.mem_cons_of_mem _ hy)))
    rw [List.length_erase_of_mem hx] at this
    have : 0 < U.length := List.length_pos_of_mem hx
    rw [List.length_cons]
    omega
theorem De.nodup {r : List zT} (h : De r) : (r.map Prod.fst).Nodup := by
  rw [List.Nodup, List.pairwise_map]
  exact List.Pairwise.imp (fun {a b} q z => by rw [z] at q; exact Nat.lt_irrefl _ q) h
theorem cap_new {c : List zT} {t : List Nat} (hd : De c) {U : List (List Nat)} (hU : U.length ≤ 1200) (htU : t ∈ U) (hcU : ∀ p, p ∈ c → p.1 ∈ U) (hne : ∀ p, p ∈ c → p.1 ≠ t) : c.length < 1200 := by
  have := nodup_le (t :: c.map Prod.fst) U (List.nodup_cons.mpr ⟨fun z => by obtain ⟨p, h1, h2⟩ := List.mem_map.mp z; exact hne p h1 h2, hd.nodup⟩) (fun x hx => by
    rcases List.mem_cons.mp hx with rfl | hx
    · exact htU
    · obtain ⟨p, h1, h2⟩ := List.mem_map.mp hx; rw [← h2]; exact hcU p h1)
  rw [List.length_cons, List.length_map] at this
  omega
theorem mem_getD' {c : List zT} {p : zT} (h : p ∈ c) : ∃ k, k < c.length ∧ c.getD k zd = p := by
  obtain ⟨k, hk, e⟩ := List.mem_iff_getElem.mp h
  exact ⟨k, hk, by rw [List.getD_eq_getElem?_getD, List.getElem?_eq_getElem hk, e]; rfl⟩
theorem cl_add0 {P : Nat} {t : List Nat} {v : Nat} (hv : v % P = 0) : ∀ {c : List zT}, (∀ p, p ∈ c → p.2 ≠ 0 ∧ p.2 < P) → cl (addT P t v c) = c
  | [], _ => by rw [addT, cl_cons, hv, if_pos rfl]; rfl
  | p :: c, h => by
    have hc := cl_id (r := c) (fun q hq => (h q (List.mem_cons_of_mem _ hq)).1)
    obtain ⟨h0, h1⟩ := h p List.mem_cons_self
    rw [addT]
    split
    · rename_i ht
      have : (p.2 + v) % P = p.2 := by rw [Nat.add_mod, hv, Nat.add_zero, Nat.mod_mod, Nat.mod_eq_of_lt h1]
      rw [cl_cons, this, if_neg h0, hc, ← ht]
    · split
      · rw [cl_cons, if_neg h0, cl_add0 hv (fun q hq => h q (List.mem_cons_of_mem _ hq))]
      · rw [cl_cons, hv, if_pos rfl, cl_cons, if_neg h0, hc]
theorem cl_app {w u : List zT} : cl (w ++ u) = cl w ++ cl u := List.filter_append _ _
/-- a tally that holds a sum -/
def Ty (S : zS) (j : Nat) (c : List zT) : Prop := gI S 8 j 1 = nI c.length ∧ (∀ k, k < c.length → gI S 902 j k = nI (ky (c.getD k zd).1) ∧ gI S 903 j k = nI (c.getD k zd).2) ∧ ∃ m, gN S 902 j = m ∧ gN S 903 j = m ∧ 32 ≤ m ∧ m ≤ 1200 ∧ c.length ≤ m
theorem De.ge {r : List zT} (h : De r) {i k : Nat} (hik : i ≤ k) (hk : k < r.length) : ky (r.getD k zd).1 ≤ ky (r.getD i zd).1 := by
  rcases Nat.lt_or_eq_of_le hik with g | g
  · have := List.pairwise_iff_getElem.mp h i k (by omega) hk g
    rw [List.getD_eq_getElem?_getD, List.getD_eq_getElem?_getD, List.getElem?_eq_getElem hk, List.getElem?_eq_getElem (by omega)]
    exact Nat.le_of_lt this
  · rw [g]; exact Nat.le_refl _

set_option maxRecDepth 100000 in
theorem ok_X8_put {S : zS} (hs : Sd S) {j : Nat} (hj : j < 19) {A n P : Nat} {e : Nat → Nat} (hE : Eok A e) {t : List Nat} (ht : Tr A e n t) (hn : n ≤ 7) {c : List zT} (hc : Ty S j c) (hC : Ce A e P n c) (h2 : 2 ≤ P) (hP : P ≤ 97) {U : List (List Nat)} (hU : U.length ≤ 1200) (htU : t ∈ U) (hcU : ∀ p, p ∈ c → p.1 ∈ U) (x : Int32) : Ok mX8_put 0 (ent 6 [zr 8 j, zi (nI (ky t)), zi x, zi (nI P)]) [] S (fun r S1 => r = none ∧ Fg (tTy j) S S1 ∧ Ty S1 j (cl (addT P t (rsN x P) c))) := by
  obtain ⟨hte, hrow, m, hm2, hm3, hm32, hm12, hcm⟩ := hc
  have hv := rsN_lt (x := x) (P := P) (by omega)
  have hky := ky_lt hE ht hn
  have hkb : ∀ k, k < c.length → ky (c.getD k zd).1 < 2 ^ 30 := fun k hk => ky_lt hE (hC.1.2 _ (mem_getD hk)).1 hn
  have hdn : ∀ i k, i ≤ k → k < c.length → gI S 902 j k ≤ gI S 902 j i := fun i k hik hk => by
    rw [(hrow i (by omega)).1, (hrow k hk).1]
    exact nI_le (hC.1.1.ge hik hk) (by have := hkb i (by omega); omega)
  show Ok mX8_put 0 [some (zr 8 j), some (zi (nI (ky t))), some (zi x), some (zi (nI P)), none, none] [] S _
  refine r_iload_n (q := 1) dX8_put_0 rfl rfl rfl ?_
  refine r_iload_n (q := 2) dX8_put_1 rfl rfl rfl ?_
  refine r_callSN (Mc := mX11_rest) (q := 5) (As := [zi x, zi (nI P)]) (st := []) dX8_put_2 rfl rfl mkX11_rest wn613 wt614 rfl (Nat.le_of_ble_eq_true rfl) (Nat.le_of_ble_eq_true rfl) (by decide) (by decide) (by decide) (Or.inl rfl) hs.some (ok_X11_rest_i h2 hP) (fun r2 S2 hp2 => ?_)
  obtain ⟨rfl, hq2⟩ := hp2
  rw [hq2]
  show Ok _ _ _ [zi (nI (rsN x P))] _ _
  refine r_istore (q := 7) (L' := [some (zr 8 j), some (zi (nI (ky t))), some (zi x), some (zi (nI P)), some (zi (nI (rsN x P))), none]) dX8_put_5 rfl (by decide) rfl ?_
  refine r_iload (q := 9) dX8_put_7 rfl rfl ?_
  refine r_if_neN (q := 12) (t := 13) (by omega) dX8_put_9 (by decide) rfl (fun h9 => ?_) (fun h9 => ?_)
  · skip
    refine r_aload_n (q := 14) dX8_put_13 rfl rfl rfl ?_
    refine r_iload_n (q := 15) dX8_put_14 rfl rfl rfl ?_
    refine r_callV (Mc := mX8_placeOf) (q := 18) (As := [zi (nI (ky t))]) (st := []) ck8 dX8_put_15 rfl rfl mkX8_placeOf wt616 wt618 wp16 rfl (Nat.le_of_ble_eq_true rfl) (Nat.le_of_ble_eq_true rfl) (by decide) (by decide) (by decide) (Or.inl rfl) (hs.e (show j < 19 by omega)) (ok_X8_placeOf hs hj hm2 hm12 hcm hdn (nI (ky t)) hte) (fun r15 S15 hp15 => ?_)
    obtain ⟨hS15, a, ha, rfl, ha1, ha2⟩ := hp15
    subst hS15
    have ha1' : ∀ k, k < a → ky t < ky (c.getD k zd).1 := fun k hk => by have := ha1 k hk; rw [(hrow k (by omega)).1] at this; exact (nI_ltI (by omega) (by have := hkb k (by omega); omega)).mp this
    have ha2' : ∀ k, a ≤ k → k < c.length → ky (c.getD k zd).1 ≤ ky t := fun k h1 hk => by have := ha2 k h1 hk; rw [(hrow k hk).1] at this; exact (nI_leI (by have := hkb k hk; omega) (by omega)).mp this
    show Ok _ _ _ [zi (nI a)] _ _
    refine r_istore (q := 20) (L' := [some (zr 8 j), some (zi (nI (ky t))), some (zi x), some (zi (nI P)), some (zi (nI (rsN x P))), some (zi (nI a))]) dX8_put_18 rfl (by decide) rfl ?_
    refine r_iload (q := 22) dX8_put_20 rfl rfl ?_
    refine r_aload_n (q := 23) dX8_put_22 rfl rfl rfl ?_
    refine r_geti (q := 26) ck8 dX8_put_23 rfl (k := 1) (by decide) wt62 (Or.inl rfl) (hs.e (show j < 19 by omega)) ?_
    refine r_topi (y := nI c.length) hte ?_
    refine r_icmp_geN (q := 29) (t := 40) (by omega) (by omega) dX8_put_26 (by decide) rfl (fun h26 => ?_) (fun h26 => ?_)
    · skip
      have hcap : c.length < 1200 := cap_new hC.1.1 hU htU hcU (fun p hp h1 => by
        obtain ⟨k, hk, rfl⟩ := mem_getD' hp
        rcases Nat.lt_or_ge k a with hk' | hk'
        · have := ha1' k hk'; rw [h1] at this; exact Nat.lt_irrefl _ this
        · omega)
      refine r_aload_n (q := 41) dX8_put_40 rfl rfl rfl ?_
      refine r_aload_n (q := 42) dX8_put_41 rfl rfl rfl ?_
      refine r_geti (q := 45) ck8 dX8_put_42 rfl (k := 1) (by decide) wt62 (Or.inl rfl) (hs.e (show j < 19 by omega)) ?_
      refine r_topi (y := nI c.length) hte ?_
      refine r_iconst (q := 46) (nI 1) dX8_put_45 rfl (by decide) ?_
      refine r_iaddN (q := 47) dX8_put_46 rfl ?_
      refine r_callV (Mc := mX8_makeRoom) (q := 50) (As := [zi (nI (c.length + 1))]) (st := []) ck8 dX8_put_47 rfl rfl mkX8_makeRoom wt620 wt622 wp17 rfl (Nat.le_of_ble_eq_true rfl) (Nat.le_of_ble_eq_true rfl) (by decide) (by decide) (by decide) (Or.inr ⟨Nat.le_of_ble_eq_true rfl, rfl, rfl⟩) (hs.e (show j < 19 by omega)) (ok_X8_makeRoom hs hj hm2 hm3 (by omega) hm12 (by omega)) (fun r47 S47 hp47 => ?_)
      obtain ⟨rfl, hq47⟩ := hp47
      rw [hq47]
      have hs47 : Sd (room8 S15 j (c.length + 1) m) := sd_room8 hs
      have z2 : gN (room8 S15 j (c.length + 1) m) 902 j = rlen (c.length + 1) m := gN_room8_j (Or.inl rfl) hm2
      have z3 : gN (room8 S15 j (c.length + 1) m) 903 j = rlen (c.length + 1) m := gN_room8_j (Or.inr rfl) hm3
      have z4 := rlen_ge (e := c.length + 1) (n := m) (by omega)
      have z5 := rlen_n (e := c.length + 1) (n := m) hm12
      have z6 : gI (room8 S15 j (c.length + 1) m) 8 j 1 = nI c.length := (gI_room8 (by omega) (by omega)).trans hte
      show Ok _ _ _ [] _ _
      refine r_aload_n (q := 51) dX8_put_50 rfl rfl rfl ?_
      refine r_iload (q := 53) dX8_put_51 rfl rfl ?_
      refine r_iload_n (q := 54) dX8_put_53 rfl rfl rfl ?_
      refine r_iload (q := 56) dX8_put_54 rfl rfl ?_
      refine r_callV (Mc := mX8_insert) (q := 59) (As := [zi (nI a), zi (nI (ky t)), zi (nI (rsN x P))]) (st := []) ck8 dX8_put_56 rfl rfl mkX8_insert wt642 wt644 wp18 rfl (Nat.le_of_ble_eq_true rfl) (Nat.le_of_ble_eq_true rfl) (by decide) (by decide) (by decide) (Or.inl rfl) (hs47.e (show j < 19 by omega)) (ok_X8_insert (S := (room8 S15 j (c.length + 1) m)) hs47 hj z2 z3 (by omega) z6 (by omega) ha (nI (ky t)) (nI (rsN x P))) (fun r56 S56 hp56 => ?_)
      obtain ⟨rfl, hq56⟩ := hp56
      rw [hq56]
      show Ok _ _ _ [] _ _
      refine r_return dX8_put_59 rfl ?_
      have hne : a < c.length → ¬ ky t < ky (c.getD a zd).1 ∧ (c.getD a zd).1 ≠ t := fun h => absurd h (by omega)
      have hadd : cl (addT P t (rsN x P) c) = c.take a ++ (t, rsN x P) :: c.drop a := by
        rw [addT_new ha ha1' hne, Nat.mod_eq_of_lt hv]
        refine cl_id fun p hp => ?_
        rcases List.mem_append.mp hp with h | h
        · exact hC.2 p (List.mem_of_mem_take h)
        · rcases List.mem_cons.mp h with rfl | h
          · show rsN x P ≠ 0; omega
          · exact hC.2 p (List.mem_of_mem_drop h)
      refine ⟨rfl, (Fg.room8 hs hj hm2 hm3 (by omega) hm12 (by omega)).tr (Fg.of22 hs47 rfl (fun x y k _ hz => tin_x (fun z => hz (Or.inl z)) (fun z => hz (Or.inr z))) (fun _ _ _ _ _ => rfl)), ?_⟩
      rw [hadd]
      have g0 : ∀ q k, q = 902 ∨ q = 903 → k < c.length → gI (room8 S15 j (c.length + 1) m) q j k = gI S15 q j k := fun q k hq hk => gI_room8 (by omega) (by omega)
      refine ⟨by rw [tin_1, len_ins ha], fun k hk => ?_, rlen (c.length + 1) m, z2, z3, by omega, by omega, by rw [len_ins ha]; omega⟩
      rw [len_ins ha] at hk
      rw [tin_k ha (by omega), tin_n ha (by omega), getD_ins ha]
      by_cases h1 : k < a
      · rw [if_pos h1, if_pos h1, if_pos h1, g0 _ _ (Or.inl rfl) (by omega), g0 _ _ (Or.inr rfl) (by omega)]; exact hrow k (by omega)
      · by_cases h3 : k = a
        · rw [if_neg h1, if_neg h1, if_neg h1, if_pos h3, if_pos h3, if_pos h3]; exact ⟨rfl, rfl⟩
        · rw [if_neg h1, if_neg h1, if_neg h1, if_neg h3, if_neg h3, if_neg h3, g0 _ _ (Or.inl rfl) (by omega), g0 _ _ (Or.inr rfl) (by omega)]; exact hrow (k - 1) (by omega)
    · skip
      have hka := hkb a h26
      refine r_aload_n (q := 30) dX8_put_29 rfl rfl rfl ?_
      refine r_getr (q := 33) (some (902, j)) ck8 dX8_put_30 rfl (k := 2) (by decide) wt69 rfl (hs.e (show j < 19 by omega)) (hs.r (show j < 19 by omega) (by decide)) ?_
      refine r_iload (q := 35) dX8_put_33 rfl rfl ?_
      refine r_ialdN (q := 36) m (by decide) rfl dX8_put_35 rfl (hs.e (show j < 19 by omega)) hm2 (by omega) (by omega) ?_
      refine r_topi (y := nI (ky (c.getD a zd).1)) (hrow a h26).1 ?_
      refine r_iload_n (q := 37) dX8_put_36 rfl rfl rfl ?_
      refine r_icmp_eqN (q := 40) (t := 60) (by omega) (by omega) dX8_put_37 (by decide) rfl (fun h37 => ?_) (fun h37 => ?_)
      · skip
        have hua := hC.1.2 _ (mem_getD h26)
        have hmod := Nat.mod_lt ((c.getD a zd).2 + rsN x P) (show 0 < P by omega)
        refine r_aload_n (q := 61) dX8_put_60 rfl rfl rfl ?_
        refine r_getr (q := 64) (some (903, j)) ck8 dX8_put_61 rfl (k := 3) (by decide) wt75 rfl (hs.e (show j < 19 by omega)) (hs.r (show j < 19 by omega) (by decide)) ?_
        refine r_iload (q := 66) dX8_put_64 rfl rfl ?_
        refine r_aload_n (q := 67) dX8_put_66 rfl rfl rfl ?_
        refine r_getr (q := 70) (some (903, j)) ck8 dX8_put_67 rfl (k := 3) (by decide) wt75 rfl (hs.e (show j < 19 by omega)) (hs.r (show j < 19 by omega) (by decide)) ?_
        refine r_iload (q := 72) dX8_put_70 rfl rfl ?_
        refine r_ialdN (q := 73) m (by decide) rfl dX8_put_72 rfl (hs.e (show j < 19 by omega)) hm3 (by omega) (by omega) ?_
        refine r_topi (y := nI ((c.getD a zd).2)) (hrow a h26).2 ?_
        refine r_iload (q := 75) dX8_put_73 rfl rfl ?_
        refine r_iaddN (q := 76) dX8_put_75 rfl ?_
        refine r_iload_n (q := 77) dX8_put_76 rfl rfl rfl ?_
        refine r_callSN (Mc := mX11_rest) (q := 80) (As := [zi (nI (((c.getD a zd).2) + (rsN x P))), zi (nI P)]) (st := [zi (nI a), zr 903 j]) dX8_put_77 rfl rfl mkX11_rest wn613 wt614 rfl (Nat.le_of_ble_eq_true rfl) (Nat.le_of_ble_eq_true rfl) (by decide) (by decide) (by decide) (Or.inl rfl) hs.some (ok_X11_rest (b := ((c.getD a zd).2) + (rsN x P)) (by omega) h2 (by omega)) (fun r77 S77 hp77 => ?_)
        obtain ⟨rfl, hq77⟩ := hp77
        rw [hq77]
        show Ok _ _ _ [zi (nI ((((c.getD a zd).2) + (rsN x P)) % P)), zi (nI a), zr 903 j] _ _
        refine r_iastN (q := 81) m (by decide) rfl dX8_put_80 rfl (hs.e (show j < 19 by omega)) hm3 (by omega) (by omega) ?_
        refine r_aload_n (q := 82) dX8_put_81 rfl rfl rfl ?_
        refine r_getr (q := 85) (some (903, j)) ck8 dX8_put_82 rfl (k := 3) (by decide) wt75 rfl (hs.e (show j < 19 by omega)) (hs.r (show j < 19 by omega) (by decide)) ?_
        refine r_iload (q := 87) dX8_put_85 rfl rfl ?_
        refine r_ialdN (q := 88) m (by decide) rfl dX8_put_87 rfl (hs.e (show j < 19 by omega)) hm3 (by omega) (by omega) ?_
        refine r_topi (y := nI ((((c.getD a zd).2) + (rsN x P)) % P)) (by simp [gI_sI, gJ_sJ, gI_sJ, gJ_sI]) ?_
        refine r_if_neN (q := 91) (t := 97) (by omega) dX8_put_88 (by decide) rfl (fun h88 => ?_) (fun h88 => ?_)
        · skip
          refine r_return dX8_put_97 rfl ?_
          have hte' : (c.getD a zd).1 = t := ky_inj hE (hC.1.2 _ (mem_getD h26)).1 ht hn h37
          have hadd := addT_eq (P := P) (v := rsN x P) h26 ha1' hte'
          have hcl : cl (addT P t (rsN x P) c) = c.take a ++ (t, ((c.getD a zd).2 + rsN x P) % P) :: c.drop (a + 1) := by
            rw [hadd]
            refine cl_id fun p hp => ?_
            rcases List.mem_append.mp hp with h | h
            · exact hC.2 p (List.mem_of_mem_take h)
            · rcases List.mem_cons.mp h with rfl | h
              · show ((c.getD a zd).2 + rsN x P) % P ≠ 0; omega
              · exact hC.2 p (List.mem_of_mem_drop h)
          refine ⟨rfl, Fg.of22 hs rfl (fun x y k _ hz => by rw [gI_sI, if_neg (fun z => hz (Or.inr ⟨Or.inr z.1, z.2.1⟩))]) (fun _ _ _ _ _ => rfl), ?_⟩
          rw [hcl]
          refine ⟨by rw [gI_sI, if_neg (by omega), len_set h26]; exact hte, fun k hk => ?_, m, hm2, hm3, hm32, hm12, by rw [len_set h26]; omega⟩
          rw [len_set h26] at hk
          rw [gI_sI, if_neg (by omega), getD_set h26]
          by_cases h1 : k = a
          · rw [if_pos h1, gI_sI, if_pos ⟨rfl, rfl, h1⟩]; exact ⟨by rw [(hrow k hk).1, h1, hte'], rfl⟩
          · rw [if_neg h1, gI_sI, if_neg (fun z => h1 z.2.2)]; exact hrow k hk
        · skip
          refine r_aload_n (q := 92) dX8_put_91 rfl rfl rfl ?_
          refine r_iload (q := 94) dX8_put_92 rfl rfl ?_
          refine r_callV (Mc := mX8_remove) (q := 97) (As := [zi (nI a)]) (st := []) ck8 dX8_put_94 rfl rfl mkX8_remove wt647 wt649 wp19 rfl (Nat.le_of_ble_eq_true rfl) (Nat.le_of_ble_eq_true rfl) (by decide) (by decide) (by decide) (Or.inl rfl) (hs.e (show j < 19 by omega)) (ok_X8_remove (S := sI S15 903 j a (nI ((((c.getD a zd).2) + (rsN x P)) % P))) hs hj hm2 hm3 hm12 (by rw [gI_sI, if_neg (by omega)]; exact hte) hcm (by omega)) (fun r94 S94 hp94 => ?_)
          obtain ⟨rfl, hq94⟩ := hp94
          rw [hq94]
          show Ok _ _ _ [] _ _
          refine r_return dX8_put_97 rfl ?_
          have hte' : (c.getD a zd).1 = t := ky_inj hE (hC.1.2 _ (mem_getD h26)).1 ht hn h37
          have hadd := addT_eq (P := P) (v := rsN x P) h26 ha1' hte'
          have hcl : cl (addT P t (rsN x P) c) = c.take a ++ c.drop (a + 1) := by
            rw [hadd, cl_app, cl_cons, if_pos (show ((c.getD a zd).2 + rsN x P) % P = 0 by omega), ← cl_app]
            refine cl_id fun p hp => ?_
            rcases List.mem_append.mp hp with h | h
            · exact hC.2 p (List.mem_of_mem_take h)
            · exact hC.2 p (List.mem_of_mem_drop h)
          refine ⟨rfl, Fg.of22 hs rfl (fun x y k _ hz => (trm_x (fun z => hz (Or.inl z)) (fun z => hz (Or.inr z))).trans (by rw [gI_sI, if_neg (fun z => hz (Or.inr ⟨Or.inr z.1, z.2.1⟩))])) (fun _ _ _ _ _ => rfl), ?_⟩
          rw [hcl]
          refine ⟨by rw [trm_1, len_del h26], fun k hk => ?_, m, hm2, hm3, hm32, hm12, by rw [len_del h26]; omega⟩
          rw [len_del h26] at hk
          rw [trm_k h26 hk, trm_n h26 hk, getD_del h26]
          by_cases h1 : k < a
          · rw [if_pos h1, if_pos h1, if_pos h1, gI_sI, if_neg (by omega), gI_sI, if_neg (by omega)]; exact hrow k (by omega)
          · rw [if_neg h1, if_neg h1, if_neg h1, gI_sI, if_neg (by omega), gI_sI, if_neg (by omega)]; exact hrow (k + 1) (by omega)
      · skip
        have hcap : c.length < 1200 := cap_new hC.1.1 hU htU hcU (fun p hp h1 => by
          obtain ⟨k, hk, rfl⟩ := mem_getD' hp
          rcases Nat.lt_or_ge k a with hk' | hk'
          · have := ha1' k hk'; rw [h1] at this; exact Nat.lt_irrefl _ this
          · have q1 := hC.1.1.ge hk' hk; have q2 := ha2' a (Nat.le_refl _) h26; rw [h1] at q1; exact h37 (by omega))
        refine r_aload_n (q := 41) dX8_put_40 rfl rfl rfl ?_
        refine r_aload_n (q := 42) dX8_put_41 rfl rfl rfl ?_
        refine r_geti (q := 45) ck8 dX8_put_42 rfl (k := 1) (by decide) wt62 (Or.inl rfl) (hs.e (show j < 19 by omega)) ?_
        refine r_topi (y := nI c.length) hte ?_
        refine r_iconst (q := 46) (nI 1) dX8_put_45 rfl (by decide) ?_
        refine r_iaddN (q := 47) dX8_put_46 rfl ?_
        refine r_callV (Mc := mX8_makeRoom) (q := 50) (As := [zi (nI (c.length + 1))]) (st := []) ck8 dX8_put_47 rfl rfl mkX8_makeRoom wt620 wt622 wp17 rfl (Nat.le_of_ble_eq_true rfl) (Nat.le_of_ble_eq_true rfl) (by decide) (by decide) (by decide) (Or.inr ⟨Nat.le_of_ble_eq_true rfl, rfl, rfl⟩) (hs.e (show j < 19 by omega)) (ok_X8_makeRoom hs hj hm2 hm3 (by omega) hm12 (by omega)) (fun r47 S47 hp47 => ?_)
        obtain ⟨rfl, hq47⟩ := hp47
        rw [hq47]
        have hs47 : Sd (room8 S15 j (c.length + 1) m) := sd_room8 hs
        have z2 : gN (room8 S15 j (c.length + 1) m) 902 j = rlen (c.length + 1) m := gN_room8_j (Or.inl rfl) hm2
        have z3 : gN (room8 S15 j (c.length + 1) m) 903 j = rlen (c.length + 1) m := gN_room8_j (Or.inr rfl) hm3
        have z4 := rlen_ge (e := c.length + 1) (n := m) (by omega)
        have z5 := rlen_n (e := c.length + 1) (n := m) hm12
        have z6 : gI (room8 S15 j (c.length + 1) m) 8 j 1 = nI c.length := (gI_room8 (by omega) (by omega)).trans hte
        show Ok _ _ _ [] _ _
        refine r_aload_n (q := 51) dX8_put_50 rfl rfl rfl ?_
        refine r_iload (q := 53) dX8_put_51 rfl rfl ?_
        refine r_iload_n (q := 54) dX8_put_53 rfl rfl rfl ?_
        refine r_iload (q := 56) dX8_put_54 rfl rfl ?_
        refine r_callV (Mc := mX8_insert) (q := 59) (As := [zi (nI a), zi (nI (ky t)), zi (nI (rsN x P))]) (st := []) ck8 dX8_put_56 rfl rfl mkX8_insert wt642 wt644 wp18 rfl (Nat.le_of_ble_eq_true rfl) (Nat.le_of_ble_eq_true rfl) (by decide) (by decide) (by decide) (Or.inl rfl) (hs47.e (show j < 19 by omega)) (ok_X8_insert (S := (room8 S15 j (c.length + 1) m)) hs47 hj z2 z3 (by omega) z6 (by omega) ha (nI (ky t)) (nI (rsN x P))) (fun r56 S56 hp56 => ?_)
        obtain ⟨rfl, hq56⟩ := hp56
        rw [hq56]
        show Ok _ _ _ [] _ _
        refine r_return dX8_put_59 rfl ?_
        have hne : a < c.length → ¬ ky t < ky (c.getD a zd).1 ∧ (c.getD a zd).1 ≠ t := fun h => ⟨by have := ha2' a (Nat.le_refl _) h; omega, by intro z; have := (hrow a h).1; rw [z] at this; first | omega | exact h37 (by rw [z])⟩
        have hadd : cl (addT P t (rsN x P) c) = c.take a ++ (t, rsN x P) :: c.drop a := by
          rw [addT_new ha ha1' hne, Nat.mod_eq_of_lt hv]
          refine cl_id fun p hp => ?_
          rcases List.mem_append.mp hp with h | h
          · exact hC.2 p (List.mem_of_mem_take h)
          · rcases List.mem_cons.mp h with rfl | h
            · show rsN x P ≠ 0; omega
            · exact hC.2 p (List.mem_of_mem_drop h)
        refine ⟨rfl, (Fg.room8 hs hj hm2 hm3 (by omega) hm12 (by omega)).tr (Fg.of22 hs47 rfl (fun x y k _ hz => tin_x (fun z => hz (Or.inl z)) (fun z => hz (Or.inr z))) (fun _ _ _ _ _ => rfl)), ?_⟩
        rw [hadd]
        have g0 : ∀ q k, q = 902 ∨ q = 903 → k < c.length → gI (room8 S15 j (c.length + 1) m) q j k = gI S15 q j k := fun q k hq hk => gI_room8 (by omega) (by omega)
        refine ⟨by rw [tin_1, len_ins ha], fun k hk => ?_, rlen (c.length + 1) m, z2, z3, by omega, by omega, by rw [len_ins ha]; omega⟩
        rw [len_ins ha] at hk
        rw [tin_k ha (by omega), tin_n ha (by omega), getD_ins ha]
        by_cases h1 : k < a
        · rw [if_pos h1, if_pos h1, if_pos h1, g0 _ _ (Or.inl rfl) (by omega), g0 _ _ (Or.inr rfl) (by omega)]; exact hrow k (by omega)
        · by_cases h3 : k = a
          · rw [if_neg h1, if_neg h1, if_neg h1, if_pos h3, if_pos h3, if_pos h3]; exact ⟨rfl, rfl⟩
          · rw [if_neg h1, if_neg h1, if_neg h1, if_neg h3, if_neg h3, if_neg h3, g0 _ _ (Or.inl rfl) (by omega), g0 _ _ (Or.inr rfl) (by omega)]; exact hrow (k - 1) (by omega)
  · skip
    refine r_return dX8_put_12 rfl ?_
    refine ⟨rfl, Fg.rf hs, ?_⟩
    rw [cl_add0 (by rw [Nat.mod_eq_of_lt hv]; omega) (fun p hp => ⟨hC.2 p hp, (hC.1.2 p hp).2⟩)]
    exact ⟨hte, hrow, m, hm2, hm3, hm32, hm12, hcm⟩

