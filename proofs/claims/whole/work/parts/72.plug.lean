theorem Ce.puts {A : Nat} {e : Nat → Nat} (hE : Eok A e) {P n b : Nat} (hP : 0 < P) (hn : n ≤ 7) : ∀ {l c : List zT}, Ce A e P n c → (∀ p, p ∈ l → Tr A e n p.1) → Ce A e P n (_root_.Jvm.Pilot.CLeafWorldsLaw_law_r8483_d58aac.puts P b c l)
  | [], _, h, _ => h
  | p :: l, c, h, hl => by rw [puts_cons]; exact Ce.puts hE hP hn (l := l) (h.put hE hP hn (hl p List.mem_cons_self)) (fun q hq => hl q (List.mem_cons_of_mem _ hq))
theorem mem_puts {P b : Nat} {U : List (List Nat)} : ∀ {l c : List zT}, (∀ p, p ∈ c → p.1 ∈ U) → (∀ p, p ∈ l → p.1 ∈ U) → ∀ p, p ∈ puts P b c l → p.1 ∈ U
  | [], _, hr, _ => hr
  | q :: l, r, hr, hl => by
    rw [puts_cons]
    exact mem_puts (l := l) (fun p hp => by
      rcases mem_addT (mem_cl hp) with z | z
      · exact hr p z
      · rw [z.1]; exact hl q List.mem_cons_self) (fun p hp => hl p (List.mem_cons_of_mem _ hp))
theorem prds_drop {i a : Nat} {o l : List zT} (h : a < o.length) : prds i (o.drop a) l = prd i (o.getD a zd) l ++ prds i (o.drop (a + 1)) l := by
  rw [getD_drop0 h]; rfl
theorem prd_tr {A n m i : Nat} {e : Nat → Nat} {p : zT} {l : List zT} (hi : i < n) (hp : Tr A e n p.1) (hl : ∀ q, q ∈ l → Tr A e m q.1) : ∀ q, q ∈ prd i p l → Tr A e (n + m - 1) q.1 := fun q hq => by
  obtain ⟨x, h1, rfl⟩ := List.mem_map.mp hq
  exact hp.gr (hl x h1) hi
theorem prds_tr {A n m i : Nat} {e : Nat → Nat} {o l : List zT} (hi : i < n) (ho : ∀ q, q ∈ o → Tr A e n q.1) (hl : ∀ q, q ∈ l → Tr A e m q.1) : ∀ q, q ∈ prds i o l → Tr A e (n + m - 1) q.1 := fun q hq => by
  obtain ⟨x, h1, h2⟩ := List.mem_flatMap.mp hq
  exact prd_tr hi (ho x h1) hl q h2
theorem prds_len {i : Nat} {l : List zT} : ∀ (o : List zT), (prds i o l).length = o.length * l.length
  | [] => by simp [prds]
  | p :: o => by
    show (prd i p l ++ prds i o l).length = _
    rw [List.length_append, prds_len o, List.length_cons, Nat.succ_mul, Nat.add_comm]
    congr 1
    exact List.length_map _
theorem prd_sub {i : Nat} {p : zT} {o l : List zT} (h : p ∈ o) : ∀ q, q ∈ prd i p l → q ∈ prds i o l := fun q hq => List.mem_flatMap.mpr ⟨p, h, hq⟩

set_option maxRecDepth 100000 in
theorem lp_join1 {A n m P i : Nat} {e : Nat → Nat} (hE : Eok A e) (hn1 : 1 ≤ n) (hm1 : 1 ≤ m) (hn : n + m - 1 ≤ 7) (hi : i < n) (h2 : 2 ≤ P) (hP : P ≤ 97) {b jo ji j : Nat} (hb5 : b < 5) (hjo : jo < 19) (hji : ji < 19) (hj : j < 19) (h1 : jo ≠ j) (h3 : ji ≠ j) {o l : List zT} (ho : ∀ p, p ∈ o → Tr A e n p.1 ∧ p.2 < P) (hl : ∀ p, p ∈ l → Tr A e m p.1 ∧ p.2 < P) {U : List (List Nat)} (hU : U.length ≤ 1200) (hpU : ∀ p, p ∈ prds i o l → p.1 ∈ U) : ∀ (d a : Nat) (S : zS) (c : List zT), a + d = o.length → Sd S → Jn S jo ji n m o l → Ty S j c → Ce A e P (n + m - 1) c → (∀ p, p ∈ c → p.1 ∈ U) → Ok mX6_join 19 [some (zr 6 b), some (zr 8 jo), some (zi (nI i)), some (zr 8 ji), some (zr 8 j), some (zi (nI P)), some (zi (nI a)), none, none] [] S (fun r S1 => r = none ∧ Fg (tJn b j) S S1 ∧ Ty S1 j (puts P 1 c (prds i (o.drop a) l))) := by
  intro d
  induction d with
  | zero =>
    intro a S c hk hs hJ hc hC hcU
    obtain rfl : o.length = a := by omega
    rw [List.drop_length]
    obtain ⟨j1, j2, j3, j4⟩ := id hJ
    obtain ⟨mo, o1, o2, o3, o4, o5⟩ := j3.2.2
    refine r_iload (q := 21) dX6_join_19 rfl rfl ?_
    refine r_aload_n (q := 22) dX6_join_21 rfl rfl rfl ?_
    refine r_geti (q := 25) ck8 dX6_join_22 rfl (k := 1) (by decide) wt66 (Or.inl rfl) (hs.e (show jo < 19 by omega)) ?_
    refine r_topi (y := nI o.length) j3.1 ?_
    refine r_icmp_geN (q := 28) (t := 105) (by omega) (by omega) dX6_join_25 (by decide) rfl (fun h25 => ?_) (fun h25 => absurd h25 (by omega))
    refine r_return dX6_join_105 rfl ?_
    exact ⟨rfl, Fg.rf hs, hc⟩
  | succ d ih =>
    intro a S c hk hs hJ hc hC hcU
    have hao : a < o.length := by omega
    obtain ⟨j1, j2, j3, j4⟩ := id hJ
    obtain ⟨mo, o1, o2, o3, o4, o5⟩ := j3.2.2
    have hpo := ho _ (mem_getD hao)
    rw [prds_drop hao, puts_app]
    refine r_iload (q := 21) dX6_join_19 rfl rfl ?_
    refine r_aload_n (q := 22) dX6_join_21 rfl rfl rfl ?_
    refine r_geti (q := 25) ck8 dX6_join_22 rfl (k := 1) (by decide) wt66 (Or.inl rfl) (hs.e (show jo < 19 by omega)) ?_
    refine r_topi (y := nI o.length) j3.1 ?_
    refine r_icmp_geN (q := 28) (t := 105) (by omega) (by omega) dX6_join_25 (by decide) rfl (fun h25 => absurd h25 (by omega)) (fun h25 => ?_)
    refine r_iconst (q := 29) (nI 0) dX6_join_28 rfl (by decide) ?_
    refine r_istore (q := 31) (L' := [some (zr 6 b), some (zr 8 jo), some (zi (nI i)), some (zr 8 ji), some (zr 8 j), some (zi (nI P)), some (zi (nI a)), some (zi (nI 0)), none]) dX6_join_29 rfl (by decide) rfl ?_
    refine lp_join2 hE hn1 hm1 hn hi h2 hP hb5 hjo hji hj h1 h3 ho hl hU hpU hao l.length 0 S c (by omega) hs hJ hc hC hcU _ (fun S1 f1 y1 => ?_)
    rw [List.drop_zero] at y1
    refine r_iincN (q := 102) (L' := [some (zr 6 b), some (zr 8 jo), some (zi (nI i)), some (zr 8 ji), some (zr 8 j), some (zi (nI P)), some (zi (nI (a + 1))), some (zi (nI l.length)), none]) 1 rfl dX6_join_99 rfl rfl (by decide) rfl ?_
    refine r_goto (q := 19) dX6_join_102 (by decide) ?_
    refine r_mask [true, true, true, true, true, true, true, false, false] rfl ?_
    refine Ok.mono (ih (a + 1) S1 _ (by omega) f1.sd (hJ.fg f1 h1 h3) y1 (hC.puts hE (by omega) hn (prd_tr hi hpo.1 (fun q hq => (hl q hq).1))) (mem_puts hcU (fun p hp => hpU p (prd_sub (mem_getD hao) p hp)))) (fun r S2 y => ⟨y.1, f1.tr y.2.1, y.2.2⟩)

def tJm (b j a x k : Nat) : Prop := (a = 8 ∧ x = j ∧ k = 0) ∨ tJn b j a x k

set_option maxRecDepth 100000 in
theorem ok_join {S : zS} (hs : Sd S) {A n m P i : Nat} {e : Nat → Nat} (hE : Eok A e) (hn1 : 1 ≤ n) (hm1 : 1 ≤ m) (hn : n + m - 1 ≤ 7) (hi : i < n) (h2 : 2 ≤ P) (hP : P ≤ 97) {b jo ji j : Nat} (hb5 : b < 5) (hjo : jo < 19) (hji : ji < 19) (hj : j < 19) (h1 : jo ≠ j) (h3 : ji ≠ j) {o l : List zT} (ho : ∀ p, p ∈ o → Tr A e n p.1 ∧ p.2 < P) (hl : ∀ p, p ∈ l → Tr A e m p.1 ∧ p.2 < P) {U : List (List Nat)} (hU : U.length ≤ 1200) (hpU : ∀ p, p ∈ prds i o l → p.1 ∈ U) (hJ : Jn S jo ji n m o l) {q : Nat} (hq1 : gN S 902 j = q) (hq2 : gN S 903 j = q) (hq3 : 32 ≤ q) (hq4 : q ≤ 1200) : Ok mX6_join 0 (ent 9 [zr 6 b, zr 8 jo, zi (nI i), zr 8 ji, zr 8 j, zi (nI P)]) [] S (fun r S1 => r = none ∧ Fg (tJm b j) S S1 ∧ gI S1 8 j 0 = nI (n + m - 1) ∧ Ty S1 j (cl (adds P 1 [] (prds i o l)))) := by
  obtain ⟨j1, j2, j3, j4⟩ := id hJ
  show Ok mX6_join 0 [some (zr 6 b), some (zr 8 jo), some (zi (nI i)), some (zr 8 ji), some (zr 8 j), some (zi (nI P)), none, none, none] [] S _
  refine r_aload (q := 2) dX6_join_0 rfl rfl ?_
  refine r_aload_n (q := 3) dX6_join_2 rfl rfl rfl ?_
  refine r_geti (q := 6) ck8 dX6_join_3 rfl (k := 0) (by decide) wt58 (Or.inl rfl) (hs.e (show jo < 19 by omega)) ?_
  refine r_topi (y := nI n) j1 ?_
  refine r_aload_n (q := 7) dX6_join_6 rfl rfl rfl ?_
  refine r_geti (q := 10) ck8 dX6_join_7 rfl (k := 0) (by decide) wt58 (Or.inl rfl) (hs.e (show ji < 19 by omega)) ?_
  refine r_topi (y := nI m) j2 ?_
  refine r_iaddN (q := 11) dX6_join_10 rfl ?_
  refine r_iconst (q := 12) (nI 1) dX6_join_11 rfl (by decide) ?_
  refine r_isubN (q := 13) (by omega) dX6_join_12 rfl ?_
  refine r_callV (Mc := mX8_clear) (q := 16) (As := [zi (nI ((n + m) - 1))]) (st := []) ck8 dX6_join_13 rfl rfl mkX8_clear wt948 wt603 wt604 rfl (Nat.le_of_ble_eq_true rfl) (Nat.le_of_ble_eq_true rfl) (by decide) (by decide) (by decide) (Or.inl rfl) (hs.e (show j < 19 by omega)) (ok_X8_clear hs hj (nI (n + m - 1))) (fun r13 S13 hp13 => ?_)
  obtain ⟨rfl, hq13⟩ := hp13
  rw [hq13]
  show Ok _ _ _ [] _ _
  refine r_iconst (q := 17) (nI 0) dX6_join_16 rfl (by decide) ?_
  refine r_istore (q := 19) (L' := [some (zr 6 b), some (zr 8 jo), some (zi (nI i)), some (zr 8 ji), some (zr 8 j), some (zi (nI P)), some (zi (nI 0)), none, none]) dX6_join_17 rfl (by decide) rfl ?_
  have f0 : Fg (tJm b j) S (sI (sI S 8 j 0 (nI (n + m - 1))) 8 j 1 (nI 0)) := Fg.of22 (S1 := sI (sI S 8 j 0 (nI (n + m - 1))) 8 j 1 (nI 0)) hs rfl (fun a x k _ hz => by rw [gI_sI, if_neg (fun z => hz (Or.inr (Or.inl (by unfold tTy; omega)))), gI_sI, if_neg (fun z => hz (Or.inl z))]) (fun _ _ _ _ _ => rfl)
  have hJ' : Jn (sI (sI S 8 j 0 (nI (n + m - 1))) 8 j 1 (nI 0)) jo ji n m o l := ⟨by rw [gI_sI, if_neg (by omega), gI_sI, if_neg (by omega)]; exact j1, by rw [gI_sI, if_neg (by omega), gI_sI, if_neg (by omega)]; exact j2, ⟨by rw [gI_sI, if_neg (by omega), gI_sI, if_neg (by omega)]; exact j3.1, j3.2⟩, ⟨by rw [gI_sI, if_neg (by omega), gI_sI, if_neg (by omega)]; exact j4.1, j4.2⟩⟩
  have hc : Ty (sI (sI S 8 j 0 (nI (n + m - 1))) 8 j 1 (nI 0)) j [] := ⟨by rw [gI_sI, if_pos ⟨rfl, rfl, rfl⟩]; rfl, fun k hk => absurd hk (by simp), q, hq1, hq2, hq3, hq4, by simp⟩
  have q := lp_join1 hE hn1 hm1 hn hi h2 hP hb5 hjo hji hj h1 h3 ho hl hU hpU o.length 0 (sI (sI S 8 j 0 (nI (n + m - 1))) 8 j 1 (nI 0)) [] (by omega) f0.sd hJ' hc ce_nil (fun p hp => absurd hp List.not_mem_nil)
  refine Ok.mono q (fun r S1 y => ⟨y.1, f0.tr (y.2.1.mono fun a x k z => Or.inr z), ?_, ?_⟩)
  · rw [y.2.1.I (by omega) (by unfold tJn tTy; simp [tSh]), gI_sI, if_neg (by omega), gI_sI, if_pos ⟨rfl, rfl, rfl⟩]
  · have y3 := y.2.2
    rw [List.drop_zero] at y3
    rw [show puts P 1 [] (prds i o l) = cl (adds P 1 [] (prds i o l)) from puts_adds hE (by omega) hn (ce_nil (A := A) (e := e) (P := P) (n := n + m - 1)).1 (prds_tr hi (fun q hq => (ho q hq).1) (fun q hq => (hl q hq).1))] at y3
    exact y3

