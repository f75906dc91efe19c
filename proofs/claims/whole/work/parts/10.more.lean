/-! REFERENCES PUT IN ARRAYS; OBJECT'S CONSTRUCTOR; MATH; ARRAYCOPY; NEW ARRAYS OF ARRAYS; CONSTRUCTORS CALLED -/
theorem r_aast {M : mD} {pc q a b ci bv j n N : Nat} {C : String} {T : u_T} {L : List (Option zV)} {st : List zV} {S : zS} {Po : Option zV → zS → Prop} (hc : clsOK ci C T N) (ha : ¬ a < 13) (ht : 3 < tN a) (ht9 : tN a < 9) (hty : zty (tN a) = .object C) (hd : decode (mb M) pc = .ok (.aastore, 1)) (hq : pc + 1 = q) (he : gE S a b = true) (hev : gE S ci bv = true) (hn : gN S a b = n) (hj : j < n) (hn2 : n < 2147483648) (kk : Ok M q L st (sR S a b j (some (ci, bv))) Po) : Ok M pc L (zr ci bv :: zi (nI j) :: zr a b :: st) S Po := by
  subst hq
  refine r_gen (S1 := sR S a b j (some (ci, bv))) rfl rfl (fun _ _ => rfl) (fun X G cx adr H locs cells slots Q ls hR hS hl kk => ?_) kk
  obtain ⟨hx, hb, -, ho, -, -, -, -, hK, -⟩ := cx
  have hP := arr_at hR ha he
  rw [zarr_r ht] at hP
  have hin := vpN (j := j) (n := n) hj hn2
  have hcl := clN (j := j) (n := n) hj hn2
  have hv := (hR.1 ci bv hev).1
  rw [cel_obj hc.2.1] at hv
  obtain ⟨r', hr', cellV, g1, g2, g3, -⟩ := hv
  have hcls := (hK.1.1 ci _ hc.1).2
  have hRA := (hK.1.2 (tN a) _ (ztys_at _ ht9)).2
  rw [hty] at hRA
  obtain ⟨kA, comp, k1, k2, k3, -⟩ := hRA
  have hcomp : comp = G.1.1 ci := Option.some.inj (k3.symm.trans hcls.1)
  subst hcomp
  obtain ⟨kC, hkC, -⟩ := hcls.2
  refine W.aast hx hb hP (fun q h => by cases h) (fun h => by cases h) k1 k2 rfl hkC ⟨fun q => hin (Or.inl q), by show _ < (arrV _ _ _).slots.size; rw [arrV_size, hn, hcl]; exact hj⟩ g1 (fun q h => by rw [g3] at h; cases h) (by rw [g2]; exact hkC) (by rw [g2]; exact va_assign hcls) rfl rfl hd fun H1 e z oq => ?_
  rw [hcl] at e
  refine kk H1 _ ls (rep_set hR he (fun _ _ => rfl) (fun x y z p _ h => ?_) (fun _ _ h => cel_sR h) ?_ (fun q _ g2 => oq q g2)) (hS.put z oq (hR.1 a b he).2) hl
  · by_cases e9 : x = a ∧ y = b ∧ z = j
    · rw [e9.1, e9.2.1, e9.2.2, gR_self] at h
      cases h
      exact Or.inr hev
    · have h0 : gR (sR S a b j (some (ci, bv))) x y z = gR S x y z := if_neg e9
      rw [h0] at h
      exact Or.inl h
  · rw [cel_arr ha, zarr_r ht]
    show H1[adr a b]? = some (vp_cell _ _)
    rw [e, vp_cell_q, vp_cell_q, arrV_store]
    congr 2
    funext p
    by_cases hp : p = j
    · subst hp; rw [gR_self]; simp [updV]; rfl
    · have h0 : gR (sR S a b j (some (ci, bv))) a b p = gR S a b p := if_neg fun z => hp z.2.2
      rw [h0]; simp [updV, hp]
theorem r_objInit {M : mD} {pc q a b i : Nat} {L : List (Option zV)} {st : List zV} {S : zS} {Po : Option zV → zS → Prop} (hd : decode (mb M) pc = .ok (.invokespecial i, 3)) (hq : pc + 3 = q) (hw : Cond.methodLink (mo M) i Lib.objectInit ∈ GW) (hwi : Cond.instanceMethod Lib.objectInit ∈ GW) (hwc : Cond.code Lib.objectInit ⟨#[0xb1]⟩ 1 none ∈ GW) (hW : (st.map zc).sum ≤ 8) (hf : 1 ≤ mf M) (hl : 20 ≤ ml M) (k : Ok M q L st S Po) : Ok M pc L (zr a b :: st) S Po := by
  subst hq
  refine r_pure (fun X G cx adr H locs cells slots Q ls hl' kk => ?_) k
  obtain ⟨hx, hb, hml, ho, ht, -, -, -, -, -, hR1, hR2, -⟩ := cx
  exact W.objInit hx hb ho (ht _ hw) (ht _ hwi) (ht _ hwc) rfl (by rw [hml]; exact hl'.1) rfl hd (Nat.le_trans hf hR1) (by have := f0_room (m := xm X) (pc := pc) (ls := ls) (stv := (zr a b :: st).map (tr adr)) (adr := adr) hW; omega) (kk ls hl')
theorem r_mmin {M : mD} {pc q i : Nat} {x y : Int32} {L : List (Option zV)} {st : List zV} {S : zS} {Po : Option zV → zS → Prop} (hd : decode (mb M) pc = .ok (.invokestatic i, 3)) (hq : pc + 3 = q) (hw : Cond.methodLink (mo M) i Lib.Math.min.name ∈ GW) (hws : Cond.static Lib.Math.min.name ∈ GW) (hwi : Cond.initialized "java/lang/Math" ∈ GW) (hwc : Cond.code Lib.Math.min.name Lib.Math.min.code 2 (some .int) ∈ GW) (hW : (st.map zc).sum ≤ 8) (hf : 1 ≤ mf M) (hl : 21 ≤ ml M) (k : Ok M q L (zi (if y < x then y else x) :: st) S Po) : Ok M pc L (zi y :: zi x :: st) S Po := by
  subst hq
  obtain ⟨r, S', hp, hC1, hQ1, hE1, hr⟩ := k
  refine ⟨r, S', hp, hC1, hQ1, hE1, ?_⟩
  intro X G adr0 adr E0 p0 q0 cx g1 g2 g3 g4 g5 g6 H locs ls hR hS hl'
  have kk := hr X G adr0 adr E0 p0 q0 cx g1 g2 g3 g4 g5 g6 H locs ls hR hS hl'
  obtain ⟨hx, hb, hml, ho, ht, -, -, -, -, -, hR1, hR2, -⟩ := cx
  exact va_mmin hx hb (by rw [hml]; exact hl'.1.symm) ho (ht _ hw) (ht _ hws) (ht _ hwi) (ht _ hwc) (Nat.le_trans hf hR1) (by rw [tr_cats]; omega) (by omega) (by omega) hd kk
theorem r_mmax {M : mD} {pc q i : Nat} {x y : Int32} {L : List (Option zV)} {st : List zV} {S : zS} {Po : Option zV → zS → Prop} (hd : decode (mb M) pc = .ok (.invokestatic i, 3)) (hq : pc + 3 = q) (hw : Cond.methodLink (mo M) i Lib.Math.max.name ∈ GW) (hws : Cond.static Lib.Math.max.name ∈ GW) (hwi : Cond.initialized "java/lang/Math" ∈ GW) (hwc : Cond.code Lib.Math.max.name Lib.Math.max.code 2 (some .int) ∈ GW) (hW : (st.map zc).sum ≤ 8) (hf : 1 ≤ mf M) (hl : 21 ≤ ml M) (k : Ok M q L (zi (if x < y then y else x) :: st) S Po) : Ok M pc L (zi y :: zi x :: st) S Po := by
  subst hq
  obtain ⟨r, S', hp, hC1, hQ1, hE1, hr⟩ := k
  refine ⟨r, S', hp, hC1, hQ1, hE1, ?_⟩
  intro X G adr0 adr E0 p0 q0 cx g1 g2 g3 g4 g5 g6 H locs ls hR hS hl'
  have kk := hr X G adr0 adr E0 p0 q0 cx g1 g2 g3 g4 g5 g6 H locs ls hR hS hl'
  obtain ⟨hx, hb, hml, ho, ht, -, -, -, -, -, hR1, hR2, -⟩ := cx
  exact va_mmax hx hb (by rw [hml]; exact hl'.1.symm) ho (ht _ hw) (ht _ hws) (ht _ hwi) (ht _ hwc) (Nat.le_trans hf hR1) (by rw [tr_cats]; omega) (by omega) (by omega) hd kk
/-- arraycopy of ints -/
def cpS (S : zS) (a0 b0 a1 b1 sp dp n : Nat) : zS := (fun x y k => if x = a1 ∧ y = b1 then va_cpy (gI S a0 b0) (gI S a1 b1) sp dp n k else S.1 x y k, S.2)
theorem gI_cp {S : zS} {a0 b0 a1 b1 sp dp n x y k : Nat} : gI (cpS S a0 b0 a1 b1 sp dp n) x y k = if x = a1 ∧ y = b1 then va_cpy (gI S a0 b0) (gI S a1 b1) sp dp n k else gI S x y k := rfl
theorem cel_cp {cy : Nat → ClassId} {adr : zA} {S : zS} {a0 b0 a1 b1 sp dp n x y : Nat} (h : ¬ (x = a1 ∧ y = b1)) : cel cy adr (cpS S a0 b0 a1 b1 sp dp n) x y = cel cy adr S x y := by
  have h0 : gI (cpS S a0 b0 a1 b1 sp dp n) x y = gI S x y := funext fun k => if_neg h
  unfold cel
  split
  · have h1 : fva adr (cpS S a0 b0 a1 b1 sp dp n) x y = fva adr S x y := funext fun k => by
      unfold fva
      rw [h0]
      rfl
    rw [h1]
  · have h1 : zarr adr (cpS S a0 b0 a1 b1 sp dp n) x y = zarr adr S x y := by
      unfold zarr
      rw [h0]
      rfl
    rw [h1]
theorem r_copyi {M : mD} {pc q i a0 b0 a1 b1 sp dp n : Nat} {L : List (Option zV)} {st : List zV} {S : zS} {Po : Option zV → zS → Prop} (ha0 : ¬ a0 < 13) (ha1 : ¬ a1 < 13) (ht0 : tN a0 = 1) (ht1 : tN a1 = 1) (he0 : gE S a0 b0 = true) (he1 : gE S a1 b1 = true) (hd : decode (mb M) pc = .ok (.invokestatic i, 3)) (hq : pc + 3 = q) (hw : Cond.methodLink (mo M) i arraycopyName ∈ GW) (hws : Cond.static arraycopyName ∈ GW) (hwn : Cond.native arraycopyName ∈ GW) (hwi : Cond.initialized "java/lang/System" ∈ GW) (hW : (st.map zc).sum ≤ 8) (hf : 1 ≤ mf M) (hl : 26 ≤ ml M) (hsp : sp < 2147483648) (hdp : dp < 2147483648) (hn : n < 2147483648) (h4 : sp + n ≤ gN S a0 b0) (h5 : dp + n ≤ gN S a1 b1)
    (k : Ok M q L st (cpS S a0 b0 a1 b1 sp dp n) Po) : Ok M pc L (zi (nI n) :: zi (nI dp) :: zr a1 b1 :: zi (nI sp) :: zr a0 b0 :: st) S Po := by
  subst hq
  refine r_gen (S1 := cpS S a0 b0 a1 b1 sp dp n) rfl rfl (fun _ _ => rfl) (fun X G cx adr H locs cells slots Q ls hR hS hl' kk => ?_) k
  obtain ⟨hx, hb, hml, ho, ht, -, -, -, hK, -, hR1, hR2, -⟩ := cx
  have hc0 := arr_at hR ha0 he0
  have hc1 := arr_at hR ha1 he1
  rw [zarr_i (Or.inl ht0)] at hc0
  rw [zarr_i (Or.inl ht1)] at hc1
  have cs : (nI sp).toNatClampNeg = sp := nI_clamp hsp
  have cd : (nI dp).toNatClampNeg = dp := nI_clamp hdp
  have cn : (nI n).toNatClampNeg = n := nI_clamp hn
  have ts : (nI sp).toInt = (sp : Int) := nI_toInt hsp
  have td : (nI dp).toInt = (dp : Int) := nI_toInt hdp
  have tn : (nI n).toInt = (n : Int) := nI_toInt hn
  intro T hT XX
  obtain ⟨-, k0, hk0, cm0, hkk0⟩ := (hK.1.2 1 _ rfl).1 (gN S a0 b0) (fun j => .int (gI S a0 b0 j))
  obtain ⟨-, k1, hk1, cm1, hkk1⟩ := (hK.1.2 1 _ rfl).1 (gN S a1 b1) (fun j => .int (gI S a1 b1 j))
  obtain ⟨vm', X', step⟩ := XX.arraycopy hx ho (ht _ hw) (ht _ hwn) (ht _ hws) (ht _ hwi) (src := adr a0 b0) (dst := adr a1 b1) (cs := vp_cell (G.2.1 (tN a0)) (gN S a0 b0, .inl (gI S a0 b0))) (cd := vp_cell (G.2.1 (tN a1)) (gN S a1 b1, .inl (gI S a1 b1))) (srcPos := nI sp) (destPos := nI dp) (n := nI n) (by rw [hT]; exact hc0) (by rw [hT]; exact hc1)
    (fun _ h => by cases h) (fun _ h => by cases h) (fun h => by cases h) (fun h => by cases h) (by rw [ht0]; exact hk0) (by rw [ht1]; exact hk1) hkk0 hkk1 (by simp [refKind]) (nI_pos hsp) (nI_pos hdp) (nI_pos hn)
    (by rw [ts, tn]; show ¬ _ > ((arrV _ (gN S a0 b0) (fun j => .int (gI S a0 b0 j))).slots.size : Int); rw [arrV_size]; omega)
    (by rw [td, tn]; show ¬ _ > ((arrV _ (gN S a1 b1) (fun j => .int (gI S a1 b1 j))).slots.size : Int); rw [arrV_size]; omega)
    (fun vm₁ _ i hi => by
      rw [cn] at hi
      have e : (vp_cell (G.2.1 (tN a0)) (gN S a0 b0, .inl (gI S a0 b0))).slots.getD ((nI sp).toNatClampNeg + i) .null = .int (gI S a0 b0 (sp + i)) := by
        show (arrV _ (gN S a0 b0) (fun j => .int (gI S a0 b0 j))).slots.getD _ _ = _
        rw [cs, Array.getD_eq_getD_getElem?, arrV_read _ _ (by omega)]
        rfl
      refine ⟨?_, ?_⟩
      · rw [e]
        rfl
      · rw [e]
        exact trivial)
    (g := F0 (xm X) pc ls ((zi (nI n) :: zi (nI dp) :: zr a1 b1 :: zi (nI sp) :: zr a0 b0 :: st).map (tr adr))) rfl (by rw [hml]; exact hl'.1) (rest := st.map (tr adr)) rfl (by rw [hb]; exact hd) (Nat.le_trans hf hR1) (by
      rw [tr_cats]
      show 2 * 0 + _ + (5 + 2 + 11) ≤ _
      omega)
  have e1 : copied (vp_cell (G.2.1 (tN a0)) (gN S a0 b0, .inl (gI S a0 b0))) (vp_cell (G.2.1 (tN a1)) (gN S a1 b1, .inl (gI S a1 b1))) (nI sp) (nI dp) (nI n) = vp_cell (G.2.1 (tN a1)) (gN S a1 b1, .inl (va_cpy (gI S a0 b0) (gI S a1 b1) sp dp n)) := by
    have h9 : (nI sp).toNatClampNeg + (nI n).toNatClampNeg ≤ gN S a0 b0 := by rw [cs, cn]; exact h4
    have e0 : copied (vp_cell (G.2.1 (tN a0)) (gN S a0 b0, .inl (gI S a0 b0))) (vp_cell (G.2.1 (tN a1)) (gN S a1 b1, .inl (gI S a1 b1))) (nI sp) (nI dp) (nI n) = vp_cell (G.2.1 (tN a1)) (gN S a1 b1, .inl (va_cpy (gI S a0 b0) (gI S a1 b1) (nI sp).toNatClampNeg (nI dp).toNatClampNeg (nI n).toNatClampNeg)) := va_copied (fun z => .int z) (G.2.1 (tN a0)) (G.2.1 (tN a1)) (gI S a0 b0) (gI S a1 b1) h9
    rw [e0, cs, cd, cn]
  rw [e1] at X' step
  have hlt : adr a1 b1 < H.size := (Array.getElem?_eq_some_iff.mp hc1).1
  generalize hcell : vp_cell (G.2.1 (tN a1)) (gN S a1 b1, .inl (va_cpy (gI S a0 b0) (gI S a1 b1) sp dp n)) = cell9 at X' step
  have hheap : ((T.setVm vm').setCell (adr a1 b1) cell9).heap = H.setIfInBounds (adr a1 b1) cell9 := by rw [← hT]; rfl
  have oq : ∀ q : Nat, q ≠ adr a1 b1 → (H.setIfInBounds (adr a1 b1) cell9)[q]? = H[q]? := fun q hq => by simp [Array.getElem?_setIfInBounds, Ne.symm hq]
  have hself : (H.setIfInBounds (adr a1 b1) cell9)[adr a1 b1]? = some cell9 := by simp [Array.getElem?_setIfInBounds, hlt]
  obtain ⟨t, x1, x2⟩ := kk (H.setIfInBounds (adr a1 b1) cell9) _ ls (rep_set hR he1 (fun _ _ => rfl) (fun _ _ _ _ _ h => Or.inl h) (fun _ _ h => cel_cp h) (by
      rw [cel_arr ha1, zarr_i (Or.inl ht1)]
      show _ = some (vp_cell _ _)
      rw [hself, ← hcell]
      have e7 : gI (cpS S a0 b0 a1 b1 sp dp n) a1 b1 = va_cpy (gI S a0 b0) (gI S a1 b1) sp dp n := funext fun k => if_pos ⟨rfl, rfl⟩
      rw [e7]
      rfl) (fun q _ g2 => oq q g2)) ⟨by simp; exact hS.1, fun q g1 g2 => by
      rw [oq q (fun e => g2 (by rw [e]; exact (hR.1 a1 b1 he1).2))]
      exact hS.2.1 q g1 g2, fun q hq => by
      rcases List.mem_append.mp hq with h | h
      · exact hS.2.2 q h
      · obtain ⟨z, -, hz⟩ := List.mem_map.mp h
        rw [← hz]
        exact (hR.1 a1 b1 he1).2⟩ hl' _ hheap X'
  exact ⟨t, step t x1, x2⟩
/-! constructors called: the cells that there were keep their places -/
def exv (S : zS) : zV → Prop
  | .inr (.inr (some p)) => gE S p.1 p.2 = true ∧ gw p.1 = false ∨ p = (77777, 0)
  | _ => True
def exs (S : zS) : List zV → Prop
  | [] => True
  | v :: st => exv S v ∧ exs S st
def exl (S : zS) : List (Option zV) → Prop
  | [] => True
  | none :: L => exl S L
  | some v :: L => exv S v ∧ exl S L
theorem exs_mem {S : zS} : ∀ {st : List zV} {v : zV}, exs S st → v ∈ st → exv S v
  | w :: st, v, h, hv => by
    rcases List.mem_cons.mp hv with rfl | hv
    · exact h.1
    · exact exs_mem h.2 hv
theorem exl_mem {S : zS} : ∀ {L : List (Option zV)} {v : zV}, exl S L → some v ∈ L → exv S v
  | none :: L, v, h, hv => by
    rcases List.mem_cons.mp hv with h9 | hv
    · cases h9
    · exact exl_mem (L := L) (show exl S L from h) hv
  | some w :: L, v, h, hv => by
    rcases List.mem_cons.mp hv with h9 | hv
    · cases h9
      exact h.1
    · exact exl_mem h.2 hv
theorem tr_keep2 {g : Nat} {S : zS} {adr adr' : zA} (hk : kA g (gE S) adr adr') (h7 : adr' 77777 0 = adr 77777 0) {v : zV} (h : exv S v) : tr adr' v = tr adr v := by
  rcases v with x | x | (_ | p)
  · rfl
  · rfl
  · rfl
  · show Value.ref _ = Value.ref _
    rcases h with h | h
    · rw [hk p.1 p.2 (Or.inr h.2) (Or.inr h.1)]
    · rw [h]
      exact congrArg Value.ref h7
theorem r_call2 {M Mc : mD} {pc q : Nat} {L : List (Option zV)} {st stk : List zV} {S : zS} {Po Po1 : Option zV → zS → Prop} {As : List zV} (hq : pc + 3 = q) (hg : mg Mc ≤ mg M) (hkL : exl S L) (hks : exs S st)
    (h : ∀ (r1 : Option zV) (S1 : zS), Runs Mc 0 (ent (mn Mc) As) [] S r1 S1 → ∀ (X : cX) (G : zG), Cx M X G → ∀ (adr : zA) (H : Heap) (locs : List Loc) (cells slots : Nat) (ls : Array Slot), Rep G adr S H → va_S (fun q => G.2.2 ≤ q) (xs X).heap H locs → lv_has ls (mn M) (Lv adr L) → cells + (gC S1 - gC S) ≤ (xR X).cells → slots + (gQ S1 - gQ S) ≤ (xR X).slots → G.2.2 ≤ H.size → ∃ av,
      va_Run (xp X) (xl X) (xe X) (xR X) (xs X) (xm X) (xa X) (xb X) (xh X) (xc X) H locs cells slots (gC S1 - gC S) (gQ S1 - gQ S) (F0 (xm X) pc ls (stk.map (tr adr))) (st.map (tr adr)) (zQ (mg Mc) G adr (gE S) r1 S1 av) (fun q => G.2.2 ≤ q))
    (h1 : Ok Mc 0 (ent (mn Mc) As) [] S Po1) (kk : ∀ r S1, Po1 r S1 → Ok M q L (r.toList ++ st) S1 Po) : Ok M pc L stk S Po := by
  subst hq
  obtain ⟨r1, S1, hp1, hr1⟩ := h1
  obtain ⟨r, S', hp, hC, hQ, hE, hr⟩ := kk r1 S1 hp1
  have c1 := hr1.1
  have c2 := hr1.2.1
  have c3 := hr1.2.2.1
  refine ⟨r, S', hp, by omega, by omega, fun a b z => hE a b (c3 a b z), ?_⟩
  intro X G adr0 adr E0 p0 q0 cx g1 g2 g3 g4 g5 g6 H locs ls hR hS hl
  obtain ⟨av, hrun⟩ := h r1 S1 hr1 X G cx adr H locs (gC S - p0) (gQ S - q0) ls hR hS hl (by omega) (by omega) (Nat.le_trans cx.2.2.2.2.2.2.2.2.2.1 hS.1)
  refine call_go hrun hS fun H' locs' adr' hR' hk' hS' => ?_
  have h7 : adr' 77777 0 = adr 77777 0 := hR'.2.2.2.2.trans hR.2.2.2.2.symm
  have hl2 : lv_has ls (mn M) (Lv adr' L) := by
    refine ⟨hl.1, hl.2.1, fun q hq => ?_⟩
    obtain ⟨v, h1, h2⟩ := Lv_mem.mp hq
    rw [tr_keep2 hk' h7 (exl_mem hkL (List.mem_of_getElem? h1))] at h2
    exact hl.2.2 q (Lv_mem.mpr ⟨v, h1, h2⟩)
  have hst2 : st.map (tr adr') = st.map (tr adr) := by
    apply List.map_congr_left
    intro v hv
    exact tr_keep2 hk' h7 (exs_mem hks hv)
  have := hr X G adr0 adr' E0 p0 q0 cx (by omega) (by omega) g3 g4 (fun a b z => c3 a b (g5 a b z)) (g6.trans hk' hg g5) H' locs' ls hR' hS' hl2
  rw [show gC S - p0 + (gC S1 - gC S) = gC S1 - p0 by omega, show gQ S - q0 + (gQ S1 - gQ S) = gQ S1 - q0 by omega]
  rw [List.map_append, hst2] at this
  rw [show (r1.map (tr adr')).toList = r1.toList.map (tr adr') by cases r1 <;> rfl]
  exact this
theorem th0 {n : Nat} (h : Nat.beq (n / 10) 0 = true) : n / 10 = 0 := Nat.eq_of_beq_eq_true h
/-- invokespecial of a constructor -/
theorem r_callI {M Mc : mD} {pc q a b i n : Nat} {L : List (Option zV)} {st stk : List zV} {S : zS} {Po Po1 : Option zV → zS → Prop} {As : List zV} (hd : decode (mb M) pc = .ok (.invokespecial i, 3)) (hq : pc + 3 = q) (hst : stk = As.reverse ++ zr a b :: st) (hm : mOK Mc n) (hmr : mr Mc = none) (hy : (my Mc).name = "<init>") (hw : Cond.methodLink (mo M) i (my Mc) ∈ GW) (hwi : Cond.instanceMethod (my Mc) ∈ GW) (hn : As.length = n) (hA : ((zr a b :: As).map zc).sum ≤ mn Mc) (hW : (st.map zc).sum ≤ 8) (hf : mf Mc + 1 ≤ mf M) (hl : 8 + (mn Mc + 11) + ml Mc ≤ ml M) (hg : mg Mc ≤ mg M) (hkL : exl S L) (hks : exs S st)
    (h1 : Ok Mc 0 (ent (mn Mc) (zr a b :: As)) [] S Po1) (kk : ∀ r S1, Po1 r S1 → Ok M q L (r.toList ++ st) S1 Po) (hth : Nat.beq (mg Mc / 10) 0 = true := by rfl) : Ok M pc L stk S Po := by
  refine r_call2 hq hg hkL hks (fun r1 S1 hr1 X G cx adr H locs cells slots ls hR hS' hl' hcl hsl hbz => ⟨(Value.ref (adr a b) :: As.map (tr adr)).toArray, ?_⟩) h1 kk
  have hM := run_met hr1 hm hA (xl X) cx.2.2.2.2.2.2.2.2.2.2.2.2.2.1 (th0 hth) G adr
  have cb := callB_z (c := gC S1 - gC S) (s := gQ S1 - gQ S) cx hm hw hf hl
  obtain ⟨hx, hb, hml, ho, ht, -, -, -, hK, hbs, -, -, -, -, hzz, -⟩ := cx
  rw [hmr] at cb
  exact va_runI (As := As.map (tr adr)) (b := adr a b) ⟨hx, hb, hml, ho, ht⟩ hM ⟨cb, hy, ht _ hwi⟩ ⟨zPc_blind, fun U hU hW2 => ⟨rfl, by rw [hU]; exact hR, hK.warm hW2, by rw [hU]; exact hbz, hzz.go hW2 hU hS'⟩⟩ rfl (by rw [List.length_map]; exact hn) hl'.1 (by rw [hst]; simp [tr]) (f0_room hW) hd ⟨hcl, hsl⟩
/-- .. of a nest mate's private constructor -/
theorem r_callIN {M Mc : mD} {pc q a b i n : Nat} {host : String} {L : List (Option zV)} {st stk : List zV} {S : zS} {Po Po1 : Option zV → zS → Prop} {As : List zV} (hd : decode (mb M) pc = .ok (.invokespecial i, 3)) (hq : pc + 3 = q) (hst : stk = As.reverse ++ zr a b :: st) (hm : mOK Mc n) (hmr : mr Mc = none) (hy : (my Mc).name = "<init>") (hw : Cond.methodLinkNest (mo M) i (my Mc) host ∈ nestL) (hwi : Cond.instanceMethod (my Mc) ∈ GW) (hn : As.length = n) (hA : ((zr a b :: As).map zc).sum ≤ mn Mc) (hW : (st.map zc).sum ≤ 8) (hf : mf Mc + 1 ≤ mf M) (hl : 8 + (mn Mc + 11) + ml Mc ≤ ml M) (hg : mg Mc ≤ mg M) (hkL : exl S L) (hks : exs S st)
    (h1 : Ok Mc 0 (ent (mn Mc) (zr a b :: As)) [] S Po1) (kk : ∀ r S1, Po1 r S1 → Ok M q L (r.toList ++ st) S1 Po) (hth : Nat.beq (mg Mc / 10) 0 = true := by rfl) : Ok M pc L stk S Po := by
  refine r_call2 hq hg hkL hks (fun r1 S1 hr1 X G cx adr H locs cells slots ls hR hS' hl' hcl hsl hbz => ⟨(Value.ref (adr a b) :: As.map (tr adr)).toArray, ?_⟩) h1 kk
  have hM := run_met hr1 hm hA (xl X) cx.2.2.2.2.2.2.2.2.2.2.2.2.2.1 (th0 hth) G adr
  have cb := callN_z (c := gC S1 - gC S) (s := gQ S1 - gQ S) cx hm hw hf hl
  obtain ⟨hx, hb, hml, ho, ht, -, -, -, hK, hbs, -, -, -, -, hzz, -⟩ := cx
  rw [hmr] at cb
  exact va_runIN (As := As.map (tr adr)) (b := adr a b) ⟨hx, hb, hml, ho, ht⟩ hM ⟨cb, hy, ht _ hwi⟩ ⟨zPc_blind, fun U hU hW2 => ⟨rfl, by rw [hU]; exact hR, hK.warm hW2, by rw [hU]; exact hbz, hzz.go hW2 hU hS'⟩⟩ rfl (by rw [List.length_map]; exact hn) hl'.1 (by rw [hst]; simp [tr]) (f0_room hW) hd ⟨hcl, hsl⟩
