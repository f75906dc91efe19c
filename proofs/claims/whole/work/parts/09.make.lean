/-! CELLS THAT ARE MADE -/
def al (S : zS) (a b n c : Nat) : zS := (fun x y k => if x = a ∧ y = b then 0 else S.1 x y k, fun x y k => if x = a ∧ y = b then 0 else S.2.1 x y k, u2 S.2.2.1 a b n, fun x y k => if x = a ∧ y = b then none else S.2.2.2.1 x y k, u2 S.2.2.2.2.1 a b true, S.2.2.2.2.2.1 + 1, S.2.2.2.2.2.2 + c)
section
variable {S : zS} {a b n c x y k : Nat}
theorem gI_al : gI (al S a b n c) x y k = if x = a ∧ y = b then 0 else gI S x y k := rfl
theorem gJ_al : gJ (al S a b n c) x y k = if x = a ∧ y = b then 0 else gJ S x y k := rfl
theorem gN_al : gN (al S a b n c) x y = if x = a ∧ y = b then n else gN S x y := rfl
theorem gR_al : gR (al S a b n c) x y k = if x = a ∧ y = b then none else gR S x y k := rfl
theorem gE_al : gE (al S a b n c) x y = if x = a ∧ y = b then true else gE S x y := rfl
theorem gC_al : gC (al S a b n c) = gC S + 1 := rfl
theorem gQ_al : gQ (al S a b n c) = gQ S + c := rfl
end
def nrv (a b : Nat) : zV → Bool
  | .inr (.inr (some p)) => !(p.1 == a && p.2 == b)
  | _ => true
def nrl (a b : Nat) (L : List (Option zV)) : Bool := L.all fun o => match o with
  | none => true
  | some v => nrv a b v
theorem tr_new {adr : zA} {a b h : Nat} {v : zV} (hv : nrv a b v = true) : tr (u2 adr a b h) v = tr adr v := by
  rcases v with x | x | (_ | p)
  · rfl
  · rfl
  · rfl
  · show Value.ref _ = Value.ref _
    congr 1
    refine u2_ne fun q => ?_
    simp [nrv, q.1, q.2] at hv
theorem trs_new {adr : zA} {a b h : Nat} {st : List zV} (hv : st.all (nrv a b) = true) : st.map (tr (u2 adr a b h)) = st.map (tr adr) := by
  apply List.map_congr_left
  intro v h9
  exact tr_new (List.all_eq_true.mp hv v h9)
theorem Lv_new {adr : zA} {a b h : Nat} {L : List (Option zV)} (hv : nrl a b L = true) {ls : Array Slot} {nL : Nat} (hl : lv_has ls nL (Lv adr L)) : lv_has ls nL (Lv (u2 adr a b h) L) := by
  refine ⟨hl.1, hl.2.1, fun q hq => ?_⟩
  obtain ⟨v, h1, h2⟩ := Lv_mem.mp hq
  rw [tr_new (by
    have := List.all_eq_true.mp hv (some v) (List.mem_of_getElem? h1)
    simpa using this)] at h2
  exact hl.2.2 q (Lv_mem.mpr ⟨v, h1, h2⟩)
theorem cel_new {G : zG} {adr : zA} {S : zS} {H : Heap} (hR : Rep G adr S H) {a b n c h : Nat} (he : gE S a b = false) {x y : Nat} (hx : gE S x y = true) : cel G.2.1 (u2 adr a b h) (al S a b n c) x y = cel G.2.1 adr S x y := by
  have hne : ¬ (x = a ∧ y = b) := fun q => by rw [q.1, q.2, he] at hx; cases hx
  have e1 : gI (al S a b n c) x y = gI S x y := funext fun k => by rw [gI_al, if_neg hne]
  have e2 : gJ (al S a b n c) x y = gJ S x y := funext fun k => by rw [gJ_al, if_neg hne]
  have e3 : gN (al S a b n c) x y = gN S x y := by rw [gN_al, if_neg hne]
  have e4 : ∀ k, zad (u2 adr a b h) (gR (al S a b n c) x y k) = zad adr (gR S x y k) := fun k => by
    rw [gR_al, if_neg hne]
    cases hr : gR S x y k with
    | none => rfl
    | some p =>
      show some _ = some _
      congr 1
      refine u2_ne fun q => ?_
      have := hR.2.2.1 x y k p hx hr
      rw [q.1, q.2, he] at this
      cases this
  unfold cel
  split
  · have h1 : fva (u2 adr a b h) (al S a b n c) x y = fva adr S x y := funext fun k => by
      unfold fva
      rw [e4 k, e1, e2]
    rw [h1]
  · have h1 : zarr (u2 adr a b h) (al S a b n c) x y = zarr adr S x y := by
      unfold zarr
      rw [e1, e2, e3, show (fun i => zad (u2 adr a b h) (gR (al S a b n c) x y i)) = (fun i => zad adr (gR S x y i)) from funext e4]
    rw [h1]
theorem rep_new {G : zG} {adr : zA} {S : zS} {H H1 : Heap} (hR : Rep G adr S H) {a b n c : Nat} (h7 : a ≠ 77777) (he : gE S a b = false) (hbase : G.2.2 ≤ H.size) (hk : ∀ q, q < H.size → H1[q]? = H[q]?) (h1 : va_at G.1 vwCl (H.size, cel G.2.1 (u2 adr a b H.size) (al S a b n c) a b) H1) : Rep G (u2 adr a b H.size) (al S a b n c) H1 := by
  have hlt : ∀ x y, gE S x y = true → adr x y < H.size := fun x y hx => (hR.1 x y hx).1.lt
  refine ⟨fun x y hx => ?_, fun x y x' y' hx hx' hh => ?_, fun x y k p hx hp => ?_, ?_⟩
  rotate_left
  rotate_left
  rotate_left
  · obtain ⟨s1, s2⟩ := hR.2.2.2
    have e : ¬ (77777 = a ∧ 0 = b) := fun q => h7 q.1.symm
    exact ⟨by rw [gE_al, if_neg e]; exact s1, by rw [u2_ne e]; exact s2⟩
  · by_cases e : x = a ∧ y = b
    · rw [e.1, e.2, u2_same]
      exact ⟨h1, hbase⟩
    · rw [gE_al, if_neg e] at hx
      rw [u2_ne e, cel_new hR he hx]
      obtain ⟨g1, g2⟩ := hR.1 x y hx
      exact ⟨g1.kept (hk _ g1.lt), g2⟩
  · by_cases e : x = a ∧ y = b
    · by_cases e' : x' = a ∧ y' = b
      · exact ⟨e.1.trans e'.1.symm, e.2.trans e'.2.symm⟩
      · rw [gE_al, if_neg e'] at hx'
        rw [e.1, e.2, u2_same, u2_ne e'] at hh
        have := hlt x' y' hx'
        omega
    · rw [gE_al, if_neg e] at hx
      by_cases e' : x' = a ∧ y' = b
      · rw [e'.1, e'.2, u2_same, u2_ne e] at hh
        have := hlt x y hx
        omega
      · rw [gE_al, if_neg e'] at hx'
        rw [u2_ne e, u2_ne e'] at hh
        exact hR.2.1 x y x' y' hx hx' hh
  · by_cases e : x = a ∧ y = b
    · rw [gR_al, if_pos e] at hp
      cases hp
    · rw [gE_al, if_neg e] at hx
      rw [gR_al, if_neg e] at hp
      have := hR.2.2.1 x y k p hx hp
      rw [gE_al]
      split
      · rfl
      · exact this
/-- a cell is made -/
theorem r_alloc {M : mD} {pc q a b n c : Nat} {L : List (Option zV)} {st stk : List zV} {S : zS} {Po : Option zV → zS → Prop} (hg : 2 ≤ mg M ∨ 1 ≤ mg M ∧ gw a = true) (h7 : a ≠ 77777) (he : gE S a b = false) (hL : nrl a b L = true) (hst : st.all (nrv a b) = true)
    (h : ∀ (X : cX) (G : zG), Cx M X G → ∀ (adr : zA) (H : Heap) (locs : List Loc) (cells slots : Nat) (Q : State → Prop) (ls : Array Slot), Rep G adr S H → lv_has ls (mn M) (Lv adr L) → cells + 1 ≤ (xR X).cells → slots + c ≤ (xR X).slots →
      (∀ H' : Heap, H'.size = H.size + 1 → (∀ q, q < H.size → H'[q]? = H[q]?) → va_at G.1 vwCl (H.size, cel G.2.1 (u2 adr a b H.size) (al S a b n c) a b) H' → WX X H' locs (cells + 1) (slots + c) Q q ls (.ref H.size :: st.map (tr adr))) → WX X H locs cells slots Q pc ls (stk.map (tr adr)))
    (k : Ok M q L (zr a b :: st) (al S a b n c) Po) : Ok M pc L stk S Po := by
  obtain ⟨r, S', hp, hC1, hQ1, hE1, hr⟩ := k
  rw [gC_al] at hC1
  rw [gQ_al] at hQ1
  have hmono : ∀ x y, gE S x y = true → gE (al S a b n c) x y = true := fun x y z => by
    rw [gE_al]
    split
    · rfl
    · exact z
  refine ⟨r, S', hp, by omega, by omega, fun x y z => hE1 x y (hmono x y z), ?_⟩
  intro X G adr0 adr E0 p0 q0 cx g1 g2 g3 g4 g5 g6 H locs ls hR hS hl
  refine h X G cx adr H locs _ _ _ ls hR hl (by omega) (by omega) fun H' z1 o1 v1 => ?_
  have hbase : G.2.2 ≤ H.size := Nat.le_trans cx.2.2.2.2.2.2.2.2.2.1 hS.1
  have hR' := rep_new hR h7 he hbase o1 v1
  have hS' : va_S (fun q => G.2.2 ≤ q) (xs X).heap H' locs := ⟨Nat.le_trans hS.1 (by omega), fun x h1 h2 => (o1 x (Nat.lt_of_lt_of_le h1 hS.1)).trans (hS.2.1 x h1 h2), hS.2.2⟩
  have hkA : kA (mg M) E0 adr0 (u2 adr a b H.size) := by
    intro x y h1 h2
    by_cases e : x = a ∧ y = b
    · exfalso
      rw [e.1] at h1
      rw [e.1, e.2] at h2
      rcases hg with hg | ⟨hg, hw⟩
      · rcases h2 with h2 | h2
        · omega
        · have := g5 a b h2
          rw [he] at this
          cases this
      · rcases h1 with h1 | h1
        · omega
        · rw [hw] at h1
          cases h1
    · rw [u2_ne e]
      exact g6 x y h1 h2
  have := hr X G adr0 (u2 adr a b H.size) E0 p0 q0 cx (by rw [gC_al]; omega) (by rw [gQ_al]; omega) g3 g4 (fun x y z => hmono x y (g5 x y z)) hkA H' locs ls hR' hS' (Lv_new hL hl)
  rw [gC_al, gQ_al, show gC S + 1 - p0 = gC S - p0 + 1 by omega, show gQ S + c - q0 = gQ S - q0 + c by omega, List.map_cons, trs_new hst] at this
  have e9 : tr (u2 adr a b H.size) (zr a b) = .ref H.size := by show Value.ref _ = _; rw [u2_same]
  rw [e9] at this
  exact this
def okT : FieldType → Bool
  | .int | .boolean | .byte | .long | .object _ | .array _ => true
  | _ => false
/-- new -/
theorem r_new {M : mD} {pc q a b i N : Nat} {C : String} {T : u_T} {L : List (Option zV)} {st : List zV} {S : zS} {Po : Option zV → zS → Prop} (hg : 2 ≤ mg M) (hc : clsOK a C T N) (hok : ∀ j, j < N → okT (fty a j) = true) (hd : decode (mb M) pc = .ok (.new i, 3)) (hq : pc + 3 = q) (hw : Cond.classLink (mo M) i C ∈ GW) (hwi : Cond.instantiable C N ∈ GW) (hwn : Cond.initialized C ∈ GW) (he : gE S a b = false) (hL : nrl a b L = true) (hst : st.all (nrv a b) = true)
    (k : Ok M q L (zr a b :: st) (al S a b 0 N) Po) : Ok M pc L st S Po := by
  subst hq
  obtain ⟨h1, h2, h3, h4, h5, h6⟩ := hc
  refine r_alloc (Or.inl hg) (by omega) he hL hst (fun X G cx adr H locs cells slots Q ls hR hl hcl hsl kk => ?_) k
  obtain ⟨hx, hb, -, ho, ht, -, -, -, hK, -⟩ := cx
  have hKn := hK.1.1 a _ h1
  refine W.newcK hx hb ho (ht _ hw) (ht _ hwi) (ht _ hwn) rfl hd hcl hsl hKn.2.1 rfl fun H1 kC hkC e1 z1 o1 => ?_
  refine kk H1 z1 o1 ?_
  rw [cel_obj h2]
  refine ⟨_, h1, (u_born (fty a) ht h4 hKn hkC e1 h5).to fun j hj => ?_⟩
  have e2 : vp_V ((List.range (nF a)).map (fva (u2 adr a b H.size) (al S a b 0 N) a b)) j = fva (u2 adr a b H.size) (al S a b 0 N) a b j := by
    unfold vp_V
    rw [List.getD_eq_getElem?_getD, rep_get h3 hj]
    rfl
  rw [e2]
  have h9 := hok j hj
  unfold fva
  rw [gI_al, if_pos ⟨rfl, rfl⟩, gJ_al, if_pos ⟨rfl, rfl⟩, gR_al, if_pos ⟨rfl, rfl⟩]
  cases hf : fty a j <;> first | rfl | (rw [hf] at h9; cases h9)
theorem cell_0 {cy : Nat → ClassId} {adr : zA} {S : zS} {a b n c : Nat} (ha : ¬ a < 13) (ht9 : tN a < 9) : (match cel cy adr (al S a b n c) a b with | .inl x => vp_cell x.1 x.2 | .inr _ => arrV 0 0 (fun _ => .null)) = arrV (cy (tN a)) n (fun _ => defaultValue (zty (tN a))) := by
  rw [cel_arr ha]
  show vp_cell (cy (tN a)) (zarr adr (al S a b n c) a b) = _
  have e1 : gI (al S a b n c) a b = fun _ => 0 := funext fun k => by rw [gI_al, if_pos ⟨rfl, rfl⟩]
  have e2 : gJ (al S a b n c) a b = fun _ => 0 := funext fun k => by rw [gJ_al, if_pos ⟨rfl, rfl⟩]
  have e3 : gN (al S a b n c) a b = n := by rw [gN_al, if_pos ⟨rfl, rfl⟩]
  have e4 : (fun i => zad adr (gR (al S a b n c) a b i)) = fun _ => none := funext fun k => by rw [gR_al, if_pos ⟨rfl, rfl⟩]; rfl
  unfold zarr
  rw [e1, e2, e3, e4]
  generalize tN a = t at ht9
  match t, ht9 with
  | 0, _ => rfl
  | 1, _ => rfl
  | 2, _ => rfl
  | 3, _ => rfl
  | 4, _ => rfl
  | 5, _ => rfl
  | 6, _ => rfl
  | 7, _ => rfl
  | 8, _ => rfl
theorem at_0 {G : zG} {adr : zA} {S : zS} {a b n c h : Nat} {H1 : Heap} (ha : ¬ a < 13) (ht9 : tN a < 9) (e : H1[h]? = some (arrV (G.2.1 (tN a)) n (fun _ => defaultValue (zty (tN a))))) : va_at G.1 vwCl (h, cel G.2.1 adr (al S a b n c) a b) H1 := by
  have h0 := cell_0 (cy := G.2.1) (adr := adr) (S := S) (a := a) (b := b) (n := n) (c := c) ha ht9
  rw [cel_arr ha] at h0 ⊢
  show H1[h]? = some (vp_cell _ _)
  rw [e]
  exact congrArg some h0.symm
/-- newarray of a primitive type -/
theorem r_newa {M : mD} {pc q a b n : Nat} {aty : ArrayType} {L : List (Option zV)} {st : List zV} {S : zS} {Po : Option zV → zS → Prop} (hg : 2 ≤ mg M ∨ 1 ≤ mg M ∧ gw a = true) (h7 : a ≠ 77777) (ha : ¬ a < 13) (ht : tN a < 4) (hty : newarray.typeOf aty = zty (tN a)) (hd : decode (mb M) pc = .ok (.newarray aty, 2)) (hq : pc + 2 = q) (hw : Cond.arrayClass (zty (tN a)) ∈ GW) (hn : n < 60000000) (he : gE S a b = false) (hL : nrl a b L = true) (hst : st.all (nrv a b) = true)
    (k : Ok M q L (zr a b :: st) (al S a b n n) Po) : Ok M pc L (zi (nI n) :: st) S Po := by
  subst hq
  refine r_alloc hg h7 he hL hst (fun X G cx adr H locs cells slots Q ls hR hl hcl hsl kk => ?_) k
  obtain ⟨hx, hb, -, ho, htb, -, -, -, hK, -⟩ := cx
  have hcl2 : (nI n).toNatClampNeg = n := nI_clamp (by omega)
  refine va_newaK hx hb (by rw [hty]; exact htb _ hw) rfl hd rfl (nI_pos (by omega)) hcl2 ?_ hcl hsl rfl fun H1 cA e1 z1 o1 hAr hNm => ?_
  · rw [hty]
    have : componentBytes (zty (tN a)) ≤ 8 := by
      generalize tN a = t at ht
      match t, ht with
      | 0, _ => decide
      | 1, _ => decide
      | 2, _ => decide
      | 3, _ => decide
    calc n * componentBytes (zty (tN a)) ≤ n * 8 := Nat.mul_le_mul_left n this
      _ ≤ 536870912 := by omega
  · refine kk H1 z1 o1 (at_0 ha (by omega) ?_)
    have hRA := (hK.1.2 (tN a) _ (ztys_at _ (by omega))).2
    have hcA : cA = G.2.1 (tN a) := by
      rw [hty] at hNm
      have h9 : (xs X).vm.findClass ("[" ++ (zty (tN a)).toString) = some (G.2.1 (tN a)) := by
        generalize tN a = t at ht hRA
        match t, ht with
        | 0, _ => exact hRA
        | 1, _ => exact hRA
        | 2, _ => exact hRA
        | 3, _ => exact hRA
      exact Option.some.inj (hNm.symm.trans h9)
    rw [← hcA, ← hty]
    exact e1
/-- anewarray -/
theorem r_anew {M : mD} {pc q a b n i : Nat} {C : String} {L : List (Option zV)} {st : List zV} {S : zS} {Po : Option zV → zS → Prop} (hg : 2 ≤ mg M) (h7 : a ≠ 77777) (ha : ¬ a < 13) (ht9 : tN a < 9) (hty : zty (tN a) = .object C) (hao : ∀ G U, Kx G U → va_AO C U) (hd : decode (mb M) pc = .ok (.anewarray i, 3)) (hq : pc + 3 = q) (hw : Cond.classLink (mo M) i C ∈ GW) (hn : n < 60000000) (he : gE S a b = false) (hL : nrl a b L = true) (hst : st.all (nrv a b) = true)
    (k : Ok M q L (zr a b :: st) (al S a b n n) Po) : Ok M pc L (zi (nI n) :: st) S Po := by
  subst hq
  refine r_alloc (Or.inl hg) h7 he hL hst (fun X G cx adr H locs cells slots Q ls hR hl hcl hsl kk => ?_) k
  obtain ⟨hx, hb, -, ho, htb, -, -, -, hK, -⟩ := cx
  have hcl2 : (nI n).toNatClampNeg = n := nI_clamp (by omega)
  refine W.anew hx hb ho (htb _ hw) (va_AO.use (hao G _ hK)) rfl hd rfl (nI_pos (by omega)) (by rw [hcl2]; omega) hcl (by rw [hcl2]; exact hsl) fun cA kA comp f1 f2 f3 f4 => ?_
  rw [hcl2]
  have hRA := (hK.1.2 (tN a) _ (ztys_at _ ht9)).2
  have hcA : cA = G.2.1 (tN a) := by
    rw [hty] at hRA
    obtain ⟨_, _, _, _, _, h9⟩ := hRA
    exact Option.some.inj (f1.symm.trans h9)
  refine kk _ (by simp) (fun q hq => by rw [Array.getElem?_push, if_neg (Nat.ne_of_lt hq)]) (at_0 ha ht9 ?_)
  rw [Array.getElem?_push_size, ← hcA, hty, ← arrV_new]
  rfl
