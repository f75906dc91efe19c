/-! new T[n][m]: the outer array, and n rows of the kind ar from the number f on -/
def inR (ar f n x y : Nat) : Prop := x = ar ∧ f ≤ y ∧ y < f + n
theorem inR_dec (ar f n x y : Nat) : inR ar f n x y ∨ ¬ inR ar f n x y := Classical.em _
def alM (S : zS) (a b n ar f m : Nat) : zS := (fun x y k => if x = a ∧ y = b ∨ x = ar ∧ f ≤ y ∧ y < f + n then 0 else S.1 x y k, fun x y k => if x = a ∧ y = b ∨ x = ar ∧ f ≤ y ∧ y < f + n then 0 else S.2.1 x y k, fun x y => if x = a ∧ y = b then n else if x = ar ∧ f ≤ y ∧ y < f + n then m else S.2.2.1 x y, fun x y k => if x = a ∧ y = b then (if k < n then some (ar, f + k) else none) else if x = ar ∧ f ≤ y ∧ y < f + n then none else S.2.2.2.1 x y k, fun x y => if x = a ∧ y = b ∨ x = ar ∧ f ≤ y ∧ y < f + n then true else S.2.2.2.2.1 x y, S.2.2.2.2.2.1 + (1 + n), S.2.2.2.2.2.2 + (n + n * m))
def adM (adr : zA) (a b n ar f h : Nat) : zA := fun x y => if x = a ∧ y = b then h else if x = ar ∧ f ≤ y ∧ y < f + n then h + 1 + (y - f) else adr x y
section
variable {S : zS} {a b n ar f m x y k : Nat}
theorem gI_alM : gI (alM S a b n ar f m) x y k = if x = a ∧ y = b ∨ x = ar ∧ f ≤ y ∧ y < f + n then 0 else gI S x y k := rfl
theorem gJ_alM : gJ (alM S a b n ar f m) x y k = if x = a ∧ y = b ∨ x = ar ∧ f ≤ y ∧ y < f + n then 0 else gJ S x y k := rfl
theorem gN_alM : gN (alM S a b n ar f m) x y = if x = a ∧ y = b then n else if x = ar ∧ f ≤ y ∧ y < f + n then m else gN S x y := rfl
theorem gR_alM : gR (alM S a b n ar f m) x y k = if x = a ∧ y = b then (if k < n then some (ar, f + k) else none) else if x = ar ∧ f ≤ y ∧ y < f + n then none else gR S x y k := rfl
theorem gE_alM : gE (alM S a b n ar f m) x y = if x = a ∧ y = b ∨ x = ar ∧ f ≤ y ∧ y < f + n then true else gE S x y := rfl
theorem gC_alM : gC (alM S a b n ar f m) = gC S + (1 + n) := rfl
theorem gQ_alM : gQ (alM S a b n ar f m) = gQ S + (n + n * m) := rfl
end
def nM (a b ar f n : Nat) : zV → Prop
  | .inr (.inr (some p)) => ¬ (p.1 = a ∧ p.2 = b) ∧ ¬ (p.1 = ar ∧ f ≤ p.2 ∧ p.2 < f + n)
  | _ => True
theorem tr_M {adr : zA} {a b n ar f h : Nat} {v : zV} (hv : nM a b ar f n v) : tr (adM adr a b n ar f h) v = tr adr v := by
  rcases v with x | x | (_ | p)
  · rfl
  · rfl
  · rfl
  · show Value.ref _ = Value.ref _
    congr 1
    unfold adM
    rw [if_neg hv.1, if_neg hv.2]
def nMs (a b ar f n : Nat) : List zV → Prop
  | [] => True
  | v :: st => nM a b ar f n v ∧ nMs a b ar f n st
def nMl (a b ar f n : Nat) : List (Option zV) → Prop
  | [] => True
  | none :: L => nMl a b ar f n L
  | some v :: L => nM a b ar f n v ∧ nMl a b ar f n L
theorem nMs_mem {a b ar f n : Nat} : ∀ {st : List zV} {v : zV}, nMs a b ar f n st → v ∈ st → nM a b ar f n v
  | w :: st, v, h, hv => by
    rcases List.mem_cons.mp hv with rfl | hv
    · exact h.1
    · exact nMs_mem h.2 hv
theorem nMl_mem {a b ar f n : Nat} : ∀ {L : List (Option zV)} {v : zV}, nMl a b ar f n L → some v ∈ L → nM a b ar f n v
  | none :: L, v, h, hv => by
    rcases List.mem_cons.mp hv with h9 | hv
    · cases h9
    · exact nMl_mem (L := L) (show nMl a b ar f n L from h) hv
  | some w :: L, v, h, hv => by
    rcases List.mem_cons.mp hv with h9 | hv
    · cases h9
      exact h.1
    · exact nMl_mem h.2 hv
theorem cel_M {G : zG} {adr : zA} {S : zS} {H : Heap} (hR : Rep G adr S H) {a b n ar f m h : Nat} (he : gE S a b = false) (her : ∀ y, f ≤ y → y < f + n → gE S ar y = false) {x y : Nat} (hx : gE S x y = true) : cel G.2.1 (adM adr a b n ar f h) (alM S a b n ar f m) x y = cel G.2.1 adr S x y := by
  have hne : ¬ (x = a ∧ y = b) := fun q => by rw [q.1, q.2, he] at hx; cases hx
  have hnr : ¬ (x = ar ∧ f ≤ y ∧ y < f + n) := fun q => by rw [q.1, her y q.2.1 q.2.2] at hx; cases hx
  have hno : ¬ (x = a ∧ y = b ∨ x = ar ∧ f ≤ y ∧ y < f + n) := fun q => q.elim hne hnr
  have e1 : gI (alM S a b n ar f m) x y = gI S x y := funext fun k => by rw [gI_alM, if_neg hno]
  have e2 : gJ (alM S a b n ar f m) x y = gJ S x y := funext fun k => by rw [gJ_alM, if_neg hno]
  have e3 : gN (alM S a b n ar f m) x y = gN S x y := by rw [gN_alM, if_neg hne, if_neg hnr]
  have e4 : ∀ k, zad (adM adr a b n ar f h) (gR (alM S a b n ar f m) x y k) = zad adr (gR S x y k) := fun k => by
    rw [gR_alM, if_neg hne, if_neg hnr]
    cases hr : gR S x y k with
    | none => rfl
    | some p =>
      have hp := hR.2.2.1 x y k p hx hr
      show some (adM adr a b n ar f h p.1 p.2) = some (adr p.1 p.2)
      congr 1
      unfold adM
      rw [if_neg (fun q => by rw [q.1, q.2, he] at hp; cases hp), if_neg (fun q => by rw [q.1, her _ q.2.1 q.2.2] at hp; cases hp)]
  unfold cel
  split
  · have h1 : fva (adM adr a b n ar f h) (alM S a b n ar f m) x y = fva adr S x y := funext fun k => by
      unfold fva
      rw [e4 k, e1, e2]
    rw [h1]
  · have h1 : zarr (adM adr a b n ar f h) (alM S a b n ar f m) x y = zarr adr S x y := by
      unfold zarr
      rw [e1, e2, e3, show (fun i => zad (adM adr a b n ar f h) (gR (alM S a b n ar f m) x y i)) = (fun i => zad adr (gR S x y i)) from funext e4]
    rw [h1]
theorem rep_M {G : zG} {adr : zA} {S : zS} {H H1 : Heap} (hR : Rep G adr S H) {a b n ar f m : Nat} (h7 : a ≠ 77777) (h7r : ar ≠ 77777) (hne : a ≠ ar) (he : gE S a b = false) (her : ∀ y, f ≤ y → y < f + n → gE S ar y = false) (hbase : G.2.2 ≤ H.size) (hk : ∀ q, q < H.size → H1[q]? = H[q]?) (h1 : va_at G.1 vwCl (H.size, cel G.2.1 (adM adr a b n ar f H.size) (alM S a b n ar f m) a b) H1) (h2 : ∀ y, f ≤ y → y < f + n → va_at G.1 vwCl (H.size + 1 + (y - f), cel G.2.1 (adM adr a b n ar f H.size) (alM S a b n ar f m) ar y) H1) : Rep G (adM adr a b n ar f H.size) (alM S a b n ar f m) H1 := by
  have hlt : ∀ x y, gE S x y = true → adr x y < H.size := fun x y hx => (hR.1 x y hx).1.lt
  have ad : ∀ x y, gE (alM S a b n ar f m) x y = true → (x = a ∧ y = b ∧ adM adr a b n ar f H.size x y = H.size) ∨ (x = ar ∧ f ≤ y ∧ y < f + n ∧ adM adr a b n ar f H.size x y = H.size + 1 + (y - f)) ∨ (gE S x y = true ∧ adM adr a b n ar f H.size x y = adr x y ∧ ¬ (x = a ∧ y = b) ∧ ¬ (x = ar ∧ f ≤ y ∧ y < f + n)) := by
    intro x y hx
    by_cases e : x = a ∧ y = b
    · exact Or.inl ⟨e.1, e.2, by unfold adM; rw [if_pos e]⟩
    · by_cases e' : x = ar ∧ f ≤ y ∧ y < f + n
      · exact Or.inr (Or.inl ⟨e'.1, e'.2.1, e'.2.2, by unfold adM; rw [if_neg e, if_pos e']⟩)
      · rw [gE_alM, if_neg (fun q => q.elim e e')] at hx
        exact Or.inr (Or.inr ⟨hx, by unfold adM; rw [if_neg e, if_neg e'], e, e'⟩)
  refine ⟨fun x y hx => ?_, fun x y x' y' hx hx' hh => ?_, fun x y k p hx hp => ?_, ?_⟩
  rotate_left
  rotate_left
  rotate_left
  · obtain ⟨s1, s2⟩ := hR.2.2.2
    have e : ¬ (77777 = a ∧ 0 = b) := fun q => h7 q.1.symm
    have e' : ¬ (77777 = ar ∧ f ≤ 0 ∧ 0 < f + n) := fun q => h7r q.1.symm
    have e2 : ¬ (77777 = a ∧ 0 = b ∨ 77777 = ar ∧ f ≤ 0 ∧ 0 < f + n) := fun q => q.elim e e'
    exact ⟨by rw [gE_alM, if_neg e2]; exact s1, by unfold adM; rw [if_neg e, if_neg e']; exact s2⟩
  · rcases ad x y hx with ⟨e1, e2, e3⟩ | ⟨e1, e2, e3, e4⟩ | ⟨e1, e2, -, -⟩
    · rw [e3, e1, e2]
      exact ⟨h1, hbase⟩
    · rw [e4, e1]
      exact ⟨h2 y e2 e3, by omega⟩
    · rw [e2, cel_M hR he her e1]
      obtain ⟨g1, g2⟩ := hR.1 x y e1
      exact ⟨g1.kept (hk _ g1.lt), g2⟩
  · rcases ad x y hx with ⟨e1, e2, e3⟩ | ⟨e1, e2, e3, e4⟩ | ⟨e1, e2, -, -⟩ <;> rcases ad x' y' hx' with ⟨e1', e2', e3'⟩ | ⟨e1', e2', e3', e4'⟩ | ⟨e1', e2', -, -⟩
    · exact ⟨e1.trans e1'.symm, e2.trans e2'.symm⟩
    · omega
    · have := hlt _ _ e1'; omega
    · omega
    · exact ⟨e1.trans e1'.symm, by omega⟩
    · have := hlt _ _ e1'; omega
    · have := hlt _ _ e1; omega
    · have := hlt _ _ e1; omega
    · exact hR.2.1 x y x' y' e1 e1' (by omega)
  · rw [gE_alM]
    by_cases e : x = a ∧ y = b
    · rw [gR_alM, if_pos e] at hp
      by_cases hkn : k < n
      · rw [if_pos hkn] at hp
        cases hp
        rw [if_pos (Or.inr ⟨rfl, by omega, by omega⟩)]
      · rw [if_neg hkn] at hp
        cases hp
    · by_cases e' : x = ar ∧ f ≤ y ∧ y < f + n
      · rw [gR_alM, if_neg e, if_pos e'] at hp
        cases hp
      · rw [gE_alM, if_neg (fun q => q.elim e e')] at hx
        rw [gR_alM, if_neg e, if_neg e'] at hp
        have := hR.2.2.1 x y k p hx hp
        split
        · rfl
        · exact this
theorem out_rows (c : ClassId) (N h0 : Nat) : ∀ i : Nat, Jvm.Free.Multi.outerC c N h0 i = arrV c N (fun j => if j < i then Value.ref (h0 + 1 + j) else .null)
  | 0 => by
    show ({ cls := c, slots := Array.replicate N .null, vm := .none } : Cell) = _
    rw [arrV_new]
    refine congrArg (arrV c N) (funext fun j => ?_)
    simp
  | i + 1 => by
    show (Jvm.Free.Multi.outerC c N h0 i).setSlot i (.ref (h0 + 1 + i)) = _
    rw [out_rows c N h0 i, arrV_store]
    refine congrArg (arrV c N) (funext fun j => ?_)
    by_cases e : j = i
    · subst e
      simp [updV]
    · by_cases h : j < i
      · simp [updV, e, h, Nat.lt_succ_of_lt h]
      · simp [updV, e, h, show ¬ j < i + 1 by omega]
theorem r_multi {M : mD} {pc q a b n ar f m i : Nat} {ty : FieldType} {L : List (Option zV)} {st : List zV} {S : zS} {Po : Option zV → zS → Prop} (hg : 2 ≤ mg M) (h7 : a ≠ 77777) (h7r : ar ≠ 77777) (ha : ¬ a < 13) (har : ¬ ar < 13) (hne : a ≠ ar) (ht : 3 < tN a) (ht9 : tN a < 9) (htr : tN ar < 4) (hty : zty (tN a) = .array ty) (htyr : zty (tN ar) = ty) (hao : ∀ G U, Kx G U → aoA ty U) (hd : decode (mb M) pc = .ok (.multianewarray i 2, 4)) (hq : pc + 4 = q) (hw : Cond.classLink (mo M) i ("[" ++ (FieldType.array ty).toString) ∈ GW) (hwa : Cond.arrayClass ty ∈ GW) (hn : n < 60000000) (hm : m < 60000000) (he : gE S a b = false) (her : ∀ y, f ≤ y → y < f + n → gE S ar y = false) (hL : nMl a b ar f n L) (hst : nMs a b ar f n st)
    (k : Ok M q L (zr a b :: st) (alM S a b n ar f m) Po) : Ok M pc L (zi (nI m) :: zi (nI n) :: st) S Po := by
  subst hq
  obtain ⟨r, S', hp, hC1, hQ1, hE1, hr⟩ := k
  rw [gC_alM] at hC1
  rw [gQ_alM] at hQ1
  have hmono : ∀ x y, gE S x y = true → gE (alM S a b n ar f m) x y = true := fun x y z => by
    rw [gE_alM]
    split
    · rfl
    · exact z
  refine ⟨r, S', hp, by omega, by omega, fun x y z => hE1 x y (hmono x y z), ?_⟩
  intro X G adr0 adr E0 p0 q0 cx g1 g2 g3 g4 g5 g6 H locs ls hR hS hl
  have hbase : G.2.2 ≤ H.size := Nat.le_trans cx.2.2.2.2.2.2.2.2.2.1 hS.1
  have cn : (nI n).toNatClampNeg = n := nI_clamp (by omega)
  have cm : (nI m).toNatClampNeg = m := nI_clamp (by omega)
  have hkA : kA (mg M) E0 adr0 (adM adr a b n ar f H.size) := by
    intro x y h1 h2
    rcases h2 with h2 | h2
    · omega
    · have hx := g5 x y h2
      have e : ¬ (x = a ∧ y = b) := fun q => by rw [q.1, q.2, he] at hx; cases hx
      have e' : ¬ (x = ar ∧ f ≤ y ∧ y < f + n) := fun q => by rw [q.1, her y q.2.1 q.2.2] at hx; cases hx
      unfold adM
      rw [if_neg e, if_neg e']
      exact g6 x y h1 (Or.inr h2)
  have cont := hr X G adr0 (adM adr a b n ar f H.size) E0 p0 q0 cx (by rw [gC_alM]; omega) (by rw [gQ_alM]; omega) g3 g4 (fun x y z => hmono x y (g5 x y z)) hkA
  obtain ⟨hx, hb, hml, ho, htb, -, -, -, hK, -⟩ := cx
  have tyb : componentBytes ty ≤ 8 ∧ fits ty (defaultValue ty) = true ∧ (defaultValue ty).isDefault = true ∧ ∀ c9 : ClassId, Jvm.Free.Multi.innerC c9 m (defaultValue ty) = arrV c9 m (fun _ => defaultValue ty) := by
    rw [← htyr]
    generalize tN ar = t at htr
    match t, htr with
    | 0, _ => exact ⟨by decide, rfl, rfl, fun c9 => arrV_new c9 m _⟩
    | 1, _ => exact ⟨by decide, rfl, rfl, fun c9 => arrV_new c9 m _⟩
    | 2, _ => exact ⟨by decide, rfl, rfl, fun c9 => arrV_new c9 m _⟩
    | 3, _ => exact ⟨by decide, rfl, rfl, fun c9 => arrV_new c9 m _⟩
  obtain ⟨ty1, ty2, ty3, ty4⟩ := tyb
  intro T hT XX
  obtain ⟨vm₁, cA, comp, -, fA, fC, hO, -, X', step⟩ := XX.multianewarray2F hx ho (htb _ hw) (hao G _ hK) (htb _ hwa) (g := F0 (xm X) pc ls ((zi (nI m) :: zi (nI n) :: st).map (tr adr))) rfl (by rw [hb]; exact hd) rfl (nI_pos (by omega)) (nI_pos (by omega)) (by rw [cn]; omega) (by rw [cm]; calc m * componentBytes ty ≤ m * 8 := Nat.mul_le_mul_left m ty1
        _ ≤ 536870912 := by omega) (by rw [cm]; omega) ty2 ty3 (by rw [cn]; omega) (by rw [cn, cm]; omega)
  rw [cn, cm] at X' step
  have hRA := (hK.1.2 (tN a) _ (ztys_at _ ht9)).2
  have hRAr := (hK.1.2 (tN ar) _ (ztys_at _ (by omega))).2
  have ecA : cA = G.2.1 (tN a) := by
    rw [hty] at hRA
    exact Option.some.inj (fA.symm.trans hRA)
  have ecy : comp = G.2.1 (tN ar) := by
    have h9 : (xs X).vm.findClass (FieldType.array ty).toString = some (G.2.1 (tN ar)) := by
      rw [← htyr]
      generalize tN ar = t at htr hRAr
      match t, htr with
      | 0, _ => exact hRAr
      | 1, _ => exact hRAr
      | 2, _ => exact hRAr
      | 3, _ => exact hRAr
    exact Option.some.inj (fC.symm.trans h9)
  subst ecA
  subst ecy
  generalize hF : Jvm.Free.Multi.fill (T.setVm vm₁) (G.2.1 (tN a)) (G.2.1 (tN ar)) n m (defaultValue ty) n = F at X' step
  have hTh : (T.setVm vm₁).heap = H := hT
  obtain ⟨f1, f2, -, -⟩ := Jvm.Free.Multi.fill_facts (T.setVm vm₁) (G.2.1 (tN a)) (G.2.1 (tN ar)) n m (defaultValue ty) n
  rw [hF, hTh] at f1 f2
  have hold : ∀ x : Nat, x < H.size → F.heap[x]? = H[x]? := fun x hx => by
    have := Jvm.Free.Multi.fill_old (T.setVm vm₁) (G.2.1 (tN a)) (G.2.1 (tN ar)) n m (defaultValue ty) (a := x) (by rw [hTh]; exact hx) n
    rw [hF, hTh] at this
    exact this
  have hrow : ∀ j : Nat, j < n → F.heap[H.size + 1 + j]? = some (arrV (G.2.1 (tN ar)) m (fun _ => defaultValue ty)) := fun j hj => by
    have := Jvm.Free.Multi.fill_inner (T.setVm vm₁) (G.2.1 (tN a)) (G.2.1 (tN ar)) n m (defaultValue ty) n j hj
    rw [hF, hTh, ty4] at this
    exact this
  have hR' : Rep G (adM adr a b n ar f H.size) (alM S a b n ar f m) F.heap := by
    refine rep_M hR h7 h7r hne he her hbase hold ?_ fun y y1 y2 => ?_
    · rw [cel_arr ha, zarr_r ht]
      show F.heap[H.size]? = some (vp_cell _ _)
      rw [f2, vp_cell_q]
      have := out_rows (G.2.1 (tN a)) n H.size n
      have e3 : gN (alM S a b n ar f m) a b = n := by rw [gN_alM, if_pos ⟨rfl, rfl⟩]
      rw [this, e3]
      refine congrArg some (congrArg (arrV _ n) (funext fun j => ?_))
      have hr9 : gR (alM S a b n ar f m) a b j = if j < n then some (ar, f + j) else none := by
        rw [gR_alM]
        exact if_pos ⟨rfl, rfl⟩
      rw [hr9]
      by_cases hj : j < n
      · rw [if_pos hj, if_pos hj]
        show Value.ref _ = Value.ref (adM adr a b n ar f H.size ar (f + j))
        congr 1
        unfold adM
        rw [if_neg (fun q => hne q.1.symm), if_pos ⟨rfl, by omega, by omega⟩, Nat.add_sub_cancel_left]
      · rw [if_neg hj, if_neg hj]
        rfl
    · have e0 := hrow (y - f) (by omega)
      have hyy : ¬ (ar = a ∧ y = b) := fun q => hne q.1.symm
      have e1 : gI (alM S a b n ar f m) ar y = fun _ => 0 := funext fun k => by rw [gI_alM, if_pos (Or.inr ⟨rfl, y1, y2⟩)]
      have e2 : gJ (alM S a b n ar f m) ar y = fun _ => 0 := funext fun k => by rw [gJ_alM, if_pos (Or.inr ⟨rfl, y1, y2⟩)]
      have e3 : gN (alM S a b n ar f m) ar y = m := by rw [gN_alM, if_neg hyy, if_pos ⟨rfl, y1, y2⟩]
      rw [cel_arr har]
      show F.heap[H.size + 1 + (y - f)]? = some (vp_cell _ _)
      rw [e0]
      unfold zarr
      rw [e1, e2, e3]
      congr 1
      rw [← htyr]
      generalize tN ar = t at htr
      match t, htr with
      | 0, _ => rfl
      | 1, _ => rfl
      | 2, _ => rfl
      | 3, _ => rfl
  have hl2 : lv_has ls (mn M) (Lv (adM adr a b n ar f H.size) L) := by
    refine ⟨hl.1, hl.2.1, fun q hq => ?_⟩
    obtain ⟨v, h1, h2⟩ := Lv_mem.mp hq
    rw [tr_M (nMl_mem hL (List.mem_of_getElem? h1))] at h2
    exact hl.2.2 q (Lv_mem.mpr ⟨v, h1, h2⟩)
  have hst2 : st.map (tr (adM adr a b n ar f H.size)) = st.map (tr adr) := by
    apply List.map_congr_left
    intro v hv
    exact tr_M (nMs_mem hst hv)
  have hS' : va_S (fun q => G.2.2 ≤ q) (xs X).heap F.heap locs := ⟨by rw [f1]; have := hS.1; omega, fun x h1 h2 => (hold x (Nat.lt_of_lt_of_le h1 hS.1)).trans (hS.2.1 x h1 h2), hS.2.2⟩
  have := cont F.heap locs ls hR' hS' hl2
  rw [gC_alM, gQ_alM, show gC S + (1 + n) - p0 = gC S - p0 + 1 + n by omega, show gQ S + (n + n * m) - q0 = gQ S - q0 + n + n * m by omega, List.map_cons, hst2] at this
  have e9 : tr (adM adr a b n ar f H.size) (zr a b) = .ref H.size := by
    show Value.ref _ = _
    unfold adM
    rw [if_pos ⟨rfl, rfl⟩]
  rw [e9] at this
  obtain ⟨t, a1, b1⟩ := this F rfl X'
  refine ⟨t, step t ?_, b1⟩
  have e : T.heap.size = H.size := by rw [hT]
  rw [e]
  exact a1
