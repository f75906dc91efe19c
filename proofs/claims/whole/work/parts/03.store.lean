/-! THE STORE MACHINE. Values: an int, a long, a reference by the kind and the number of its cell (or null). The store: ints and longs by kind, number and place; lengths; references; which cells there are; how many cells and slots were made. -/
abbrev zV : Type := Int32 ⊕ (Int64 ⊕ Option (Nat × Nat))
abbrev zi (x : Int32) : zV := .inl x
abbrev zl (x : Int64) : zV := .inr (.inl x)
abbrev zq (r : Option (Nat × Nat)) : zV := .inr (.inr r)
abbrev zr (a b : Nat) : zV := .inr (.inr (some (a, b)))
abbrev zn : zV := .inr (.inr none)
abbrev zA : Type := Nat → Nat → Nat
def tr (adr : zA) : zV → Value
  | .inl x => .int x
  | .inr (.inl x) => .long x
  | .inr (.inr none) => .null
  | .inr (.inr (some p)) => .ref (adr p.1 p.2)
def zc : zV → Nat
  | .inr (.inl _) => 2
  | _ => 1
theorem tr_cat (adr : zA) (v : zV) : (tr adr v).category = zc v := by
  rcases v with x | x | (_ | p) <;> rfl
theorem tr_cats (adr : zA) (st : List zV) : (((st.map (tr adr)).map fun v => v.category).sum) = (st.map zc).sum := by
  rw [List.map_map]
  congr 1
  apply List.map_congr_left
  intro v _
  exact tr_cat adr v
abbrev zS : Type := (Nat → Nat → Nat → Int32) × (Nat → Nat → Nat → Int64) × (Nat → Nat → Nat) × (Nat → Nat → Nat → Option (Nat × Nat)) × (Nat → Nat → Bool) × Nat × Nat
def gI (S : zS) (a b k : Nat) : Int32 := S.1 a b k
def gJ (S : zS) (a b k : Nat) : Int64 := S.2.1 a b k
def gN (S : zS) (a b : Nat) : Nat := S.2.2.1 a b
def gR (S : zS) (a b k : Nat) : Option (Nat × Nat) := S.2.2.2.1 a b k
def gE (S : zS) (a b : Nat) : Bool := S.2.2.2.2.1 a b
def gC (S : zS) : Nat := S.2.2.2.2.2.1
def gQ (S : zS) : Nat := S.2.2.2.2.2.2
def u3 {α : Type} (f : Nat → Nat → Nat → α) (a b k : Nat) (v : α) : Nat → Nat → Nat → α := fun a' b' k' => if a' = a ∧ b' = b ∧ k' = k then v else f a' b' k'
def u2 {α : Type} (f : Nat → Nat → α) (a b : Nat) (v : α) : Nat → Nat → α := fun a' b' => if a' = a ∧ b' = b then v else f a' b'
theorem u3_same {α : Type} (f : Nat → Nat → Nat → α) (a b k : Nat) (v : α) : u3 f a b k v a b k = v := if_pos ⟨rfl, rfl, rfl⟩
theorem u3_kind {α : Type} {f : Nat → Nat → Nat → α} {a b k a' b' k' : Nat} {v : α} (h : a' ≠ a) : u3 f a b k v a' b' k' = f a' b' k' := if_neg fun q => h q.1
theorem u3_num {α : Type} {f : Nat → Nat → Nat → α} {a b k a' b' k' : Nat} {v : α} (h : b' ≠ b) : u3 f a b k v a' b' k' = f a' b' k' := if_neg fun q => h q.2.1
theorem u3_place {α : Type} {f : Nat → Nat → Nat → α} {a b k a' b' k' : Nat} {v : α} (h : k' ≠ k) : u3 f a b k v a' b' k' = f a' b' k' := if_neg fun q => h q.2.2
theorem u2_same {α : Type} (f : Nat → Nat → α) (a b : Nat) (v : α) : u2 f a b v a b = v := if_pos ⟨rfl, rfl⟩
theorem u2_ne {α : Type} {f : Nat → Nat → α} {a b a' b' : Nat} {v : α} (h : ¬ (a' = a ∧ b' = b)) : u2 f a b v a' b' = f a' b' := if_neg h
def sI (S : zS) (a b k : Nat) (v : Int32) : zS := (u3 S.1 a b k v, S.2)
def sJ (S : zS) (a b k : Nat) (v : Int64) : zS := (S.1, u3 S.2.1 a b k v, S.2.2)
def sR (S : zS) (a b k : Nat) (v : Option (Nat × Nat)) : zS := (S.1, S.2.1, S.2.2.1, u3 S.2.2.2.1 a b k v, S.2.2.2.2)
/-- the types of an object's fields, how many there are -/
def fty (a : Nat) : Nat → FieldType := match a with
  | 0 => tyX0
  | 1 => tyX1
  | 2 => tyX2
  | 3 => tyX3
  | 4 => tyX4
  | 5 => tyX5
  | 6 => tyX6
  | 7 => tyX7
  | 8 => tyX8
  | 9 => tyX9
  | 10 => tyX10
  | 11 => tyX11
  | 12 => tyX12
  | _ => fun _ => .int
def nF (a : Nat) : Nat := match a with
  | 0 => 13
  | 1 => 6
  | 2 => 3
  | 3 => 6
  | 4 => 16
  | 5 => 2
  | 6 => 4
  | 7 => 2
  | 8 => 4
  | 9 => 11
  | 10 => 4
  | 11 => 20
  | 12 => 94
  | _ => 0
/-- the type of an array's elements, by the array's kind -/
def tN (a : Nat) : Nat := match a with
  | 110 => 3
  | 300 => 7
  | 400 => 6
  | 502 => 2
  | 600 => 8
  | 601 => 2
  | 1002 => 2
  | 1009 => 2
  | 1010 => 8
  | 1200 => 0
  | 1202 => 4
  | 1206 => 5
  | 1208 => 6
  | 1209 => 6
  | 1301 => 0
  | 1308 => 2
  | 1332 => 3
  | 1334 => 2
  | 1335 => 2
  | 1367 => 2
  | 1368 => 2
  | 1369 => 2
  | 1392 => 2
  | 1393 => 3
  | 10600 => 2
  | 11010 => 2
  | 5000 => 2
  | _ => 1
def zty (t : Nat) : FieldType := match t with
  | 0 => .byte
  | 1 => .int
  | 2 => .long
  | 3 => .boolean
  | 4 => .object RX0
  | 5 => .object RX7
  | 6 => .object RX8
  | 7 => .array .int
  | _ => .array .long
abbrev ztys (cy : Nat → ClassId) : List (ClassId × FieldType) := [(cy 0, .byte), (cy 1, .int), (cy 2, .long), (cy 3, .boolean), (cy 4, .object RX0), (cy 5, .object RX7), (cy 6, .object RX8), (cy 7, .array .int), (cy 8, .array .long)]
def zad (adr : zA) (r : Option (Nat × Nat)) : Option Nat := r.map fun p => adr p.1 p.2
theorem zad_tr (adr : zA) (r : Option (Nat × Nat)) : va_rf (zad adr r) = tr adr (zq r) := by cases r <;> rfl
def fva (adr : zA) (S : zS) (a b k : Nat) : Value := match fty a k with
  | .long => .long (gJ S a b k)
  | .object _ => va_rf (zad adr (gR S a b k))
  | .array _ => va_rf (zad adr (gR S a b k))
  | _ => .int (gI S a b k)
def zarr (adr : zA) (S : zS) (a b : Nat) : vp_A := (gN S a b, if tN a = 2 then .inr (.inl (gJ S a b)) else if 3 < tN a then .inr (.inr (.inr (.inr (fun i => zad adr (gR S a b i))))) else .inl (gI S a b))
def cel (cy : Nat → ClassId) (adr : zA) (S : zS) (a b : Nat) : va_E := if a < 13 then .inr (a, (List.range (nF a)).map (fva adr S a b)) else .inl (cy (tN a), zarr adr S a b)
abbrev zG : Type := va_G × (Nat → ClassId) × Nat
/-- the law's script: a row that is no cell of ours; its place stands in G behind the classes -/
def sc (G : zG) (adr : zA) (S : zS) : Prop := gE S 77777 0 = false ∧ adr 77777 0 = G.2.1 100
def Rep (G : zG) (adr : zA) (S : zS) (H : Heap) : Prop :=
  (∀ a b, gE S a b = true → va_at G.1 vwCl (adr a b, cel G.2.1 adr S a b) H ∧ G.2.2 ≤ adr a b) ∧ (∀ a b a' b', gE S a b = true → gE S a' b' = true → adr a b = adr a' b' → a = a' ∧ b = b') ∧ (∀ a b k p, gE S a b = true → gR S a b k = some p → gE S p.1 p.2 = true) ∧ sc G adr S
def isNest : Cond → Bool
  | .methodLinkNest .. => true
  | _ => false
def nestL : List Cond := lw_tbl.filter isNest
def GW : List Cond := lw_tbl.filter goodWord
/-- arrays of arrays, as the tables have them -/
def aoA (t : FieldType) (U : State) : Prop := (Cond.arrayOver (.array t)).before #[] U = true
theorem aoA.moved {t : FieldType} {u U : State} (hvm : u.vm.Alike U.vm) (h : aoA t u) : aoA t U := by
  unfold aoA Cond.before Cond.holds at h ⊢
  simp only [Cond.value] at h ⊢
  rw [hvm.findClass]
  cases hc : u.vm.findClass (FieldType.array t).toString with
  | none => rw [hc] at h; simp at h
  | some comp =>
    rw [hc, Option.bind_some] at h
    rw [Option.bind_some]
    have hi : (U.vm.classes.findIdx? fun (x : Class) => match x.kind with | .array component _ => component == comp | _ => false) = (u.vm.classes.findIdx? fun (x : Class) => match x.kind with | .array component _ => component == comp | _ => false) := by
      have h1 := va_idx_bare U.vm comp
      have h2 := va_idx_bare u.vm comp
      rw [hvm.bare_eq] at h1
      exact h1.symm.trans h2
    cases hx : (u.vm.classes.findIdx? fun (x : Class) => match x.kind with | .array component _ => component == comp | _ => false) with
    | none =>
      rw [hx] at hi
      have h2 := (congrArg (fun o : Option Nat => (o.bind (fun c => (u.vm.classes[c]?).map fun (k : Class) => match k.kind with | .array _ ty => decide (ty = FieldType.array t) && decide (u.vm.findClass ("[" ++ (FieldType.array t).toString) = some c) | _ => false) == some true)) hx).symm.trans h
      simp at h2
    | some c =>
      rw [hx] at hi
      have h2 := (congrArg (fun o : Option Nat => (o.bind (fun c => (u.vm.classes[c]?).map fun (k : Class) => match k.kind with | .array _ ty => decide (ty = FieldType.array t) && decide (u.vm.findClass ("[" ++ (FieldType.array t).toString) = some c) | _ => false) == some true)) hx).symm.trans h
      refine (congrArg (fun o : Option Nat => (o.bind (fun c => (U.vm.classes[c]?).map fun (k : Class) => match k.kind with | .array _ ty => decide (ty = FieldType.array t) && decide (U.vm.findClass ("[" ++ (FieldType.array t).toString) = some c) | _ => false) == some true)) hi).trans ?_
      simp only [Option.bind_some] at h2 ⊢
      cases hk : u.vm.classes[c]? with
      | none => rw [hk] at h2; simp at h2
      | some k =>
        obtain ⟨k', hk', he⟩ := hvm.2.2 _ _ hk
        rw [hk] at h2
        rw [hk']
        have hkd : k'.kind = k.kind := by rw [he]
        simp only [Option.map_some] at h2 ⊢
        rw [hkd, hvm.findClass]
        exact h2
def Kx (G : zG) (U : State) : Prop := va_K G.1 vwCl (ztys G.2.1) U ∧ (∀ w ∈ nestL, va_Nw w U) ∧ va_AO RX0 U ∧ va_AO RX7 U ∧ va_AO RX8 U ∧ aoA .int U ∧ aoA .long U
theorem Kx.warm {G : zG} {s U : State} (hW : s.WarmedH U.vm) (h : Kx G s) : Kx G U := by
  have hA := hW.alike
  refine ⟨va_K.moved hA h.1, fun w hw => ?_, h.2.2.1.moved hA, h.2.2.2.1.moved hA, h.2.2.2.2.1.moved hA, h.2.2.2.2.2.1.moved hA, h.2.2.2.2.2.2.moved hA⟩
  have h1 := h.2.1 w hw
  have h2 := (List.mem_filter.mp hw).2
  cases w <;> first | exact va_Nw.warmM hW h1 | (simp [isNest] at h2)
theorem Kx.same {G : zG} {s U : State} (hv : s.vm = U.vm) (h : Kx G s) : Kx G U := by
  have hA : s.vm.Alike U.vm := by rw [hv]; exact Vm.Alike.refl _
  refine ⟨va_K.moved hA h.1, fun w hw => ?_, h.2.2.1.moved hA, h.2.2.2.1.moved hA, h.2.2.2.2.1.moved hA, h.2.2.2.2.2.1.moved hA, h.2.2.2.2.2.2.moved hA⟩
  have h1 := h.2.1 w hw
  have h2 := (List.mem_filter.mp hw).2
  cases w <;> first | exact va_Nw.same rfl hv h1 | (simp [isNest] at h2)
/-- locals: what is known of each place -/
def Lv (adr : zA) (L : List (Option zV)) : List (Nat × Value) := L.zipIdx.filterMap fun q => q.1.map fun v => (q.2, tr adr v)
theorem Lv_mem {adr : zA} {L : List (Option zV)} {q : Nat × Value} : q ∈ Lv adr L ↔ ∃ v, L[q.1]? = some (some v) ∧ q.2 = tr adr v := by
  unfold Lv
  rw [List.mem_filterMap]
  constructor
  · rintro ⟨⟨o, i⟩, h1, h2⟩
    rw [List.mem_zipIdx_iff_getElem?] at h1
    cases o with
    | none => simp at h2
    | some v =>
      simp at h2
      subst h2
      exact ⟨v, h1, rfl⟩
  · rintro ⟨v, h1, h2⟩
    refine ⟨(some v, q.1), ?_, ?_⟩
    · rw [List.mem_zipIdx_iff_getElem?]; exact h1
    · obtain ⟨i, w⟩ := q
      simp at h2 ⊢
      exact h2.symm
theorem Lv_at {adr : zA} {L : List (Option zV)} {ls : Array Slot} {nL : Nat} (h : lv_has ls nL (Lv adr L)) {i : Nat} {v : zV} (hv : L[i]? = some (some v)) : ls[i]? = some (.val (tr adr v)) := h.2.2 (i, tr adr v) (Lv_mem.mpr ⟨v, hv, rfl⟩)
def isLg : Option (Option zV) → Bool
  | some (some (.inr (.inl _))) => true
  | _ => false
def kill (L : List (Option zV)) (i : Nat) : List (Option zV) := match i with
  | 0 => L
  | j + 1 => if isLg L[j]? then L.set j none else L
def set1 (L : List (Option zV)) (i : Nat) (v : zV) : List (Option zV) := (kill L i).set i (some v)
def set2 (L : List (Option zV)) (i : Nat) (v : zV) : List (Option zV) := ((kill L i).set i (some v)).set (i + 1) none
theorem kill_get {L : List (Option zV)} {i j : Nat} {w : zV} (h : (kill L i)[j]? = some (some w)) : L[j]? = some (some w) ∧ ¬ (j + 1 = i ∧ zc w = 2) := by
  cases i with
  | zero => exact ⟨h, fun q => by omega⟩
  | succ i =>
    unfold kill at h
    simp only at h
    split at h
    · rename_i hl
      by_cases e : i = j
      · subst e
        rw [List.getElem?_set_self'] at h
        cases hq : L[i]? <;> simp [hq] at h
      · rw [List.getElem?_set_ne e] at h
        exact ⟨h, fun q => e (by omega)⟩
    · rename_i hl
      refine ⟨h, fun q => ?_⟩
      have e : j = i := by omega
      subst e
      rw [h] at hl
      rcases w with x | x | x
      · simp [zc] at q
      · simp [isLg] at hl
      · simp [zc] at q
theorem Lv_set1 {adr : zA} {L : List (Option zV)} {i : Nat} {v : zV} {ls : Array Slot} {nL : Nat} (h : lv_has ls nL ((i, tr adr v) :: (Lv adr L).filter (fun q => !(q.1 == i) && !(q.1 + 1 == i && q.2.category == 2)))) : lv_has ls nL (Lv adr (set1 L i v)) := by
  refine ⟨h.1, h.2.1, fun q hq => h.2.2 q ?_⟩
  obtain ⟨w, h1, h2⟩ := Lv_mem.mp hq
  obtain ⟨j, z⟩ := q
  simp only at h1 h2
  subst h2
  unfold set1 at h1
  by_cases e : i = j
  · subst e
    rw [List.getElem?_set_self'] at h1
    cases hk : (kill L i)[i]? with
    | none => simp [hk] at h1
    | some o => simp [hk] at h1; subst h1; exact List.mem_cons_self
  · rw [List.getElem?_set_ne e] at h1
    obtain ⟨g1, g2⟩ := kill_get h1
    refine List.mem_cons_of_mem _ (List.mem_filter.mpr ⟨Lv_mem.mpr ⟨w, g1, rfl⟩, ?_⟩)
    simp only [tr_cat, Bool.and_eq_true, Bool.not_eq_true', beq_eq_false_iff_ne, ne_eq, Bool.and_eq_false_iff, beq_iff_eq]
    refine ⟨fun q => e q.symm, ?_⟩
    by_cases e2 : j + 1 = i
    · exact Or.inr fun q => g2 ⟨e2, q⟩
    · exact Or.inl e2
theorem Lv_set2 {adr : zA} {L : List (Option zV)} {i : Nat} {v : zV} {ls : Array Slot} {nL : Nat} (h : lv_has ls nL ((i, tr adr v) :: (Lv adr L).filter (fun q => !(q.1 == i) && (!(q.1 == i + 1) && !(q.1 + 1 == i && q.2.category == 2))))) : lv_has ls nL (Lv adr (set2 L i v)) := by
  refine ⟨h.1, h.2.1, fun q hq => h.2.2 q ?_⟩
  obtain ⟨w, h1, h2⟩ := Lv_mem.mp hq
  obtain ⟨j, z⟩ := q
  simp only at h1 h2
  subst h2
  unfold set2 at h1
  by_cases e3 : i + 1 = j
  · subst e3
    rw [List.getElem?_set_self'] at h1
    cases hk : ((kill L i).set i (some v))[i + 1]? <;> simp [hk] at h1
  · rw [List.getElem?_set_ne e3] at h1
    by_cases e : i = j
    · subst e
      rw [List.getElem?_set_self'] at h1
      cases hk : (kill L i)[i]? with
      | none => simp [hk] at h1
      | some o => simp [hk] at h1; subst h1; exact List.mem_cons_self
    · rw [List.getElem?_set_ne e] at h1
      obtain ⟨g1, g2⟩ := kill_get h1
      refine List.mem_cons_of_mem _ (List.mem_filter.mpr ⟨Lv_mem.mpr ⟨w, g1, rfl⟩, ?_⟩)
      simp only [tr_cat, Bool.and_eq_true, Bool.not_eq_true', beq_eq_false_iff_ne, ne_eq, Bool.and_eq_false_iff, beq_iff_eq]
      refine ⟨fun q => e q.symm, fun q => e3 q.symm, ?_⟩
      by_cases e2 : j + 1 = i
      · exact Or.inr fun q => g2 ⟨e2, q⟩
      · exact Or.inl e2
/-- a part of what is known -/
theorem Lv_less {adr : zA} {L L' : List (Option zV)} {ls : Array Slot} {nL : Nat} (h : lv_has ls nL (Lv adr L)) (hs : ∀ (i : Nat) (v : zV), L'[i]? = some (some v) → L[i]? = some (some v)) : lv_has ls nL (Lv adr L') := by
  refine ⟨h.1, h.2.1, fun q hq => ?_⟩
  obtain ⟨v, h1, h2⟩ := Lv_mem.mp hq
  exact h.2.2 q (Lv_mem.mpr ⟨v, hs _ _ h1, h2⟩)
/-! THE JUDGEMENTS -/
abbrev cX : Type := Program × Launch × Env × Room × State × MethodId × Array Value × List Frame × Method × Code
abbrev xp (X : cX) : Program := X.1
abbrev xl (X : cX) : Launch := X.2.1
abbrev xe (X : cX) : Env := X.2.2.1
abbrev xR (X : cX) : Room := X.2.2.2.1
abbrev xs (X : cX) : State := X.2.2.2.2.1
abbrev xm (X : cX) : MethodId := X.2.2.2.2.2.1
abbrev xa (X : cX) : Array Value := X.2.2.2.2.2.2.1
abbrev xb (X : cX) : List Frame := X.2.2.2.2.2.2.2.1
abbrev xh (X : cX) : Method := X.2.2.2.2.2.2.2.2.1
abbrev xc (X : cX) : Code := X.2.2.2.2.2.2.2.2.2
abbrev WX (X : cX) (H : Heap) (locs : List Loc) (cells slots : Nat) (Q : State → Prop) (pc : Nat) (ls : Array Slot) (st : List Value) : Prop := W (xp X) (xl X) (xe X) (xR X) (xs X) (xm X) (xa X) (xb X) (xh X) (xc X) H locs cells slots Q (F0 (xm X) pc ls st)
/-- a method: its class, its code, its locals, what it returns, its name, frames and locals that it needs below, whether it may lay cells of growing kinds anew; of the law its script -/
abbrev mD : Type := String × ByteArray × Nat × Option FieldType × MethodName × Nat × Nat × Nat × (Nat × (Nat → Int32))
abbrev mo (M : mD) : String := M.1
abbrev mb (M : mD) : ByteArray := M.2.1
abbrev mn (M : mD) : Nat := M.2.2.1
abbrev mr (M : mD) : Option FieldType := M.2.2.2.1
abbrev my (M : mD) : MethodName := M.2.2.2.2.1
abbrev mf (M : mD) : Nat := M.2.2.2.2.2.1
abbrev ml (M : mD) : Nat := M.2.2.2.2.2.2.1
abbrev mg (M : mD) : Nat := M.2.2.2.2.2.2.2.1
abbrev mx (M : mD) : Nat × (Nat → Int32) := M.2.2.2.2.2.2.2.2
/-- words of the tables that classes alone decide -/
def faceL : List Cond := lw_tbl.filter (fun w => w.faceAtom && w.onTables)
def Fx (U : State) : Prop := (∀ w ∈ faceL, w.before #[] U = true) ∧ (∃ sa, vk_R RX11 217 "no such term" sa U) ∧ ∃ sa, vk_R RX11 282 "not 1 to 7, or too many trees" sa U
theorem Fx.warm {s U : State} (hW : s.WarmedH U.vm) (h : Fx s) : Fx U := by
  refine ⟨fun w hw => ?_, ?_, ?_⟩
  · have h2 := (List.mem_filter.mp hw).2
    rw [Bool.and_eq_true] at h2
    exact va_tabs h2.2 (rfl : (s.setVm U.vm).vm = U.vm) (Cond.faceAtom_setVm hW.alike w h2.1 (h.1 w hw))
  · obtain ⟨sa, z⟩ := h.2.1
    exact ⟨sa, vk_R.warm hW z⟩
  · obtain ⟨sa, z⟩ := h.2.2
    exact ⟨sa, vk_R.warm hW z⟩
/-- Throwable's two static cells: they lie where nothing is written; and what else a throw wants -/
def zZ (G : zG) (U : State) (H : Heap) : Prop := vx_Zq Bundle.tN "UNASSIGNED_STACK" Bundle.steD (fun q => G.2.2 ≤ q) U H ∧ vx_Zq Bundle.tN "SUPPRESSED_SENTINEL" Bundle.listD (fun q => G.2.2 ≤ q) U H ∧ Fx U
theorem zZ.go {G : zG} {s U : State} {H : Heap} {locs : List Loc} (h : zZ G s s.heap) (hW : s.WarmedH U.vm) (hU : U.heap = H) (hS : va_S (fun q => G.2.2 ≤ q) s.heap H locs) : zZ G U U.heap := by
  rw [hU]
  exact ⟨vx_Zq.moved hW.alike (vx_Zq.kept h.1 hS.2.1), vx_Zq.moved hW.alike (vx_Zq.kept h.2.1 hS.2.1), h.2.2.warm hW⟩
theorem zZ.same {G : zG} {s U : State} (hv : s.vm = U.vm) (h : zZ G s s.heap) (hh : U.heap = s.heap) : zZ G U U.heap :=
  h.go (locs := []) (by rw [← hv]; exact State.WarmedH.refl s) hh va_S.rf
/-- the tables of handlers: none, but in two methods of the law -/
def hhOf (M : mD) : List (Nat × Nat × Nat × Nat) := if (my M).name = "term" then [(0, 9, 12, 13)] else [(0, 8, 11, 13)]
def tC (M : mD) (X : cX) : Prop := (mg M / 10 ≠ 2 ∧ ¬ (mo M = RL ∧ (my M).name = "law") → (xc X).exceptionTable.toList = []) ∧ (mg M / 10 = 2 → (xc X).exceptionTable.toList = tableOf (hhOf M))
def Cx (M : mD) (X : cX) (G : zG) : Prop :=
  (xp X).tables.exec = Jvm.exec ∧ (xc X).code = mb M ∧ (xc X).maxLocals = mn M ∧ (xs X).vm.findClass (mo M) = some (xm X).cls ∧ (∀ w ∈ GW, w.before (xa X) (xs X) = true) ∧ (xh X).sig.returnType = mr M ∧ (xh X).locks = false ∧ ((my M).name = "<init>" → (xh X).name = "<init>") ∧ Kx G (xs X) ∧ G.2.2 ≤ (xs X).heap.size ∧ mf M ≤ (xR X).frames ∧ ml M ≤ (xR X).locals ∧ (mo M = RL ∧ (my M).name = "law" → va_X (G.2.1 100) (mx M).1 (mx M).2 (xs X) (xs X).heap ∧ G.2.1 100 < (xs X).heap.size ∧ G.2.1 100 < G.2.2) ∧ (xl X).stackTraces = false ∧ zZ G (xs X) (xs X).heap ∧ tC M X
/-- the kinds of rows that grow, and of those that are on their way -/
def gw (a : Nat) : Bool := a == 902 || a == 903 || a == 107 || a == 200 || a == 201 || a == 202 || a == 99999
/-- which cells keep their places: 0 all, 1 all but those of growing kinds, 2 of the latter those that there were -/
def kA (g : Nat) (E0 : Nat → Nat → Bool) (adr0 adr : zA) : Prop := ∀ a b, (g = 0 ∨ gw a = false) → (g ≤ 1 ∨ E0 a b = true) → adr a b = adr0 a b
theorem kA.rf {g : Nat} {E0 : Nat → Nat → Bool} {adr : zA} : kA g E0 adr adr := fun _ _ _ _ => rfl
theorem kA.trans {g g1 : Nat} {E0 E1 : Nat → Nat → Bool} {adr0 adr adr1 : zA} (h : kA g E0 adr0 adr) (h1 : kA g1 E1 adr adr1) (hg : g1 ≤ g) (hE : ∀ a b, E0 a b = true → E1 a b = true) : kA g E0 adr0 adr1 := by
  intro a b x y
  rw [h1 a b (x.imp (fun z => by omega) id) (y.imp (fun z => by omega) (hE a b)), h a b x y]
def zQ (gr : Nat) (G : zG) (adr0 : zA) (E0 : Nat → Nat → Bool) (r : Option zV) (S' : zS) : Array Value → State → Outcome → State → Prop := fun _ st oc t =>
  (∃ adr', oc = .returned (r.map (tr adr')) ∧ Rep G adr' S' t.heap ∧ kA gr E0 adr0 adr') ∧ va_F (fun q => G.2.2 ≤ q) st t
/-- what is thrown, and the store then -/
def zXC (gr : Nat) (G : zG) (adr0 : zA) (E0 : Nat → Nat → Bool) (S' : zS) : String → State → State → Prop := fun E st t =>
  (E = "java/util/NoSuchElementException" ∧ ∃ adr', Rep G adr' S' t.heap ∧ kA gr E0 adr0 adr') ∧ va_F (fun q => G.2.2 ≤ q) st t
/-- the tens of mg: 0 a method that returns, 1 one that throws, 2 one that returns and has a handler -/
def zend (M : mD) (G : zG) (X : cX) (adr0 : zA) (E0 : Nat → Nat → Bool) (p0 q0 : Nat) (r : Option zV) (S' : zS) : State → Prop := if mg M / 10 = 1 then vx_MQ (xb X) (fun _ _ _ _ => False) (zXC (mg M) G adr0 E0 S') (xa X) (xs X) (gC S' - p0) (gQ S' - q0) (fun q => G.2.2 ≤ q) else MQ (xb X) (zQ (mg M) G adr0 E0 r S') (xa X) (xs X) (gC S' - p0) (gQ S' - q0) (fun q => G.2.2 ≤ q)
theorem zend_n {M : mD} (h : mg M / 10 ≠ 1) {G : zG} {X : cX} {adr0 : zA} {E0 : Nat → Nat → Bool} {p0 q0 : Nat} {r : Option zV} {S' : zS} : zend M G X adr0 E0 p0 q0 r S' = MQ (xb X) (zQ (mg M) G adr0 E0 r S') (xa X) (xs X) (gC S' - p0) (gQ S' - q0) (fun q => G.2.2 ≤ q) := if_neg h
theorem zend_t {M : mD} (h : mg M / 10 = 1) {G : zG} {X : cX} {adr0 : zA} {E0 : Nat → Nat → Bool} {p0 q0 : Nat} {r : Option zV} {S' : zS} : zend M G X adr0 E0 p0 q0 r S' = vx_MQ (xb X) (fun _ _ _ _ => False) (zXC (mg M) G adr0 E0 S') (xa X) (xs X) (gC S' - p0) (gQ S' - q0) (fun q => G.2.2 ≤ q) := if_pos h
theorem thN {n : Nat} (h : Nat.beq (n / 10) 1 = false) : n / 10 ≠ 1 := fun z => by rw [z] at h; cases h
def Runs (M : mD) (pc : Nat) (L : List (Option zV)) (st : List zV) (S : zS) (r : Option zV) (S' : zS) : Prop :=
  gC S ≤ gC S' ∧ gQ S ≤ gQ S' ∧ (∀ a b, gE S a b = true → gE S' a b = true) ∧
  ∀ (X : cX) (G : zG) (adr0 adr : zA) (E0 : Nat → Nat → Bool) (p0 q0 : Nat), Cx M X G → p0 ≤ gC S → q0 ≤ gQ S → gC S' - p0 ≤ (xR X).cells → gQ S' - q0 ≤ (xR X).slots → (∀ a b, E0 a b = true → gE S a b = true) → kA (mg M) E0 adr0 adr →
  ∀ (H : Heap) (locs : List Loc) (ls : Array Slot), Rep G adr S H → va_S (fun q => G.2.2 ≤ q) (xs X).heap H locs → lv_has ls (mn M) (Lv adr L) → WX X H locs (gC S - p0) (gQ S - q0) (zend M G X adr0 E0 p0 q0 r S') pc ls (st.map (tr adr))
/-- from here the method comes to its end, with Po of its answer and of the store -/
def Ok (M : mD) (pc : Nat) (L : List (Option zV)) (st : List zV) (S : zS) (Po : Option zV → zS → Prop) : Prop := ∃ r S', Po r S' ∧ Runs M pc L st S r S'
theorem Ok.mono {M : mD} {pc : Nat} {L : List (Option zV)} {st : List zV} {S : zS} {Po Po' : Option zV → zS → Prop} (h : Ok M pc L st S Po) (hp : ∀ r S', Po r S' → Po' r S') : Ok M pc L st S Po' := by
  obtain ⟨r, S', h1, h2⟩ := h
  exact ⟨r, S', hp r S' h1, h2⟩
/-- one step that makes no cell: into the store S1 -/
theorem r_gen {M : mD} {pc pc' : Nat} {L L' : List (Option zV)} {st st' : List zV} {S S1 : zS} {Po : Option zV → zS → Prop} (hC : gC S1 = gC S) (hQ : gQ S1 = gQ S) (hE : ∀ a b, gE S1 a b = gE S a b)
    (h : ∀ (X : cX) (G : zG), Cx M X G → ∀ (adr : zA) (H : Heap) (locs : List Loc) (cells slots : Nat) (Q : State → Prop) (ls : Array Slot), Rep G adr S H → va_S (fun q => G.2.2 ≤ q) (xs X).heap H locs → lv_has ls (mn M) (Lv adr L) →
      (∀ (H' : Heap) (locs' : List Loc) (ls' : Array Slot), Rep G adr S1 H' → va_S (fun q => G.2.2 ≤ q) (xs X).heap H' locs' → lv_has ls' (mn M) (Lv adr L') → WX X H' locs' cells slots Q pc' ls' (st'.map (tr adr))) → WX X H locs cells slots Q pc ls (st.map (tr adr)))
    (k : Ok M pc' L' st' S1 Po) : Ok M pc L st S Po := by
  obtain ⟨r, S', hp, hC1, hQ1, hE1, hr⟩ := k
  refine ⟨r, S', hp, by omega, by omega, fun a b q => hE1 a b (by rw [hE]; exact q), ?_⟩
  intro X G adr0 adr E0 p0 q0 cx g1 g2 g3 g4 g5 g6 H locs ls hR hS hl
  refine h X G cx adr H locs _ _ _ ls hR hS hl fun H' locs' ls' hR' hS' hl' => ?_
  have := hr X G adr0 adr E0 p0 q0 cx (by omega) (by omega) g3 g4 (fun a b q => by rw [hE]; exact g5 a b q) g6 H' locs' ls' hR' hS' hl'
  rw [hC, hQ] at this
  exact this
/-- one step that leaves heap and store -/
theorem r_pure {M : mD} {pc pc' : Nat} {L L' : List (Option zV)} {st st' : List zV} {S : zS} {Po : Option zV → zS → Prop}
    (h : ∀ (X : cX) (G : zG), Cx M X G → ∀ (adr : zA) (H : Heap) (locs : List Loc) (cells slots : Nat) (Q : State → Prop) (ls : Array Slot), lv_has ls (mn M) (Lv adr L) →
      (∀ ls' : Array Slot, lv_has ls' (mn M) (Lv adr L') → WX X H locs cells slots Q pc' ls' (st'.map (tr adr))) → WX X H locs cells slots Q pc ls (st.map (tr adr)))
    (k : Ok M pc' L' st' S Po) : Ok M pc L st S Po :=
  r_gen rfl rfl (fun _ _ => rfl) (fun X G cx adr H locs cells slots Q ls hR hS hl kk => h X G cx adr H locs cells slots Q ls hl fun ls' hl' => kk H locs ls' hR hS hl') k
