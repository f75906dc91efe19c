/-! ROWS OF THE HEAP -/
theorem gw_t {w : Cond} (i : Nat) (h : tables_1[i]? = some w) (hg : goodWord w = true) : w ∈ GW :=
  List.mem_filter.mpr ⟨List.mem_append_right _ (List.mem_of_getElem? h), hg⟩
theorem gw_s {w : Cond} (i : Nat) (h : (k2_sels lw_privs)[i]? = some w) (hg : goodWord w = true) : w ∈ GW :=
  List.mem_filter.mpr ⟨List.mem_append_left _ (List.mem_of_getElem? h), hg⟩
theorem nest_t {w : Cond} (i : Nat) (h : tables_1[i]? = some w) (hg : isNest w = true) : w ∈ nestL :=
  List.mem_filter.mpr ⟨List.mem_append_right _ (List.mem_of_getElem? h), hg⟩
theorem rep_P {G : zG} {adr : zA} {S : zS} {H : Heap} (h : Rep G adr S H) {a b : Nat} (he : gE S a b = true) : va_P G.1 vwCl [(adr a b, cel G.2.1 adr S a b)] H := by
  intro k q hq
  have hk : k < 1 := (List.getElem?_eq_some_iff.mp hq).1
  rw [show k = 0 by omega] at hq
  cases hq
  exact (h.1 a b he).1
theorem rep_D {G : zG} {adr : zA} {S : zS} {a b : Nat} : va_D (fun q => q = adr a b) [(adr a b, cel G.2.1 adr S a b)] := by
  constructor
  · intro i j p q hi hj _
    have h1 : i < 1 := (List.getElem?_eq_some_iff.mp hi).1
    have h2 : j < 1 := (List.getElem?_eq_some_iff.mp hj).1
    omega
  · intro k q hq
    have hk : k < 1 := (List.getElem?_eq_some_iff.mp hq).1
    rw [show k = 0 by omega] at hq
    cases hq
    rfl
theorem cel_obj {cy : Nat → ClassId} {adr : zA} {S : zS} {a b : Nat} (h : a < 13) : cel cy adr S a b = .inr (a, (List.range (nF a)).map (fva adr S a b)) := if_pos h
theorem cel_arr {cy : Nat → ClassId} {adr : zA} {S : zS} {a b : Nat} (h : ¬ a < 13) : cel cy adr S a b = .inl (cy (tN a), zarr adr S a b) := if_neg h
theorem rep_get {adr : zA} {S : zS} {a b N k : Nat} (hN : nF a = N) (hk : k < N) : ((List.range (nF a)).map (fva adr S a b))[k]? = some (fva adr S a b k) := by
  subst hN
  simp [hk]
/-- what other cells hold when one place of the store changes -/
theorem fva_sI {adr : zA} {S : zS} {a b k : Nat} {v : Int32} {a' b' k' : Nat} (h : ¬ (a' = a ∧ b' = b ∧ k' = k)) : fva adr (sI S a b k v) a' b' k' = fva adr S a' b' k' := by
  unfold fva
  have h1 : gI (sI S a b k v) a' b' k' = gI S a' b' k' := if_neg h
  rw [h1]
  rfl
theorem cel_sI {cy : Nat → ClassId} {adr : zA} {S : zS} {a b k : Nat} {v : Int32} {a' b' : Nat} (h : ¬ (a' = a ∧ b' = b)) : cel cy adr (sI S a b k v) a' b' = cel cy adr S a' b' := by
  unfold cel
  have h0 : ∀ k', gI (sI S a b k v) a' b' k' = gI S a' b' k' := fun k' => if_neg fun q => h ⟨q.1, q.2.1⟩
  split
  · have h1 : (fva adr (sI S a b k v) a' b') = fva adr S a' b' := funext fun k' => fva_sI fun q => h ⟨q.1, q.2.1⟩
    rw [h1]
  · have h1 : zarr adr (sI S a b k v) a' b' = zarr adr S a' b' := by
      unfold zarr
      have h2 : gI (sI S a b k v) a' b' = gI S a' b' := funext h0
      rw [h2]
      rfl
    rw [h1]
theorem cel_sJ {cy : Nat → ClassId} {adr : zA} {S : zS} {a b k : Nat} {v : Int64} {a' b' : Nat} (h : ¬ (a' = a ∧ b' = b)) : cel cy adr (sJ S a b k v) a' b' = cel cy adr S a' b' := by
  unfold cel
  have h0 : ∀ k', gJ (sJ S a b k v) a' b' k' = gJ S a' b' k' := fun k' => if_neg fun q => h ⟨q.1, q.2.1⟩
  split
  · have h1 : (fva adr (sJ S a b k v) a' b') = fva adr S a' b' := funext fun k' => by
      unfold fva
      rw [h0 k']
      rfl
    rw [h1]
  · have h1 : zarr adr (sJ S a b k v) a' b' = zarr adr S a' b' := by
      unfold zarr
      have h2 : gJ (sJ S a b k v) a' b' = gJ S a' b' := funext h0
      rw [h2]
      rfl
    rw [h1]
theorem cel_sR {cy : Nat → ClassId} {adr : zA} {S : zS} {a b k : Nat} {v : Option (Nat × Nat)} {a' b' : Nat} (h : ¬ (a' = a ∧ b' = b)) : cel cy adr (sR S a b k v) a' b' = cel cy adr S a' b' := by
  unfold cel
  have h0 : ∀ k', gR (sR S a b k v) a' b' k' = gR S a' b' k' := fun k' => if_neg fun q => h ⟨q.1, q.2.1⟩
  split
  · have h1 : (fva adr (sR S a b k v) a' b') = fva adr S a' b' := funext fun k' => by
      unfold fva
      rw [h0 k']
      rfl
    rw [h1]
  · have h1 : zarr adr (sR S a b k v) a' b' = zarr adr S a' b' := by
      unfold zarr
      have h2 : gR (sR S a b k v) a' b' = gR S a' b' := funext h0
      rw [h2]
      rfl
    rw [h1]
theorem zarr_i {adr : zA} {S : zS} {a b : Nat} (h : tN a = 1 ∨ tN a = 0 ∨ tN a = 3) : zarr adr S a b = (gN S a b, .inl (gI S a b)) := by
  unfold zarr
  rcases h with h | h | h <;> rw [h] <;> rfl
/-- one cell is written, the others stay -/
theorem rep_set {G : zG} {adr : zA} {S S1 : zS} {H H1 : Heap} (h : Rep G adr S H) {a b : Nat} (he : gE S a b = true) (hE : ∀ x y, gE S1 x y = gE S x y) (hRf : ∀ x y z p, gE S x y = true → gR S1 x y z = some p → gR S x y z = some p ∨ gE S p.1 p.2 = true) (ho : ∀ x y, ¬ (x = a ∧ y = b) → cel G.2.1 adr S1 x y = cel G.2.1 adr S x y)
    (h1 : va_at G.1 vwCl (adr a b, cel G.2.1 adr S1 a b) H1) (hk : ∀ q : Nat, q < H.size → q ≠ adr a b → H1[q]? = H[q]?) : Rep G adr S1 H1 := by
  refine ⟨fun x y hx => ?_, fun x y x' y' hx hy => h.2.1 x y x' y' (by rw [← hE]; exact hx) (by rw [← hE]; exact hy), fun x y z p hx hp => ?_, ?_⟩
  rotate_left
  · rw [hE] at hx ⊢
    rcases hRf x y z p hx hp with h9 | h9
    · exact h.2.2.1 x y z p hx h9
    · exact h9
  · exact ⟨by rw [hE]; exact h.2.2.2.1, h.2.2.2.2⟩
  have hx' : gE S x y = true := by rw [← hE]; exact hx
  refine ⟨?_, (h.1 x y hx').2⟩
  by_cases e : x = a ∧ y = b
  · rw [e.1, e.2]
    exact h1
  · rw [ho x y e]
    have h2 := (h.1 x y hx').1
    exact h2.kept (hk _ h2.lt fun q => e (h.2.1 x y a b hx' he q))
theorem va_S_up {A : Nat → Prop} {B : Nat → Prop} {H0 H H1 : Heap} {locs locs1 : List Loc} (h : va_S A H0 H locs) (h1 : va_S B H H1 locs1) (hB : ∀ q, B q → A q) : va_S A H0 H1 locs1 :=
  ⟨Nat.le_trans h.1 h1.1, fun q g1 g2 => (h1.2.1 q (Nat.lt_of_lt_of_le g1 h.1) fun z => g2 (hB q z)).trans (h.2.1 q g1 g2), fun l hl => hB _ (h1.2.2 l hl)⟩
theorem va_S_at {A : Nat → Prop} {H : Heap} {locs : List Loc} (h : ∀ l ∈ locs, A l.base) : va_S A H H locs := ⟨Nat.le_refl _, fun _ _ _ => rfl, h⟩
theorem fva_int {adr : zA} {S : zS} {a b k : Nat} (h : fty a k = .int ∨ fty a k = .boolean ∨ fty a k = .byte) : fva adr S a b k = .int (gI S a b k) := by
  unfold fva
  rcases h with h | h | h <;> rw [h]
theorem fva_long {adr : zA} {S : zS} {a b k : Nat} (h : fty a k = .long) : fva adr S a b k = .long (gJ S a b k) := by
  unfold fva
  rw [h]
theorem fva_ref {adr : zA} {S : zS} {a b k : Nat} (h : refKind (fty a k) = true) : fva adr S a b k = tr adr (zq (gR S a b k)) := by
  unfold fva
  rw [← zad_tr]
  cases h2 : fty a k <;> first | rfl | (rw [h2] at h; cases h)
def clsOK (a : Nat) (C : String) (T : u_T) (N : Nat) : Prop := vwCl[a]? = some (C, T, N) ∧ a < 13 ∧ nF a = N ∧ (∀ w ∈ u_ws C T N, w ∈ GW) ∧ (∀ k, k < N → parseFieldDescriptor (T k).2.2.1 = some (fty a k)) ∧ (∀ x, x < N → ∀ y, y < N → x ≠ y → (T x).2.1 ≠ (T y).2.1)
section
variable {M : mD} {pc q : Nat} {L : List (Option zV)} {st : List zV} {S : zS} {Po : Option zV → zS → Prop} {a b k i N : Nat} {C : String} {T : u_T}
theorem r_get {v : zV} (hc : clsOK a C T N) (hd : decode (mb M) pc = .ok (.getfield i, 3)) (hq : pc + 3 = q) (hk : k < N) (hw : Cond.fieldLink (mo M) i (T k).1 (T k).2.1 (T k).2.2.1 ∈ GW) (he : gE S a b = true) (hv : ∀ adr, fva adr S a b k = tr adr v) (kk : Ok M q L (v :: st) S Po) : Ok M pc L (zr a b :: st) S Po := by
  subst hq
  obtain ⟨h1, h2, h3, h4, h5, h6⟩ := hc
  refine r_gen rfl rfl (fun _ _ => rfl) (fun X G cx adr H locs cells slots Q ls hR hS hl kk => ?_) kk
  obtain ⟨hx, hb, -, ho, ht, -, -, -, hK, -⟩ := cx
  have hP := rep_P hR he
  rw [cel_obj h2] at hP
  refine va_get (q0 := 0) hx hb ht h4 ho hK.1 hP rfl h1 k hk (ht _ hw) (fun _ z => z) (rep_get h3 hk) hd ?_
  rw [hv]
  exact kk H locs ls hR hS hl
theorem r_geti (hc : clsOK a C T N) (hd : decode (mb M) pc = .ok (.getfield i, 3)) (hq : pc + 3 = q) (hk : k < N) (hw : Cond.fieldLink (mo M) i (T k).1 (T k).2.1 (T k).2.2.1 ∈ GW) (ht : fty a k = .int ∨ fty a k = .boolean ∨ fty a k = .byte) (he : gE S a b = true) (kk : Ok M q L (zi (gI S a b k) :: st) S Po) : Ok M pc L (zr a b :: st) S Po :=
  r_get hc hd hq hk hw he (fun _ => fva_int ht) kk
theorem r_getl (hc : clsOK a C T N) (hd : decode (mb M) pc = .ok (.getfield i, 3)) (hq : pc + 3 = q) (hk : k < N) (hw : Cond.fieldLink (mo M) i (T k).1 (T k).2.1 (T k).2.2.1 ∈ GW) (ht : fty a k = .long) (he : gE S a b = true) (kk : Ok M q L (zl (gJ S a b k) :: st) S Po) : Ok M pc L (zr a b :: st) S Po :=
  r_get hc hd hq hk hw he (fun _ => fva_long ht) kk
theorem r_getr (r : Option (Nat × Nat)) (hc : clsOK a C T N) (hd : decode (mb M) pc = .ok (.getfield i, 3)) (hq : pc + 3 = q) (hk : k < N) (hw : Cond.fieldLink (mo M) i (T k).1 (T k).2.1 (T k).2.2.1 ∈ GW) (ht : refKind (fty a k) = true) (he : gE S a b = true) (hr : gR S a b k = r) (kk : Ok M q L (zq r :: st) S Po) : Ok M pc L (zr a b :: st) S Po := by
  subst hr
  exact r_get hc hd hq hk hw he (fun _ => fva_ref ht) kk
theorem range_set {f g : Nat → Value} {n k : Nat} {v : Value} (hv : g k = v) (ho : ∀ j, j ≠ k → g j = f j) : (List.range n).map g = ((List.range n).map f).set k v := by
  apply List.ext_getElem?
  intro j
  rw [List.getElem?_set]
  by_cases e : k = j
  · subst e
    by_cases hn : k < n
    · simp [hn, hv]
    · simp [hn]
  · rw [if_neg e]
    by_cases hn : j < n
    · simp [hn, ho j (fun q => e q.symm)]
    · simp [hn]
theorem gI_self {S : zS} {a b k : Nat} {v : Int32} : gI (sI S a b k v) a b k = v := u3_same _ _ _ _ _
theorem gJ_self {S : zS} {a b k : Nat} {v : Int64} : gJ (sJ S a b k v) a b k = v := u3_same _ _ _ _ _
theorem gR_self {S : zS} {a b k : Nat} {v : Option (Nat × Nat)} : gR (sR S a b k v) a b k = v := u3_same _ _ _ _ _
end
/-- putfield, with the exact frame -/
theorem w_put {p : Program} {l : Launch} {e : Env} {R : Room} {s : State} {m : MethodId} {args : Array Value} {below : List Frame} {meth : Method} {c : Code} {H : Heap} {locs : List Loc} {cells slots : Nat} {Q : State → Prop} {cc : ByteArray} {pc : Nat} {ls : Array Slot} {rest : List Value} {D : va_G} {cl : List vw_C} {a : Nat} {tys : List (ClassId × FieldType)}
    (hexec : p.tables.exec = Jvm.exec) (hb : c.code = cc) {own C : String} {T : u_T} {N ci index : Nat} {Ts : List Cond} (hts : ∀ w ∈ Ts, w.before args s = true) (hin : ∀ w ∈ u_ws C T N, w ∈ Ts) (ty0 : Nat → FieldType) (hty : ∀ k, k < N → parseFieldDescriptor (T k).2.2.1 = some (ty0 k)) (hnm : ∀ a, a < N → ∀ b, b < N → a ≠ b → (T a).2.1 ≠ (T b).2.1) (hown : s.vm.findClass own = some m.cls) (hK : va_K D cl tys s) {fs : List Value} (hP : va_at D cl (a, .inr (ci, fs)) H) (hc : cl[ci]? = some (C, T, N)) (k : Nat) (hk : k < N) (hlink : (Cond.fieldLink own index (T k).1 (T k).2.1 (T k).2.2.1).before args s = true) (hfin : (T k).2.2.2 = false ∨ meth.name = "<init>" ∧ (T k).1 = own ∧ (T k).2.2.2 = true) {v : Value} (hn : narrow (ty0 k) v = v) (hfit : fits (ty0 k) v = true) (hl : k < fs.length)
    (hdg : decode cc pc = .ok (.putfield index, 3)) (kk : ∀ (H1 : Heap) (sl : Nat), va_at D cl (a, .inr (ci, fs.set k v)) H1 → H1.size = H.size → (∀ q, q ≠ a → H1[q]? = H[q]?) → W p l e R s m args below meth c H1 (locs ++ [⟨a, sl⟩]) cells slots Q (F0 m (pc + 3) ls rest)) : W p l e R s m args below meth c H locs cells slots Q (F0 m pc ls (v :: .ref a :: rest)) := by
  have hap := va_apart (own := own) hts hin ty0 hty hnm hK hc
  obtain ⟨r, h1, cell, q1, q2, q3, q4⟩ := hP
  have hr : r = (C, T, N) := Option.some.inj (h1.symm.trans hc)
  subst hr
  obtain ⟨hS, hfc, kC, hkC, hkind⟩ := hK.1 ci _ hc
  obtain ⟨cf, kf, fi, f, hi, hsl⟩ := hS k hk
  have hlay := hts _ (hin _ (u_in_lay hk))
  have hst := (u_facts hfc hkC (u_lays hts hin hk) hi).1
  have hd := hty k hk
  have fin : ∀ H' : Heap, H'[a]? = some (cell.setSlot f.slot v) → H'.size = H.size → (∀ q, q ≠ a → H'[q]? = H[q]?) → W p l e R s m args below meth c H' (locs ++ [⟨a, f.slot⟩]) cells slots Q (F0 m (pc + 3) ls rest) := by
    intro H' e1 e2 e3
    rw [hsl] at e1
    exact kk H' _ ⟨_, hc, t_OB.to (V := updV (vp_V fs) k v) ⟨_, e1, q2, q3, t_set q4 hap hk v⟩ (fun j _ => vp_updV_set hl v j)⟩ e2 e3
  rcases hfin with hfin | ⟨hin2, hdecl, hfin⟩
  · unfold u_lay at hlay
    rw [if_neg (by rw [hfin]; decide)] at hlay
    have h6 := u_store hfc hkC hkind hlay hi hd hn hfit
    exact W.putK hexec hb (f := f) ⟨hown, hlink, ⟨_, _, _, hi⟩, hst⟩ (by rw [q2]; exact h6) q1 q3 (by rw [hsl]; exact k2_hasslot (q4 k hk)) rfl rfl hdg fin
  · unfold u_lay at hlay
    rw [if_pos hfin] at hlay
    have hcf : m.cls = cf := by
      obtain ⟨_, _, c', _, _, _, -, -, hf', -, -, -, hown2, -⟩ := Cond.laysFinal_spec hlay
      have e1 : c' = cf := by have := hi.symm.trans hf'; simp at this; exact this.1.symm
      rw [hdecl] at hown2
      rw [← e1]; exact Option.some.inj (hown.symm.trans hown2)
    have h6 := u_fits hfc hkC hkind (Or.inr hlay) hi hd hn hfit
    exact W.putFinK hexec hb hown hlink hi hst hcf hin2 (by rw [q2]; exact h6) q1 q3 (by rw [hsl]; exact k2_hasslot (q4 k hk)) rfl rfl hdg fin
section
variable {M : mD} {pc q : Nat} {L : List (Option zV)} {st : List zV} {S : zS} {Po : Option zV → zS → Prop} {a b k i N : Nat} {C : String} {T : u_T}
theorem va_S_put {A : Nat → Prop} {H0 H H1 : Heap} {locs : List Loc} {a k : Nat} (h : va_S A H0 H locs) (z : H1.size = H.size) (oq : ∀ q : Nat, q ≠ a → H1[q]? = H[q]?) (ha : A a) : va_S A H0 H1 (locs ++ [⟨a, k⟩]) := h.put z oq ha
/-- a field is written: S1 is the store then -/
theorem r_putG {v : zV} {S1 : zS} (hc : clsOK a C T N) (hd : decode (mb M) pc = .ok (.putfield i, 3)) (hq : pc + 3 = q) (hk : k < N) (hw : Cond.fieldLink (mo M) i (T k).1 (T k).2.1 (T k).2.2.1 ∈ GW) (hfin : (T k).2.2.2 = false ∨ (my M).name = "<init>" ∧ (T k).1 = mo M ∧ (T k).2.2.2 = true) (hn : ∀ adr, narrow (fty a k) (tr adr v) = tr adr v) (hf : ∀ adr, fits (fty a k) (tr adr v) = true) (he : gE S a b = true)
    (hC : gC S1 = gC S) (hQ : gQ S1 = gQ S) (hE : ∀ x y, gE S1 x y = gE S x y) (hRf : ∀ x y z p, gE S x y = true → gR S1 x y z = some p → gR S x y z = some p ∨ gE S p.1 p.2 = true) (ho : ∀ cy adr x y, ¬ (x = a ∧ y = b) → cel cy adr S1 x y = cel cy adr S x y) (hv : ∀ adr, fva adr S1 a b k = tr adr v) (hs : ∀ adr j, j ≠ k → fva adr S1 a b j = fva adr S a b j)
    (kk : Ok M q L st S1 Po) : Ok M pc L (v :: zr a b :: st) S Po := by
  subst hq
  obtain ⟨h1, h2, h3, h4, h5, h6⟩ := hc
  refine r_gen hC hQ hE (fun X G cx adr H locs cells slots Q ls hR hS hl kk => ?_) kk
  obtain ⟨hx, hb, -, ho', ht, -, -, hnm, hK, -⟩ := cx
  have hP := (hR.1 a b he).1
  rw [cel_obj h2] at hP
  refine w_put hx hb ht h4 (fty a) h5 h6 ho' hK.1 hP h1 k hk (ht _ hw) (hfin.imp id fun z => ⟨hnm z.1, z.2⟩) (hn adr) (hf adr) (by rw [List.length_map, List.length_range, h3]; exact hk) hd fun H1 sl p1 e1 e2 => ?_
  refine kk H1 _ ls (rep_set hR he hE hRf (fun x y => ho _ _ x y) ?_ (fun q _ g2 => e2 q g2)) (hS.put e1 e2 (hR.1 a b he).2) hl
  rw [cel_obj h2, range_set (f := fva adr S a b) (hv adr) (hs adr)]
  exact p1
theorem r_puti {x : Int32} (hc : clsOK a C T N) (hd : decode (mb M) pc = .ok (.putfield i, 3)) (hq : pc + 3 = q) (hk : k < N) (hw : Cond.fieldLink (mo M) i (T k).1 (T k).2.1 (T k).2.2.1 ∈ GW) (hfin : (T k).2.2.2 = false ∨ (my M).name = "<init>" ∧ (T k).1 = mo M ∧ (T k).2.2.2 = true) (ht : fty a k = .int) (he : gE S a b = true) (kk : Ok M q L st (sI S a b k x) Po) : Ok M pc L (zi x :: zr a b :: st) S Po :=
  r_putG (S1 := sI S a b k x) hc hd hq hk hw hfin (fun _ => by rw [ht]; rfl) (fun _ => by rw [ht]; rfl) he rfl rfl (fun _ _ => rfl) (fun _ _ _ _ _ h => Or.inl h) (fun _ _ _ _ h => cel_sI h) (fun _ => by rw [fva_int (Or.inl ht), gI_self]; rfl) (fun _ _ h => fva_sI fun z => h z.2.2) kk
theorem r_putz {x : Int32} (hx : x = 0 ∨ x = 1) (hc : clsOK a C T N) (hd : decode (mb M) pc = .ok (.putfield i, 3)) (hq : pc + 3 = q) (hk : k < N) (hw : Cond.fieldLink (mo M) i (T k).1 (T k).2.1 (T k).2.2.1 ∈ GW) (hfin : (T k).2.2.2 = false ∨ (my M).name = "<init>" ∧ (T k).1 = mo M ∧ (T k).2.2.2 = true) (ht : fty a k = .boolean) (he : gE S a b = true) (kk : Ok M q L st (sI S a b k x) Po) : Ok M pc L (zi x :: zr a b :: st) S Po :=
  r_putG (S1 := sI S a b k x) hc hd hq hk hw hfin (fun _ => by rw [ht]; rcases hx with rfl | rfl <;> rfl) (fun _ => by rw [ht]; rcases hx with rfl | rfl <;> rfl) he rfl rfl (fun _ _ => rfl) (fun _ _ _ _ _ h => Or.inl h) (fun _ _ _ _ h => cel_sI h) (fun _ => by rw [fva_int (Or.inr (Or.inl ht)), gI_self]; rfl) (fun _ _ h => fva_sI fun z => h z.2.2) kk
theorem r_putl {x : Int64} (hc : clsOK a C T N) (hd : decode (mb M) pc = .ok (.putfield i, 3)) (hq : pc + 3 = q) (hk : k < N) (hw : Cond.fieldLink (mo M) i (T k).1 (T k).2.1 (T k).2.2.1 ∈ GW) (hfin : (T k).2.2.2 = false ∨ (my M).name = "<init>" ∧ (T k).1 = mo M ∧ (T k).2.2.2 = true) (ht : fty a k = .long) (he : gE S a b = true) (kk : Ok M q L st (sJ S a b k x) Po) : Ok M pc L (zl x :: zr a b :: st) S Po :=
  r_putG (S1 := sJ S a b k x) hc hd hq hk hw hfin (fun _ => by rw [ht]; rfl) (fun _ => by rw [ht]; rfl) he rfl rfl (fun _ _ => rfl) (fun _ _ _ _ _ h => Or.inl h) (fun _ _ _ _ h => cel_sJ h) (fun _ => by rw [fva_long ht, gJ_self]; rfl) (fun adr j h => by
    have h0 : gJ (sJ S a b k x) a b j = gJ S a b j := if_neg fun z => h z.2.2
    unfold fva
    rw [h0]
    rfl) kk
theorem r_putr {r : Option (Nat × Nat)} (hre : ∀ p, r = some p → gE S p.1 p.2 = true) (hc : clsOK a C T N) (hd : decode (mb M) pc = .ok (.putfield i, 3)) (hq : pc + 3 = q) (hk : k < N) (hw : Cond.fieldLink (mo M) i (T k).1 (T k).2.1 (T k).2.2.1 ∈ GW) (hfin : (T k).2.2.2 = false ∨ (my M).name = "<init>" ∧ (T k).1 = mo M ∧ (T k).2.2.2 = true) (ht : refKind (fty a k) = true) (he : gE S a b = true) (kk : Ok M q L st (sR S a b k r) Po) : Ok M pc L (zq r :: zr a b :: st) S Po :=
  r_putG (S1 := sR S a b k r) hc hd hq hk hw hfin (fun adr => by cases h : fty a k <;> first | (rw [h] at ht; cases ht; done) | (cases r <;> rfl)) (fun adr => by cases h : fty a k <;> first | (rw [h] at ht; cases ht; done) | (cases r <;> rfl)) he rfl rfl (fun _ _ => rfl) (fun x y z p _ h => by
    by_cases e : x = a ∧ y = b ∧ z = k
    · rw [e.1, e.2.1, e.2.2, gR_self] at h
      exact Or.inr (hre p h)
    · have h0 : gR (sR S a b k r) x y z = gR S x y z := if_neg e
      rw [h0] at h
      exact Or.inl h) (fun _ _ _ _ h => cel_sR h) (fun _ => by rw [fva_ref ht, gR_self]) (fun adr j h => by
    have h0 : gR (sR S a b k r) a b j = gR S a b j := if_neg fun z => h z.2.2
    unfold fva
    rw [h0]
    rfl) kk
/-! arrays -/
theorem zarr_l {adr : zA} {S : zS} {a b : Nat} (h : tN a = 2) : zarr adr S a b = (gN S a b, .inr (.inl (gJ S a b))) := by
  unfold zarr
  rw [h]
  rfl
theorem zarr_r {adr : zA} {S : zS} {a b : Nat} (h : 3 < tN a) : zarr adr S a b = (gN S a b, .inr (.inr (.inr (.inr (fun i => zad adr (gR S a b i)))))) := by
  unfold zarr
  rw [if_neg (by omega), if_pos h]
theorem arr_at {G : zG} {adr : zA} {S : zS} {H : Heap} (hR : Rep G adr S H) {a b : Nat} (ha : ¬ a < 13) (he : gE S a b = true) : H[adr a b]? = some (vp_cell (G.2.1 (tN a)) (zarr adr S a b)) := by
  have h := (hR.1 a b he).1
  rw [cel_arr ha] at h
  exact h
theorem r_iald {x : Int32} (ha : ¬ a < 13) (ht : tN a = 1) (hd : decode (mb M) pc = .ok (.iaload, 1)) (hq : pc + 1 = q) (he : gE S a b = true) (hin : vp_in x (gN S a b)) (kk : Ok M q L (zi (gI S a b x.toNatClampNeg) :: st) S Po) : Ok M pc L (zi x :: zr a b :: st) S Po := by
  subst hq
  refine r_gen rfl rfl (fun _ _ => rfl) (fun X G cx adr H locs cells slots Q ls hR hS hl kk => ?_) kk
  obtain ⟨hx, hb, -, ho, -, -, -, -, hK, -⟩ := cx
  have hP := rep_P hR he
  rw [cel_arr ha, zarr_i (Or.inl ht), ht] at hP
  exact va_iald hx hb hK.1 hP 0 1 rfl rfl hin hd (kk H locs ls hR hS hl)
theorem r_bald {x : Int32} (ha : ¬ a < 13) (ht : tN a = 0) (hd : decode (mb M) pc = .ok (.baload, 1)) (hq : pc + 1 = q) (he : gE S a b = true) (hin : vp_in x (gN S a b)) (kk : Ok M q L (zi (gI S a b x.toNatClampNeg) :: st) S Po) : Ok M pc L (zi x :: zr a b :: st) S Po := by
  subst hq
  refine r_gen rfl rfl (fun _ _ => rfl) (fun X G cx adr H locs cells slots Q ls hR hS hl kk => ?_) kk
  obtain ⟨hx, hb, -, ho, -, -, -, -, hK, -⟩ := cx
  have hP := rep_P hR he
  rw [cel_arr ha, zarr_i (Or.inr (Or.inl ht)), ht] at hP
  exact va_bald hx hb hK.1 hP 0 0 rfl rfl hin hd (kk H locs ls hR hS hl)
theorem r_zald {x : Int32} (ha : ¬ a < 13) (ht : tN a = 3) (hd : decode (mb M) pc = .ok (.baload, 1)) (hq : pc + 1 = q) (he : gE S a b = true) (hin : vp_in x (gN S a b)) (kk : Ok M q L (zi (gI S a b x.toNatClampNeg) :: st) S Po) : Ok M pc L (zi x :: zr a b :: st) S Po := by
  subst hq
  refine r_gen rfl rfl (fun _ _ => rfl) (fun X G cx adr H locs cells slots Q ls hR hS hl kk => ?_) kk
  obtain ⟨hx, hb, -, ho, -, -, -, -, hK, -⟩ := cx
  have hP := rep_P hR he
  rw [cel_arr ha, zarr_i (Or.inr (Or.inr ht)), ht] at hP
  exact va_zald hx hb hK.1 hP 0 3 rfl rfl hin hd (kk H locs ls hR hS hl)
theorem r_lald {x : Int32} (ha : ¬ a < 13) (ht : tN a = 2) (hd : decode (mb M) pc = .ok (.laload, 1)) (hq : pc + 1 = q) (he : gE S a b = true) (hin : vp_in x (gN S a b)) (kk : Ok M q L (zl (gJ S a b x.toNatClampNeg) :: st) S Po) : Ok M pc L (zi x :: zr a b :: st) S Po := by
  subst hq
  refine r_gen rfl rfl (fun _ _ => rfl) (fun X G cx adr H locs cells slots Q ls hR hS hl kk => ?_) kk
  obtain ⟨hx, hb, -, ho, -, -, -, -, hK, -⟩ := cx
  have hP := rep_P hR he
  rw [cel_arr ha, zarr_l ht, ht] at hP
  exact va_lald hx hb hK.1 hP 0 2 rfl rfl hin hd (kk H locs ls hR hS hl)
theorem ztys_at (cy : Nat → ClassId) {t : Nat} (h : t < 9) : (ztys cy)[t]? = some (cy t, zty t) := by
  match t, h with
  | 0, _ => rfl
  | 1, _ => rfl
  | 2, _ => rfl
  | 3, _ => rfl
  | 4, _ => rfl
  | 5, _ => rfl
  | 6, _ => rfl
  | 7, _ => rfl
  | 8, _ => rfl
theorem zty_ref {t : Nat} (h : 3 < t) (h9 : t < 9) : (zty t).isReference = true := by
  match t, h, h9 with
  | 4, _, _ => rfl
  | 5, _, _ => rfl
  | 6, _, _ => rfl
  | 7, _, _ => rfl
  | 8, _, _ => rfl
theorem r_aald {x : Int32} (r : Option (Nat × Nat)) (ha : ¬ a < 13) (ht : 3 < tN a) (ht9 : tN a < 9) (hd : decode (mb M) pc = .ok (.aaload, 1)) (hq : pc + 1 = q) (he : gE S a b = true) (hin : vp_in x (gN S a b)) (hr : gR S a b x.toNatClampNeg = r) (kk : Ok M q L (zq r :: st) S Po) : Ok M pc L (zi x :: zr a b :: st) S Po := by
  subst hq
  subst hr
  refine r_gen rfl rfl (fun _ _ => rfl) (fun X G cx adr H locs cells slots Q ls hR hS hl kk => ?_) kk
  obtain ⟨hx, hb, -, ho, -, -, -, -, hK, -⟩ := cx
  have hP := arr_at hR ha he
  rw [zarr_r ht] at hP
  have hlt : x.toNatClampNeg < gN S a b := Nat.not_le.mp fun q => hin (Or.inr q)
  have k2 := kk H locs ls hR hS hl
  rw [List.map_cons, ← zad_tr] at k2
  exact W.aald (v := va_rf (zad adr (gR S a b x.toNatClampNeg))) (ty := zty (tN a)) hx hb hP ((hK.1.2 (tN a) _ (ztys_at _ ht9)).1 _ (fun j => va_rf (zad adr (gR S a b j)))) (zty_ref ht ht9) (fun q => by cases q) (by show ¬ (x < 0 ∨ (arrV _ _ _).slots.size ≤ _); rw [arrV_size]; exact hin) (by show (arrV _ _ _).slots[_]? = _; rw [arrV_read _ _ hlt]) rfl rfl hd k2
theorem r_alen (ha : ¬ a < 13) (ht9 : tN a < 9) (hd : decode (mb M) pc = .ok (.arraylength, 1)) (hq : pc + 1 = q) (he : gE S a b = true) (kk : Ok M q L (zi (nI (gN S a b)) :: st) S Po) : Ok M pc L (zr a b :: st) S Po := by
  subst hq
  refine r_gen rfl rfl (fun _ _ => rfl) (fun X G cx adr H locs cells slots Q ls hR hS hl kk => ?_) kk
  obtain ⟨hx, hb, -, ho, -, -, -, -, hK, -⟩ := cx
  have hP := rep_P hR he
  rw [cel_arr ha] at hP
  exact va_alen hx hb hK.1 hP 0 (tN a) rfl (ztys_at _ ht9) rfl hd (kk H locs ls hR hS hl)
theorem vp_cell_set {cA : ClassId} {n j : Nat} {f : Nat → Int32} {x : Int32} : (vp_cell cA (n, .inl f)).setSlot j (.int x) = vp_cell cA (n, .inl (upd f j x)) := by
  rw [vp_cell_i, vp_cell_i, arrV_store]
  congr 2
  funext q
  by_cases hq : q = j
  · subst hq; simp [updV, upd]
  · simp [updV, upd, hq]
theorem gI_upd {S : zS} {a b j : Nat} {x : Int32} : gI (sI S a b j x) a b = upd (gI S a b) j x := by
  funext q
  by_cases h : q = j
  · subst h; rw [gI_self]; simp [upd]
  · show u3 _ _ _ _ _ _ _ _ = _; rw [u3_place h]; simp [upd, h]; rfl
theorem rep_ast {G : zG} {adr : zA} {S : zS} {H H1 : Heap} (hR : Rep G adr S H) {a b j : Nat} {x : Int32} (ha : ¬ a < 13) (ht : tN a = 1 ∨ tN a = 0 ∨ tN a = 3) (he : gE S a b = true) (e1 : H1[adr a b]? = some ((vp_cell (G.2.1 (tN a)) (gN S a b, .inl (gI S a b))).setSlot j (.int x))) (e3 : ∀ q, q ≠ adr a b → H1[q]? = H[q]?) : Rep G adr (sI S a b j x) H1 := by
  refine rep_set hR he (fun _ _ => rfl) (fun _ _ _ _ _ h => Or.inl h) (fun _ _ h => cel_sI h) ?_ (fun q _ g2 => e3 q g2)
  rw [cel_arr ha, zarr_i ht, gI_upd]
  show H1[adr a b]? = some _
  rw [e1, vp_cell_set]
  rfl
theorem r_iast {x y : Int32} (ha : ¬ a < 13) (ht : tN a = 1) (hd : decode (mb M) pc = .ok (.iastore, 1)) (hq : pc + 1 = q) (he : gE S a b = true) (hin : vp_in x (gN S a b)) (kk : Ok M q L st (sI S a b x.toNatClampNeg y) Po) : Ok M pc L (zi y :: zi x :: zr a b :: st) S Po := by
  subst hq
  refine r_gen (S1 := sI S a b x.toNatClampNeg y) rfl rfl (fun _ _ => rfl) (fun X G cx adr H locs cells slots Q ls hR hS hl kk => ?_) kk
  obtain ⟨hx, hb, -, ho, -, -, -, -, hK, -⟩ := cx
  have hP := arr_at hR ha he
  rw [zarr_i (Or.inl ht)] at hP
  refine W.iast hx hb hP (by rw [ht]; exact (hK.1.2 1 _ rfl).1 _ (fun j => .int (gI S a b j))) (fun q => by cases q) (by show ¬ (x < 0 ∨ (arrV _ _ _).slots.size ≤ _); rw [arrV_size]; exact hin) rfl rfl hd fun H1 e z oq => ?_
  exact kk H1 _ ls (rep_ast hR ha (Or.inl ht) he e oq) (hS.put z oq (hR.1 a b he).2) hl
theorem r_bast {x y : Int32} (ha : ¬ a < 13) (ht : tN a = 0) (hd : decode (mb M) pc = .ok (.bastore, 1)) (hq : pc + 1 = q) (he : gE S a b = true) (hin : vp_in x (gN S a b)) (kk : Ok M q L st (sI S a b x.toNatClampNeg (vp_nar .byte y)) Po) : Ok M pc L (zi y :: zi x :: zr a b :: st) S Po := by
  subst hq
  refine r_gen (S1 := sI S a b x.toNatClampNeg (vp_nar .byte y)) rfl rfl (fun _ _ => rfl) (fun X G cx adr H locs cells slots Q ls hR hS hl kk => ?_) kk
  obtain ⟨hx, hb, -, ho, -, -, -, -, hK, -⟩ := cx
  have hP := arr_at hR ha he
  rw [zarr_i (Or.inr (Or.inl ht))] at hP
  refine W.bast hx hb hP (by rw [ht]; exact (hK.1.2 0 _ rfl).1 _ (fun j => .int (gI S a b j))) (fun q => by cases q) (by show ¬ (x < 0 ∨ (arrV _ _ _).slots.size ≤ _); rw [arrV_size]; exact hin) rfl rfl hd fun H1 e z oq => ?_
  exact kk H1 _ ls (rep_ast hR ha (Or.inr (Or.inl ht)) he e oq) (hS.put z oq (hR.1 a b he).2) hl
theorem r_zast {x y : Int32} (ha : ¬ a < 13) (ht : tN a = 3) (hd : decode (mb M) pc = .ok (.bastore, 1)) (hq : pc + 1 = q) (he : gE S a b = true) (hin : vp_in x (gN S a b)) (kk : Ok M q L st (sI S a b x.toNatClampNeg (vp_nar .boolean y)) Po) : Ok M pc L (zi y :: zi x :: zr a b :: st) S Po := by
  subst hq
  refine r_gen (S1 := sI S a b x.toNatClampNeg (vp_nar .boolean y)) rfl rfl (fun _ _ => rfl) (fun X G cx adr H locs cells slots Q ls hR hS hl kk => ?_) kk
  obtain ⟨hx, hb, -, ho, -, -, -, -, hK, -⟩ := cx
  have hP := arr_at hR ha he
  rw [zarr_i (Or.inr (Or.inr ht))] at hP
  refine W.zast hx hb hP (by rw [ht]; exact (hK.1.2 3 _ rfl).1 _ (fun j => .int (gI S a b j))) (fun q => by cases q) (by show ¬ (x < 0 ∨ (arrV _ _ _).slots.size ≤ _); rw [arrV_size]; exact hin) rfl rfl hd fun H1 e z oq => ?_
  exact kk H1 _ ls (rep_ast hR ha (Or.inr (Or.inr ht)) he e oq) (hS.put z oq (hR.1 a b he).2) hl
theorem r_last {x : Int32} {y : Int64} (ha : ¬ a < 13) (ht : tN a = 2) (hd : decode (mb M) pc = .ok (.lastore, 1)) (hq : pc + 1 = q) (he : gE S a b = true) (hin : vp_in x (gN S a b)) (kk : Ok M q L st (sJ S a b x.toNatClampNeg y) Po) : Ok M pc L (zl y :: zi x :: zr a b :: st) S Po := by
  subst hq
  refine r_gen (S1 := sJ S a b x.toNatClampNeg y) rfl rfl (fun _ _ => rfl) (fun X G cx adr H locs cells slots Q ls hR hS hl kk => ?_) kk
  obtain ⟨hx, hb, -, ho, -, -, -, -, hK, -⟩ := cx
  have hP := arr_at hR ha he
  rw [zarr_l ht] at hP
  refine W.last hx hb hP (by rw [ht]; exact (hK.1.2 2 _ rfl).1 _ (fun j => .long (gJ S a b j))) (fun q => by cases q) (by show ¬ (x < 0 ∨ (arrV _ _ _).slots.size ≤ _); rw [arrV_size]; exact hin) rfl rfl hd fun H1 e z oq => ?_
  refine kk H1 _ ls (rep_set hR he (fun _ _ => rfl) (fun _ _ _ _ _ h => Or.inl h) (fun _ _ h => cel_sJ h) ?_ (fun q _ g2 => oq q g2)) (hS.put z oq (hR.1 a b he).2) hl
  rw [cel_arr ha, zarr_l ht]
  show H1[adr a b]? = some (vp_cell _ _)
  rw [e, vp_cell_l, vp_cell_l, arrV_store]
  congr 2
  funext p
  by_cases hp : p = x.toNatClampNeg
  · subst hp; rw [gJ_self]; simp [updV]
  · have h0 : gJ (sJ S a b x.toNatClampNeg y) a b p = gJ S a b p := if_neg fun z => hp z.2.2
    rw [h0]; simp [updV, hp]
end
