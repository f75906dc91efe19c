theorem r_iconst {M : mD} {pc q : Nat} {L : List (Option zV)} {st : List zV} {S : zS} {Po : Option zV → zS → Prop} {n : Int} (v : Int32) (hd : decode (mb M) pc = .ok (.iconst n, 1)) (hq : pc + 1 = q) (hv : Int32.ofInt n = v) (k : Ok M q L (zi v :: st) S Po) : Ok M pc L st S Po := by
  subst hq
  refine r_pure (fun X G cx adr H locs cells slots Q ls hl kk => ?_) k
  obtain ⟨hx, hb, -⟩ := cx
  exact lv_iconst hx hb hd hv (kk ls hl)
theorem r_bipush {M : mD} {pc q : Nat} {L : List (Option zV)} {st : List zV} {S : zS} {Po : Option zV → zS → Prop} {n : Int} (v : Int32) (hd : decode (mb M) pc = .ok (.bipush n, 2)) (hq : pc + 2 = q) (hv : (Int8.ofInt n).toInt32 = v) (k : Ok M q L (zi v :: st) S Po) : Ok M pc L st S Po := by
  subst hq
  refine r_pure (fun X G cx adr H locs cells slots Q ls hl kk => ?_) k
  obtain ⟨hx, hb, -⟩ := cx
  exact lv_bipush hx hb hd hv (kk ls hl)
theorem r_sipush {M : mD} {pc q : Nat} {L : List (Option zV)} {st : List zV} {S : zS} {Po : Option zV → zS → Prop} {n : Int} (v : Int32) (hd : decode (mb M) pc = .ok (.sipush n, 3)) (hq : pc + 3 = q) (hv : (Int16.ofInt n).toInt32 = v) (k : Ok M q L (zi v :: st) S Po) : Ok M pc L st S Po := by
  subst hq
  refine r_pure (fun X G cx adr H locs cells slots Q ls hl kk => ?_) k
  obtain ⟨hx, hb, -⟩ := cx
  exact lv_sipush hx hb hd hv (kk ls hl)
theorem r_lconst {M : mD} {pc q : Nat} {L : List (Option zV)} {st : List zV} {S : zS} {Po : Option zV → zS → Prop} {n : Fin 2} (v : Int64) (hd : decode (mb M) pc = .ok (.lconst n, 1)) (hq : pc + 1 = q) (hv : Int64.ofNat (n : Nat) = v) (k : Ok M q L (zl v :: st) S Po) : Ok M pc L st S Po := by
  subst hq
  refine r_pure (fun X G cx adr H locs cells slots Q ls hl kk => ?_) k
  obtain ⟨hx, hb, -⟩ := cx
  exact lv_lconst hx hb hd hv (kk ls hl)
theorem r_null {M : mD} {pc q : Nat} {L : List (Option zV)} {st : List zV} {S : zS} {Po : Option zV → zS → Prop}  (hd : decode (mb M) pc = .ok (.aconst_null, 1)) (hq : pc + 1 = q)  (k : Ok M q L (zn :: st) S Po) : Ok M pc L st S Po := by
  subst hq
  refine r_pure (fun X G cx adr H locs cells slots Q ls hl kk => ?_) k
  obtain ⟨hx, hb, -⟩ := cx
  exact lv_null hx hb hd (kk ls hl)
theorem r_ldc {M : mD} {pc q : Nat} {L : List (Option zV)} {st : List zV} {S : zS} {Po : Option zV → zS → Prop} {i : Nat} (v : Int32) (hd : decode (mb M) pc = .ok (.ldc i, 2)) (hq : pc + 2 = q) (hw : Cond.constant (mo M) i v ∈ GW) (k : Ok M q L (zi v :: st) S Po) : Ok M pc L st S Po := by
  subst hq
  refine r_pure (fun X G cx adr H locs cells slots Q ls hl kk => ?_) k
  obtain ⟨hx, hb, -, ho, ht, -⟩ := cx
  exact lv_ldc hx hb ho (ht _ hw) hd (kk ls hl)
theorem r_ldcw {M : mD} {pc q : Nat} {L : List (Option zV)} {st : List zV} {S : zS} {Po : Option zV → zS → Prop} {i : Nat} (v : Int32) (hd : decode (mb M) pc = .ok (.ldc_w i, 3)) (hq : pc + 3 = q) (hw : Cond.constant (mo M) i v ∈ GW) (k : Ok M q L (zi v :: st) S Po) : Ok M pc L st S Po := by
  subst hq
  refine r_pure (fun X G cx adr H locs cells slots Q ls hl kk => ?_) k
  obtain ⟨hx, hb, -, ho, ht, -⟩ := cx
  exact lv_ldcw hx hb ho (ht _ hw) hd (kk ls hl)
theorem r_ldc2 {M : mD} {pc q : Nat} {L : List (Option zV)} {st : List zV} {S : zS} {Po : Option zV → zS → Prop} {i : Nat} (v : Int64) (hd : decode (mb M) pc = .ok (.ldc2_w i, 3)) (hq : pc + 3 = q) (hw : Cond.constantLong (mo M) i v ∈ GW) (k : Ok M q L (zl v :: st) S Po) : Ok M pc L st S Po := by
  subst hq
  refine r_pure (fun X G cx adr H locs cells slots Q ls hl kk => ?_) k
  obtain ⟨hx, hb, -, ho, ht, -⟩ := cx
  exact lv_ldc2 hx hb ho (ht _ hw) hd (kk ls hl)
theorem r_iload_n {M : mD} {pc q : Nat} {L : List (Option zV)} {st : List zV} {S : zS} {Po : Option zV → zS → Prop} {j : Fin 4} {i : Nat} {x : Int32} (hd : decode (mb M) pc = .ok (.iload_n j, 1)) (hq : pc + 1 = q) (hi : (j : Nat) = i) (hl0 : L[i]? = some (some (zi x))) (k : Ok M q L (zi x :: st) S Po) : Ok M pc L st S Po := by
  subst hq
  refine r_pure (fun X G cx adr H locs cells slots Q ls hl kk => ?_) k
  obtain ⟨hx, hb, -⟩ := cx
  exact lv_iload_n hx hb hd hi (Lv_at hl hl0) (kk ls hl)
theorem r_lload_n {M : mD} {pc q : Nat} {L : List (Option zV)} {st : List zV} {S : zS} {Po : Option zV → zS → Prop} {j : Fin 4} {i : Nat} {x : Int64} (hd : decode (mb M) pc = .ok (.lload_n j, 1)) (hq : pc + 1 = q) (hi : (j : Nat) = i) (hl0 : L[i]? = some (some (zl x))) (k : Ok M q L (zl x :: st) S Po) : Ok M pc L st S Po := by
  subst hq
  refine r_pure (fun X G cx adr H locs cells slots Q ls hl kk => ?_) k
  obtain ⟨hx, hb, -⟩ := cx
  exact lv_lload_n hx hb hd hi (Lv_at hl hl0) (kk ls hl)
theorem r_aload_n {M : mD} {pc q : Nat} {L : List (Option zV)} {st : List zV} {S : zS} {Po : Option zV → zS → Prop} {j : Fin 4} {i : Nat} {r : Option (Nat × Nat)} (hd : decode (mb M) pc = .ok (.aload_n j, 1)) (hq : pc + 1 = q) (hi : (j : Nat) = i) (hl0 : L[i]? = some (some (zq r))) (k : Ok M q L (zq r :: st) S Po) : Ok M pc L st S Po := by
  subst hq
  refine r_pure (fun X G cx adr H locs cells slots Q ls hl kk => ?_) k
  obtain ⟨hx, hb, -⟩ := cx
  have h0 := Lv_at hl hl0
  cases r with
  | none => exact lv_aload_nN hx hb hd hi h0 (kk ls hl)
  | some p => exact lv_aload_n hx hb hd hi h0 (kk ls hl)
theorem r_iload {M : mD} {pc q : Nat} {L : List (Option zV)} {st : List zV} {S : zS} {Po : Option zV → zS → Prop} {i : Nat} {x : Int32} (hd : decode (mb M) pc = .ok (.iload i, 2)) (hq : pc + 2 = q) (hl0 : L[i]? = some (some (zi x))) (k : Ok M q L (zi x :: st) S Po) : Ok M pc L st S Po := by
  subst hq
  refine r_pure (fun X G cx adr H locs cells slots Q ls hl kk => ?_) k
  obtain ⟨hx, hb, -⟩ := cx
  exact lv_iload hx hb hd (Lv_at hl hl0) (kk ls hl)
theorem r_lload {M : mD} {pc q : Nat} {L : List (Option zV)} {st : List zV} {S : zS} {Po : Option zV → zS → Prop} {i : Nat} {x : Int64} (hd : decode (mb M) pc = .ok (.lload i, 2)) (hq : pc + 2 = q) (hl0 : L[i]? = some (some (zl x))) (k : Ok M q L (zl x :: st) S Po) : Ok M pc L st S Po := by
  subst hq
  refine r_pure (fun X G cx adr H locs cells slots Q ls hl kk => ?_) k
  obtain ⟨hx, hb, -⟩ := cx
  exact lv_lload hx hb hd (Lv_at hl hl0) (kk ls hl)
theorem r_aload {M : mD} {pc q : Nat} {L : List (Option zV)} {st : List zV} {S : zS} {Po : Option zV → zS → Prop} {i : Nat} {r : Option (Nat × Nat)} (hd : decode (mb M) pc = .ok (.aload i, 2)) (hq : pc + 2 = q) (hl0 : L[i]? = some (some (zq r))) (k : Ok M q L (zq r :: st) S Po) : Ok M pc L st S Po := by
  subst hq
  refine r_pure (fun X G cx adr H locs cells slots Q ls hl kk => ?_) k
  obtain ⟨hx, hb, -⟩ := cx
  have h0 := Lv_at hl hl0
  cases r with
  | none => exact lv_aloadN hx hb hd h0 (kk ls hl)
  | some p => exact lv_aload hx hb hd h0 (kk ls hl)
theorem r_istore_n {M : mD} {pc q : Nat} {L : List (Option zV)} {st : List zV} {S : zS} {Po : Option zV → zS → Prop} {L' : List (Option zV)} {j : Fin 4} {i : Nat} {x : Int32} (hd : decode (mb M) pc = .ok (.istore_n j, 1)) (hq : pc + 1 = q) (hi : (j : Nat) = i) (hn : i < mn M) (hL : set1 L i (zi x) = L') (k : Ok M q L' st S Po) : Ok M pc L (zi x :: st) S Po := by
  subst hq
  subst hL
  refine r_pure (fun X G cx adr H locs cells slots Q ls hl kk => ?_) k
  obtain ⟨hx, hb, -⟩ := cx
  exact lv_istore_n hx hb hd hi hl hn rfl fun ls' h' => kk ls' (Lv_set1 (v := zi x) h')
theorem r_lstore_n {M : mD} {pc q : Nat} {L : List (Option zV)} {st : List zV} {S : zS} {Po : Option zV → zS → Prop} {L' : List (Option zV)} {j : Fin 4} {i : Nat} {x : Int64} (hd : decode (mb M) pc = .ok (.lstore_n j, 1)) (hq : pc + 1 = q) (hi : (j : Nat) = i) (hn : i + 1 < mn M) (hL : set2 L i (zl x) = L') (k : Ok M q L' st S Po) : Ok M pc L (zl x :: st) S Po := by
  subst hq
  subst hL
  refine r_pure (fun X G cx adr H locs cells slots Q ls hl kk => ?_) k
  obtain ⟨hx, hb, -⟩ := cx
  exact lv_lstore_n hx hb hd hi hl hn rfl fun ls' h' => kk ls' (Lv_set2 (v := zl x) h')
theorem r_astore_n {M : mD} {pc q : Nat} {L : List (Option zV)} {st : List zV} {S : zS} {Po : Option zV → zS → Prop} {L' : List (Option zV)} {j : Fin 4} {i : Nat} {r : Option (Nat × Nat)} (hd : decode (mb M) pc = .ok (.astore_n j, 1)) (hq : pc + 1 = q) (hi : (j : Nat) = i) (hn : i < mn M) (hL : set1 L i (zq r) = L') (k : Ok M q L' st S Po) : Ok M pc L (zq r :: st) S Po := by
  subst hq
  subst hL
  refine r_pure (fun X G cx adr H locs cells slots Q ls hl kk => ?_) k
  obtain ⟨hx, hb, -⟩ := cx
  cases r with
  | none => exact lv_astore_nN hx hb hd hi hl hn rfl fun ls' h' => kk ls' (Lv_set1 (v := zq none) h')
  | some p => exact lv_astore_n hx hb hd hi hl hn rfl fun ls' h' => kk ls' (Lv_set1 (v := zq (some p)) h')
theorem r_istore {M : mD} {pc q : Nat} {L : List (Option zV)} {st : List zV} {S : zS} {Po : Option zV → zS → Prop} {L' : List (Option zV)} {i : Nat} {x : Int32} (hd : decode (mb M) pc = .ok (.istore i, 2)) (hq : pc + 2 = q) (hn : i < mn M) (hL : set1 L i (zi x) = L') (k : Ok M q L' st S Po) : Ok M pc L (zi x :: st) S Po := by
  subst hq
  subst hL
  refine r_pure (fun X G cx adr H locs cells slots Q ls hl kk => ?_) k
  obtain ⟨hx, hb, -⟩ := cx
  exact lv_istore hx hb hd hl hn rfl fun ls' h' => kk ls' (Lv_set1 (v := zi x) h')
theorem r_lstore {M : mD} {pc q : Nat} {L : List (Option zV)} {st : List zV} {S : zS} {Po : Option zV → zS → Prop} {L' : List (Option zV)} {i : Nat} {x : Int64} (hd : decode (mb M) pc = .ok (.lstore i, 2)) (hq : pc + 2 = q) (hn : i + 1 < mn M) (hL : set2 L i (zl x) = L') (k : Ok M q L' st S Po) : Ok M pc L (zl x :: st) S Po := by
  subst hq
  subst hL
  refine r_pure (fun X G cx adr H locs cells slots Q ls hl kk => ?_) k
  obtain ⟨hx, hb, -⟩ := cx
  exact lv_lstore hx hb hd hl hn rfl fun ls' h' => kk ls' (Lv_set2 (v := zl x) h')
theorem r_astore {M : mD} {pc q : Nat} {L : List (Option zV)} {st : List zV} {S : zS} {Po : Option zV → zS → Prop} {L' : List (Option zV)} {i : Nat} {r : Option (Nat × Nat)} (hd : decode (mb M) pc = .ok (.astore i, 2)) (hq : pc + 2 = q) (hn : i < mn M) (hL : set1 L i (zq r) = L') (k : Ok M q L' st S Po) : Ok M pc L (zq r :: st) S Po := by
  subst hq
  subst hL
  refine r_pure (fun X G cx adr H locs cells slots Q ls hl kk => ?_) k
  obtain ⟨hx, hb, -⟩ := cx
  cases r with
  | none => exact lv_astoreN hx hb hd hl hn rfl fun ls' h' => kk ls' (Lv_set1 (v := zq none) h')
  | some p => exact lv_astore hx hb hd hl hn rfl fun ls' h' => kk ls' (Lv_set1 (v := zq (some p)) h')
theorem r_iinc {M : mD} {pc q : Nat} {L : List (Option zV)} {st : List zV} {S : zS} {Po : Option zV → zS → Prop} {L' : List (Option zV)} {i : Nat} {n : Int} {x : Int32} (v : Int32) (hd : decode (mb M) pc = .ok (.iinc i n, 3)) (hq : pc + 3 = q) (hl0 : L[i]? = some (some (zi x))) (hn : i < mn M) (hv : x + Int32.ofInt n = v) (hL : set1 L i (zi v) = L') (k : Ok M q L' st S Po) : Ok M pc L st S Po := by
  subst hq
  subst hL
  refine r_pure (fun X G cx adr H locs cells slots Q ls hl kk => ?_) k
  obtain ⟨hx, hb, -⟩ := cx
  obtain ⟨j, hj⟩ := List.getElem?_of_mem (Lv_mem (q := (i, tr adr (zi x))).mpr ⟨_, hl0, rfl⟩)
  exact lv_iinc hx hb hd hl hj hv hn rfl fun ls' h' => kk ls' (Lv_set1 (v := zi v) h')
theorem r_iadd {M : mD} {pc q : Nat} {L : List (Option zV)} {st : List zV} {S : zS} {Po : Option zV → zS → Prop} {x y : Int32} (hd : decode (mb M) pc = .ok (.iadd, 1)) (hq : pc + 1 = q)  (k : Ok M q L (zi (x + y) :: st) S Po) : Ok M pc L (zi y :: zi x :: st) S Po := by
  subst hq
  refine r_pure (fun X G cx adr H locs cells slots Q ls hl kk => ?_) k
  obtain ⟨hx, hb, -⟩ := cx
  exact lv_iadd hx hb hd (kk ls hl)
theorem r_isub {M : mD} {pc q : Nat} {L : List (Option zV)} {st : List zV} {S : zS} {Po : Option zV → zS → Prop} {x y : Int32} (hd : decode (mb M) pc = .ok (.isub, 1)) (hq : pc + 1 = q)  (k : Ok M q L (zi (x - y) :: st) S Po) : Ok M pc L (zi y :: zi x :: st) S Po := by
  subst hq
  refine r_pure (fun X G cx adr H locs cells slots Q ls hl kk => ?_) k
  obtain ⟨hx, hb, -⟩ := cx
  exact lv_isub hx hb hd (kk ls hl)
theorem r_imul {M : mD} {pc q : Nat} {L : List (Option zV)} {st : List zV} {S : zS} {Po : Option zV → zS → Prop} {x y : Int32} (hd : decode (mb M) pc = .ok (.imul, 1)) (hq : pc + 1 = q)  (k : Ok M q L (zi (x * y) :: st) S Po) : Ok M pc L (zi y :: zi x :: st) S Po := by
  subst hq
  refine r_pure (fun X G cx adr H locs cells slots Q ls hl kk => ?_) k
  obtain ⟨hx, hb, -⟩ := cx
  exact lv_imul hx hb hd (kk ls hl)
theorem r_iand {M : mD} {pc q : Nat} {L : List (Option zV)} {st : List zV} {S : zS} {Po : Option zV → zS → Prop} {x y : Int32} (hd : decode (mb M) pc = .ok (.iand, 1)) (hq : pc + 1 = q)  (k : Ok M q L (zi (x &&& y) :: st) S Po) : Ok M pc L (zi y :: zi x :: st) S Po := by
  subst hq
  refine r_pure (fun X G cx adr H locs cells slots Q ls hl kk => ?_) k
  obtain ⟨hx, hb, -⟩ := cx
  exact lv_iand hx hb hd (kk ls hl)
theorem r_ior {M : mD} {pc q : Nat} {L : List (Option zV)} {st : List zV} {S : zS} {Po : Option zV → zS → Prop} {x y : Int32} (hd : decode (mb M) pc = .ok (.ior, 1)) (hq : pc + 1 = q)  (k : Ok M q L (zi (x ||| y) :: st) S Po) : Ok M pc L (zi y :: zi x :: st) S Po := by
  subst hq
  refine r_pure (fun X G cx adr H locs cells slots Q ls hl kk => ?_) k
  obtain ⟨hx, hb, -⟩ := cx
  exact lv_ior hx hb hd (kk ls hl)
theorem r_ixor {M : mD} {pc q : Nat} {L : List (Option zV)} {st : List zV} {S : zS} {Po : Option zV → zS → Prop} {x y : Int32} (hd : decode (mb M) pc = .ok (.ixor, 1)) (hq : pc + 1 = q)  (k : Ok M q L (zi (x ^^^ y) :: st) S Po) : Ok M pc L (zi y :: zi x :: st) S Po := by
  subst hq
  refine r_pure (fun X G cx adr H locs cells slots Q ls hl kk => ?_) k
  obtain ⟨hx, hb, -⟩ := cx
  exact lv_ixor hx hb hd (kk ls hl)
theorem r_ishl {M : mD} {pc q : Nat} {L : List (Option zV)} {st : List zV} {S : zS} {Po : Option zV → zS → Prop} {x y : Int32} (hd : decode (mb M) pc = .ok (.ishl, 1)) (hq : pc + 1 = q)  (k : Ok M q L (zi (x <<< (y &&& 31)) :: st) S Po) : Ok M pc L (zi y :: zi x :: st) S Po := by
  subst hq
  refine r_pure (fun X G cx adr H locs cells slots Q ls hl kk => ?_) k
  obtain ⟨hx, hb, -⟩ := cx
  exact lv_ishl hx hb hd (kk ls hl)
theorem r_ishr {M : mD} {pc q : Nat} {L : List (Option zV)} {st : List zV} {S : zS} {Po : Option zV → zS → Prop} {x y : Int32} (hd : decode (mb M) pc = .ok (.ishr, 1)) (hq : pc + 1 = q)  (k : Ok M q L (zi (x >>> (y &&& 31)) :: st) S Po) : Ok M pc L (zi y :: zi x :: st) S Po := by
  subst hq
  refine r_pure (fun X G cx adr H locs cells slots Q ls hl kk => ?_) k
  obtain ⟨hx, hb, -⟩ := cx
  exact lv_ishr hx hb hd (kk ls hl)
theorem r_idiv {M : mD} {pc q : Nat} {L : List (Option zV)} {st : List zV} {S : zS} {Po : Option zV → zS → Prop} {x y : Int32} (hd : decode (mb M) pc = .ok (.idiv, 1)) (hq : pc + 1 = q) (hne : ¬ y = 0) (k : Ok M q L (zi (x / y) :: st) S Po) : Ok M pc L (zi y :: zi x :: st) S Po := by
  subst hq
  refine r_pure (fun X G cx adr H locs cells slots Q ls hl kk => ?_) k
  obtain ⟨hx, hb, -⟩ := cx
  exact lv_idiv hx hb hd hne (kk ls hl)
theorem r_irem {M : mD} {pc q : Nat} {L : List (Option zV)} {st : List zV} {S : zS} {Po : Option zV → zS → Prop} {x y : Int32} (hd : decode (mb M) pc = .ok (.irem, 1)) (hq : pc + 1 = q) (hne : ¬ y = 0) (k : Ok M q L (zi (x - x / y * y) :: st) S Po) : Ok M pc L (zi y :: zi x :: st) S Po := by
  subst hq
  refine r_pure (fun X G cx adr H locs cells slots Q ls hl kk => ?_) k
  obtain ⟨hx, hb, -⟩ := cx
  exact lv_irem hx hb hd hne (kk ls hl)
theorem r_ineg {M : mD} {pc q : Nat} {L : List (Option zV)} {st : List zV} {S : zS} {Po : Option zV → zS → Prop} {x : Int32} (hd : decode (mb M) pc = .ok (.ineg, 1)) (hq : pc + 1 = q)  (k : Ok M q L (zi (-x) :: st) S Po) : Ok M pc L (zi x :: st) S Po := by
  subst hq
  refine r_pure (fun X G cx adr H locs cells slots Q ls hl kk => ?_) k
  obtain ⟨hx, hb, -⟩ := cx
  exact lv_ineg hx hb hd (kk ls hl)
theorem r_iushr {M : mD} {pc q : Nat} {L : List (Option zV)} {st : List zV} {S : zS} {Po : Option zV → zS → Prop} {x y : Int32} (hd : decode (mb M) pc = .ok (.iushr, 1)) (hq : pc + 1 = q)  (k : Ok M q L (zi (x.toUInt32 >>> (y.toUInt32 &&& Int32.toUInt32 31)).toInt32 :: st) S Po) : Ok M pc L (zi y :: zi x :: st) S Po := by
  subst hq
  refine r_pure (fun X G cx adr H locs cells slots Q ls hl kk => ?_) k
  obtain ⟨hx, hb, -⟩ := cx
  exact lv_iushr hx hb hd rfl (kk ls hl)
theorem r_ladd {M : mD} {pc q : Nat} {L : List (Option zV)} {st : List zV} {S : zS} {Po : Option zV → zS → Prop} {x y : Int64} (hd : decode (mb M) pc = .ok (.ladd, 1)) (hq : pc + 1 = q)  (k : Ok M q L (zl (x + y) :: st) S Po) : Ok M pc L (zl y :: zl x :: st) S Po := by
  subst hq
  refine r_pure (fun X G cx adr H locs cells slots Q ls hl kk => ?_) k
  obtain ⟨hx, hb, -⟩ := cx
  exact lv_ladd hx hb hd (kk ls hl)
theorem r_lsub {M : mD} {pc q : Nat} {L : List (Option zV)} {st : List zV} {S : zS} {Po : Option zV → zS → Prop} {x y : Int64} (hd : decode (mb M) pc = .ok (.lsub, 1)) (hq : pc + 1 = q)  (k : Ok M q L (zl (x - y) :: st) S Po) : Ok M pc L (zl y :: zl x :: st) S Po := by
  subst hq
  refine r_pure (fun X G cx adr H locs cells slots Q ls hl kk => ?_) k
  obtain ⟨hx, hb, -⟩ := cx
  exact lv_lsub hx hb hd (kk ls hl)
theorem r_lmul {M : mD} {pc q : Nat} {L : List (Option zV)} {st : List zV} {S : zS} {Po : Option zV → zS → Prop} {x y : Int64} (hd : decode (mb M) pc = .ok (.lmul, 1)) (hq : pc + 1 = q)  (k : Ok M q L (zl (x * y) :: st) S Po) : Ok M pc L (zl y :: zl x :: st) S Po := by
  subst hq
  refine r_pure (fun X G cx adr H locs cells slots Q ls hl kk => ?_) k
  obtain ⟨hx, hb, -⟩ := cx
  exact lv_lmul hx hb hd (kk ls hl)
theorem r_land {M : mD} {pc q : Nat} {L : List (Option zV)} {st : List zV} {S : zS} {Po : Option zV → zS → Prop} {x y : Int64} (hd : decode (mb M) pc = .ok (.land, 1)) (hq : pc + 1 = q)  (k : Ok M q L (zl (x &&& y) :: st) S Po) : Ok M pc L (zl y :: zl x :: st) S Po := by
  subst hq
  refine r_pure (fun X G cx adr H locs cells slots Q ls hl kk => ?_) k
  obtain ⟨hx, hb, -⟩ := cx
  exact lv_land hx hb hd (kk ls hl)
theorem r_lor {M : mD} {pc q : Nat} {L : List (Option zV)} {st : List zV} {S : zS} {Po : Option zV → zS → Prop} {x y : Int64} (hd : decode (mb M) pc = .ok (.lor, 1)) (hq : pc + 1 = q)  (k : Ok M q L (zl (x ||| y) :: st) S Po) : Ok M pc L (zl y :: zl x :: st) S Po := by
  subst hq
  refine r_pure (fun X G cx adr H locs cells slots Q ls hl kk => ?_) k
  obtain ⟨hx, hb, -⟩ := cx
  exact lv_lor hx hb hd (kk ls hl)
theorem r_lshl {M : mD} {pc q : Nat} {L : List (Option zV)} {st : List zV} {S : zS} {Po : Option zV → zS → Prop} {x : Int64} {y : Int32} (hd : decode (mb M) pc = .ok (.lshl, 1)) (hq : pc + 1 = q)  (k : Ok M q L (zl (x <<< (y.toInt64 &&& 63)) :: st) S Po) : Ok M pc L (zi y :: zl x :: st) S Po := by
  subst hq
  refine r_pure (fun X G cx adr H locs cells slots Q ls hl kk => ?_) k
  obtain ⟨hx, hb, -⟩ := cx
  exact lv_lshl hx hb hd rfl (kk ls hl)
theorem r_lshr {M : mD} {pc q : Nat} {L : List (Option zV)} {st : List zV} {S : zS} {Po : Option zV → zS → Prop} {x : Int64} {y : Int32} (hd : decode (mb M) pc = .ok (.lshr, 1)) (hq : pc + 1 = q)  (k : Ok M q L (zl (x >>> (y.toInt64 &&& 63)) :: st) S Po) : Ok M pc L (zi y :: zl x :: st) S Po := by
  subst hq
  refine r_pure (fun X G cx adr H locs cells slots Q ls hl kk => ?_) k
  obtain ⟨hx, hb, -⟩ := cx
  exact lv_lshr hx hb hd rfl (kk ls hl)
theorem r_lushr {M : mD} {pc q : Nat} {L : List (Option zV)} {st : List zV} {S : zS} {Po : Option zV → zS → Prop} {x : Int64} {y : Int32} (hd : decode (mb M) pc = .ok (.lushr, 1)) (hq : pc + 1 = q)  (k : Ok M q L (zl (x.toUInt64 >>> (y.toInt64.toUInt64 &&& Int64.toUInt64 63)).toInt64 :: st) S Po) : Ok M pc L (zi y :: zl x :: st) S Po := by
  subst hq
  refine r_pure (fun X G cx adr H locs cells slots Q ls hl kk => ?_) k
  obtain ⟨hx, hb, -⟩ := cx
  exact lv_lushr hx hb hd rfl (kk ls hl)
theorem r_lcmp {M : mD} {pc q : Nat} {L : List (Option zV)} {st : List zV} {S : zS} {Po : Option zV → zS → Prop} {x y : Int64} (hd : decode (mb M) pc = .ok (.lcmp, 1)) (hq : pc + 1 = q)  (k : Ok M q L (zi (lg_cmp x y) :: st) S Po) : Ok M pc L (zl y :: zl x :: st) S Po := by
  subst hq
  refine r_pure (fun X G cx adr H locs cells slots Q ls hl kk => ?_) k
  obtain ⟨hx, hb, -⟩ := cx
  exact W.lcmp hx hb hd (kk ls hl)
theorem r_i2l {M : mD} {pc q : Nat} {L : List (Option zV)} {st : List zV} {S : zS} {Po : Option zV → zS → Prop} {x : Int32} (hd : decode (mb M) pc = .ok (.i2l, 1)) (hq : pc + 1 = q)  (k : Ok M q L (zl x.toInt64 :: st) S Po) : Ok M pc L (zi x :: st) S Po := by
  subst hq
  refine r_pure (fun X G cx adr H locs cells slots Q ls hl kk => ?_) k
  obtain ⟨hx, hb, -⟩ := cx
  exact lv_i2l hx hb hd rfl (kk ls hl)
theorem r_l2i {M : mD} {pc q : Nat} {L : List (Option zV)} {st : List zV} {S : zS} {Po : Option zV → zS → Prop} {x : Int64} (hd : decode (mb M) pc = .ok (.l2i, 1)) (hq : pc + 1 = q)  (k : Ok M q L (zi x.toInt32 :: st) S Po) : Ok M pc L (zl x :: st) S Po := by
  subst hq
  refine r_pure (fun X G cx adr H locs cells slots Q ls hl kk => ?_) k
  obtain ⟨hx, hb, -⟩ := cx
  exact lv_l2i hx hb hd rfl (kk ls hl)
theorem r_i2b {M : mD} {pc q : Nat} {L : List (Option zV)} {st : List zV} {S : zS} {Po : Option zV → zS → Prop} {x : Int32} (hd : decode (mb M) pc = .ok (.i2b, 1)) (hq : pc + 1 = q)  (k : Ok M q L (zi x.toInt8.toInt32 :: st) S Po) : Ok M pc L (zi x :: st) S Po := by
  subst hq
  refine r_pure (fun X G cx adr H locs cells slots Q ls hl kk => ?_) k
  obtain ⟨hx, hb, -⟩ := cx
  exact lv_i2b hx hb hd rfl (kk ls hl)
theorem r_dup {M : mD} {pc q : Nat} {L : List (Option zV)} {st : List zV} {S : zS} {Po : Option zV → zS → Prop} {u : zV} (hd : decode (mb M) pc = .ok (.dup, 1)) (hq : pc + 1 = q) (hu : zc u = 1) (k : Ok M q L (u :: u :: st) S Po) : Ok M pc L (u :: st) S Po := by
  subst hq
  refine r_pure (fun X G cx adr H locs cells slots Q ls hl kk => ?_) k
  obtain ⟨hx, hb, -⟩ := cx
  exact lv_dup hx hb hd (by rw [tr_cat]; exact hu) (kk ls hl)
theorem r_pop {M : mD} {pc q : Nat} {L : List (Option zV)} {st : List zV} {S : zS} {Po : Option zV → zS → Prop} {u : zV} (hd : decode (mb M) pc = .ok (.pop, 1)) (hq : pc + 1 = q) (hu : zc u = 1) (k : Ok M q L st S Po) : Ok M pc L (u :: st) S Po := by
  subst hq
  refine r_pure (fun X G cx adr H locs cells slots Q ls hl kk => ?_) k
  obtain ⟨hx, hb, -⟩ := cx
  exact lv_pop hx hb hd (by rw [tr_cat]; exact hu) (kk ls hl)
theorem r_dup2 {M : mD} {pc q : Nat} {L : List (Option zV)} {st : List zV} {S : zS} {Po : Option zV → zS → Prop} {u w : zV} (hd : decode (mb M) pc = .ok (.dup2, 1)) (hq : pc + 1 = q) (hu : zc u = 1) (hw : zc w = 1) (k : Ok M q L (u :: w :: u :: w :: st) S Po) : Ok M pc L (u :: w :: st) S Po := by
  subst hq
  refine r_pure (fun X G cx adr H locs cells slots Q ls hl kk => ?_) k
  obtain ⟨hx, hb, -⟩ := cx
  exact lv_dup2_11 hx hb hd (by rw [tr_cat]; exact hu) (by rw [tr_cat]; exact hw) (kk ls hl)
theorem r_goto {M : mD} {pc q : Nat} {L : List (Option zV)} {st : List zV} {S : zS} {Po : Option zV → zS → Prop} {off : Int} (hd : decode (mb M) pc = .ok (.goto off, 3)) (hq : (pc : Int) + off = (q : Int)) (k : Ok M q L st S Po) : Ok M pc L st S Po := by
  refine r_pure (fun X G cx adr H locs cells slots Q ls hl kk => ?_) k
  obtain ⟨hx, hb, -⟩ := cx
  exact lv_goto hx hb hd hq (kk ls hl)
theorem r_if_eq {M : mD} {pc q : Nat} {L : List (Option zV)} {st : List zV} {S : zS} {Po : Option zV → zS → Prop} {x : Int32} {off : Int} {t : Nat} (hd : decode (mb M) pc = .ok (.ifCond .eq off, 3)) (ht : (pc : Int) + off = (t : Int)) (hq : pc + 3 = q) (kt : x = 0 → Ok M t L st S Po) (kf : ¬ (x = 0) → Ok M q L st S Po) : Ok M pc L (zi x :: st) S Po := by
  subst hq
  by_cases hc : x = 0
  · refine r_pure (fun X G cx adr H locs cells slots Q ls hl kk => ?_) (kt hc)
    obtain ⟨hx, hb, -⟩ := cx
    exact lv_if_eq hx hb hd ht (fun _ => kk ls hl) (fun h => absurd hc h)
  · refine r_pure (fun X G cx adr H locs cells slots Q ls hl kk => ?_) (kf hc)
    obtain ⟨hx, hb, -⟩ := cx
    exact lv_if_eq hx hb hd ht (fun h => absurd h hc) (fun _ => kk ls hl)
theorem r_icmp_eq {M : mD} {pc q : Nat} {L : List (Option zV)} {st : List zV} {S : zS} {Po : Option zV → zS → Prop} {x y : Int32} {off : Int} {t : Nat} (hd : decode (mb M) pc = .ok (.if_icmp .eq off, 3)) (ht : (pc : Int) + off = (t : Int)) (hq : pc + 3 = q) (kt : x = y → Ok M t L st S Po) (kf : ¬ (x = y) → Ok M q L st S Po) : Ok M pc L (zi y :: zi x :: st) S Po := by
  subst hq
  by_cases hc : x = y
  · refine r_pure (fun X G cx adr H locs cells slots Q ls hl kk => ?_) (kt hc)
    obtain ⟨hx, hb, -⟩ := cx
    exact lv_icmp_eq hx hb hd ht (fun _ => kk ls hl) (fun h => absurd hc h)
  · refine r_pure (fun X G cx adr H locs cells slots Q ls hl kk => ?_) (kf hc)
    obtain ⟨hx, hb, -⟩ := cx
    exact lv_icmp_eq hx hb hd ht (fun h => absurd h hc) (fun _ => kk ls hl)
theorem r_if_ne {M : mD} {pc q : Nat} {L : List (Option zV)} {st : List zV} {S : zS} {Po : Option zV → zS → Prop} {x : Int32} {off : Int} {t : Nat} (hd : decode (mb M) pc = .ok (.ifCond .ne off, 3)) (ht : (pc : Int) + off = (t : Int)) (hq : pc + 3 = q) (kt : x ≠ 0 → Ok M t L st S Po) (kf : ¬ (x ≠ 0) → Ok M q L st S Po) : Ok M pc L (zi x :: st) S Po := by
  subst hq
  by_cases hc : x ≠ 0
  · refine r_pure (fun X G cx adr H locs cells slots Q ls hl kk => ?_) (kt hc)
    obtain ⟨hx, hb, -⟩ := cx
    exact lv_if_ne hx hb hd ht (fun _ => kk ls hl) (fun h => absurd h hc)
  · refine r_pure (fun X G cx adr H locs cells slots Q ls hl kk => ?_) (kf hc)
    obtain ⟨hx, hb, -⟩ := cx
    exact lv_if_ne hx hb hd ht (fun h => absurd h hc) (fun _ => kk ls hl)
theorem r_icmp_ne {M : mD} {pc q : Nat} {L : List (Option zV)} {st : List zV} {S : zS} {Po : Option zV → zS → Prop} {x y : Int32} {off : Int} {t : Nat} (hd : decode (mb M) pc = .ok (.if_icmp .ne off, 3)) (ht : (pc : Int) + off = (t : Int)) (hq : pc + 3 = q) (kt : x ≠ y → Ok M t L st S Po) (kf : ¬ (x ≠ y) → Ok M q L st S Po) : Ok M pc L (zi y :: zi x :: st) S Po := by
  subst hq
  by_cases hc : x ≠ y
  · refine r_pure (fun X G cx adr H locs cells slots Q ls hl kk => ?_) (kt hc)
    obtain ⟨hx, hb, -⟩ := cx
    exact lv_icmp_ne hx hb hd ht (fun _ => kk ls hl) (fun h => absurd h hc)
  · refine r_pure (fun X G cx adr H locs cells slots Q ls hl kk => ?_) (kf hc)
    obtain ⟨hx, hb, -⟩ := cx
    exact lv_icmp_ne hx hb hd ht (fun h => absurd h hc) (fun _ => kk ls hl)
theorem r_if_lt {M : mD} {pc q : Nat} {L : List (Option zV)} {st : List zV} {S : zS} {Po : Option zV → zS → Prop} {x : Int32} {off : Int} {t : Nat} (hd : decode (mb M) pc = .ok (.ifCond .lt off, 3)) (ht : (pc : Int) + off = (t : Int)) (hq : pc + 3 = q) (kt : x < 0 → Ok M t L st S Po) (kf : ¬ (x < 0) → Ok M q L st S Po) : Ok M pc L (zi x :: st) S Po := by
  subst hq
  by_cases hc : x < 0
  · refine r_pure (fun X G cx adr H locs cells slots Q ls hl kk => ?_) (kt hc)
    obtain ⟨hx, hb, -⟩ := cx
    exact lv_if_lt hx hb hd ht (fun _ => kk ls hl) (fun h => absurd hc h)
  · refine r_pure (fun X G cx adr H locs cells slots Q ls hl kk => ?_) (kf hc)
    obtain ⟨hx, hb, -⟩ := cx
    exact lv_if_lt hx hb hd ht (fun h => absurd h hc) (fun _ => kk ls hl)
theorem r_icmp_lt {M : mD} {pc q : Nat} {L : List (Option zV)} {st : List zV} {S : zS} {Po : Option zV → zS → Prop} {x y : Int32} {off : Int} {t : Nat} (hd : decode (mb M) pc = .ok (.if_icmp .lt off, 3)) (ht : (pc : Int) + off = (t : Int)) (hq : pc + 3 = q) (kt : x < y → Ok M t L st S Po) (kf : ¬ (x < y) → Ok M q L st S Po) : Ok M pc L (zi y :: zi x :: st) S Po := by
  subst hq
  by_cases hc : x < y
  · refine r_pure (fun X G cx adr H locs cells slots Q ls hl kk => ?_) (kt hc)
    obtain ⟨hx, hb, -⟩ := cx
    exact lv_icmp_lt hx hb hd ht (fun _ => kk ls hl) (fun h => absurd hc h)
  · refine r_pure (fun X G cx adr H locs cells slots Q ls hl kk => ?_) (kf hc)
    obtain ⟨hx, hb, -⟩ := cx
    exact lv_icmp_lt hx hb hd ht (fun h => absurd h hc) (fun _ => kk ls hl)
theorem r_if_ge {M : mD} {pc q : Nat} {L : List (Option zV)} {st : List zV} {S : zS} {Po : Option zV → zS → Prop} {x : Int32} {off : Int} {t : Nat} (hd : decode (mb M) pc = .ok (.ifCond .ge off, 3)) (ht : (pc : Int) + off = (t : Int)) (hq : pc + 3 = q) (kt : 0 ≤ x → Ok M t L st S Po) (kf : ¬ (0 ≤ x) → Ok M q L st S Po) : Ok M pc L (zi x :: st) S Po := by
  subst hq
  by_cases hc : 0 ≤ x
  · refine r_pure (fun X G cx adr H locs cells slots Q ls hl kk => ?_) (kt hc)
    obtain ⟨hx, hb, -⟩ := cx
    exact lv_if_ge hx hb hd ht (fun _ => kk ls hl) (fun h => absurd hc h)
  · refine r_pure (fun X G cx adr H locs cells slots Q ls hl kk => ?_) (kf hc)
    obtain ⟨hx, hb, -⟩ := cx
    exact lv_if_ge hx hb hd ht (fun h => absurd h hc) (fun _ => kk ls hl)
theorem r_icmp_ge {M : mD} {pc q : Nat} {L : List (Option zV)} {st : List zV} {S : zS} {Po : Option zV → zS → Prop} {x y : Int32} {off : Int} {t : Nat} (hd : decode (mb M) pc = .ok (.if_icmp .ge off, 3)) (ht : (pc : Int) + off = (t : Int)) (hq : pc + 3 = q) (kt : y ≤ x → Ok M t L st S Po) (kf : ¬ (y ≤ x) → Ok M q L st S Po) : Ok M pc L (zi y :: zi x :: st) S Po := by
  subst hq
  by_cases hc : y ≤ x
  · refine r_pure (fun X G cx adr H locs cells slots Q ls hl kk => ?_) (kt hc)
    obtain ⟨hx, hb, -⟩ := cx
    exact lv_icmp_ge hx hb hd ht (fun _ => kk ls hl) (fun h => absurd hc h)
  · refine r_pure (fun X G cx adr H locs cells slots Q ls hl kk => ?_) (kf hc)
    obtain ⟨hx, hb, -⟩ := cx
    exact lv_icmp_ge hx hb hd ht (fun h => absurd h hc) (fun _ => kk ls hl)
theorem r_if_gt {M : mD} {pc q : Nat} {L : List (Option zV)} {st : List zV} {S : zS} {Po : Option zV → zS → Prop} {x : Int32} {off : Int} {t : Nat} (hd : decode (mb M) pc = .ok (.ifCond .gt off, 3)) (ht : (pc : Int) + off = (t : Int)) (hq : pc + 3 = q) (kt : 0 < x → Ok M t L st S Po) (kf : ¬ (0 < x) → Ok M q L st S Po) : Ok M pc L (zi x :: st) S Po := by
  subst hq
  by_cases hc : 0 < x
  · refine r_pure (fun X G cx adr H locs cells slots Q ls hl kk => ?_) (kt hc)
    obtain ⟨hx, hb, -⟩ := cx
    exact lv_if_gt hx hb hd ht (fun _ => kk ls hl) (fun h => absurd hc h)
  · refine r_pure (fun X G cx adr H locs cells slots Q ls hl kk => ?_) (kf hc)
    obtain ⟨hx, hb, -⟩ := cx
    exact lv_if_gt hx hb hd ht (fun h => absurd h hc) (fun _ => kk ls hl)
theorem r_icmp_gt {M : mD} {pc q : Nat} {L : List (Option zV)} {st : List zV} {S : zS} {Po : Option zV → zS → Prop} {x y : Int32} {off : Int} {t : Nat} (hd : decode (mb M) pc = .ok (.if_icmp .gt off, 3)) (ht : (pc : Int) + off = (t : Int)) (hq : pc + 3 = q) (kt : y < x → Ok M t L st S Po) (kf : ¬ (y < x) → Ok M q L st S Po) : Ok M pc L (zi y :: zi x :: st) S Po := by
  subst hq
  by_cases hc : y < x
  · refine r_pure (fun X G cx adr H locs cells slots Q ls hl kk => ?_) (kt hc)
    obtain ⟨hx, hb, -⟩ := cx
    exact lv_icmp_gt hx hb hd ht (fun _ => kk ls hl) (fun h => absurd hc h)
  · refine r_pure (fun X G cx adr H locs cells slots Q ls hl kk => ?_) (kf hc)
    obtain ⟨hx, hb, -⟩ := cx
    exact lv_icmp_gt hx hb hd ht (fun h => absurd h hc) (fun _ => kk ls hl)
theorem r_if_le {M : mD} {pc q : Nat} {L : List (Option zV)} {st : List zV} {S : zS} {Po : Option zV → zS → Prop} {x : Int32} {off : Int} {t : Nat} (hd : decode (mb M) pc = .ok (.ifCond .le off, 3)) (ht : (pc : Int) + off = (t : Int)) (hq : pc + 3 = q) (kt : x ≤ 0 → Ok M t L st S Po) (kf : ¬ (x ≤ 0) → Ok M q L st S Po) : Ok M pc L (zi x :: st) S Po := by
  subst hq
  by_cases hc : x ≤ 0
  · refine r_pure (fun X G cx adr H locs cells slots Q ls hl kk => ?_) (kt hc)
    obtain ⟨hx, hb, -⟩ := cx
    exact lv_if_le hx hb hd ht (fun _ => kk ls hl) (fun h => absurd hc h)
  · refine r_pure (fun X G cx adr H locs cells slots Q ls hl kk => ?_) (kf hc)
    obtain ⟨hx, hb, -⟩ := cx
    exact lv_if_le hx hb hd ht (fun h => absurd h hc) (fun _ => kk ls hl)
theorem r_icmp_le {M : mD} {pc q : Nat} {L : List (Option zV)} {st : List zV} {S : zS} {Po : Option zV → zS → Prop} {x y : Int32} {off : Int} {t : Nat} (hd : decode (mb M) pc = .ok (.if_icmp .le off, 3)) (ht : (pc : Int) + off = (t : Int)) (hq : pc + 3 = q) (kt : x ≤ y → Ok M t L st S Po) (kf : ¬ (x ≤ y) → Ok M q L st S Po) : Ok M pc L (zi y :: zi x :: st) S Po := by
  subst hq
  by_cases hc : x ≤ y
  · refine r_pure (fun X G cx adr H locs cells slots Q ls hl kk => ?_) (kt hc)
    obtain ⟨hx, hb, -⟩ := cx
    exact lv_icmp_le hx hb hd ht (fun _ => kk ls hl) (fun h => absurd hc h)
  · refine r_pure (fun X G cx adr H locs cells slots Q ls hl kk => ?_) (kf hc)
    obtain ⟨hx, hb, -⟩ := cx
    exact lv_icmp_le hx hb hd ht (fun h => absurd h hc) (fun _ => kk ls hl)
theorem r_ifnull {M : mD} {pc q : Nat} {L : List (Option zV)} {st : List zV} {S : zS} {Po : Option zV → zS → Prop} {r : Option (Nat × Nat)} {off : Int} {t : Nat} (hd : decode (mb M) pc = .ok (.ifnull off, 3)) (ht : (pc : Int) + off = (t : Int)) (hq : pc + 3 = q) (kt : r = none → Ok M t L st S Po) (kf : r ≠ none → Ok M q L st S Po) : Ok M pc L (zq r :: st) S Po := by
  subst hq
  cases r with
  | none =>
    refine r_pure (fun X G cx adr H locs cells slots Q ls hl kk => ?_) (kt rfl)
    obtain ⟨hx, hb, -⟩ := cx
    exact lv_ifnullN hx hb hd ht (kk ls hl)
  | some p =>
    refine r_pure (fun X G cx adr H locs cells slots Q ls hl kk => ?_) (kf (fun h => by cases h))
    obtain ⟨hx, hb, -⟩ := cx
    exact lv_ifnull hx hb hd (kk ls hl)
theorem r_ifnonnull {M : mD} {pc q : Nat} {L : List (Option zV)} {st : List zV} {S : zS} {Po : Option zV → zS → Prop} {r : Option (Nat × Nat)} {off : Int} {t : Nat} (hd : decode (mb M) pc = .ok (.ifnonnull off, 3)) (ht : (pc : Int) + off = (t : Int)) (hq : pc + 3 = q) (kt : r ≠ none → Ok M t L st S Po) (kf : r = none → Ok M q L st S Po) : Ok M pc L (zq r :: st) S Po := by
  subst hq
  cases r with
  | none =>
    refine r_pure (fun X G cx adr H locs cells slots Q ls hl kk => ?_) (kf rfl)
    obtain ⟨hx, hb, -⟩ := cx
    exact lv_ifnonnullN hx hb hd (kk ls hl)
  | some p =>
    refine r_pure (fun X G cx adr H locs cells slots Q ls hl kk => ?_) (kt (fun h => by cases h))
    obtain ⟨hx, hb, -⟩ := cx
    exact lv_ifnonnull hx hb hd ht (kk ls hl)
theorem r_tabOut {M : mD} {pc q : Nat} {L : List (Option zV)} {st : List zV} {S : zS} {Po : Option zV → zS → Prop} {dflt lo hi : Int} {offs : Array Int} {len : Nat} {x : Int32} (hd : decode (mb M) pc = .ok (.tableswitch dflt lo hi offs, len)) (h : x.toInt < lo ∨ hi < x.toInt) (hq : (pc : Int) + dflt = (q : Int)) (k : Ok M q L st S Po) : Ok M pc L (zi x :: st) S Po := by
  refine r_pure (fun X G cx adr H locs cells slots Q ls hl kk => ?_) k
  obtain ⟨hx, hb, -⟩ := cx
  exact lv_tableOut hx hb hd h hq (kk ls hl)
theorem r_tabIn {M : mD} {pc q : Nat} {L : List (Option zV)} {st : List zV} {S : zS} {Po : Option zV → zS → Prop} {dflt lo hi off : Int} {offs : Array Int} {len : Nat} {x : Int32} (hd : decode (mb M) pc = .ok (.tableswitch dflt lo hi offs, len)) (h1 : ¬ x.toInt < lo) (h2 : ¬ hi < x.toInt) (ho : offs[(x.toInt - lo).toNat]? = some off) (hq : (pc : Int) + off = (q : Int)) (k : Ok M q L st S Po) : Ok M pc L (zi x :: st) S Po := by
  refine r_pure (fun X G cx adr H locs cells slots Q ls hl kk => ?_) k
  obtain ⟨hx, hb, -⟩ := cx
  exact lv_tableIn hx hb hd h1 h2 ho hq (kk ls hl)
