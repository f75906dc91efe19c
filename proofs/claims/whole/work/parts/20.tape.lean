/-! frames: what a call may touch -/
def Fr (T : Nat → Nat → Nat → Bool) (S S1 : zS) : Prop := (∀ a b k, T a b k = false → gI S1 a b k = gI S a b k) ∧ (∀ a b k, T a b k = false → gJ S1 a b k = gJ S a b k) ∧ S1.2.2 = S.2.2
theorem Fr.rf {T : Nat → Nat → Nat → Bool} {S : zS} : Fr T S S := ⟨fun _ _ _ _ => rfl, fun _ _ _ _ => rfl, rfl⟩
theorem Fr.tr {T : Nat → Nat → Nat → Bool} {S S1 S2 : zS} (h : Fr T S S1) (g : Fr T S1 S2) : Fr T S S2 := ⟨fun a b k z => (g.1 a b k z).trans (h.1 a b k z), fun a b k z => (g.2.1 a b k z).trans (h.2.1 a b k z), g.2.2.trans h.2.2⟩
theorem Fr.i {T : Nat → Nat → Nat → Bool} {S S1 : zS} (h : Fr T S S1) {a b k : Nat} {v : Int32} (ht : T a b k = true) : Fr T S (sI S1 a b k v) := by
  refine ⟨fun x y z hz => ?_, h.2.1, h.2.2⟩
  show (if x = a ∧ y = b ∧ z = k then v else S1.1 x y z) = _
  rw [if_neg (fun q => by rw [q.1, q.2.1, q.2.2, ht] at hz; cases hz)]
  exact h.1 x y z hz
theorem Fr.j {T : Nat → Nat → Nat → Bool} {S S1 : zS} (h : Fr T S S1) {a b k : Nat} {v : Int64} (ht : T a b k = true) : Fr T S (sJ S1 a b k v) := by
  refine ⟨h.1, fun x y z hz => ?_, h.2.2⟩
  show (if x = a ∧ y = b ∧ z = k then v else S1.2.1 x y z) = _
  rw [if_neg (fun q => by rw [q.1, q.2.1, q.2.2, ht] at hz; cases hz)]
  exact h.2.1 x y z hz
theorem Fr.mono {T U : Nat → Nat → Nat → Bool} {S S1 : zS} (h : Fr T S S1) (hu : ∀ a b k, T a b k = true → U a b k = true) : Fr U S S1 := by
  have e : ∀ a b k, U a b k = false → T a b k = false := fun a b k z => by
    cases q : T a b k with
    | false => rfl
    | true => rw [hu a b k q] at z; cases z
  exact ⟨fun a b k z => h.1 a b k (e a b k z), fun a b k z => h.2.1 a b k (e a b k z), h.2.2⟩
theorem Sd.fr {T : Nat → Nat → Nat → Bool} {S S1 : zS} (hs : Sd S) (h : Fr T S S1) : Sd S1 := by
  unfold Sd Wg Wz gE gR gN gC at *
  rw [h.2.2]
  exact hs
/-! THE TAPE. four bytes of a number, the greatest first -/
def by8 (x : Int32) (j : Nat) : Int32 := (x >>> nI (24 - 8 * j)).toInt8.toInt32
theorem by8_b (x : Int32) (j : Nat) : (by8 x j).toInt8.toInt32 = by8 x j := by
  unfold by8
  rw [Int8.toInt8_toInt32]
theorem by8_s (x : Int32) (s j : Nat) (h : s = 24 - 8 * j) : (x >>> (nI s &&& 31)).toInt8.toInt32 = by8 x j := by
  subst h
  unfold by8
  have : ∀ i, i ≤ 24 → nI i &&& 31 = nI i := by decide
  rw [this _ (by omega)]
theorem by8_bv (x : Int32) (n : Nat) {u : UInt32} {v : Int32} (hn : n ≤ 24) (hu : u.toBitVec.toNat % 32 = n) (hv : (v.toBitVec.smod 32).toNat = n) : ((x.toUInt32 >>> u).toInt32).toInt8.toBitVec = ((x >>> v).toInt8).toBitVec := by
  have e1 : ((x.toUInt32 >>> u).toInt32).toInt8.toBitVec = (x.toBitVec >>> n).signExtend 8 := by
    show (x.toUInt32 >>> u).toBitVec.signExtend 8 = _
    rw [UInt32.toBitVec_shiftRight]
    show (x.toBitVec >>> (u.toBitVec % 32#32)).signExtend 8 = _
    congr 1
    show x.toBitVec >>> (u.toBitVec % 32#32).toNat = _
    rw [BitVec.toNat_umod]
    exact congrArg _ hu
  have e2 : ((x >>> v).toInt8).toBitVec = (x.toBitVec.sshiftRight n).signExtend 8 := by
    show (x >>> v).toBitVec.signExtend 8 = _
    rw [Int32.toBitVec_shiftRight]
    congr 1
    exact congrArg _ hv
  rw [e1, e2]
  ext i hi
  rw [BitVec.getElem_signExtend, BitVec.getElem_signExtend, dif_pos (by omega), dif_pos (by omega)]
  rw [BitVec.getElem_ushiftRight, BitVec.getElem_sshiftRight, dif_pos (by omega)]
  exact BitVec.getLsbD_eq_getElem (by omega)
theorem by8_u (x : Int32) (j : Nat) (h : j < 4) : ((x.toUInt32 >>> ((nI (24 - 8 * j)).toUInt32 &&& Int32.toUInt32 31)).toInt32).toInt8.toInt32 = by8 x j := by
  unfold by8
  congr 1
  apply Int8.toBitVec_inj.mp
  match j, h with
  | 0, _ => exact by8_bv x 24 (by decide) (by decide) (by decide)
  | 1, _ => exact by8_bv x 16 (by decide) (by decide) (by decide)
  | 2, _ => exact by8_bv x 8 (by decide) (by decide) (by decide)
  | 3, _ => exact by8_bv x 0 (by decide) (by decide) (by decide)
def fed (S : zS) (A o f t : Nat) (x : Int32) : zS := sI (sI (sI (sI (sI (sI (sI (sI S A 0 t (by8 x 0)) o 0 f (nI (t + 1))) A 0 (t + 1) (by8 x 1)) o 0 f (nI (t + 2))) A 0 (t + 2) (by8 x 2)) o 0 f (nI (t + 3))) A 0 (t + 3) (by8 x 3)) o 0 f (nI (t + 4))
theorem fed_f {S : zS} {A o f t : Nat} {x : Int32} : gI (fed S A o f t x) o 0 f = nI (t + 4) := if_pos ⟨rfl, rfl, rfl⟩
theorem fed_I {S : zS} {A o f t a b k : Nat} {x : Int32} (h : A ≠ o) : gI (fed S A o f t x) a b k = if a = A ∧ b = 0 ∧ t ≤ k ∧ k < t + 4 then by8 x (k - t) else if a = o ∧ b = 0 ∧ k = f then nI (t + 4) else gI S a b k := by
  unfold fed
  simp only [gI_sI]
  by_cases e : a = A ∧ b = 0
  · obtain ⟨rfl, rfl⟩ := e
    simp only [true_and]
    by_cases h0 : t ≤ k ∧ k < t + 4
    · have : k = t ∨ k = t + 1 ∨ k = t + 2 ∨ k = t + 3 := by omega
      rcases this with rfl | rfl | rfl | rfl <;> simp [h]
    · rw [if_neg h0]
      simp [h, show ¬ k = t + 3 by omega, show ¬ k = t + 2 by omega, show ¬ k = t + 1 by omega, show ¬ k = t by omega]
  · have e2 : ∀ i, ¬ (a = A ∧ b = 0 ∧ k = i) := fun i q => e ⟨q.1, q.2.1⟩
    rw [if_neg (fun (q : a = A ∧ b = 0 ∧ t ≤ k ∧ k < t + 4) => e ⟨q.1, q.2.1⟩), if_neg (e2 (t + 3)), if_neg (e2 (t + 2)), if_neg (e2 (t + 1)), if_neg (e2 t)]
    by_cases e3 : a = o ∧ b = 0 ∧ k = f
    · rw [if_pos e3, if_pos e3]
    · rw [if_neg e3, if_neg e3, if_neg e3, if_neg e3, if_neg e3]
theorem Fr.fed {T : Nat → Nat → Nat → Bool} {S S1 : zS} (h : Fr T S S1) {A o f t : Nat} {x : Int32} (hA : ∀ k, T A 0 k = true) (ho : T o 0 f = true) : Fr T S (fed S1 A o f t x) := (((((((h.i (hA _)).i ho).i (hA _)).i ho).i (hA _)).i ho).i (hA _)).i ho
def fed5 (S : zS) (A o f t : Nat) (a b c d e : Int32) : zS := fed (fed (fed (fed (fed S A o f t a) A o f (t + 4) b) A o f (t + 8) c) A o f (t + 12) d) A o f (t + 16) e
set_option maxRecDepth 100000 in
theorem ok_X11_feedOne {S : zS} (hs : Sd S) {t : Nat} (ht : gI S 11 0 1 = nI t) (h4 : t + 4 ≤ 940) (x : Int32) : Ok mX11_feedOne 0 (ent 3 [zr 11 0, zi x]) [] S (fun r S1 => r = none ∧ S1 = fed S 1200 11 1 t x) := by
  show Ok mX11_feedOne 0 [some (zr 11 0), some (zi x), none] [] S _
  refine r_bipush (q := 2) (nI 24) dX11_feedOne_0 rfl (by decide) ?_
  refine r_istore_n (q := 3) (L' := [some (zr 11 0), some (zi x), some (zi (nI 24))]) dX11_feedOne_2 rfl rfl (by decide) rfl ?_
  refine r_iload_n (q := 4) dX11_feedOne_3 rfl rfl rfl ?_
  refine r_if_ltN (q := 7) (t := 48) (by omega) dX11_feedOne_4 (by decide) rfl ?_
  refine r_aload_n (q := 8) dX11_feedOne_7 rfl rfl rfl ?_
  refine r_geti (q := 11) ck11 dX11_feedOne_8 rfl (k := 1) (by decide) wt423 (Or.inl rfl) (hs.e (by decide)) ?_
  refine r_topi (y := nI t) ht ?_
  refine r_aload_n (q := 12) dX11_feedOne_11 rfl rfl rfl ?_
  refine r_getr (q := 15) (some (1200, 0)) ck11 dX11_feedOne_12 rfl (k := 0) (by decide) wt422 rfl (hs.e (by decide)) (hs.r (by decide) (by decide)) ?_
  refine r_alen (q := 16) (by decide) (by decide) dX11_feedOne_15 rfl (hs.e (by decide)) ?_
  refine r_topi (y := nI 940) (congrArg nI (hs.n rfl (by decide))) ?_
  refine r_icmp_geN (q := 19) (t := 42) (by omega) (by omega) dX11_feedOne_16 (by decide) rfl (fun h16 => absurd h16 (by omega)) (fun h16 => ?_)
  refine r_aload_n (q := 20) dX11_feedOne_19 rfl rfl rfl ?_
  refine r_getr (q := 23) (some (1200, 0)) ck11 dX11_feedOne_20 rfl (k := 0) (by decide) wt422 rfl (hs.e (by decide)) (hs.r (by decide) (by decide)) ?_
  refine r_aload_n (q := 24) dX11_feedOne_23 rfl rfl rfl ?_
  refine r_geti (q := 27) ck11 dX11_feedOne_24 rfl (k := 1) (by decide) wt423 (Or.inl rfl) (hs.e (by decide)) ?_
  refine r_topi (y := nI t) ht ?_
  refine r_iload_n (q := 28) dX11_feedOne_27 rfl rfl rfl ?_
  refine r_iload_n (q := 29) dX11_feedOne_28 rfl rfl rfl ?_
  refine r_iushr (q := 30) dX11_feedOne_29 rfl ?_
  refine r_i2b (q := 31) dX11_feedOne_30 rfl ?_
  refine r_topi (y := by8 x 0) (by8_u x 0 (by decide)) ?_
  refine r_bastN (q := 32) 940 (by decide) rfl dX11_feedOne_31 rfl (hs.e (by decide)) (hs.n rfl (by decide)) (by omega) (by decide) ?_
  refine r_aload_n (q := 33) dX11_feedOne_32 rfl rfl rfl ?_
  refine r_dup (q := 34) dX11_feedOne_33 rfl rfl ?_
  refine r_geti (q := 37) ck11 dX11_feedOne_34 rfl (k := 1) (by decide) wt423 (Or.inl rfl) (hs.e (by decide)) ?_
  refine r_topi (y := gI S 11 0 1) (by simp [gI_sI, gJ_sJ, gI_sJ, gJ_sI]) ?_
  refine r_topi (y := nI t) ht ?_
  refine r_iconst (q := 38) (nI 1) dX11_feedOne_37 rfl (by decide) ?_
  refine r_iaddN (q := 39) dX11_feedOne_38 rfl ?_
  refine r_puti (q := 42) ck11 dX11_feedOne_39 rfl (k := 1) (by decide) wt423 (Or.inl rfl) rfl (hs.e (by decide)) ?_
  refine r_idecN (q := 45) (L' := [some (zr 11 0), some (zi x), some (zi (nI 16))]) 8 (by omega) rfl dX11_feedOne_42 rfl rfl (by decide) rfl ?_
  refine r_goto (q := 3) dX11_feedOne_45 (by decide) ?_
  refine r_iload_n (q := 4) dX11_feedOne_3 rfl rfl rfl ?_
  refine r_if_ltN (q := 7) (t := 48) (by omega) dX11_feedOne_4 (by decide) rfl ?_
  refine r_aload_n (q := 8) dX11_feedOne_7 rfl rfl rfl ?_
  refine r_geti (q := 11) ck11 dX11_feedOne_8 rfl (k := 1) (by decide) wt423 (Or.inl rfl) (hs.e (by decide)) ?_
  refine r_topi (y := nI (t + 1)) (by simp [gI_sI, gJ_sJ, gI_sJ, gJ_sI]) ?_
  refine r_aload_n (q := 12) dX11_feedOne_11 rfl rfl rfl ?_
  refine r_getr (q := 15) (some (1200, 0)) ck11 dX11_feedOne_12 rfl (k := 0) (by decide) wt422 rfl (hs.e (by decide)) (hs.r (by decide) (by decide)) ?_
  refine r_alen (q := 16) (by decide) (by decide) dX11_feedOne_15 rfl (hs.e (by decide)) ?_
  refine r_topi (y := nI 940) (congrArg nI (hs.n rfl (by decide))) ?_
  refine r_icmp_geN (q := 19) (t := 42) (by omega) (by omega) dX11_feedOne_16 (by decide) rfl (fun h16 => absurd h16 (by omega)) (fun h16 => ?_)
  refine r_aload_n (q := 20) dX11_feedOne_19 rfl rfl rfl ?_
  refine r_getr (q := 23) (some (1200, 0)) ck11 dX11_feedOne_20 rfl (k := 0) (by decide) wt422 rfl (hs.e (by decide)) (hs.r (by decide) (by decide)) ?_
  refine r_aload_n (q := 24) dX11_feedOne_23 rfl rfl rfl ?_
  refine r_geti (q := 27) ck11 dX11_feedOne_24 rfl (k := 1) (by decide) wt423 (Or.inl rfl) (hs.e (by decide)) ?_
  refine r_topi (y := nI (t + 1)) (by simp [gI_sI, gJ_sJ, gI_sJ, gJ_sI]) ?_
  refine r_iload_n (q := 28) dX11_feedOne_27 rfl rfl rfl ?_
  refine r_iload_n (q := 29) dX11_feedOne_28 rfl rfl rfl ?_
  refine r_iushr (q := 30) dX11_feedOne_29 rfl ?_
  refine r_i2b (q := 31) dX11_feedOne_30 rfl ?_
  refine r_topi (y := by8 x 1) (by8_u x 1 (by decide)) ?_
  refine r_bastN (q := 32) 940 (by decide) rfl dX11_feedOne_31 rfl (hs.e (by decide)) (hs.n rfl (by decide)) (by omega) (by decide) ?_
  refine r_aload_n (q := 33) dX11_feedOne_32 rfl rfl rfl ?_
  refine r_dup (q := 34) dX11_feedOne_33 rfl rfl ?_
  refine r_geti (q := 37) ck11 dX11_feedOne_34 rfl (k := 1) (by decide) wt423 (Or.inl rfl) (hs.e (by decide)) ?_
  refine r_topi (y := nI (t + 1)) (by simp [gI_sI, gJ_sJ, gI_sJ, gJ_sI]) ?_
  refine r_iconst (q := 38) (nI 1) dX11_feedOne_37 rfl (by decide) ?_
  refine r_iaddN (q := 39) dX11_feedOne_38 rfl ?_
  refine r_puti (q := 42) ck11 dX11_feedOne_39 rfl (k := 1) (by decide) wt423 (Or.inl rfl) rfl (hs.e (by decide)) ?_
  refine r_idecN (q := 45) (L' := [some (zr 11 0), some (zi x), some (zi (nI 8))]) 8 (by omega) rfl dX11_feedOne_42 rfl rfl (by decide) rfl ?_
  refine r_goto (q := 3) dX11_feedOne_45 (by decide) ?_
  refine r_iload_n (q := 4) dX11_feedOne_3 rfl rfl rfl ?_
  refine r_if_ltN (q := 7) (t := 48) (by omega) dX11_feedOne_4 (by decide) rfl ?_
  refine r_aload_n (q := 8) dX11_feedOne_7 rfl rfl rfl ?_
  refine r_geti (q := 11) ck11 dX11_feedOne_8 rfl (k := 1) (by decide) wt423 (Or.inl rfl) (hs.e (by decide)) ?_
  refine r_topi (y := nI ((t + 1) + 1)) (by simp [gI_sI, gJ_sJ, gI_sJ, gJ_sI]) ?_
  refine r_aload_n (q := 12) dX11_feedOne_11 rfl rfl rfl ?_
  refine r_getr (q := 15) (some (1200, 0)) ck11 dX11_feedOne_12 rfl (k := 0) (by decide) wt422 rfl (hs.e (by decide)) (hs.r (by decide) (by decide)) ?_
  refine r_alen (q := 16) (by decide) (by decide) dX11_feedOne_15 rfl (hs.e (by decide)) ?_
  refine r_topi (y := nI 940) (congrArg nI (hs.n rfl (by decide))) ?_
  refine r_icmp_geN (q := 19) (t := 42) (by omega) (by omega) dX11_feedOne_16 (by decide) rfl (fun h16 => absurd h16 (by omega)) (fun h16 => ?_)
  refine r_aload_n (q := 20) dX11_feedOne_19 rfl rfl rfl ?_
  refine r_getr (q := 23) (some (1200, 0)) ck11 dX11_feedOne_20 rfl (k := 0) (by decide) wt422 rfl (hs.e (by decide)) (hs.r (by decide) (by decide)) ?_
  refine r_aload_n (q := 24) dX11_feedOne_23 rfl rfl rfl ?_
  refine r_geti (q := 27) ck11 dX11_feedOne_24 rfl (k := 1) (by decide) wt423 (Or.inl rfl) (hs.e (by decide)) ?_
  refine r_topi (y := nI ((t + 1) + 1)) (by simp [gI_sI, gJ_sJ, gI_sJ, gJ_sI]) ?_
  refine r_iload_n (q := 28) dX11_feedOne_27 rfl rfl rfl ?_
  refine r_iload_n (q := 29) dX11_feedOne_28 rfl rfl rfl ?_
  refine r_iushr (q := 30) dX11_feedOne_29 rfl ?_
  refine r_i2b (q := 31) dX11_feedOne_30 rfl ?_
  refine r_topi (y := by8 x 2) (by8_u x 2 (by decide)) ?_
  refine r_bastN (q := 32) 940 (by decide) rfl dX11_feedOne_31 rfl (hs.e (by decide)) (hs.n rfl (by decide)) (by omega) (by decide) ?_
  refine r_aload_n (q := 33) dX11_feedOne_32 rfl rfl rfl ?_
  refine r_dup (q := 34) dX11_feedOne_33 rfl rfl ?_
  refine r_geti (q := 37) ck11 dX11_feedOne_34 rfl (k := 1) (by decide) wt423 (Or.inl rfl) (hs.e (by decide)) ?_
  refine r_topi (y := nI ((t + 1) + 1)) (by simp [gI_sI, gJ_sJ, gI_sJ, gJ_sI]) ?_
  refine r_iconst (q := 38) (nI 1) dX11_feedOne_37 rfl (by decide) ?_
  refine r_iaddN (q := 39) dX11_feedOne_38 rfl ?_
  refine r_puti (q := 42) ck11 dX11_feedOne_39 rfl (k := 1) (by decide) wt423 (Or.inl rfl) rfl (hs.e (by decide)) ?_
  refine r_idecN (q := 45) (L' := [some (zr 11 0), some (zi x), some (zi (nI 0))]) 8 (by omega) rfl dX11_feedOne_42 rfl rfl (by decide) rfl ?_
  refine r_goto (q := 3) dX11_feedOne_45 (by decide) ?_
  refine r_iload_n (q := 4) dX11_feedOne_3 rfl rfl rfl ?_
  refine r_if_ltN (q := 7) (t := 48) (by omega) dX11_feedOne_4 (by decide) rfl ?_
  refine r_aload_n (q := 8) dX11_feedOne_7 rfl rfl rfl ?_
  refine r_geti (q := 11) ck11 dX11_feedOne_8 rfl (k := 1) (by decide) wt423 (Or.inl rfl) (hs.e (by decide)) ?_
  refine r_topi (y := nI (((t + 1) + 1) + 1)) (by simp [gI_sI, gJ_sJ, gI_sJ, gJ_sI]) ?_
  refine r_aload_n (q := 12) dX11_feedOne_11 rfl rfl rfl ?_
  refine r_getr (q := 15) (some (1200, 0)) ck11 dX11_feedOne_12 rfl (k := 0) (by decide) wt422 rfl (hs.e (by decide)) (hs.r (by decide) (by decide)) ?_
  refine r_alen (q := 16) (by decide) (by decide) dX11_feedOne_15 rfl (hs.e (by decide)) ?_
  refine r_topi (y := nI 940) (congrArg nI (hs.n rfl (by decide))) ?_
  refine r_icmp_geN (q := 19) (t := 42) (by omega) (by omega) dX11_feedOne_16 (by decide) rfl (fun h16 => absurd h16 (by omega)) (fun h16 => ?_)
  refine r_aload_n (q := 20) dX11_feedOne_19 rfl rfl rfl ?_
  refine r_getr (q := 23) (some (1200, 0)) ck11 dX11_feedOne_20 rfl (k := 0) (by decide) wt422 rfl (hs.e (by decide)) (hs.r (by decide) (by decide)) ?_
  refine r_aload_n (q := 24) dX11_feedOne_23 rfl rfl rfl ?_
  refine r_geti (q := 27) ck11 dX11_feedOne_24 rfl (k := 1) (by decide) wt423 (Or.inl rfl) (hs.e (by decide)) ?_
  refine r_topi (y := nI (((t + 1) + 1) + 1)) (by simp [gI_sI, gJ_sJ, gI_sJ, gJ_sI]) ?_
  refine r_iload_n (q := 28) dX11_feedOne_27 rfl rfl rfl ?_
  refine r_iload_n (q := 29) dX11_feedOne_28 rfl rfl rfl ?_
  refine r_iushr (q := 30) dX11_feedOne_29 rfl ?_
  refine r_i2b (q := 31) dX11_feedOne_30 rfl ?_
  refine r_topi (y := by8 x 3) (by8_u x 3 (by decide)) ?_
  refine r_bastN (q := 32) 940 (by decide) rfl dX11_feedOne_31 rfl (hs.e (by decide)) (hs.n rfl (by decide)) (by omega) (by decide) ?_
  refine r_aload_n (q := 33) dX11_feedOne_32 rfl rfl rfl ?_
  refine r_dup (q := 34) dX11_feedOne_33 rfl rfl ?_
  refine r_geti (q := 37) ck11 dX11_feedOne_34 rfl (k := 1) (by decide) wt423 (Or.inl rfl) (hs.e (by decide)) ?_
  refine r_topi (y := nI (((t + 1) + 1) + 1)) (by simp [gI_sI, gJ_sJ, gI_sJ, gJ_sI]) ?_
  refine r_iconst (q := 38) (nI 1) dX11_feedOne_37 rfl (by decide) ?_
  refine r_iaddN (q := 39) dX11_feedOne_38 rfl ?_
  refine r_puti (q := 42) ck11 dX11_feedOne_39 rfl (k := 1) (by decide) wt423 (Or.inl rfl) rfl (hs.e (by decide)) ?_
  refine r_iinc (q := 45) (L' := [some (zr 11 0), some (zi x), some (zi (-8 : Int32))]) (-8 : Int32) dX11_feedOne_42 rfl rfl (by decide) (by decide) rfl ?_
  refine r_goto (q := 3) dX11_feedOne_45 (by decide) ?_
  refine r_iload_n (q := 4) dX11_feedOne_3 rfl rfl rfl ?_
  refine r_if_lt (q := 7) (t := 48) dX11_feedOne_4 (by decide) rfl (fun h4 => ?_) (fun h4 => absurd h4 (by decide))
  refine r_return dX11_feedOne_48 rfl ?_
  exact ⟨rfl, by simp only [by8_b]; rfl⟩

set_option maxRecDepth 100000 in
theorem ok_X12_four {S : zS} (hs : Sd S) {t : Nat} (ht : gI S 12 0 2 = nI t) (h4 : t + 4 ≤ 940) (x : Int32) : Ok mX12_four 0 (ent 3 [zr 12 0, zi x]) [] S (fun r S1 => r = none ∧ S1 = fed S 1301 12 2 t x) := by
  show Ok mX12_four 0 [some (zr 12 0), some (zi x), none] [] S _
  refine r_bipush (q := 2) (nI 24) dX12_four_0 rfl (by decide) ?_
  refine r_istore_n (q := 3) (L' := [some (zr 12 0), some (zi x), some (zi (nI 24))]) dX12_four_2 rfl rfl (by decide) rfl ?_
  refine r_iload_n (q := 4) dX12_four_3 rfl rfl rfl ?_
  refine r_if_ltN (q := 7) (t := 36) (by omega) dX12_four_4 (by decide) rfl ?_
  refine r_aload_n (q := 8) dX12_four_7 rfl rfl rfl ?_
  refine r_getr (q := 11) (some (1301, 0)) ck12 dX12_four_8 rfl (k := 1) (by decide) wt1279 rfl (hs.e (by decide)) (hs.r (by decide) (by decide)) ?_
  refine r_aload_n (q := 12) dX12_four_11 rfl rfl rfl ?_
  refine r_geti (q := 15) ck12 dX12_four_12 rfl (k := 2) (by decide) wt1280 (Or.inl rfl) (hs.e (by decide)) ?_
  refine r_topi (y := nI t) ht ?_
  refine r_iload_n (q := 16) dX12_four_15 rfl rfl rfl ?_
  refine r_iload_n (q := 17) dX12_four_16 rfl rfl rfl ?_
  refine r_ishr (q := 18) dX12_four_17 rfl ?_
  refine r_i2b (q := 19) dX12_four_18 rfl ?_
  refine r_topi (y := by8 x 0) (by8_s x 24 0 rfl) ?_
  refine r_bastN (q := 20) 940 (by decide) rfl dX12_four_19 rfl (hs.e (by decide)) (hs.n rfl (by decide)) (by omega) (by decide) ?_
  refine r_aload_n (q := 21) dX12_four_20 rfl rfl rfl ?_
  refine r_dup (q := 22) dX12_four_21 rfl rfl ?_
  refine r_geti (q := 25) ck12 dX12_four_22 rfl (k := 2) (by decide) wt1280 (Or.inl rfl) (hs.e (by decide)) ?_
  refine r_topi (y := gI S 12 0 2) (by simp [gI_sI, gJ_sJ, gI_sJ, gJ_sI]) ?_
  refine r_topi (y := nI t) ht ?_
  refine r_iconst (q := 26) (nI 1) dX12_four_25 rfl (by decide) ?_
  refine r_iaddN (q := 27) dX12_four_26 rfl ?_
  refine r_puti (q := 30) ck12 dX12_four_27 rfl (k := 2) (by decide) wt1280 (Or.inl rfl) rfl (hs.e (by decide)) ?_
  refine r_idecN (q := 33) (L' := [some (zr 12 0), some (zi x), some (zi (nI 16))]) 8 (by omega) rfl dX12_four_30 rfl rfl (by decide) rfl ?_
  refine r_goto (q := 3) dX12_four_33 (by decide) ?_
  refine r_iload_n (q := 4) dX12_four_3 rfl rfl rfl ?_
  refine r_if_ltN (q := 7) (t := 36) (by omega) dX12_four_4 (by decide) rfl ?_
  refine r_aload_n (q := 8) dX12_four_7 rfl rfl rfl ?_
  refine r_getr (q := 11) (some (1301, 0)) ck12 dX12_four_8 rfl (k := 1) (by decide) wt1279 rfl (hs.e (by decide)) (hs.r (by decide) (by decide)) ?_
  refine r_aload_n (q := 12) dX12_four_11 rfl rfl rfl ?_
  refine r_geti (q := 15) ck12 dX12_four_12 rfl (k := 2) (by decide) wt1280 (Or.inl rfl) (hs.e (by decide)) ?_
  refine r_topi (y := nI (t + 1)) (by simp [gI_sI, gJ_sJ, gI_sJ, gJ_sI]) ?_
  refine r_iload_n (q := 16) dX12_four_15 rfl rfl rfl ?_
  refine r_iload_n (q := 17) dX12_four_16 rfl rfl rfl ?_
  refine r_ishr (q := 18) dX12_four_17 rfl ?_
  refine r_i2b (q := 19) dX12_four_18 rfl ?_
  refine r_topi (y := by8 x 1) (by8_s x 16 1 rfl) ?_
  refine r_bastN (q := 20) 940 (by decide) rfl dX12_four_19 rfl (hs.e (by decide)) (hs.n rfl (by decide)) (by omega) (by decide) ?_
  refine r_aload_n (q := 21) dX12_four_20 rfl rfl rfl ?_
  refine r_dup (q := 22) dX12_four_21 rfl rfl ?_
  refine r_geti (q := 25) ck12 dX12_four_22 rfl (k := 2) (by decide) wt1280 (Or.inl rfl) (hs.e (by decide)) ?_
  refine r_topi (y := nI (t + 1)) (by simp [gI_sI, gJ_sJ, gI_sJ, gJ_sI]) ?_
  refine r_iconst (q := 26) (nI 1) dX12_four_25 rfl (by decide) ?_
  refine r_iaddN (q := 27) dX12_four_26 rfl ?_
  refine r_puti (q := 30) ck12 dX12_four_27 rfl (k := 2) (by decide) wt1280 (Or.inl rfl) rfl (hs.e (by decide)) ?_
  refine r_idecN (q := 33) (L' := [some (zr 12 0), some (zi x), some (zi (nI 8))]) 8 (by omega) rfl dX12_four_30 rfl rfl (by decide) rfl ?_
  refine r_goto (q := 3) dX12_four_33 (by decide) ?_
  refine r_iload_n (q := 4) dX12_four_3 rfl rfl rfl ?_
  refine r_if_ltN (q := 7) (t := 36) (by omega) dX12_four_4 (by decide) rfl ?_
  refine r_aload_n (q := 8) dX12_four_7 rfl rfl rfl ?_
  refine r_getr (q := 11) (some (1301, 0)) ck12 dX12_four_8 rfl (k := 1) (by decide) wt1279 rfl (hs.e (by decide)) (hs.r (by decide) (by decide)) ?_
  refine r_aload_n (q := 12) dX12_four_11 rfl rfl rfl ?_
  refine r_geti (q := 15) ck12 dX12_four_12 rfl (k := 2) (by decide) wt1280 (Or.inl rfl) (hs.e (by decide)) ?_
  refine r_topi (y := nI ((t + 1) + 1)) (by simp [gI_sI, gJ_sJ, gI_sJ, gJ_sI]) ?_
  refine r_iload_n (q := 16) dX12_four_15 rfl rfl rfl ?_
  refine r_iload_n (q := 17) dX12_four_16 rfl rfl rfl ?_
  refine r_ishr (q := 18) dX12_four_17 rfl ?_
  refine r_i2b (q := 19) dX12_four_18 rfl ?_
  refine r_topi (y := by8 x 2) (by8_s x 8 2 rfl) ?_
  refine r_bastN (q := 20) 940 (by decide) rfl dX12_four_19 rfl (hs.e (by decide)) (hs.n rfl (by decide)) (by omega) (by decide) ?_
  refine r_aload_n (q := 21) dX12_four_20 rfl rfl rfl ?_
  refine r_dup (q := 22) dX12_four_21 rfl rfl ?_
  refine r_geti (q := 25) ck12 dX12_four_22 rfl (k := 2) (by decide) wt1280 (Or.inl rfl) (hs.e (by decide)) ?_
  refine r_topi (y := nI ((t + 1) + 1)) (by simp [gI_sI, gJ_sJ, gI_sJ, gJ_sI]) ?_
  refine r_iconst (q := 26) (nI 1) dX12_four_25 rfl (by decide) ?_
  refine r_iaddN (q := 27) dX12_four_26 rfl ?_
  refine r_puti (q := 30) ck12 dX12_four_27 rfl (k := 2) (by decide) wt1280 (Or.inl rfl) rfl (hs.e (by decide)) ?_
  refine r_idecN (q := 33) (L' := [some (zr 12 0), some (zi x), some (zi (nI 0))]) 8 (by omega) rfl dX12_four_30 rfl rfl (by decide) rfl ?_
  refine r_goto (q := 3) dX12_four_33 (by decide) ?_
  refine r_iload_n (q := 4) dX12_four_3 rfl rfl rfl ?_
  refine r_if_ltN (q := 7) (t := 36) (by omega) dX12_four_4 (by decide) rfl ?_
  refine r_aload_n (q := 8) dX12_four_7 rfl rfl rfl ?_
  refine r_getr (q := 11) (some (1301, 0)) ck12 dX12_four_8 rfl (k := 1) (by decide) wt1279 rfl (hs.e (by decide)) (hs.r (by decide) (by decide)) ?_
  refine r_aload_n (q := 12) dX12_four_11 rfl rfl rfl ?_
  refine r_geti (q := 15) ck12 dX12_four_12 rfl (k := 2) (by decide) wt1280 (Or.inl rfl) (hs.e (by decide)) ?_
  refine r_topi (y := nI (((t + 1) + 1) + 1)) (by simp [gI_sI, gJ_sJ, gI_sJ, gJ_sI]) ?_
  refine r_iload_n (q := 16) dX12_four_15 rfl rfl rfl ?_
  refine r_iload_n (q := 17) dX12_four_16 rfl rfl rfl ?_
  refine r_ishr (q := 18) dX12_four_17 rfl ?_
  refine r_i2b (q := 19) dX12_four_18 rfl ?_
  refine r_topi (y := by8 x 3) (by8_s x 0 3 rfl) ?_
  refine r_bastN (q := 20) 940 (by decide) rfl dX12_four_19 rfl (hs.e (by decide)) (hs.n rfl (by decide)) (by omega) (by decide) ?_
  refine r_aload_n (q := 21) dX12_four_20 rfl rfl rfl ?_
  refine r_dup (q := 22) dX12_four_21 rfl rfl ?_
  refine r_geti (q := 25) ck12 dX12_four_22 rfl (k := 2) (by decide) wt1280 (Or.inl rfl) (hs.e (by decide)) ?_
  refine r_topi (y := nI (((t + 1) + 1) + 1)) (by simp [gI_sI, gJ_sJ, gI_sJ, gJ_sI]) ?_
  refine r_iconst (q := 26) (nI 1) dX12_four_25 rfl (by decide) ?_
  refine r_iaddN (q := 27) dX12_four_26 rfl ?_
  refine r_puti (q := 30) ck12 dX12_four_27 rfl (k := 2) (by decide) wt1280 (Or.inl rfl) rfl (hs.e (by decide)) ?_
  refine r_iinc (q := 33) (L' := [some (zr 12 0), some (zi x), some (zi (-8 : Int32))]) (-8 : Int32) dX12_four_30 rfl rfl (by decide) (by decide) rfl ?_
  refine r_goto (q := 3) dX12_four_33 (by decide) ?_
  refine r_iload_n (q := 4) dX12_four_3 rfl rfl rfl ?_
  refine r_if_lt (q := 7) (t := 36) dX12_four_4 (by decide) rfl (fun h4 => ?_) (fun h4 => absurd h4 (by decide))
  refine r_return dX12_four_36 rfl ?_
  exact ⟨rfl, by simp only [by8_b]; rfl⟩

set_option maxRecDepth 100000 in
theorem ok_X11_feed {S : zS} (hs : Sd S) {t : Nat} (ht : gI S 11 0 1 = nI t) (h9 : t ≤ 940) (a b d e g : Int32) : Ok mX11_feed 0 (ent 6 [zr 11 0, zi a, zi b, zi d, zi e, zi g]) [] S (fun r S1 => r = some (zi (if t + 20 ≤ 940 then nI (t + 20) else -1)) ∧ S1 = if t + 20 ≤ 940 then fed5 S 1200 11 1 t a b d e g else S) := by
  show Ok mX11_feed 0 [some (zr 11 0), some (zi a), some (zi b), some (zi d), some (zi e), some (zi g)] [] S _
  refine r_aload_n (q := 1) dX11_feed_0 rfl rfl rfl ?_
  refine r_geti (q := 4) ck11 dX11_feed_1 rfl (k := 1) (by decide) wt423 (Or.inl rfl) (hs.e (by decide)) ?_
  refine r_topi (y := nI t) ht ?_
  refine r_bipush (q := 6) (nI 20) dX11_feed_4 rfl (by decide) ?_
  refine r_iaddN (q := 7) dX11_feed_6 rfl ?_
  refine r_sipush (q := 10) (nI 940) dX11_feed_7 rfl (by decide) ?_
  refine r_icmp_leN (q := 13) (t := 15) (by omega) (by omega) dX11_feed_10 (by decide) rfl (fun h10 => ?_) (fun h10 => ?_)
  · skip
    refine r_aload_n (q := 16) dX11_feed_15 rfl rfl rfl ?_
    refine r_iload_n (q := 17) dX11_feed_16 rfl rfl rfl ?_
    refine r_callV (Mc := mX11_feedOne) (q := 20) (As := [zi a]) (st := []) ck11 dX11_feed_17 rfl rfl mkX11_feedOne wt487 wt489 wp0 rfl (Nat.le_of_ble_eq_true rfl) (Nat.le_of_ble_eq_true rfl) (by decide) (by decide) (by decide) (Or.inl rfl) (hs.e (by decide)) (ok_X11_feedOne (S := S) (t := t) hs ht (by omega) a) (fun r17 S17 hp17 => ?_)
    obtain ⟨rfl, hq17⟩ := hp17
    subst hq17
    show Ok _ _ _ [] _ _
    refine r_aload_n (q := 21) dX11_feed_20 rfl rfl rfl ?_
    refine r_iload_n (q := 22) dX11_feed_21 rfl rfl rfl ?_
    refine r_callV (Mc := mX11_feedOne) (q := 25) (As := [zi b]) (st := []) ck11 dX11_feed_22 rfl rfl mkX11_feedOne wt487 wt489 wp0 rfl (Nat.le_of_ble_eq_true rfl) (Nat.le_of_ble_eq_true rfl) (by decide) (by decide) (by decide) (Or.inl rfl) (hs.e (by decide)) (ok_X11_feedOne (S := fed S 1200 11 1 t a) (t := t + 4) hs fed_f (by omega) b) (fun r22 S22 hp22 => ?_)
    obtain ⟨rfl, hq22⟩ := hp22
    subst hq22
    show Ok _ _ _ [] _ _
    refine r_aload_n (q := 26) dX11_feed_25 rfl rfl rfl ?_
    refine r_iload_n (q := 27) dX11_feed_26 rfl rfl rfl ?_
    refine r_callV (Mc := mX11_feedOne) (q := 30) (As := [zi d]) (st := []) ck11 dX11_feed_27 rfl rfl mkX11_feedOne wt487 wt489 wp0 rfl (Nat.le_of_ble_eq_true rfl) (Nat.le_of_ble_eq_true rfl) (by decide) (by decide) (by decide) (Or.inl rfl) (hs.e (by decide)) (ok_X11_feedOne (S := fed (fed S 1200 11 1 t a) 1200 11 1 (t + 4) b) (t := t + 8) hs fed_f (by omega) d) (fun r27 S27 hp27 => ?_)
    obtain ⟨rfl, hq27⟩ := hp27
    subst hq27
    show Ok _ _ _ [] _ _
    refine r_aload_n (q := 31) dX11_feed_30 rfl rfl rfl ?_
    refine r_iload (q := 33) dX11_feed_31 rfl rfl ?_
    refine r_callV (Mc := mX11_feedOne) (q := 36) (As := [zi e]) (st := []) ck11 dX11_feed_33 rfl rfl mkX11_feedOne wt487 wt489 wp0 rfl (Nat.le_of_ble_eq_true rfl) (Nat.le_of_ble_eq_true rfl) (by decide) (by decide) (by decide) (Or.inl rfl) (hs.e (by decide)) (ok_X11_feedOne (S := fed (fed (fed S 1200 11 1 t a) 1200 11 1 (t + 4) b) 1200 11 1 (t + 8) d) (t := t + 12) hs fed_f (by omega) e) (fun r33 S33 hp33 => ?_)
    obtain ⟨rfl, hq33⟩ := hp33
    subst hq33
    show Ok _ _ _ [] _ _
    refine r_aload_n (q := 37) dX11_feed_36 rfl rfl rfl ?_
    refine r_iload (q := 39) dX11_feed_37 rfl rfl ?_
    refine r_callV (Mc := mX11_feedOne) (q := 42) (As := [zi g]) (st := []) ck11 dX11_feed_39 rfl rfl mkX11_feedOne wt487 wt489 wp0 rfl (Nat.le_of_ble_eq_true rfl) (Nat.le_of_ble_eq_true rfl) (by decide) (by decide) (by decide) (Or.inl rfl) (hs.e (by decide)) (ok_X11_feedOne (S := fed (fed (fed (fed S 1200 11 1 t a) 1200 11 1 (t + 4) b) 1200 11 1 (t + 8) d) 1200 11 1 (t + 12) e) (t := t + 16) hs fed_f (by omega) g) (fun r39 S39 hp39 => ?_)
    obtain ⟨rfl, hq39⟩ := hp39
    subst hq39
    show Ok _ _ _ [] _ _
    refine r_aload_n (q := 43) dX11_feed_42 rfl rfl rfl ?_
    refine r_geti (q := 46) ck11 dX11_feed_43 rfl (k := 1) (by decide) wt423 (Or.inl rfl) (hs.e (by decide)) ?_
    refine r_ireturn dX11_feed_46 rfl ?_
    exact ⟨by rw [if_pos (by omega)]; exact congrArg (fun z => some (zi z)) fed_f, by rw [if_pos (by omega)]; rfl⟩
  · skip
    refine r_iconst (q := 14) ((-1 : Int32)) dX11_feed_13 rfl (by decide) ?_
    refine r_ireturn dX11_feed_14 rfl ?_
    exact ⟨by rw [if_neg (by omega)], by rw [if_neg (by omega)]⟩

set_option maxRecDepth 100000 in
theorem ok_X12_feed {S : zS} (hs : Sd S) {t : Nat} (ht : gI S 12 0 2 = nI t) (h9 : t ≤ 940) (a b d e g : Int32) : Ok mX12_feed 0 (ent 6 [zr 12 0, zi a, zi b, zi d, zi e, zi g]) [] S (fun r S1 => r = some (zi (if t + 20 ≤ 940 then nI (t + 20) else -1)) ∧ S1 = if t + 20 ≤ 940 then fed5 (sI S 12 0 0 (nI 0)) 1301 12 2 t a b d e g else (sI S 12 0 0 (nI 0))) := by
  show Ok mX12_feed 0 [some (zr 12 0), some (zi a), some (zi b), some (zi d), some (zi e), some (zi g)] [] S _
  refine r_aload_n (q := 1) dX12_feed_0 rfl rfl rfl ?_
  refine r_iconst (q := 2) (nI 0) dX12_feed_1 rfl (by decide) ?_
  refine r_puti (q := 5) ck12 dX12_feed_2 rfl (k := 0) (by decide) wt1278 (Or.inl rfl) rfl (hs.e (by decide)) ?_
  refine r_aload_n (q := 6) dX12_feed_5 rfl rfl rfl ?_
  refine r_geti (q := 9) ck12 dX12_feed_6 rfl (k := 2) (by decide) wt1280 (Or.inl rfl) (hs.e (by decide)) ?_
  refine r_topi (y := gI S 12 0 2) (by simp [gI_sI, gJ_sJ, gI_sJ, gJ_sI]) ?_
  refine r_topi (y := nI t) ht ?_
  refine r_bipush (q := 11) (nI 20) dX12_feed_9 rfl (by decide) ?_
  refine r_iaddN (q := 12) dX12_feed_11 rfl ?_
  refine r_sipush (q := 15) (nI 940) dX12_feed_12 rfl (by decide) ?_
  refine r_icmp_leN (q := 18) (t := 20) (by omega) (by omega) dX12_feed_15 (by decide) rfl (fun h15 => ?_) (fun h15 => ?_)
  · skip
    refine r_aload_n (q := 21) dX12_feed_20 rfl rfl rfl ?_
    refine r_iload_n (q := 22) dX12_feed_21 rfl rfl rfl ?_
    refine r_callV (Mc := mX12_four) (q := 25) (As := [zi a]) (st := []) ck12 dX12_feed_22 rfl rfl mkX12_four wt1255 wt1257 wp65 rfl (Nat.le_of_ble_eq_true rfl) (Nat.le_of_ble_eq_true rfl) (by decide) (by decide) (by decide) (Or.inl rfl) (hs.e (by decide)) (ok_X12_four (S := sI S 12 0 0 (nI 0)) (t := t) hs ht (by omega) a) (fun r22 S22 hp22 => ?_)
    obtain ⟨rfl, hq22⟩ := hp22
    subst hq22
    show Ok _ _ _ [] _ _
    refine r_aload_n (q := 26) dX12_feed_25 rfl rfl rfl ?_
    refine r_iload_n (q := 27) dX12_feed_26 rfl rfl rfl ?_
    refine r_callV (Mc := mX12_four) (q := 30) (As := [zi b]) (st := []) ck12 dX12_feed_27 rfl rfl mkX12_four wt1255 wt1257 wp65 rfl (Nat.le_of_ble_eq_true rfl) (Nat.le_of_ble_eq_true rfl) (by decide) (by decide) (by decide) (Or.inl rfl) (hs.e (by decide)) (ok_X12_four (S := fed (sI S 12 0 0 (nI 0)) 1301 12 2 t a) (t := t + 4) hs fed_f (by omega) b) (fun r27 S27 hp27 => ?_)
    obtain ⟨rfl, hq27⟩ := hp27
    subst hq27
    show Ok _ _ _ [] _ _
    refine r_aload_n (q := 31) dX12_feed_30 rfl rfl rfl ?_
    refine r_iload_n (q := 32) dX12_feed_31 rfl rfl rfl ?_
    refine r_callV (Mc := mX12_four) (q := 35) (As := [zi d]) (st := []) ck12 dX12_feed_32 rfl rfl mkX12_four wt1255 wt1257 wp65 rfl (Nat.le_of_ble_eq_true rfl) (Nat.le_of_ble_eq_true rfl) (by decide) (by decide) (by decide) (Or.inl rfl) (hs.e (by decide)) (ok_X12_four (S := fed (fed (sI S 12 0 0 (nI 0)) 1301 12 2 t a) 1301 12 2 (t + 4) b) (t := t + 8) hs fed_f (by omega) d) (fun r32 S32 hp32 => ?_)
    obtain ⟨rfl, hq32⟩ := hp32
    subst hq32
    show Ok _ _ _ [] _ _
    refine r_aload_n (q := 36) dX12_feed_35 rfl rfl rfl ?_
    refine r_iload (q := 38) dX12_feed_36 rfl rfl ?_
    refine r_callV (Mc := mX12_four) (q := 41) (As := [zi e]) (st := []) ck12 dX12_feed_38 rfl rfl mkX12_four wt1255 wt1257 wp65 rfl (Nat.le_of_ble_eq_true rfl) (Nat.le_of_ble_eq_true rfl) (by decide) (by decide) (by decide) (Or.inl rfl) (hs.e (by decide)) (ok_X12_four (S := fed (fed (fed (sI S 12 0 0 (nI 0)) 1301 12 2 t a) 1301 12 2 (t + 4) b) 1301 12 2 (t + 8) d) (t := t + 12) hs fed_f (by omega) e) (fun r38 S38 hp38 => ?_)
    obtain ⟨rfl, hq38⟩ := hp38
    subst hq38
    show Ok _ _ _ [] _ _
    refine r_aload_n (q := 42) dX12_feed_41 rfl rfl rfl ?_
    refine r_iload (q := 44) dX12_feed_42 rfl rfl ?_
    refine r_callV (Mc := mX12_four) (q := 47) (As := [zi g]) (st := []) ck12 dX12_feed_44 rfl rfl mkX12_four wt1255 wt1257 wp65 rfl (Nat.le_of_ble_eq_true rfl) (Nat.le_of_ble_eq_true rfl) (by decide) (by decide) (by decide) (Or.inl rfl) (hs.e (by decide)) (ok_X12_four (S := fed (fed (fed (fed (sI S 12 0 0 (nI 0)) 1301 12 2 t a) 1301 12 2 (t + 4) b) 1301 12 2 (t + 8) d) 1301 12 2 (t + 12) e) (t := t + 16) hs fed_f (by omega) g) (fun r44 S44 hp44 => ?_)
    obtain ⟨rfl, hq44⟩ := hp44
    subst hq44
    show Ok _ _ _ [] _ _
    refine r_aload_n (q := 48) dX12_feed_47 rfl rfl rfl ?_
    refine r_geti (q := 51) ck12 dX12_feed_48 rfl (k := 2) (by decide) wt1280 (Or.inl rfl) (hs.e (by decide)) ?_
    refine r_ireturn dX12_feed_51 rfl ?_
    exact ⟨by rw [if_pos (by omega)]; exact congrArg (fun z => some (zi z)) fed_f, by rw [if_pos (by omega)]; rfl⟩
  · skip
    refine r_iconst (q := 19) ((-1 : Int32)) dX12_feed_18 rfl (by decide) ?_
    refine r_ireturn dX12_feed_19 rfl ?_
    exact ⟨by rw [if_neg (by omega)], by rw [if_neg (by omega)]⟩

