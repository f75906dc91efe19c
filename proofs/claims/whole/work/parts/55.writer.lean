/-! rows of kit/laws/BITS.to-paste -/
theorem wb_tb (n : Nat) : (lN n).toBitVec = BitVec.ofNat 64 n := rfl
theorem wb_inj {a b : Int64} (h : a.toBitVec = b.toBitVec) : a = b := Int64.toBitVec_inj.mp h
theorem wb_tn {n : Nat} (h : n < 2 ^ 64) : (lN n).toBitVec.toNat = n := by rw [wb_tb, BitVec.toNat_ofNat, Nat.mod_eq_of_lt h]
theorem wb_c : ∀ k, k < 64 → ((nI k).toInt64 &&& 63) = lN k := by decide +kernel
theorem wb_cu : ∀ k, k < 64 → ((nI k).toInt64.toUInt64 &&& Int64.toUInt64 63) = UInt64.ofNat k := by decide +kernel
theorem wb_sm : ∀ k, k < 64 → (BitVec.ofNat 64 k).smod 64 = BitVec.ofNat 64 k := by decide +kernel
theorem wb_lt2 {a b : Nat} (h : a < b) : 2 ^ a < 2 ^ b := Nat.pow_lt_pow_right (by decide) h
theorem wb_shr {n k : Nat} (hn : n < 2 ^ 64) (hk : k < 64) : ((lN n).toUInt64 >>> ((nI k).toInt64.toUInt64 &&& Int64.toUInt64 63)).toInt64 = lN (n / 2 ^ k) := by
  rw [wb_cu k hk]
  apply wb_inj
  apply BitVec.eq_of_toNat_eq
  show ((lN n).toUInt64 >>> UInt64.ofNat k).toNat = (BitVec.ofNat 64 _).toNat
  have h1 : (UInt64.ofNat k).toNat = k := by
    show (BitVec.ofNat 64 k).toNat = k
    rw [BitVec.toNat_ofNat, Nat.mod_eq_of_lt (by omega)]
  have h2 : (lN n).toUInt64.toNat = n := wb_tn hn
  rw [UInt64.toNat_shiftRight, h1, h2, Nat.mod_eq_of_lt hk, Nat.shiftRight_eq_div_pow, BitVec.toNat_ofNat, Nat.mod_eq_of_lt (Nat.lt_of_le_of_lt (Nat.div_le_self _ _) hn)]
theorem wb_shl (n : Nat) {k : Nat} (hk : k < 64) : lN n <<< ((nI k).toInt64 &&& 63) = lN (n * 2 ^ k) := by
  rw [wb_c k hk]
  apply wb_inj
  rw [Int64.toBitVec_shiftLeft, wb_tb, wb_tb, wb_tb, wb_sm k hk]
  apply BitVec.eq_of_toNat_eq
  rw [BitVec.shiftLeft_eq', BitVec.toNat_shiftLeft, BitVec.toNat_ofNat, BitVec.toNat_ofNat, BitVec.toNat_ofNat, Nat.mod_eq_of_lt (show k < 2 ^ 64 by omega), Nat.shiftLeft_eq, Nat.mul_mod, Nat.mod_mod, ← Nat.mul_mod]
theorem wb_and {a b : Nat} (ha : a < 2 ^ 64) (hb : b < 2 ^ 64) : lN a &&& lN b = lN (a &&& b) := by
  apply wb_inj
  rw [Int64.toBitVec_and, wb_tb, wb_tb, wb_tb]
  apply BitVec.eq_of_toNat_eq
  rw [BitVec.toNat_and, BitVec.toNat_ofNat, BitVec.toNat_ofNat, BitVec.toNat_ofNat, Nat.mod_eq_of_lt ha, Nat.mod_eq_of_lt hb, Nat.mod_eq_of_lt (Nat.and_lt_two_pow _ hb)]
theorem wb_or {a b : Nat} (ha : a < 2 ^ 64) (hb : b < 2 ^ 64) : lN a ||| lN b = lN (a ||| b) := by
  apply wb_inj
  rw [Int64.toBitVec_or, wb_tb, wb_tb, wb_tb]
  apply BitVec.eq_of_toNat_eq
  rw [BitVec.toNat_or, BitVec.toNat_ofNat, BitVec.toNat_ofNat, BitVec.toNat_ofNat, Nat.mod_eq_of_lt ha, Nat.mod_eq_of_lt hb, Nat.mod_eq_of_lt (Nat.or_lt_two_pow ha hb)]
theorem wb_mask {n k : Nat} (hn : n < 2 ^ 64) (hk : k < 64) : lN n &&& lN (2 ^ k - 1) = lN (n % 2 ^ k) := by
  rw [wb_and hn (by have := wb_lt2 hk; omega), Nat.and_two_pow_sub_one_eq_mod]

/-! texts of trees -/
def clo : List Nat → List Nat × List Nat
  | [] => ([], [])
  | l :: st => if 1 < l then ([44], (l - 1) :: st) else (41 :: (clo st).1, (clo st).2)
def nmF (x : Nat) : Nat → List Nat
  | 0 => []
  | d + 1 => (if x / 2 ^ (8 * d) % 256 = 0 then [] else [x / 2 ^ (8 * d) % 256]) ++ nmF x d
def nmB (x : Nat) : List Nat := nmF x 6
def tx (nm e : Nat → Nat) : List Nat → List Nat → List Nat
  | _, [] => []
  | st, k :: r => if k = 0 then 120 :: ((clo st).1 ++ tx nm e (clo st).2 r) else nmB (nm (k - 1)) ++ 40 :: tx nm e (e (k - 1) :: st) r
theorem nmF_len {x : Nat} : ∀ d, (nmF x d).length ≤ d
  | 0 => Nat.le_refl _
  | d + 1 => by
    have := nmF_len (x := x) d
    rw [nmF, List.length_append]
    split <;> simp <;> omega
theorem clo_len : ∀ (st : List Nat), (clo st).1.length + (clo st).2.length ≤ st.length + 1 ∧ (clo st).2.length ≤ st.length
  | [] => by simp [clo]
  | l :: st => by
    have := clo_len st
    rw [clo]
    split
    · simp; omega
    · simp; omega
theorem tx_len {nm e : Nat → Nat} : ∀ (t st : List Nat), (tx nm e st t).length ≤ 8 * acs t + 2 * lvs t + st.length
  | [], st => by simp [tx]
  | k :: r, st => by
    rw [tx, acs, lvs]
    split
    · have h1 := tx_len (nm := nm) (e := e) r (clo st).2
      have h2 := clo_len st
      rw [List.length_cons, List.length_append]
      omega
    · have h1 := tx_len (nm := nm) (e := e) r (e (k - 1) :: st)
      have h2 := nmF_len (x := nm (k - 1)) 6
      rw [List.length_append, List.length_cons]
      rw [List.length_cons] at h1
      have : (nmB (nm (k - 1))).length ≤ 6 := h2
      omega
theorem lsr_N {n k : Nat} (hn : n < 2 ^ 63) (hk : k < 64) : lN n >>> ((nI k).toInt64 &&& 63) = lN (n / 2 ^ k) := by
  rw [wb_c k hk]
  apply Int64.toBitVec_inj.mp
  rw [Int64.toBitVec_shiftRight, wb_tb, wb_tb, wb_tb]
  apply BitVec.eq_of_toNat_eq
  have e1 : ((BitVec.ofNat 64 k).smod 64).toNat = k := by
    have : ∀ k, k < 64 → ((BitVec.ofNat 64 k).smod 64).toNat = k := by decide
    exact this k hk
  show ((BitVec.ofNat 64 n).sshiftRight ((BitVec.ofNat 64 k).smod 64).toNat).toNat = _
  rw [e1]
  have hm : (BitVec.ofNat 64 n).msb = false := by
    rw [BitVec.msb_eq_false_iff_two_mul_lt, BitVec.toNat_ofNat, Nat.mod_eq_of_lt (by omega)]; omega
  rw [BitVec.sshiftRight_eq_of_msb_false hm, BitVec.toNat_ushiftRight, BitVec.toNat_ofNat, BitVec.toNat_ofNat, Nat.mod_eq_of_lt (by omega), Nat.shiftRight_eq_div_pow, Nat.mod_eq_of_lt (Nat.lt_of_le_of_lt (Nat.div_le_self _ _) (by omega))]
theorem lcmp_ne {a b : Nat} (ha : a < 2 ^ 63) (hb : b < 2 ^ 63) : lg_cmp (lN a) (lN b) ≠ 0 ↔ a ≠ b := by
  unfold lg_cmp
  by_cases h : lN a > lN b
  · rw [if_pos h]
    have := (pk_lLT hb ha).mp h
    exact ⟨fun _ => by omega, fun _ => by decide⟩
  · rw [if_neg h]
    by_cases g : lN a = lN b
    · rw [if_pos g]
      have := (pk_lEQ ha hb).mp g
      exact ⟨fun z => absurd rfl z, fun z => absurd this z⟩
    · rw [if_neg g]
      exact ⟨fun _ z => g (by rw [z]), fun _ => by decide⟩
/-- the writer's text -/
def Tx (S : zS) (l : List Nat) : Prop := gI S 10 0 3 = nI l.length ∧ ∀ i, i < l.length → gI S 1102 0 i = nI (l.getD i 0)
def tWb (a b k : Nat) : Bool := (a == 1102 || a == 10 && k == 3) && b == 0
def tWc (a b k : Nat) : Bool := tWb a b k || a == 1101 && b == 0
theorem tWc_b (a b k : Nat) (h : tWb a b k = true) : tWc a b k = true := by simp [tWc, h]

set_option maxRecDepth 100000 in
theorem ok_writeByte {S : zS} (hs : Sd S) {l : List Nat} (hx : Tx S l) (hl : l.length < 64) (v : Nat) : Ok mX10_writeByte 0 (ent 2 [zr 10 0, zi (nI v)]) [] S (fun r S1 => r = none ∧ Fr tWb S S1 ∧ Tx S1 (l ++ [v])) := by
  show Ok mX10_writeByte 0 [some (zr 10 0), some (zi (nI v))] [] S _
  refine r_aload_n (q := 1) dX10_writeByte_0 rfl rfl rfl ?_
  refine r_geti (q := 4) ck10 dX10_writeByte_1 rfl (k := 3) (by decide) wt183 (Or.inl rfl) (hs.e (by decide)) ?_
  refine r_topi (y := nI l.length) hx.1 ?_
  refine r_aload_n (q := 5) dX10_writeByte_4 rfl rfl rfl ?_
  refine r_getr (q := 8) (some (1102, 0)) ck10 dX10_writeByte_5 rfl (k := 2) (by decide) wt182 rfl (hs.e (by decide)) (hs.r (by decide) (by decide)) ?_
  refine r_alen (q := 9) (by decide) (by decide) dX10_writeByte_8 rfl (hs.e (by decide)) ?_
  refine r_topi (y := nI 64) (congrArg nI (hs.n rfl (by decide))) ?_
  refine r_icmp_geN (q := 12) (t := 32) (by omega) (by omega) dX10_writeByte_9 (by decide) rfl (fun h9 => absurd h9 (by omega)) (fun h9 => ?_)
  refine r_aload_n (q := 13) dX10_writeByte_12 rfl rfl rfl ?_
  refine r_getr (q := 16) (some (1102, 0)) ck10 dX10_writeByte_13 rfl (k := 2) (by decide) wt182 rfl (hs.e (by decide)) (hs.r (by decide) (by decide)) ?_
  refine r_aload_n (q := 17) dX10_writeByte_16 rfl rfl rfl ?_
  refine r_geti (q := 20) ck10 dX10_writeByte_17 rfl (k := 3) (by decide) wt183 (Or.inl rfl) (hs.e (by decide)) ?_
  refine r_topi (y := nI l.length) hx.1 ?_
  refine r_iload_n (q := 21) dX10_writeByte_20 rfl rfl rfl ?_
  refine r_iastN (q := 22) 64 (by decide) rfl dX10_writeByte_21 rfl (hs.e (by decide)) (hs.n rfl (by decide)) (by omega) (by decide) ?_
  refine r_aload_n (q := 23) dX10_writeByte_22 rfl rfl rfl ?_
  refine r_dup (q := 24) dX10_writeByte_23 rfl rfl ?_
  refine r_geti (q := 27) ck10 dX10_writeByte_24 rfl (k := 3) (by decide) wt183 (Or.inl rfl) (hs.e (by decide)) ?_
  refine r_topi (y := gI S 10 0 3) (by simp [gI_sI, gJ_sJ, gI_sJ, gJ_sI]) ?_
  refine r_topi (y := nI l.length) hx.1 ?_
  refine r_iconst (q := 28) (nI 1) dX10_writeByte_27 rfl (by decide) ?_
  refine r_iaddN (q := 29) dX10_writeByte_28 rfl ?_
  refine r_puti (q := 32) ck10 dX10_writeByte_29 rfl (k := 3) (by decide) wt183 (Or.inl rfl) rfl (hs.e (by decide)) ?_
  refine r_return dX10_writeByte_32 rfl ?_
  refine ⟨rfl, (Fr.rf.i rfl).i rfl, by rw [gI_sI, if_pos ⟨rfl, rfl, rfl⟩, List.length_append, List.length_singleton], fun i hi => ?_⟩
  rw [List.length_append, List.length_singleton] at hi
  rw [gI_sI, if_neg (by omega), gI_sI, getD_appN]
  by_cases h : i = l.length
  · rw [if_pos ⟨rfl, rfl, h⟩, if_neg (by omega), h, Nat.sub_self]; rfl
  · rw [if_neg (fun z => h z.2.2), if_pos (by omega)]; exact hx.2 i (by omega)

set_option maxRecDepth 100000 in
theorem lp_wname {x : Nat} (hx48 : x < 2 ^ 48) : ∀ (d : Nat) (S : zS) (l : List Nat), d ≤ 5 → Sd S → Tx S l → l.length + (d + 1) ≤ 64 → Ok mX10_writeName 3 [some (zr 10 0), some (zl (lN x)), none, some (zi (nI (8 * d))), none] [] S (fun r S1 => r = none ∧ Fr tWb S S1 ∧ Tx S1 (l ++ nmF x (d + 1))) := by
  intro d
  induction d with
  | zero =>
    intro S l hd hs hx hl
    have hb : x / 2 ^ (0) ≤ x := Nat.div_le_self _ _
    have hm := Nat.mod_lt (x / 2 ^ (0)) (show 0 < 256 by omega)
    refine r_iload_n (q := 4) dX10_writeName_3 rfl rfl rfl ?_
    refine r_if_ltN (q := 7) (t := 34) (by omega) dX10_writeName_4 (by decide) rfl ?_
    refine r_lload_n (q := 8) dX10_writeName_7 rfl rfl rfl ?_
    refine r_iload_n (q := 9) dX10_writeName_8 rfl rfl rfl ?_
    refine r_lushr (q := 10) dX10_writeName_9 rfl ?_
    refine r_topl (y := lN (x / 2 ^ 0)) (wb_shr (by omega) (by omega)) ?_
    refine r_ldc2 (q := 13) (255 : Int64) dX10_writeName_10 rfl wt753 ?_
    refine r_topl (y := lN 255) rfl ?_
    refine r_land (q := 14) dX10_writeName_13 rfl ?_
    refine r_topl (y := lN ((x / 2 ^ 0) % 256)) (wb_mask (k := 8) (by omega) (by decide)) ?_
    refine r_l2i (q := 15) dX10_writeName_14 rfl ?_
    refine r_topi (y := nI ((x / 2 ^ 0) % 256)) (lN_i _) ?_
    refine r_istore (q := 17) (L' := [some (zr 10 0), some (zl (lN x)), none, some (zi (nI 0)), some (zi (nI ((x / 2 ^ 0) % 256)))]) dX10_writeName_15 rfl (by decide) rfl ?_
    refine r_iload (q := 19) dX10_writeName_17 rfl rfl ?_
    refine r_if_eqN (q := 22) (t := 28) (by omega) dX10_writeName_19 (by decide) rfl (fun h19 => ?_) (fun h19 => ?_)
    · skip
      refine r_iinc (q := 31) (L' := [some (zr 10 0), some (zl (lN x)), none, some (zi (-8 : Int32)), some (zi (nI ((x / 2 ^ 0) % 256)))]) (-8 : Int32) dX10_writeName_28 rfl rfl (by decide) (by decide) rfl ?_
      refine r_goto (q := 3) dX10_writeName_31 (by decide) ?_
      refine r_iload_n (q := 4) dX10_writeName_3 rfl rfl rfl ?_
      refine r_if_lt (q := 7) (t := 34) dX10_writeName_4 (by decide) rfl (fun h4 => ?_) (fun h4 => absurd h4 (by decide))
      refine r_return dX10_writeName_34 rfl ?_
      refine ⟨rfl, Fr.rf, ?_⟩
      rw [nmF, nmF, if_pos (show x / 2 ^ 0 % 256 = 0 by omega)]; simpa using hx
    · skip
      refine r_aload_n (q := 23) dX10_writeName_22 rfl rfl rfl ?_
      refine r_iload (q := 25) dX10_writeName_23 rfl rfl ?_
      refine r_callV (Mc := mX10_writeByte) (q := 28) (As := [zi (nI ((x / 2 ^ 0) % 256))]) (st := []) ck10 dX10_writeName_25 rfl rfl mkX10_writeByte wt754 wt756 wp25 rfl (Nat.le_of_ble_eq_true rfl) (Nat.le_of_ble_eq_true rfl) (by decide) (by decide) (by decide) (Or.inl rfl) (hs.e (by decide)) (ok_writeByte hs hx (by omega) ((x / 2 ^ 0) % 256)) (fun r25 S25 hp25 => ?_)
      obtain ⟨rfl, w25, x25⟩ := hp25
      show Ok _ _ _ [] _ _
      refine r_iinc (q := 31) (L' := [some (zr 10 0), some (zl (lN x)), none, some (zi (-8 : Int32)), some (zi (nI ((x / 2 ^ 0) % 256)))]) (-8 : Int32) dX10_writeName_28 rfl rfl (by decide) (by decide) rfl ?_
      refine r_goto (q := 3) dX10_writeName_31 (by decide) ?_
      refine r_iload_n (q := 4) dX10_writeName_3 rfl rfl rfl ?_
      refine r_if_lt (q := 7) (t := 34) dX10_writeName_4 (by decide) rfl (fun h4 => ?_) (fun h4 => absurd h4 (by decide))
      refine r_return dX10_writeName_34 rfl ?_
      refine ⟨rfl, w25, ?_⟩
      rw [nmF, nmF, if_neg (show ¬ x / 2 ^ 0 % 256 = 0 by omega), List.append_nil]; exact x25
  | succ d ih =>
    intro S l hd hs hx hl
    have hb : x / 2 ^ (8 * (d + 1)) ≤ x := Nat.div_le_self _ _
    have hm := Nat.mod_lt (x / 2 ^ (8 * (d + 1))) (show 0 < 256 by omega)
    refine r_iload_n (q := 4) dX10_writeName_3 rfl rfl rfl ?_
    refine r_if_ltN (q := 7) (t := 34) (by omega) dX10_writeName_4 (by decide) rfl ?_
    refine r_lload_n (q := 8) dX10_writeName_7 rfl rfl rfl ?_
    refine r_iload_n (q := 9) dX10_writeName_8 rfl rfl rfl ?_
    refine r_lushr (q := 10) dX10_writeName_9 rfl ?_
    refine r_topl (y := lN (x / 2 ^ (8 * (d + 1)))) (wb_shr (by omega) (by omega)) ?_
    refine r_ldc2 (q := 13) (255 : Int64) dX10_writeName_10 rfl wt753 ?_
    refine r_topl (y := lN 255) rfl ?_
    refine r_land (q := 14) dX10_writeName_13 rfl ?_
    refine r_topl (y := lN ((x / 2 ^ (8 * (d + 1))) % 256)) (wb_mask (k := 8) (by omega) (by decide)) ?_
    refine r_l2i (q := 15) dX10_writeName_14 rfl ?_
    refine r_topi (y := nI ((x / 2 ^ (8 * (d + 1))) % 256)) (lN_i _) ?_
    refine r_istore (q := 17) (L' := [some (zr 10 0), some (zl (lN x)), none, some (zi (nI (8 * (d + 1)))), some (zi (nI ((x / 2 ^ (8 * (d + 1))) % 256)))]) dX10_writeName_15 rfl (by decide) rfl ?_
    refine r_iload (q := 19) dX10_writeName_17 rfl rfl ?_
    refine r_if_eqN (q := 22) (t := 28) (by omega) dX10_writeName_19 (by decide) rfl (fun h19 => ?_) (fun h19 => ?_)
    · skip
      refine r_idecN (q := 31) (L' := [some (zr 10 0), some (zl (lN x)), none, some (zi (nI (8 * (d + 1) - 8))), some (zi (nI ((x / 2 ^ (8 * (d + 1))) % 256)))]) 8 (by omega) rfl dX10_writeName_28 rfl rfl (by decide) rfl ?_
      refine r_goto (q := 3) dX10_writeName_31 (by decide) ?_
      refine r_mask [true, true, true, true, false] rfl ?_
      rw [show 8 * (d + 1) - 8 = 8 * d by omega]
      refine Ok.mono (ih S l (by omega) hs hx (by omega)) (fun r S1 z => ⟨z.1, z.2.1, ?_⟩)
      rw [nmF, if_pos (by omega), List.nil_append]; exact z.2.2
    · skip
      refine r_aload_n (q := 23) dX10_writeName_22 rfl rfl rfl ?_
      refine r_iload (q := 25) dX10_writeName_23 rfl rfl ?_
      refine r_callV (Mc := mX10_writeByte) (q := 28) (As := [zi (nI ((x / 2 ^ (8 * (d + 1))) % 256))]) (st := []) ck10 dX10_writeName_25 rfl rfl mkX10_writeByte wt754 wt756 wp25 rfl (Nat.le_of_ble_eq_true rfl) (Nat.le_of_ble_eq_true rfl) (by decide) (by decide) (by decide) (Or.inl rfl) (hs.e (by decide)) (ok_writeByte hs hx (by omega) ((x / 2 ^ (8 * (d + 1))) % 256)) (fun r25 S25 hp25 => ?_)
      obtain ⟨rfl, w25, x25⟩ := hp25
      show Ok _ _ _ [] _ _
      refine r_idecN (q := 31) (L' := [some (zr 10 0), some (zl (lN x)), none, some (zi (nI (8 * (d + 1) - 8))), some (zi (nI ((x / 2 ^ (8 * (d + 1))) % 256)))]) 8 (by omega) rfl dX10_writeName_28 rfl rfl (by decide) rfl ?_
      refine r_goto (q := 3) dX10_writeName_31 (by decide) ?_
      refine r_mask [true, true, true, true, false] rfl ?_
      rw [show 8 * (d + 1) - 8 = 8 * d by omega]
      refine Ok.mono (ih S25 (l ++ [x / 2 ^ (8 * (d + 1)) % 256]) (by omega) (hs.fr w25) x25 (by simp; omega)) (fun r S1 z => ⟨z.1, w25.tr z.2.1, ?_⟩)
      rw [nmF, if_neg (by omega), ← List.append_assoc]; exact z.2.2

set_option maxRecDepth 100000 in
theorem ok_writeName {S : zS} (hs : Sd S) {l : List Nat} {x : Nat} (hx48 : x < 2 ^ 48) (hx : Tx S l) (hl : l.length ≤ 58) : Ok mX10_writeName 0 (ent 5 [zr 10 0, zl (lN x)]) [] S (fun r S1 => r = none ∧ Fr tWb S S1 ∧ Tx S1 (l ++ nmB x)) := by
  show Ok mX10_writeName 0 [some (zr 10 0), some (zl (lN x)), none, none, none] [] S _
  refine r_bipush (q := 2) (nI 40) dX10_writeName_0 rfl (by decide) ?_
  refine r_istore_n (q := 3) (L' := [some (zr 10 0), some (zl (lN x)), none, some (zi (nI 40)), none]) dX10_writeName_2 rfl rfl (by decide) rfl ?_
  exact lp_wname hx48 5 S l (by omega) hs hx (by omega)

def Ms (S : zS) : List Nat → Prop
  | [] => True
  | l :: st => gI S 1101 0 st.length = nI l ∧ 1 ≤ l ∧ l ≤ 4 ∧ Ms S st
theorem Ms.cong {S S1 : zS} : ∀ {st : List Nat}, Ms S st → (∀ i, i < st.length → gI S1 1101 0 i = gI S 1101 0 i) → Ms S1 st
  | [], _, _ => trivial
  | l :: st, h, hc => ⟨(hc st.length (by simp)).trans h.1, h.2.1, h.2.2.1, h.2.2.2.cong fun i hi => hc i (by rw [List.length_cons]; omega)⟩
theorem Ms.fr {S S1 : zS} {st : List Nat} (h : Ms S st) (f : Fr tWb S S1) : Ms S1 st := h.cong fun i _ => f.1 _ _ _ rfl

set_option maxRecDepth 100000 in
theorem lp_wclo {o : Int32} : ∀ (st : List Nat) (S : zS) (l : List Nat), Sd S → st.length ≤ 6 → Ms S st → Tx S l → l.length + st.length + 1 ≤ 64 → Ok mX10_writeClosings 2 [some (zr 10 0), some (zi o), some (zi (nI st.length))] [] S (fun r S1 => r = some (zi (nI (clo st).2.length)) ∧ Fr tWc S S1 ∧ Tx S1 (l ++ (clo st).1) ∧ Ms S1 (clo st).2) := by
  intro st
  induction st with
  | nil =>
    intro S l hs h6 hm hx hl
    show Ok mX10_writeClosings 2 [some (zr 10 0), some (zi o), some (zi (nI 0))] [] S _
    refine r_iload_n (q := 3) dX10_writeClosings_2 rfl rfl rfl ?_
    refine r_if_leN (q := 6) (t := 49) (by omega) dX10_writeClosings_3 (by decide) rfl (fun h3 => ?_) (fun h3 => absurd h3 (by omega))
    refine r_iconst (q := 50) (nI 0) dX10_writeClosings_49 rfl (by decide) ?_
    refine r_ireturn dX10_writeClosings_50 rfl ?_
    exact ⟨rfl, Fr.rf, by rw [clo, List.append_nil]; exact hx, trivial⟩
  | cons v st ih =>
    intro S l hs h6 hm hx hl
    rw [List.length_cons] at h6 hl
    obtain ⟨m1, m2, m3, m4⟩ := hm
    show Ok mX10_writeClosings 2 [some (zr 10 0), some (zi o), some (zi (nI (st.length + 1)))] [] S _
    have hx' : Tx (sI S 1101 0 st.length (nI (v - 1))) l := ⟨by rw [gI_sI, if_neg (by omega)]; exact hx.1, fun i hi => by rw [gI_sI, if_neg (by omega)]; exact hx.2 i hi⟩
    have hm' : Ms (sI S 1101 0 st.length (nI (v - 1))) st := m4.cong fun i hi => by rw [gI_sI, if_neg (by omega)]
    have hf' : Fr tWc S (sI S 1101 0 st.length (nI (v - 1))) := Fr.rf.i rfl
    refine r_iload_n (q := 3) dX10_writeClosings_2 rfl rfl rfl ?_
    refine r_if_leN (q := 6) (t := 49) (by omega) dX10_writeClosings_3 (by decide) rfl (fun h3 => absurd h3 (by omega)) (fun h3 => ?_)
    refine r_aload_n (q := 7) dX10_writeClosings_6 rfl rfl rfl ?_
    refine r_getr (q := 10) (some (1101, 0)) ck10 dX10_writeClosings_7 rfl (k := 1) (by decide) wt181 rfl (hs.e (by decide)) (hs.r (by decide) (by decide)) ?_
    refine r_iload_n (q := 11) dX10_writeClosings_10 rfl rfl rfl ?_
    refine r_iconst (q := 12) (nI 1) dX10_writeClosings_11 rfl (by decide) ?_
    refine r_isubN (q := 13) (by omega) dX10_writeClosings_12 rfl ?_
    refine r_topi (y := nI st.length) (congrArg nI (by omega)) ?_
    refine r_dup2 (q := 14) dX10_writeClosings_13 rfl rfl rfl ?_
    refine r_ialdN (q := 15) 13 (by decide) rfl dX10_writeClosings_14 rfl (hs.e (by decide)) (hs.n rfl (by decide)) (by omega) (by decide) ?_
    refine r_topi (y := nI v) m1 ?_
    refine r_iconst (q := 16) (nI 1) dX10_writeClosings_15 rfl (by decide) ?_
    refine r_isubN (q := 17) (by omega) dX10_writeClosings_16 rfl ?_
    refine r_iastN (q := 18) 13 (by decide) rfl dX10_writeClosings_17 rfl (hs.e (by decide)) (hs.n rfl (by decide)) (by omega) (by decide) ?_
    refine r_aload_n (q := 19) dX10_writeClosings_18 rfl rfl rfl ?_
    refine r_getr (q := 22) (some (1101, 0)) ck10 dX10_writeClosings_19 rfl (k := 1) (by decide) wt181 rfl (hs.e (by decide)) (hs.r (by decide) (by decide)) ?_
    refine r_iload_n (q := 23) dX10_writeClosings_22 rfl rfl rfl ?_
    refine r_iconst (q := 24) (nI 1) dX10_writeClosings_23 rfl (by decide) ?_
    refine r_isubN (q := 25) (by omega) dX10_writeClosings_24 rfl ?_
    refine r_topi (y := nI st.length) (congrArg nI (by omega)) ?_
    refine r_ialdN (q := 26) 13 (by decide) rfl dX10_writeClosings_25 rfl (hs.e (by decide)) (hs.n rfl (by decide)) (by omega) (by decide) ?_
    refine r_topi (y := nI (v - 1)) (by simp [gI_sI, gJ_sJ, gI_sJ, gJ_sI]) ?_
    refine r_if_leN (q := 29) (t := 37) (by omega) dX10_writeClosings_26 (by decide) rfl (fun h26 => ?_) (fun h26 => ?_)
    · skip
      refine r_aload_n (q := 38) dX10_writeClosings_37 rfl rfl rfl ?_
      refine r_bipush (q := 40) (nI 41) dX10_writeClosings_38 rfl (by decide) ?_
      refine r_callV (Mc := mX10_writeByte) (q := 43) (As := [zi (nI 41)]) (st := []) ck10 dX10_writeClosings_40 rfl rfl mkX10_writeByte wt754 wt756 wp25 rfl (Nat.le_of_ble_eq_true rfl) (Nat.le_of_ble_eq_true rfl) (by decide) (by decide) (by decide) (Or.inl rfl) (hs.e (by decide)) (ok_writeByte (S := sI S 1101 0 st.length (nI (v - 1))) hs hx' (by omega) 41) (fun r40 S40 hp40 => ?_)
      obtain ⟨rfl, w40, x40⟩ := hp40
      show Ok _ _ _ [] _ _
      refine r_idecN (q := 46) (L' := [some (zr 10 0), some (zi o), some (zi (nI (st.length + 1 - 1)))]) 1 (by omega) rfl dX10_writeClosings_43 rfl rfl (by decide) rfl ?_
      refine r_goto (q := 2) dX10_writeClosings_46 (by decide) ?_
      have e1 : clo (v :: st) = (41 :: (clo st).1, (clo st).2) := by rw [clo, if_neg (by omega)]
      rw [e1]
      refine Ok.mono (ih S40 (l ++ [41]) (Sd.fr (S := sI S 1101 0 st.length (nI (v - 1))) hs w40) (by omega) (hm'.fr w40) x40 (by simp; omega)) (fun r S1 z => ⟨z.1, (hf'.tr (w40.mono tWc_b)).tr z.2.1, ?_, z.2.2.2⟩)
      have := z.2.2.1
      rw [List.append_assoc] at this
      exact this
    · skip
      refine r_aload_n (q := 30) dX10_writeClosings_29 rfl rfl rfl ?_
      refine r_bipush (q := 32) (nI 44) dX10_writeClosings_30 rfl (by decide) ?_
      refine r_callV (Mc := mX10_writeByte) (q := 35) (As := [zi (nI 44)]) (st := []) ck10 dX10_writeClosings_32 rfl rfl mkX10_writeByte wt754 wt756 wp25 rfl (Nat.le_of_ble_eq_true rfl) (Nat.le_of_ble_eq_true rfl) (by decide) (by decide) (by decide) (Or.inl rfl) (hs.e (by decide)) (ok_writeByte (S := sI S 1101 0 st.length (nI (v - 1))) hs hx' (by omega) 44) (fun r32 S32 hp32 => ?_)
      obtain ⟨rfl, w32, x32⟩ := hp32
      show Ok _ _ _ [] _ _
      refine r_iload_n (q := 36) dX10_writeClosings_35 rfl rfl rfl ?_
      refine r_ireturn dX10_writeClosings_36 rfl ?_
      have e1 : clo (v :: st) = ([44], (v - 1) :: st) := by rw [clo, if_pos (by omega)]
      rw [e1]
      exact ⟨rfl, hf'.tr (w32.mono tWc_b), x32, (w32.1 _ _ _ rfl).trans (by rw [gI_sI, if_pos ⟨rfl, rfl, rfl⟩]), by omega, by omega, hm'.fr w32⟩

set_option maxRecDepth 100000 in
theorem ok_writeClosings {S : zS} (hs : Sd S) {st l : List Nat} (h6 : st.length ≤ 6) (hm : Ms S st) (hx : Tx S l) (hl : l.length + st.length + 1 ≤ 64) : Ok mX10_writeClosings 0 (ent 3 [zr 10 0, zi (nI st.length)]) [] S (fun r S1 => r = some (zi (nI (clo st).2.length)) ∧ Fr tWc S S1 ∧ Tx S1 (l ++ (clo st).1) ∧ Ms S1 (clo st).2) := by
  show Ok mX10_writeClosings 0 [some (zr 10 0), some (zi (nI st.length)), none] [] S _
  refine r_iload_n (q := 1) dX10_writeClosings_0 rfl rfl rfl ?_
  refine r_istore_n (q := 2) (L' := [some (zr 10 0), some (zi (nI st.length)), some (zi (nI st.length))]) dX10_writeClosings_1 rfl rfl (by decide) rfl ?_
  exact lp_wclo st S l hs h6 hm hx hl

set_option maxRecDepth 100000 in
theorem lp_write {W : zWd} {s : Nat} (hW : Wok W) (hs4 : s < 4) {key n : Int32} {cnt : Nat} (hcnt : cnt ≤ 13) : ∀ (t : List Nat) (S : zS) (st l : List Nat) (p m : Nat), Sd S → gI S 9 s 1 = nI (wA W) → (∀ a, a < wA W → gI S 1003 s a = nI (we W a) ∧ gJ S 1002 s a = lN (wn W a)) → Fs (wA W) (we W) t m → p + t.length = cnt → (∀ i, i < t.length → gI S 1100 0 (p + i) = nI (nd (t.getD i 0))) → Ms S st → Tx S l → st.length + acs t ≤ 6 → l.length + (8 * acs t + 2 * lvs t + st.length) ≤ 62 → Ok mX10_write 22 [some (zr 10 0), some (zr 9 s), some (zi key), some (zi n), some (zi (nI st.length)), some (zi (nI cnt)), some (zi (nI p)), none] [] S (fun r S1 => r = none ∧ Fr tWc S S1 ∧ Tx S1 (l ++ tx (wn W) (we W) st t)) := by
  intro t
  induction t with
  | nil =>
    intro S st l p m hs hA he hf hp hr hm hx h6 hl
    obtain rfl : p = cnt := by simpa using hp
    refine r_iload (q := 24) dX10_write_22 rfl rfl ?_
    refine r_iload (q := 26) dX10_write_24 rfl rfl ?_
    refine r_icmp_geN (q := 29) (t := 104) (by omega) (by omega) dX10_write_26 (by decide) rfl (fun h26 => ?_) (fun h26 => absurd h26 (by omega))
    refine r_return dX10_write_104 rfl ?_
    exact ⟨rfl, Fr.rf, by rw [tx, List.append_nil]; exact hx⟩
  | cons k r ih =>
    intro S st l p m hs hA he hf hp hr hm hx h6 hl
    have h1 := hf.1
    have h2 := hf.2
    have hE := hW.2.1
    have hk3 := Nat.le_trans (hf.tok k List.mem_cons_self) hE.1
    rw [List.length_cons] at hp
    have r0 : gI S 1100 0 p = nI (nd k) := by have := hr 0 (by simp); rw [Nat.add_zero] at this; exact this
    have hr' : ∀ i, i < r.length → gI S 1100 0 (p + 1 + i) = nI (nd (r.getD i 0)) := fun i hi => by have := hr (i + 1) (by simp; omega); rw [show p + 1 + i = p + (i + 1) by omega]; exact this
    rw [acs, lvs] at *
    rw [tx]
    by_cases h0 : k = 0
    · rw [if_pos h0] at h2 h6 hl ⊢
      rw [if_pos h0] at hl
      subst h0
      have r0 : gI S 1100 0 p = nI 3 := r0
      refine r_iload (q := 24) dX10_write_22 rfl rfl ?_
      refine r_iload (q := 26) dX10_write_24 rfl rfl ?_
      refine r_icmp_geN (q := 29) (t := 104) (by omega) (by omega) dX10_write_26 (by decide) rfl (fun h26 => absurd h26 (by omega)) (fun h26 => ?_)
      refine r_aload_n (q := 30) dX10_write_29 rfl rfl rfl ?_
      refine r_getr (q := 33) (some (1100, 0)) ck10 dX10_write_30 rfl (k := 0) (by decide) wt180 rfl (hs.e (by decide)) (hs.r (by decide) (by decide)) ?_
      refine r_iload (q := 35) dX10_write_33 rfl rfl ?_
      refine r_ialdN (q := 36) 13 (by decide) rfl dX10_write_35 rfl (hs.e (by decide)) (hs.n rfl (by decide)) (by omega) (by decide) ?_
      refine r_topi (y := nI 3) r0 ?_
      refine r_istore (q := 38) (L' := [some (zr 10 0), some (zr 9 s), some (zi key), some (zi n), some (zi (nI st.length)), some (zi (nI cnt)), some (zi (nI p)), some (zi (nI 3))]) dX10_write_36 rfl (by decide) rfl ?_
      refine r_aload_n (q := 39) dX10_write_38 rfl rfl rfl ?_
      refine r_iload (q := 41) dX10_write_39 rfl rfl ?_
      refine r_callV (Mc := mX9_hasAct) (q := 44) (As := [zi (nI 3)]) (st := []) ck9 dX10_write_41 rfl rfl mkX9_hasAct wt748 wt683 wt684 rfl (Nat.le_of_ble_eq_true rfl) (Nat.le_of_ble_eq_true rfl) (by decide) (by decide) (by decide) (Or.inl rfl) (hs.e (show s < 4 by omega)) (ok_X9_hasAct_out hs hs4 hA hE.1 (fun z => by have := (nI_ltI (by omega) (by have := hE.1; omega)).mp z.2; have := hE.1; omega)) (fun r41 S41 hp41 => ?_)
      obtain ⟨rfl, hq41⟩ := hp41
      rw [hq41]
      show Ok _ _ _ [zi (nI 0)] _ _
      refine r_if_eqN (q := 47) (t := 84) (by omega) dX10_write_44 (by decide) rfl (fun h44 => ?_) (fun h44 => absurd h44 (by omega))
      refine r_aload_n (q := 85) dX10_write_84 rfl rfl rfl ?_
      refine r_bipush (q := 87) (nI 120) dX10_write_85 rfl (by decide) ?_
      refine r_callV (Mc := mX10_writeByte) (q := 90) (As := [zi (nI 120)]) (st := []) ck10 dX10_write_87 rfl rfl mkX10_writeByte wt754 wt756 wp25 rfl (Nat.le_of_ble_eq_true rfl) (Nat.le_of_ble_eq_true rfl) (by decide) (by decide) (by decide) (Or.inl rfl) (hs.e (by decide)) (ok_writeByte hs hx (by omega) 120) (fun r87 S87 hp87 => ?_)
      obtain ⟨rfl, w87, x87⟩ := hp87
      show Ok _ _ _ [] _ _
      refine r_aload_n (q := 91) dX10_write_90 rfl rfl rfl ?_
      refine r_iload (q := 93) dX10_write_91 rfl rfl ?_
      refine r_callV (Mc := mX10_writeClosings) (q := 96) (As := [zi (nI st.length)]) (st := []) ck10 dX10_write_93 rfl rfl mkX10_writeClosings wt758 wt760 wp26 rfl (Nat.le_of_ble_eq_true rfl) (Nat.le_of_ble_eq_true rfl) (by decide) (by decide) (by decide) (Or.inl rfl) ((hs.fr w87).e (by decide)) (ok_writeClosings (hs.fr w87) (by omega) (hm.fr w87) x87 (by simp; omega)) (fun r93 S93 hp93 => ?_)
      obtain ⟨rfl, w93, x93, m93⟩ := hp93
      show Ok _ _ _ [zi (nI ((clo st).2.length))] _ _
      refine r_istore (q := 98) (L' := [some (zr 10 0), some (zr 9 s), some (zi key), some (zi n), some (zi (nI ((clo st).2.length))), some (zi (nI cnt)), some (zi (nI p)), some (zi (nI 3))]) dX10_write_96 rfl (by decide) rfl ?_
      refine r_iincN (q := 101) (L' := [some (zr 10 0), some (zr 9 s), some (zi key), some (zi n), some (zi (nI ((clo st).2.length))), some (zi (nI cnt)), some (zi (nI (p + 1))), some (zi (nI 3))]) 1 rfl dX10_write_98 rfl rfl (by decide) rfl ?_
      refine r_goto (q := 22) dX10_write_101 (by decide) ?_
      refine r_mask [true, true, true, true, true, true, true, false] rfl ?_
      have fA : Fr tWc S S93 := (w87.mono tWc_b).tr w93
      have cl2 := clo_len st
      refine Ok.mono (ih S93 (clo st).2 (l ++ [120] ++ (clo st).1) (p + 1) _ ((hs.fr w87).fr w93) ((fA.1 _ _ _ rfl).trans hA) (fun a ha => ⟨(fA.1 _ _ _ rfl).trans (he a ha).1, (fA.2.1 _ _ _ rfl).trans (he a ha).2⟩) h2 (by omega) (fun i hi => (fA.1 _ _ _ rfl).trans (hr' i hi)) m93 x93 (by omega) (by simp; omega)) (fun r S1 z => ⟨z.1, fA.tr z.2.1, ?_⟩)
      have := z.2.2
      rw [List.append_assoc, List.append_assoc] at this
      exact this
    · rw [if_neg h0] at h2 h6 hl ⊢
      rw [if_neg h0] at hl
      have e0 : nd k = k - 1 := if_neg h0
      rw [e0] at r0
      have hkA : k - 1 < wA W := by omega
      have hE2 := hE.2 (k - 1) hkA
      obtain ⟨e1, e2⟩ := he (k - 1) hkA
      have hA3 := hE.1
      have hN := hW.2.2.1.2.1 (k - 1) hkA
      have hl6 : (nmB (wn W (k - 1))).length ≤ 6 := nmF_len 6
      refine r_iload (q := 24) dX10_write_22 rfl rfl ?_
      refine r_iload (q := 26) dX10_write_24 rfl rfl ?_
      refine r_icmp_geN (q := 29) (t := 104) (by omega) (by omega) dX10_write_26 (by decide) rfl (fun h26 => absurd h26 (by omega)) (fun h26 => ?_)
      refine r_aload_n (q := 30) dX10_write_29 rfl rfl rfl ?_
      refine r_getr (q := 33) (some (1100, 0)) ck10 dX10_write_30 rfl (k := 0) (by decide) wt180 rfl (hs.e (by decide)) (hs.r (by decide) (by decide)) ?_
      refine r_iload (q := 35) dX10_write_33 rfl rfl ?_
      refine r_ialdN (q := 36) 13 (by decide) rfl dX10_write_35 rfl (hs.e (by decide)) (hs.n rfl (by decide)) (by omega) (by decide) ?_
      refine r_topi (y := nI (k - 1)) r0 ?_
      refine r_istore (q := 38) (L' := [some (zr 10 0), some (zr 9 s), some (zi key), some (zi n), some (zi (nI st.length)), some (zi (nI cnt)), some (zi (nI p)), some (zi (nI (k - 1)))]) dX10_write_36 rfl (by decide) rfl ?_
      refine r_aload_n (q := 39) dX10_write_38 rfl rfl rfl ?_
      refine r_iload (q := 41) dX10_write_39 rfl rfl ?_
      refine r_callV (Mc := mX9_hasAct) (q := 44) (As := [zi (nI (k - 1))]) (st := []) ck9 dX10_write_41 rfl rfl mkX9_hasAct wt748 wt683 wt684 rfl (Nat.le_of_ble_eq_true rfl) (Nat.le_of_ble_eq_true rfl) (by decide) (by decide) (by decide) (Or.inl rfl) (hs.e (show s < 4 by omega)) (ok_X9_hasAct_in hs hs4 hA hA3 hkA) (fun r41 S41 hp41 => ?_)
      obtain ⟨rfl, hq41⟩ := hp41
      rw [hq41]
      show Ok _ _ _ [zi (nI 1)] _ _
      refine r_if_eqN (q := 47) (t := 84) (by omega) dX10_write_44 (by decide) rfl (fun h44 => absurd h44 (by omega)) (fun h44 => ?_)
      refine r_aload_n (q := 48) dX10_write_47 rfl rfl rfl ?_
      refine r_aload_n (q := 49) dX10_write_48 rfl rfl rfl ?_
      refine r_getr (q := 52) (some (1002, s)) ck9 dX10_write_49 rfl (k := 2) (by decide) wt303 rfl (hs.e (show s < 4 by omega)) (hs.r (show s < 4 by omega) (by decide)) ?_
      refine r_iload (q := 54) dX10_write_52 rfl rfl ?_
      refine r_laldN (q := 55) 3 (by decide) rfl dX10_write_54 rfl (hs.e (show s < 4 by omega)) (hs.n rfl (show s < 4 by omega)) (by omega) (by decide) ?_
      refine r_topl (y := lN (wn W (k - 1))) e2 ?_
      refine r_callV (Mc := mX10_writeName) (q := 58) (As := [zl (lN (wn W (k - 1)))]) (st := []) ck10 dX10_write_55 rfl rfl mkX10_writeName wt749 wt751 wp24 rfl (Nat.le_of_ble_eq_true rfl) (Nat.le_of_ble_eq_true rfl) (by decide) (by decide) (by decide) (Or.inl rfl) (hs.e (by decide)) (ok_writeName hs hN.1 hx (by omega)) (fun r55 S55 hp55 => ?_)
      obtain ⟨rfl, w55, x55⟩ := hp55
      show Ok _ _ _ [] _ _
      refine r_aload_n (q := 59) dX10_write_58 rfl rfl rfl ?_
      refine r_bipush (q := 61) (nI 40) dX10_write_59 rfl (by decide) ?_
      refine r_callV (Mc := mX10_writeByte) (q := 64) (As := [zi (nI 40)]) (st := []) ck10 dX10_write_61 rfl rfl mkX10_writeByte wt754 wt756 wp25 rfl (Nat.le_of_ble_eq_true rfl) (Nat.le_of_ble_eq_true rfl) (by decide) (by decide) (by decide) (Or.inl rfl) ((hs.fr w55).e (by decide)) (ok_writeByte (hs.fr w55) x55 (by simp; omega) 40) (fun r61 S61 hp61 => ?_)
      obtain ⟨rfl, w61, x61⟩ := hp61
      show Ok _ _ _ [] _ _
      refine r_aload_n (q := 65) dX10_write_64 rfl rfl rfl ?_
      refine r_getr (q := 68) (some (1101, 0)) ck10 dX10_write_65 rfl (k := 1) (by decide) wt181 rfl ((hs.fr (w55.tr w61)).e (by decide)) ((hs.fr (w55.tr w61)).r (by decide) (by decide)) ?_
      refine r_iload (q := 70) dX10_write_68 rfl rfl ?_
      refine r_aload_n (q := 71) dX10_write_70 rfl rfl rfl ?_
      refine r_getr (q := 74) (some (1003, s)) ck9 dX10_write_71 rfl (k := 3) (by decide) wt306 rfl ((hs.fr (w55.tr w61)).e (show s < 4 by omega)) ((hs.fr (w55.tr w61)).r (show s < 4 by omega) (by decide)) ?_
      refine r_iload (q := 76) dX10_write_74 rfl rfl ?_
      refine r_ialdN (q := 77) 3 (by decide) rfl dX10_write_76 rfl ((hs.fr (w55.tr w61)).e (show s < 4 by omega)) ((hs.fr (w55.tr w61)).n rfl (show s < 4 by omega)) (by omega) (by decide) ?_
      refine r_topi (y := nI (we W (k - 1))) ((w61.1 _ _ _ rfl).trans ((w55.1 _ _ _ rfl).trans e1)) ?_
      refine r_iastN (q := 78) 13 (by decide) rfl dX10_write_77 rfl ((hs.fr (w55.tr w61)).e (by decide)) ((hs.fr (w55.tr w61)).n rfl (by decide)) (by omega) (by decide) ?_
      refine r_iincN (q := 81) (L' := [some (zr 10 0), some (zr 9 s), some (zi key), some (zi n), some (zi (nI (st.length + 1))), some (zi (nI cnt)), some (zi (nI p)), some (zi (nI (k - 1)))]) 1 rfl dX10_write_78 rfl rfl (by decide) rfl ?_
      refine r_goto (q := 98) dX10_write_81 (by decide) ?_
      refine r_iincN (q := 101) (L' := [some (zr 10 0), some (zr 9 s), some (zi key), some (zi n), some (zi (nI (st.length + 1))), some (zi (nI cnt)), some (zi (nI (p + 1))), some (zi (nI (k - 1)))]) 1 rfl dX10_write_98 rfl rfl (by decide) rfl ?_
      refine r_goto (q := 22) dX10_write_101 (by decide) ?_
      refine r_mask [true, true, true, true, true, true, true, false] rfl ?_
      have fB : Fr tWc S S61 := (w55.mono tWc_b).tr (w61.mono tWc_b)
      have fA : Fr tWc S (sI S61 1101 0 st.length (nI (we W (k - 1)))) := fB.i rfl
      refine Ok.mono (ih (sI S61 1101 0 st.length (nI (we W (k - 1)))) (we W (k - 1) :: st) (l ++ nmB (wn W (k - 1)) ++ [40]) (p + 1) _ (hs.fr fA) ((fA.1 _ _ _ rfl).trans hA) (fun a ha => ⟨(fA.1 _ _ _ rfl).trans (he a ha).1, (fA.2.1 _ _ _ rfl).trans (he a ha).2⟩) h2.2 (by omega) (fun i hi => (fA.1 _ _ _ rfl).trans (hr' i hi)) ⟨by rw [gI_sI, if_pos ⟨rfl, rfl, rfl⟩], by omega, by omega, ((hm.fr w55).fr w61).cong fun i hi => by rw [gI_sI, if_neg (by omega)]⟩ ⟨by rw [gI_sI, if_neg (by omega)]; exact x61.1, fun i hi => by rw [gI_sI, if_neg (by omega)]; exact x61.2 i hi⟩ (by simp; omega) (by simp; omega)) (fun r S1 z => ⟨z.1, fA.tr z.2.1, ?_⟩)
      have := z.2.2
      rw [List.append_assoc, List.append_assoc, List.singleton_append] at this
      exact this

