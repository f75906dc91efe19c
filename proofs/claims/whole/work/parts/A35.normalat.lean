/-! the k-th normal tree -/
def fN (b : Nat → Bool) : Nat → Nat → Int32 → Option Nat
  | 0, _, _ => none
  | d + 1, t, k => if b t = true then (if k = 0 then some t else fN b d (t + 1) (k + (-1))) else fN b d (t + 1) k
def rN : Option Nat → Int32
  | some t => nI t
  | none => -1
def bAt (l : List Nat) (i : Int32) : Int32 := if 0 ≤ i ∧ i < nI l.length then nI (l.getD i.toNatClampNeg 0) else -1
def nAo (W : zWd) (n : Nat) (i : Int32) : Option Nat → Int32
  | none => -1
  | some t => bAt (tx (wn W) (we W) [] ((tl W n).getD t [])) i
theorem fN_lt {b : Nat → Bool} : ∀ {d t s : Nat} {k : Int32}, fN b d t k = some s → t ≤ s ∧ s < t + d ∧ b s = true
  | 0, t, s, k, h => by cases h
  | d + 1, t, s, k, h => by
    rw [fN] at h
    split at h
    · rename_i hb
      split at h
      · cases h; exact ⟨by omega, by omega, hb⟩
      · have := fN_lt h; exact ⟨by omega, by omega, this.2.2⟩
    · have := fN_lt h; exact ⟨by omega, by omega, this.2.2⟩
theorem fN_cong {b b' : Nat → Bool} : ∀ {d t : Nat} {k : Int32}, (∀ s, t ≤ s → s < t + d → b s = b' s) → fN b d t k = fN b' d t k
  | 0, t, k, h => rfl
  | d + 1, t, k, h => by
    rw [fN, fN, h t (by omega) (by omega), fN_cong (fun s a c => h s (by omega) (by omega)), fN_cong (fun s a c => h s (by omega) (by omega))]
theorem pred_nat {k : Int32} (h : 1 ≤ k.toBitVec.toNat) : (k + (-1)).toBitVec.toNat + 1 = k.toBitVec.toNat := by
  rw [Int32.toBitVec_add, show (-1 : Int32).toBitVec = 4294967295#32 from rfl, BitVec.toNat_add]
  have := k.toBitVec.isLt
  simp
  omega
theorem fN_big {b : Nat → Bool} : ∀ {d t : Nat} {k : Int32}, d < k.toBitVec.toNat → fN b d t k = none
  | 0, t, k, h => rfl
  | d + 1, t, k, h => by
    rw [fN]
    have h1 := pred_nat (k := k) (by omega)
    have h2 : fN b d (t + 1) (k + (-1)) = none := fN_big (by omega)
    have h3 : fN b d (t + 1) k = none := fN_big (by omega)
    have h4 : ¬ k = 0 := fun z => by rw [z] at h; simp at h
    rw [h2, h3, if_neg h4]
    split <;> rfl
theorem neg_big {k : Int32} (h : k < 0) : 2147483648 ≤ k.toBitVec.toNat := by
  have h1 : k.toInt < 0 := Int32.lt_iff_toInt_lt.mp h
  have h2 : k.toInt = k.toBitVec.toInt := rfl
  rw [h2, BitVec.toInt_eq_toNat_cond] at h1
  have := k.toBitVec.isLt
  split at h1 <;> omega
theorem bAt_in {l : List Nat} {m : Nat} (h : m < l.length) (hl : l.length < 2147483648) : bAt l (nI m) = nI (l.getD m 0) := by
  unfold bAt
  rw [nI_clamp (by omega)]
  exact if_pos ⟨(nI_leI (a := 0) (b := m) (by decide) (by omega)).mpr (Nat.zero_le m), (nI_ltI (by omega) (by omega)).mpr h⟩
theorem bAt_out {l : List Nat} {i : Int32} (h : ¬ (0 ≤ i ∧ i < nI l.length)) : bAt l i = -1 := if_neg h
theorem tx_small {W : zWd} (hE : Eok (wA W) (we W)) {n t : Nat} (hn : n ≤ 7) (ht : t < (tl W n).length) : (tx (wn W) (we W) [] ((tl W n).getD t [])).length ≤ 120 := by
  have h1 := tx_len (nm := wn W) (e := we W) ((tl W n).getD t []) []
  have htr := tl_tr hE ht
  have h2 := Fs.cnt hE.two htr.1
  rw [htr.2] at h1 h2
  simp only [List.length_nil] at h1
  omega

set_option maxRecDepth 100000 in
theorem lp_ntree {S : zS} (hs : Sd S) {b n f0 : Nat} (hb4 : b < 4) (hn7 : n ≤ 7) {T : List (List Nat)} (hL : Lx S b n f0 T) {mk : Nat → Nat} (hM : Mx S b f0 T.length mk) {k0 : Int32} : ∀ (d t : Nat) (k : Int32), t + d = T.length → Ok mX0_normalTree 5 [some (zr 0 b), some (zi (nI n)), some (zi k0), some (zi k), some (zi (nI t))] [] S (fun r S1 => r = some (zi (rN (fN (fun s => decide (mk s = 0)) d t k))) ∧ S1 = S) := by
  have hT300 := hL.2.2.2.1
  intro d
  induction d with
  | zero =>
    intro t k ht
    obtain rfl : t = T.length := by omega
    refine r_iload (q := 7) dX0_normalTree_5 rfl rfl ?_
    refine r_aload_n (q := 8) dX0_normalTree_7 rfl rfl rfl ?_
    refine r_iload_n (q := 9) dX0_normalTree_8 rfl rfl rfl ?_
    refine r_callV (Mc := mX0_treesOf) (q := 12) (As := [zi (nI n)]) (st := [zi (nI T.length)]) ck0 dX0_normalTree_9 rfl rfl mkX0_treesOf wt788 wt789 wt790 rfl (Nat.le_of_ble_eq_true rfl) (Nat.le_of_ble_eq_true rfl) (by decide) (by decide) (by decide) (Or.inl rfl) (hs.e (show b < 4 by omega)) (ok_treesOf hs hb4 hn7 hL) (fun r9 S9 hp9 => ?_)
    obtain ⟨rfl, hq9⟩ := hp9
    rw [hq9]
    show Ok _ _ _ [zi (nI T.length), zi (nI T.length)] _ _
    refine r_icmp_geN (q := 15) (t := 41) (by omega) (by omega) dX0_normalTree_12 (by decide) rfl (fun h12 => ?_) (fun h12 => absurd h12 (by omega))
    refine r_iconst (q := 42) ((-1 : Int32)) dX0_normalTree_41 rfl (by decide) ?_
    refine r_ireturn dX0_normalTree_42 rfl ?_
    exact ⟨rfl, rfl⟩
  | succ d ih =>
    intro t k ht
    have htl : t < T.length := by omega
    rw [fN]
    by_cases hm : mk t = 0
    · rw [if_pos (decide_eq_true hm)]
      by_cases hk : k = 0
      · rw [if_pos hk]
        refine r_iload (q := 7) dX0_normalTree_5 rfl rfl ?_
        refine r_aload_n (q := 8) dX0_normalTree_7 rfl rfl rfl ?_
        refine r_iload_n (q := 9) dX0_normalTree_8 rfl rfl rfl ?_
        refine r_callV (Mc := mX0_treesOf) (q := 12) (As := [zi (nI n)]) (st := [zi (nI t)]) ck0 dX0_normalTree_9 rfl rfl mkX0_treesOf wt788 wt789 wt790 rfl (Nat.le_of_ble_eq_true rfl) (Nat.le_of_ble_eq_true rfl) (by decide) (by decide) (by decide) (Or.inl rfl) (hs.e (show b < 4 by omega)) (ok_treesOf hs hb4 hn7 hL) (fun r9 S9 hp9 => ?_)
        obtain ⟨rfl, hq9⟩ := hp9
        rw [hq9]
        show Ok _ _ _ [zi (nI T.length), zi (nI t)] _ _
        refine r_icmp_geN (q := 15) (t := 41) (by omega) (by omega) dX0_normalTree_12 (by decide) rfl (fun h12 => absurd h12 (by omega)) (fun h12 => ?_)
        refine r_aload_n (q := 16) dX0_normalTree_15 rfl rfl rfl ?_
        refine r_iload_n (q := 17) dX0_normalTree_16 rfl rfl rfl ?_
        refine r_iload (q := 19) dX0_normalTree_17 rfl rfl ?_
        refine r_callV (Mc := mX0_isNormal) (q := 22) (As := [zi (nI n), zi (nI t)]) (st := []) ck0 dX0_normalTree_19 rfl rfl mkX0_isNormal wt844 wt845 wt846 rfl (Nat.le_of_ble_eq_true rfl) (Nat.le_of_ble_eq_true rfl) (by decide) (by decide) (by decide) (Or.inl rfl) (hs.e (show b < 4 by omega)) (ok_isNormal_y hs hb4 hn7 hL hM htl hm) (fun r19 S19 hp19 => ?_)
        obtain ⟨rfl, hq19⟩ := hp19
        rw [hq19]
        show Ok _ _ _ [zi (nI 1)] _ _
        refine r_if_eqN (q := 25) (t := 35) (by omega) dX0_normalTree_22 (by decide) rfl (fun h22 => absurd h22 (by omega)) (fun h22 => ?_)
        refine r_iload_n (q := 26) dX0_normalTree_25 rfl rfl rfl ?_
        refine r_if_ne (q := 29) (t := 32) dX0_normalTree_26 (by decide) rfl (fun h26 => absurd h26 (fun z => z hk)) (fun h26 => ?_)
        refine r_iload (q := 31) dX0_normalTree_29 rfl rfl ?_
        refine r_ireturn dX0_normalTree_31 rfl ?_
        exact ⟨rfl, rfl⟩
      · rw [if_neg hk]
        refine r_iload (q := 7) dX0_normalTree_5 rfl rfl ?_
        refine r_aload_n (q := 8) dX0_normalTree_7 rfl rfl rfl ?_
        refine r_iload_n (q := 9) dX0_normalTree_8 rfl rfl rfl ?_
        refine r_callV (Mc := mX0_treesOf) (q := 12) (As := [zi (nI n)]) (st := [zi (nI t)]) ck0 dX0_normalTree_9 rfl rfl mkX0_treesOf wt788 wt789 wt790 rfl (Nat.le_of_ble_eq_true rfl) (Nat.le_of_ble_eq_true rfl) (by decide) (by decide) (by decide) (Or.inl rfl) (hs.e (show b < 4 by omega)) (ok_treesOf hs hb4 hn7 hL) (fun r9 S9 hp9 => ?_)
        obtain ⟨rfl, hq9⟩ := hp9
        rw [hq9]
        show Ok _ _ _ [zi (nI T.length), zi (nI t)] _ _
        refine r_icmp_geN (q := 15) (t := 41) (by omega) (by omega) dX0_normalTree_12 (by decide) rfl (fun h12 => absurd h12 (by omega)) (fun h12 => ?_)
        refine r_aload_n (q := 16) dX0_normalTree_15 rfl rfl rfl ?_
        refine r_iload_n (q := 17) dX0_normalTree_16 rfl rfl rfl ?_
        refine r_iload (q := 19) dX0_normalTree_17 rfl rfl ?_
        refine r_callV (Mc := mX0_isNormal) (q := 22) (As := [zi (nI n), zi (nI t)]) (st := []) ck0 dX0_normalTree_19 rfl rfl mkX0_isNormal wt844 wt845 wt846 rfl (Nat.le_of_ble_eq_true rfl) (Nat.le_of_ble_eq_true rfl) (by decide) (by decide) (by decide) (Or.inl rfl) (hs.e (show b < 4 by omega)) (ok_isNormal_y hs hb4 hn7 hL hM htl hm) (fun r19 S19 hp19 => ?_)
        obtain ⟨rfl, hq19⟩ := hp19
        rw [hq19]
        show Ok _ _ _ [zi (nI 1)] _ _
        refine r_if_eqN (q := 25) (t := 35) (by omega) dX0_normalTree_22 (by decide) rfl (fun h22 => absurd h22 (by omega)) (fun h22 => ?_)
        refine r_iload_n (q := 26) dX0_normalTree_25 rfl rfl rfl ?_
        refine r_if_ne (q := 29) (t := 32) dX0_normalTree_26 (by decide) rfl (fun h26 => ?_) (fun h26 => absurd h26 (fun z => z hk))
        refine r_iinc (q := 35) (L' := [some (zr 0 b), some (zi (nI n)), some (zi k0), some (zi (k + (-1))), some (zi (nI t))]) (k + (-1)) dX0_normalTree_32 rfl rfl (by decide) rfl rfl ?_
        refine r_iincN (q := 38) (L' := [some (zr 0 b), some (zi (nI n)), some (zi k0), some (zi (k + (-1))), some (zi (nI (t + 1)))]) 1 rfl dX0_normalTree_35 rfl rfl (by decide) rfl ?_
        refine r_goto (q := 5) dX0_normalTree_38 (by decide) ?_
        exact ih (t + 1) _ (by omega)
    · rw [if_neg (by rw [decide_eq_true_eq]; exact hm)]
      refine r_iload (q := 7) dX0_normalTree_5 rfl rfl ?_
      refine r_aload_n (q := 8) dX0_normalTree_7 rfl rfl rfl ?_
      refine r_iload_n (q := 9) dX0_normalTree_8 rfl rfl rfl ?_
      refine r_callV (Mc := mX0_treesOf) (q := 12) (As := [zi (nI n)]) (st := [zi (nI t)]) ck0 dX0_normalTree_9 rfl rfl mkX0_treesOf wt788 wt789 wt790 rfl (Nat.le_of_ble_eq_true rfl) (Nat.le_of_ble_eq_true rfl) (by decide) (by decide) (by decide) (Or.inl rfl) (hs.e (show b < 4 by omega)) (ok_treesOf hs hb4 hn7 hL) (fun r9 S9 hp9 => ?_)
      obtain ⟨rfl, hq9⟩ := hp9
      rw [hq9]
      show Ok _ _ _ [zi (nI T.length), zi (nI t)] _ _
      refine r_icmp_geN (q := 15) (t := 41) (by omega) (by omega) dX0_normalTree_12 (by decide) rfl (fun h12 => absurd h12 (by omega)) (fun h12 => ?_)
      refine r_aload_n (q := 16) dX0_normalTree_15 rfl rfl rfl ?_
      refine r_iload_n (q := 17) dX0_normalTree_16 rfl rfl rfl ?_
      refine r_iload (q := 19) dX0_normalTree_17 rfl rfl ?_
      refine r_callV (Mc := mX0_isNormal) (q := 22) (As := [zi (nI n), zi (nI t)]) (st := []) ck0 dX0_normalTree_19 rfl rfl mkX0_isNormal wt844 wt845 wt846 rfl (Nat.le_of_ble_eq_true rfl) (Nat.le_of_ble_eq_true rfl) (by decide) (by decide) (by decide) (Or.inl rfl) (hs.e (show b < 4 by omega)) (ok_isNormal_n hs hb4 hn7 hL hM htl hm) (fun r19 S19 hp19 => ?_)
      obtain ⟨rfl, hq19⟩ := hp19
      rw [hq19]
      show Ok _ _ _ [zi (nI 0)] _ _
      refine r_if_eqN (q := 25) (t := 35) (by omega) dX0_normalTree_22 (by decide) rfl (fun h22 => ?_) (fun h22 => absurd h22 (by omega))
      refine r_iincN (q := 38) (L' := [some (zr 0 b), some (zi (nI n)), some (zi k0), some (zi k), some (zi (nI (t + 1)))]) 1 rfl dX0_normalTree_35 rfl rfl (by decide) rfl ?_
      refine r_goto (q := 5) dX0_normalTree_38 (by decide) ?_
      exact ih (t + 1) _ (by omega)

set_option maxRecDepth 100000 in
theorem ok_normalTree {S : zS} (hs : Sd S) {b n f0 : Nat} (hb4 : b < 4) (hn7 : n ≤ 7) {T : List (List Nat)} (hL : Lx S b n f0 T) {mk : Nat → Nat} (hM : Mx S b f0 T.length mk) {k : Int32} : Ok mX0_normalTree 0 (ent 5 [zr 0 b, zi (nI n), zi k]) [] S (fun r S1 => r = some (zi (rN (fN (fun s => decide (mk s = 0)) T.length 0 k))) ∧ S1 = S) := by
  show Ok mX0_normalTree 0 [some (zr 0 b), some (zi (nI n)), some (zi k), none, none] [] S _
  refine r_iload_n (q := 1) dX0_normalTree_0 rfl rfl rfl ?_
  refine r_istore_n (q := 2) (L' := [some (zr 0 b), some (zi (nI n)), some (zi k), some (zi k), none]) dX0_normalTree_1 rfl rfl (by decide) rfl ?_
  refine r_iconst (q := 3) (nI 0) dX0_normalTree_2 rfl (by decide) ?_
  refine r_istore (q := 5) (L' := [some (zr 0 b), some (zi (nI n)), some (zi k), some (zi k), some (zi (nI 0))]) dX0_normalTree_3 rfl (by decide) rfl ?_
  exact lp_ntree hs hb4 hn7 hL hM T.length 0 k (by omega)

set_option maxRecDepth 100000 in
theorem cm_nat17 {S : zS} (hs : Sd S) {W : zWd} (hW : Wok W) {cc : Nat} (hc4 : cc < 4) (hc : WC S cc W) {n0 : Nat} {mk : Nat → Nat → Nat} {rl : Nat → Nat → Nat → Nat} (hB : CB S cc W n0 mk rl) {n : Nat} (hn1 : 1 ≤ n) (hn7 : n ≤ 7) (hn : n ≤ n0) {k i : Int32} : Ok mX11_normalAt 17 [some (zr 11 0), some (zi (nI n)), some (zi k), some (zi i), some (zr 0 cc), none] [] S (fun r S1 => r = some (zi (nAo W n i (fN (fun s => decide (mk n s = 0)) (tl W n).length 0 k))) ∧ Fr tWx S S1) := by
  obtain ⟨hL, hM, hU⟩ := hB.2.2.2.1 n hn1 hn
  have hnt := ok_normalTree hs hc4 hn7 hL hM (k := k)
  have hT300 := hL.2.2.2.1
  cases hf : fN (fun s => decide (mk n s = 0)) (tl W n).length 0 k with
  | none =>
    rw [hf] at hnt
    refine r_aload (q := 19) dX11_normalAt_17 rfl rfl ?_
    refine r_iload_n (q := 20) dX11_normalAt_19 rfl rfl rfl ?_
    refine r_iload_n (q := 21) dX11_normalAt_20 rfl rfl rfl ?_
    refine r_callV (Mc := mX0_normalTree) (q := 24) (As := [zi (nI n), zi k]) (st := []) ck0 dX11_normalAt_21 rfl rfl mkX0_normalTree wt915 wt916 wt917 rfl (Nat.le_of_ble_eq_true rfl) (Nat.le_of_ble_eq_true rfl) (by decide) (by decide) (by decide) (Or.inl rfl) (hs.e (show cc < 4 by omega)) hnt (fun r21 S21 hp21 => ?_)
    obtain ⟨rfl, hq21⟩ := hp21
    rw [hq21]
    show Ok _ _ _ [zi (-1 : Int32)] _ _
    refine r_istore (q := 26) (L' := [some (zr 11 0), some (zi (nI n)), some (zi k), some (zi i), some (zr 0 cc), some (zi (-1 : Int32))]) dX11_normalAt_24 rfl (by decide) rfl ?_
    refine r_iload (q := 28) dX11_normalAt_26 rfl rfl ?_
    refine r_if_ge (q := 31) (t := 35) dX11_normalAt_28 (by decide) rfl (fun h28 => absurd h28 (by decide)) (fun h28 => ?_)
    refine r_iconst (q := 32) ((-1 : Int32)) dX11_normalAt_31 rfl (by decide) ?_
    refine r_goto (q := 57) dX11_normalAt_32 (by decide) ?_
    refine r_ireturn dX11_normalAt_57 rfl ?_
    exact ⟨rfl, Fr.rf⟩
  | some t =>
    rw [hf] at hnt
    have ht := (fN_lt hf).2.1
    have ht : t < (tl W n).length := by omega
    have htr := tl_tr hW.2.1 ht
    have hlen := tx_small hW.2.1 hn7 ht
    show Ok _ _ _ _ _ (fun r S1 => r = some (zi (bAt (tx (wn W) (we W) [] ((tl W n).getD t [])) i)) ∧ Fr tWx S S1)
    by_cases hi : 0 ≤ i ∧ i < nI (tx (wn W) (we W) [] ((tl W n).getD t [])).length
    · obtain ⟨m, hm, rfl⟩ := zz_of hi (by omega)
      rw [bAt_in hm (by omega)]
      refine r_aload (q := 19) dX11_normalAt_17 rfl rfl ?_
      refine r_iload_n (q := 20) dX11_normalAt_19 rfl rfl rfl ?_
      refine r_iload_n (q := 21) dX11_normalAt_20 rfl rfl rfl ?_
      refine r_callV (Mc := mX0_normalTree) (q := 24) (As := [zi (nI n), zi k]) (st := []) ck0 dX11_normalAt_21 rfl rfl mkX0_normalTree wt915 wt916 wt917 rfl (Nat.le_of_ble_eq_true rfl) (Nat.le_of_ble_eq_true rfl) (by decide) (by decide) (by decide) (Or.inl rfl) (hs.e (show cc < 4 by omega)) hnt (fun r21 S21 hp21 => ?_)
      obtain ⟨rfl, hq21⟩ := hp21
      rw [hq21]
      show Ok _ _ _ [zi (nI t)] _ _
      refine r_istore (q := 26) (L' := [some (zr 11 0), some (zi (nI n)), some (zi k), some (zi (nI m)), some (zr 0 cc), some (zi (nI t))]) dX11_normalAt_24 rfl (by decide) rfl ?_
      refine r_iload (q := 28) dX11_normalAt_26 rfl rfl ?_
      refine r_if_geN (q := 31) (t := 35) (by omega) dX11_normalAt_28 (by decide) rfl ?_
      refine r_aload_n (q := 36) dX11_normalAt_35 rfl rfl rfl ?_
      refine r_getr (q := 39) (some (10, 0)) ck11 dX11_normalAt_36 rfl (k := 15) (by decide) wt437 rfl (hs.e (by decide)) (hs.r (by decide) (by decide)) ?_
      refine r_aload (q := 41) dX11_normalAt_39 rfl rfl ?_
      refine r_getr (q := 44) (some (9, cc)) ck0 dX11_normalAt_41 rfl (k := 0) (by decide) wt377 rfl (hs.e (show cc < 4 by omega)) (hs.r (show cc < 4 by omega) (by decide)) ?_
      refine r_aload (q := 46) dX11_normalAt_44 rfl rfl ?_
      refine r_iload_n (q := 47) dX11_normalAt_46 rfl rfl rfl ?_
      refine r_iload (q := 49) dX11_normalAt_47 rfl rfl ?_
      refine r_callV (Mc := mX0_keyOf) (q := 52) (As := [zi (nI n), zi (nI t)]) (st := [zr 9 cc, zr 10 0]) ck0 dX11_normalAt_49 rfl rfl mkX0_keyOf wt919 wt793 wt794 rfl (Nat.le_of_ble_eq_true rfl) (Nat.le_of_ble_eq_true rfl) (by decide) (by decide) (by decide) (Or.inl rfl) (hs.e (show cc < 4 by omega)) (ok_keyOf hs hc4 hn7 hL ht) (fun r49 S49 hp49 => ?_)
      obtain ⟨rfl, hq49⟩ := hp49
      rw [hq49]
      show Ok _ _ _ [zi (nI (ky ((tl W n).getD t []))), zr 9 cc, zr 10 0] _ _
      refine r_iload_n (q := 53) dX11_normalAt_52 rfl rfl rfl ?_
      refine r_iload_n (q := 54) dX11_normalAt_53 rfl rfl rfl ?_
      refine r_callV (Mc := mX10_byteOf) (q := 57) (As := [zr 9 cc, zi (nI (ky ((tl W n).getD t []))), zi (nI n), zi (nI m)]) (st := []) ck10 dX11_normalAt_54 rfl rfl mkX10_byteOf wt737 wt738 wt739 rfl (Nat.le_of_ble_eq_true rfl) (Nat.le_of_ble_eq_true rfl) (by decide) (by decide) (by decide) (Or.inl rfl) (hs.e (by decide)) (ok_byteOf_in hs hW htr hn7 hc4 hc.2.1 hc.2.2.2.1 hm) (fun r54 S54 hp54 => ?_)
      obtain ⟨rfl, f9⟩ := hp54
      show Ok _ _ _ [zi (nI ((tx (wn W) (we W) [] ((tl W n).getD t [])).getD m 0))] _ _
      refine r_ireturn dX11_normalAt_57 rfl ?_
      exact ⟨rfl, f9⟩
    · rw [bAt_out hi]
      refine r_aload (q := 19) dX11_normalAt_17 rfl rfl ?_
      refine r_iload_n (q := 20) dX11_normalAt_19 rfl rfl rfl ?_
      refine r_iload_n (q := 21) dX11_normalAt_20 rfl rfl rfl ?_
      refine r_callV (Mc := mX0_normalTree) (q := 24) (As := [zi (nI n), zi k]) (st := []) ck0 dX11_normalAt_21 rfl rfl mkX0_normalTree wt915 wt916 wt917 rfl (Nat.le_of_ble_eq_true rfl) (Nat.le_of_ble_eq_true rfl) (by decide) (by decide) (by decide) (Or.inl rfl) (hs.e (show cc < 4 by omega)) hnt (fun r21 S21 hp21 => ?_)
      obtain ⟨rfl, hq21⟩ := hp21
      rw [hq21]
      show Ok _ _ _ [zi (nI t)] _ _
      refine r_istore (q := 26) (L' := [some (zr 11 0), some (zi (nI n)), some (zi k), some (zi i), some (zr 0 cc), some (zi (nI t))]) dX11_normalAt_24 rfl (by decide) rfl ?_
      refine r_iload (q := 28) dX11_normalAt_26 rfl rfl ?_
      refine r_if_geN (q := 31) (t := 35) (by omega) dX11_normalAt_28 (by decide) rfl ?_
      refine r_aload_n (q := 36) dX11_normalAt_35 rfl rfl rfl ?_
      refine r_getr (q := 39) (some (10, 0)) ck11 dX11_normalAt_36 rfl (k := 15) (by decide) wt437 rfl (hs.e (by decide)) (hs.r (by decide) (by decide)) ?_
      refine r_aload (q := 41) dX11_normalAt_39 rfl rfl ?_
      refine r_getr (q := 44) (some (9, cc)) ck0 dX11_normalAt_41 rfl (k := 0) (by decide) wt377 rfl (hs.e (show cc < 4 by omega)) (hs.r (show cc < 4 by omega) (by decide)) ?_
      refine r_aload (q := 46) dX11_normalAt_44 rfl rfl ?_
      refine r_iload_n (q := 47) dX11_normalAt_46 rfl rfl rfl ?_
      refine r_iload (q := 49) dX11_normalAt_47 rfl rfl ?_
      refine r_callV (Mc := mX0_keyOf) (q := 52) (As := [zi (nI n), zi (nI t)]) (st := [zr 9 cc, zr 10 0]) ck0 dX11_normalAt_49 rfl rfl mkX0_keyOf wt919 wt793 wt794 rfl (Nat.le_of_ble_eq_true rfl) (Nat.le_of_ble_eq_true rfl) (by decide) (by decide) (by decide) (Or.inl rfl) (hs.e (show cc < 4 by omega)) (ok_keyOf hs hc4 hn7 hL ht) (fun r49 S49 hp49 => ?_)
      obtain ⟨rfl, hq49⟩ := hp49
      rw [hq49]
      show Ok _ _ _ [zi (nI (ky ((tl W n).getD t []))), zr 9 cc, zr 10 0] _ _
      refine r_iload_n (q := 53) dX11_normalAt_52 rfl rfl rfl ?_
      refine r_iload_n (q := 54) dX11_normalAt_53 rfl rfl rfl ?_
      refine r_callV (Mc := mX10_byteOf) (q := 57) (As := [zr 9 cc, zi (nI (ky ((tl W n).getD t []))), zi (nI n), zi i]) (st := []) ck10 dX11_normalAt_54 rfl rfl mkX10_byteOf wt737 wt738 wt739 rfl (Nat.le_of_ble_eq_true rfl) (Nat.le_of_ble_eq_true rfl) (by decide) (by decide) (by decide) (Or.inl rfl) (hs.e (by decide)) (ok_byteOf_out hs hW htr hn7 hc4 hc.2.1 hc.2.2.2.1 hi) (fun r54 S54 hp54 => ?_)
      obtain ⟨rfl, f9⟩ := hp54
      show Ok _ _ _ [zi (-1 : Int32)] _ _
      refine r_ireturn dX11_normalAt_57 rfl ?_
      exact ⟨rfl, f9⟩

set_option maxRecDepth 100000 in
theorem cm_nat_y {S : zS} (hs : Sd S) {W : zWd} (hW : Wok W) {cc : Nat} (hcc : gI S 11 0 3 = nI cc) (hc4 : cc < 4) (hc : WC S cc W) (hT : Tcs S cc W) {n0 : Nat} {mk : Nat → Nat → Nat} {rl : Nat → Nat → Nat → Nat} (hB : CB S cc W n0 mk rl) {n : Nat} (hn1 : 1 ≤ n) (hn7 : n ≤ 7) {k i : Int32} (h3 : tc W n ≤ 300) : Ok mX11_normalAt 0 (ent 6 [zr 11 0, zi (nI n), zi k, zi i]) [] S (fun r S2 => ∃ S1, Fg (tRe cc) S S1 ∧ Fr tWx S1 S2 ∧ ∃ n1 mk1 rl1, CB S1 cc W n1 mk1 rl1 ∧ n ≤ n1 ∧ r = some (zi (nAo W n i (fN (fun s => decide (mk1 n s = 0)) (tl W n).length 0 k)))) := by
  show Ok mX11_normalAt 0 [some (zr 11 0), some (zi (nI n)), some (zi k), some (zi i), none, none] [] S _
  refine r_aload_n (q := 1) dX11_normalAt_0 rfl rfl rfl ?_
  refine r_callV (Mc := mX11_basisHere) (q := 4) (As := []) (st := []) ck11 dX11_normalAt_1 rfl rfl mkX11_basisHere wt766 wt768 wp27 rfl (Nat.le_of_ble_eq_true rfl) (Nat.le_of_ble_eq_true rfl) (by decide) (by decide) (by decide) (Or.inl rfl) (hs.e (by decide)) (ok_basisHere hs hcc hc4) (fun r1 S1 hp1 => ?_)
  obtain ⟨rfl, hq1⟩ := hp1
  rw [hq1]
  show Ok _ _ _ [zr 0 cc] _ _
  refine r_astore (q := 6) (L' := [some (zr 11 0), some (zi (nI n)), some (zi k), some (zi i), some (zr 0 cc), none]) dX11_normalAt_4 rfl (by decide) rfl ?_
  refine r_aload (q := 8) dX11_normalAt_6 rfl rfl ?_
  refine r_iload_n (q := 9) dX11_normalAt_8 rfl rfl rfl ?_
  refine r_callV (Mc := mX0_reach) (q := 12) (As := [zi (nI n)]) (st := []) ck0 dX11_normalAt_9 rfl rfl mkX0_reach wt770 wt771 wt772 rfl (Nat.le_of_ble_eq_true rfl) (Nat.le_of_ble_eq_true rfl) (by decide) (by decide) (by decide) (Or.inr ⟨Nat.le_of_ble_eq_true rfl, rfl, rfl⟩) (hs.e (show cc < 4 by omega)) (ok_reach_y hs hW hc4 hn1 hn7 hc hT hB h3) (fun r9 S9 hp9 => ?_)
  obtain ⟨rfl, f1, hc1, n1, mk1, rl1, hB1, hn⟩ := hp9
  show Ok _ _ _ [zi (nI 1)] _ _
  refine r_if_neN (q := 15) (t := 17) (by omega) dX11_normalAt_12 (by decide) rfl (fun h12 => ?_) (fun h12 => absurd h12 (by omega))
  exact Ok.mono (cm_nat17 f1.sd hW hc4 hc1 hB1 hn1 hn7 hn) (fun r S2 z => ⟨S9, f1, z.2, n1, mk1, rl1, hB1, hn, z.1⟩)

set_option maxRecDepth 100000 in
theorem cm_nat_n {S : zS} (hs : Sd S) {W : zWd} (hW : Wok W) {cc : Nat} (hcc : gI S 11 0 3 = nI cc) (hc4 : cc < 4) (hc : WC S cc W) (hT : Tcs S cc W) {n0 : Nat} {mk : Nat → Nat → Nat} {rl : Nat → Nat → Nat → Nat} (hB : CB S cc W n0 mk rl) {n : Nat} (hn1 : 1 ≤ n) (hn7 : n ≤ 7) {k i : Int32} (h3 : ¬ tc W n ≤ 300) : Ok mX11_normalAt 0 (ent 6 [zr 11 0, zi (nI n), zi k, zi i]) [] S (fun r S1 => Fg (tRe cc) S S1 ∧ (∃ n1 mk1 rl1, CB S1 cc W n1 mk1 rl1) ∧ r = some (zi (-1))) := by
  show Ok mX11_normalAt 0 [some (zr 11 0), some (zi (nI n)), some (zi k), some (zi i), none, none] [] S _
  refine r_aload_n (q := 1) dX11_normalAt_0 rfl rfl rfl ?_
  refine r_callV (Mc := mX11_basisHere) (q := 4) (As := []) (st := []) ck11 dX11_normalAt_1 rfl rfl mkX11_basisHere wt766 wt768 wp27 rfl (Nat.le_of_ble_eq_true rfl) (Nat.le_of_ble_eq_true rfl) (by decide) (by decide) (by decide) (Or.inl rfl) (hs.e (by decide)) (ok_basisHere hs hcc hc4) (fun r1 S1 hp1 => ?_)
  obtain ⟨rfl, hq1⟩ := hp1
  rw [hq1]
  show Ok _ _ _ [zr 0 cc] _ _
  refine r_astore (q := 6) (L' := [some (zr 11 0), some (zi (nI n)), some (zi k), some (zi i), some (zr 0 cc), none]) dX11_normalAt_4 rfl (by decide) rfl ?_
  refine r_aload (q := 8) dX11_normalAt_6 rfl rfl ?_
  refine r_iload_n (q := 9) dX11_normalAt_8 rfl rfl rfl ?_
  refine r_callV (Mc := mX0_reach) (q := 12) (As := [zi (nI n)]) (st := []) ck0 dX11_normalAt_9 rfl rfl mkX0_reach wt770 wt771 wt772 rfl (Nat.le_of_ble_eq_true rfl) (Nat.le_of_ble_eq_true rfl) (by decide) (by decide) (by decide) (Or.inr ⟨Nat.le_of_ble_eq_true rfl, rfl, rfl⟩) (hs.e (show cc < 4 by omega)) (ok_reach_n hs hW hc4 hn1 hn7 hc hT hB h3) (fun r9 S9 hp9 => ?_)
  obtain ⟨rfl, f1, hc1, n1, mk1, rl1, hB1⟩ := hp9
  show Ok _ _ _ [zi (nI 0)] _ _
  refine r_if_neN (q := 15) (t := 17) (by omega) dX11_normalAt_12 (by decide) rfl (fun h12 => absurd h12 (by omega)) (fun h12 => ?_)
  refine r_iconst (q := 16) ((-1 : Int32)) dX11_normalAt_15 rfl (by decide) ?_
  refine r_ireturn dX11_normalAt_16 rfl ?_
  exact ⟨f1, ⟨n1, mk1, rl1, hB1⟩, rfl⟩

set_option maxRecDepth 100000 in
theorem cm_nat_x {S : zS} (hs : Sd S) {cc : Nat} (hcc : gI S 11 0 3 = nI cc) (hc4 : cc < 4) {x k i : Int32} (hx : ¬ (nI 1 ≤ x ∧ x ≤ nI 7)) : Ok mX11_normalAt 0 (ent 6 [zr 11 0, zi x, zi k, zi i]) [] S (fun r S1 => r = some (zi (-1)) ∧ S1 = S) := by
  show Ok mX11_normalAt 0 [some (zr 11 0), some (zi x), some (zi k), some (zi i), none, none] [] S _
  refine r_aload_n (q := 1) dX11_normalAt_0 rfl rfl rfl ?_
  refine r_callV (Mc := mX11_basisHere) (q := 4) (As := []) (st := []) ck11 dX11_normalAt_1 rfl rfl mkX11_basisHere wt766 wt768 wp27 rfl (Nat.le_of_ble_eq_true rfl) (Nat.le_of_ble_eq_true rfl) (by decide) (by decide) (by decide) (Or.inl rfl) (hs.e (by decide)) (ok_basisHere hs hcc hc4) (fun r1 S1 hp1 => ?_)
  obtain ⟨rfl, hq1⟩ := hp1
  rw [hq1]
  show Ok _ _ _ [zr 0 cc] _ _
  refine r_astore (q := 6) (L' := [some (zr 11 0), some (zi x), some (zi k), some (zi i), some (zr 0 cc), none]) dX11_normalAt_4 rfl (by decide) rfl ?_
  refine r_aload (q := 8) dX11_normalAt_6 rfl rfl ?_
  refine r_iload_n (q := 9) dX11_normalAt_8 rfl rfl rfl ?_
  refine r_callV (Mc := mX0_reach) (q := 12) (As := [zi x]) (st := []) ck0 dX11_normalAt_9 rfl rfl mkX0_reach wt770 wt771 wt772 rfl (Nat.le_of_ble_eq_true rfl) (Nat.le_of_ble_eq_true rfl) (by decide) (by decide) (by decide) (Or.inr ⟨Nat.le_of_ble_eq_true rfl, rfl, rfl⟩) (hs.e (show cc < 4 by omega)) (ok_reach_out hs hc4 hx) (fun r9 S9 hp9 => ?_)
  obtain ⟨rfl, hq9⟩ := hp9
  rw [hq9]
  show Ok _ _ _ [zi (nI 0)] _ _
  refine r_if_neN (q := 15) (t := 17) (by omega) dX11_normalAt_12 (by decide) rfl (fun h12 => absurd h12 (by omega)) (fun h12 => ?_)
  refine r_iconst (q := 16) ((-1 : Int32)) dX11_normalAt_15 rfl (by decide) ?_
  refine r_ireturn dX11_normalAt_16 rfl ?_
  exact ⟨rfl, rfl⟩

set_option maxRecDepth 100000 in
theorem lp_rn36 {S : zS} (hs : Sd S) {W : zWd} (hW : Wok W) {n F : Nat} (hn7 : n ≤ 7) (h4 : gI S 1324 0 n = nI (tl W n).length) (h5 : gI S 1325 0 n = nI F) (hm3 : (tl W n).length ≤ 300) (hF4 : F + (tl W n).length ≤ 4400) (hC : Co S F (tl W n)) {pv : Nat → Bool} (hpv : ∀ t, t < (tl W n).length → gI S 1332 0 (F + t) = nI (b01 (pv t))) (he : ∀ a, a < wA W → gI S 1306 0 (4 + a) = nI (we W a) ∧ gJ S 1308 0 a = lN (wn W a)) {k0 i : Int32} : ∀ (d t : Nat) (k : Int32), t + d = (tl W n).length → Ok mX12_normalAt 36 [some (zr 12 0), some (zi (nI n)), some (zi k0), some (zi i), some (zi k), some (zi (nI t)), none] [] S (fun r S1 => r = some (zi (nAo W n i (fN (fun s => !pv s) d t k))) ∧ Fr tWq S S1) := by
  intro d
  induction d with
  | zero =>
    intro t k ht
    obtain rfl : t = (tl W n).length := by omega
    refine r_iload (q := 38) dX12_normalAt_36 rfl rfl ?_
    refine r_aload_n (q := 39) dX12_normalAt_38 rfl rfl rfl ?_
    refine r_getr (q := 42) (some (1324, 0)) ck12 dX12_normalAt_39 rfl (k := 24) (by decide) wt1302 rfl (hs.e (by decide)) (hs.r (by decide) (by decide)) ?_
    refine r_iload_n (q := 43) dX12_normalAt_42 rfl rfl rfl ?_
    refine r_ialdN (q := 44) 16 (by decide) rfl dX12_normalAt_43 rfl (hs.e (by decide)) (hs.n rfl (by decide)) (by omega) (by decide) ?_
    refine r_topi (y := nI ((tl W n).length)) h4 ?_
    refine r_icmp_geN (q := 47) (t := 124) (by omega) (by omega) dX12_normalAt_44 (by decide) rfl (fun h44 => ?_) (fun h44 => absurd h44 (by omega))
    refine r_iconst (q := 125) ((-1 : Int32)) dX12_normalAt_124 rfl (by decide) ?_
    refine r_ireturn dX12_normalAt_125 rfl ?_
    exact ⟨rfl, Fr.rf⟩
  | succ d ih =>
    intro t k ht
    have htl : t < (tl W n).length := by omega
    have hp := hpv t htl
    rw [fN]
    cases hb : pv t with
    | true =>
      rw [hb, show b01 true = 1 from rfl] at hp
      rw [if_neg (by simp)]
      refine r_iload (q := 38) dX12_normalAt_36 rfl rfl ?_
      refine r_aload_n (q := 39) dX12_normalAt_38 rfl rfl rfl ?_
      refine r_getr (q := 42) (some (1324, 0)) ck12 dX12_normalAt_39 rfl (k := 24) (by decide) wt1302 rfl (hs.e (by decide)) (hs.r (by decide) (by decide)) ?_
      refine r_iload_n (q := 43) dX12_normalAt_42 rfl rfl rfl ?_
      refine r_ialdN (q := 44) 16 (by decide) rfl dX12_normalAt_43 rfl (hs.e (by decide)) (hs.n rfl (by decide)) (by omega) (by decide) ?_
      refine r_topi (y := nI ((tl W n).length)) h4 ?_
      refine r_icmp_geN (q := 47) (t := 124) (by omega) (by omega) dX12_normalAt_44 (by decide) rfl (fun h44 => absurd h44 (by omega)) (fun h44 => ?_)
      refine r_aload_n (q := 48) dX12_normalAt_47 rfl rfl rfl ?_
      refine r_getr (q := 51) (some (1332, 0)) ck12 dX12_normalAt_48 rfl (k := 32) (by decide) wt1310 rfl (hs.e (by decide)) (hs.r (by decide) (by decide)) ?_
      refine r_aload_n (q := 52) dX12_normalAt_51 rfl rfl rfl ?_
      refine r_getr (q := 55) (some (1325, 0)) ck12 dX12_normalAt_52 rfl (k := 25) (by decide) wt1303 rfl (hs.e (by decide)) (hs.r (by decide) (by decide)) ?_
      refine r_iload_n (q := 56) dX12_normalAt_55 rfl rfl rfl ?_
      refine r_ialdN (q := 57) 16 (by decide) rfl dX12_normalAt_56 rfl (hs.e (by decide)) (hs.n rfl (by decide)) (by omega) (by decide) ?_
      refine r_topi (y := nI F) h5 ?_
      refine r_iload (q := 59) dX12_normalAt_57 rfl rfl ?_
      refine r_iaddN (q := 60) dX12_normalAt_59 rfl ?_
      refine r_zaldN (q := 61) 4400 (by decide) rfl dX12_normalAt_60 rfl (hs.e (by decide)) (hs.n rfl (by decide)) (by omega) (by decide) ?_
      refine r_topi (y := nI 1) hp ?_
      refine r_if_eqN (q := 64) (t := 67) (by omega) dX12_normalAt_61 (by decide) rfl (fun h61 => absurd h61 (by omega)) (fun h61 => ?_)
      refine r_goto (q := 118) dX12_normalAt_64 (by decide) ?_
      refine r_iincN (q := 121) (L' := [some (zr 12 0), some (zi (nI n)), some (zi k0), some (zi i), some (zi k), some (zi (nI (t + 1))), none]) 1 rfl dX12_normalAt_118 rfl rfl (by decide) rfl ?_
      refine r_goto (q := 36) dX12_normalAt_121 (by decide) ?_
      exact ih (t + 1) _ (by omega)
    | false =>
      rw [hb, show b01 false = 0 from rfl] at hp
      rw [if_pos (by simp)]
      have htr := tl_tr hW.2.1 htl
      have hlen := tx_small hW.2.1 hn7 htl
      obtain ⟨c1, c2⟩ := hC t htl
      by_cases hk : k = 0
      · rw [if_pos hk]
        show Ok _ _ _ _ _ (fun r S1 => r = some (zi (bAt (tx (wn W) (we W) [] ((tl W n).getD t [])) i)) ∧ Fr tWq S S1)
        by_cases hi : 0 ≤ i ∧ i < nI (tx (wn W) (we W) [] ((tl W n).getD t [])).length
        · obtain ⟨m, hm, rfl⟩ := zz_of hi (by omega)
          rw [bAt_in hm (by omega)]
          refine r_iload (q := 38) dX12_normalAt_36 rfl rfl ?_
          refine r_aload_n (q := 39) dX12_normalAt_38 rfl rfl rfl ?_
          refine r_getr (q := 42) (some (1324, 0)) ck12 dX12_normalAt_39 rfl (k := 24) (by decide) wt1302 rfl (hs.e (by decide)) (hs.r (by decide) (by decide)) ?_
          refine r_iload_n (q := 43) dX12_normalAt_42 rfl rfl rfl ?_
          refine r_ialdN (q := 44) 16 (by decide) rfl dX12_normalAt_43 rfl (hs.e (by decide)) (hs.n rfl (by decide)) (by omega) (by decide) ?_
          refine r_topi (y := nI ((tl W n).length)) h4 ?_
          refine r_icmp_geN (q := 47) (t := 124) (by omega) (by omega) dX12_normalAt_44 (by decide) rfl (fun h44 => absurd h44 (by omega)) (fun h44 => ?_)
          refine r_aload_n (q := 48) dX12_normalAt_47 rfl rfl rfl ?_
          refine r_getr (q := 51) (some (1332, 0)) ck12 dX12_normalAt_48 rfl (k := 32) (by decide) wt1310 rfl (hs.e (by decide)) (hs.r (by decide) (by decide)) ?_
          refine r_aload_n (q := 52) dX12_normalAt_51 rfl rfl rfl ?_
          refine r_getr (q := 55) (some (1325, 0)) ck12 dX12_normalAt_52 rfl (k := 25) (by decide) wt1303 rfl (hs.e (by decide)) (hs.r (by decide) (by decide)) ?_
          refine r_iload_n (q := 56) dX12_normalAt_55 rfl rfl rfl ?_
          refine r_ialdN (q := 57) 16 (by decide) rfl dX12_normalAt_56 rfl (hs.e (by decide)) (hs.n rfl (by decide)) (by omega) (by decide) ?_
          refine r_topi (y := nI F) h5 ?_
          refine r_iload (q := 59) dX12_normalAt_57 rfl rfl ?_
          refine r_iaddN (q := 60) dX12_normalAt_59 rfl ?_
          refine r_zaldN (q := 61) 4400 (by decide) rfl dX12_normalAt_60 rfl (hs.e (by decide)) (hs.n rfl (by decide)) (by omega) (by decide) ?_
          refine r_topi (y := nI 0) hp ?_
          refine r_if_eqN (q := 64) (t := 67) (by omega) dX12_normalAt_61 (by decide) rfl (fun h61 => ?_) (fun h61 => absurd h61 (by omega))
          refine r_iload (q := 69) dX12_normalAt_67 rfl rfl ?_
          refine r_if_ne (q := 72) (t := 115) dX12_normalAt_69 (by decide) rfl (fun h69 => absurd h69 (fun z => z hk)) (fun h69 => ?_)
          refine r_aload_n (q := 73) dX12_normalAt_72 rfl rfl rfl ?_
          refine r_aload_n (q := 74) dX12_normalAt_73 rfl rfl rfl ?_
          refine r_getr (q := 77) (some (1328, 0)) ck12 dX12_normalAt_74 rfl (k := 28) (by decide) wt1306 rfl (hs.e (by decide)) (hs.r (by decide) (by decide)) ?_
          refine r_aload_n (q := 78) dX12_normalAt_77 rfl rfl rfl ?_
          refine r_getr (q := 81) (some (1325, 0)) ck12 dX12_normalAt_78 rfl (k := 25) (by decide) wt1303 rfl (hs.e (by decide)) (hs.r (by decide) (by decide)) ?_
          refine r_iload_n (q := 82) dX12_normalAt_81 rfl rfl rfl ?_
          refine r_ialdN (q := 83) 16 (by decide) rfl dX12_normalAt_82 rfl (hs.e (by decide)) (hs.n rfl (by decide)) (by omega) (by decide) ?_
          refine r_topi (y := nI F) h5 ?_
          refine r_iload (q := 85) dX12_normalAt_83 rfl rfl ?_
          refine r_iaddN (q := 86) dX12_normalAt_85 rfl ?_
          refine r_ialdN (q := 87) 4400 (by decide) rfl dX12_normalAt_86 rfl (hs.e (by decide)) (hs.n rfl (by decide)) (by omega) (by decide) ?_
          refine r_topi (y := nI (cd ((tl W n).getD t []))) c1 ?_
          refine r_callV (Mc := mX12_write) (q := 90) (As := [zi (nI (cd ((tl W n).getD t [])))]) (st := []) ck12 dX12_normalAt_87 rfl rfl mkX12_write wt1742 wt1744 wp98 rfl (Nat.le_of_ble_eq_true rfl) (Nat.le_of_ble_eq_true rfl) (by decide) (by decide) (by decide) (Or.inl rfl) (hs.e (by decide)) (ok_X12_write hs hW htr hn7 he) (fun r87 S87 hp87 => ?_)
          obtain ⟨rfl, f9, hq9⟩ := hp87
          show Ok _ _ _ [zi (nI ((tx (wn W) (we W) [] ((tl W n).getD t [])).length))] _ _
          refine r_istore (q := 92) (L' := [some (zr 12 0), some (zi (nI n)), some (zi k0), some (zi (nI m)), some (zi k), some (zi (nI t)), some (zi (nI ((tx (wn W) (we W) [] ((tl W n).getD t [])).length)))]) dX12_normalAt_90 rfl (by decide) rfl ?_
          refine r_iload_n (q := 93) dX12_normalAt_92 rfl rfl rfl ?_
          refine r_iconst (q := 94) (nI 0) dX12_normalAt_93 rfl (by decide) ?_
          refine r_iload (q := 96) dX12_normalAt_94 rfl rfl ?_
          refine r_iconst (q := 97) (nI 1) dX12_normalAt_96 rfl (by decide) ?_
          refine r_isubN (q := 98) (by omega) dX12_normalAt_97 rfl ?_
          refine r_callS (Mc := mX12_isIn) (q := 101) (As := [zi (nI m), zi (nI 0), zi (nI (((tx (wn W) (we W) [] ((tl W n).getD t [])).length) - 1))]) (st := []) dX12_normalAt_98 rfl rfl mkX12_isIn wt1614 wt1615 rfl (Nat.le_of_ble_eq_true rfl) (Nat.le_of_ble_eq_true rfl) (by decide) (by decide) (by decide) (Or.inl rfl) (hs.fr f9).some (ok_X12_isIn_in (by omega) (by omega) (by omega)) (fun r98 S98 hp98 => ?_)
          obtain ⟨rfl, hq98⟩ := hp98
          rw [hq98]
          show Ok _ _ _ [zi (nI 1)] _ _
          refine r_if_eqN (q := 104) (t := 113) (by omega) dX12_normalAt_101 (by decide) rfl (fun h101 => absurd h101 (by omega)) (fun h101 => ?_)
          refine r_aload_n (q := 105) dX12_normalAt_104 rfl rfl rfl ?_
          refine r_getr (q := 108) (some (1359, 0)) ck12 dX12_normalAt_105 rfl (k := 59) (by decide) wt1337 rfl ((hs.fr f9).e (by decide)) ((hs.fr f9).r (by decide) (by decide)) ?_
          refine r_iload_n (q := 109) dX12_normalAt_108 rfl rfl rfl ?_
          refine r_ialdN (q := 110) 120 (by decide) rfl dX12_normalAt_109 rfl ((hs.fr f9).e (by decide)) ((hs.fr f9).n rfl (by decide)) (by omega) (by decide) ?_
          refine r_topi (y := nI ((tx (wn W) (we W) [] ((tl W n).getD t [])).getD m 0)) (hq9 m hm) ?_
          refine r_goto (q := 114) dX12_normalAt_110 (by decide) ?_
          refine r_ireturn dX12_normalAt_114 rfl ?_
          exact ⟨rfl, f9⟩
        · rw [bAt_out hi]
          refine r_iload (q := 38) dX12_normalAt_36 rfl rfl ?_
          refine r_aload_n (q := 39) dX12_normalAt_38 rfl rfl rfl ?_
          refine r_getr (q := 42) (some (1324, 0)) ck12 dX12_normalAt_39 rfl (k := 24) (by decide) wt1302 rfl (hs.e (by decide)) (hs.r (by decide) (by decide)) ?_
          refine r_iload_n (q := 43) dX12_normalAt_42 rfl rfl rfl ?_
          refine r_ialdN (q := 44) 16 (by decide) rfl dX12_normalAt_43 rfl (hs.e (by decide)) (hs.n rfl (by decide)) (by omega) (by decide) ?_
          refine r_topi (y := nI ((tl W n).length)) h4 ?_
          refine r_icmp_geN (q := 47) (t := 124) (by omega) (by omega) dX12_normalAt_44 (by decide) rfl (fun h44 => absurd h44 (by omega)) (fun h44 => ?_)
          refine r_aload_n (q := 48) dX12_normalAt_47 rfl rfl rfl ?_
          refine r_getr (q := 51) (some (1332, 0)) ck12 dX12_normalAt_48 rfl (k := 32) (by decide) wt1310 rfl (hs.e (by decide)) (hs.r (by decide) (by decide)) ?_
          refine r_aload_n (q := 52) dX12_normalAt_51 rfl rfl rfl ?_
          refine r_getr (q := 55) (some (1325, 0)) ck12 dX12_normalAt_52 rfl (k := 25) (by decide) wt1303 rfl (hs.e (by decide)) (hs.r (by decide) (by decide)) ?_
          refine r_iload_n (q := 56) dX12_normalAt_55 rfl rfl rfl ?_
          refine r_ialdN (q := 57) 16 (by decide) rfl dX12_normalAt_56 rfl (hs.e (by decide)) (hs.n rfl (by decide)) (by omega) (by decide) ?_
          refine r_topi (y := nI F) h5 ?_
          refine r_iload (q := 59) dX12_normalAt_57 rfl rfl ?_
          refine r_iaddN (q := 60) dX12_normalAt_59 rfl ?_
          refine r_zaldN (q := 61) 4400 (by decide) rfl dX12_normalAt_60 rfl (hs.e (by decide)) (hs.n rfl (by decide)) (by omega) (by decide) ?_
          refine r_topi (y := nI 0) hp ?_
          refine r_if_eqN (q := 64) (t := 67) (by omega) dX12_normalAt_61 (by decide) rfl (fun h61 => ?_) (fun h61 => absurd h61 (by omega))
          refine r_iload (q := 69) dX12_normalAt_67 rfl rfl ?_
          refine r_if_ne (q := 72) (t := 115) dX12_normalAt_69 (by decide) rfl (fun h69 => absurd h69 (fun z => z hk)) (fun h69 => ?_)
          refine r_aload_n (q := 73) dX12_normalAt_72 rfl rfl rfl ?_
          refine r_aload_n (q := 74) dX12_normalAt_73 rfl rfl rfl ?_
          refine r_getr (q := 77) (some (1328, 0)) ck12 dX12_normalAt_74 rfl (k := 28) (by decide) wt1306 rfl (hs.e (by decide)) (hs.r (by decide) (by decide)) ?_
          refine r_aload_n (q := 78) dX12_normalAt_77 rfl rfl rfl ?_
          refine r_getr (q := 81) (some (1325, 0)) ck12 dX12_normalAt_78 rfl (k := 25) (by decide) wt1303 rfl (hs.e (by decide)) (hs.r (by decide) (by decide)) ?_
          refine r_iload_n (q := 82) dX12_normalAt_81 rfl rfl rfl ?_
          refine r_ialdN (q := 83) 16 (by decide) rfl dX12_normalAt_82 rfl (hs.e (by decide)) (hs.n rfl (by decide)) (by omega) (by decide) ?_
          refine r_topi (y := nI F) h5 ?_
          refine r_iload (q := 85) dX12_normalAt_83 rfl rfl ?_
          refine r_iaddN (q := 86) dX12_normalAt_85 rfl ?_
          refine r_ialdN (q := 87) 4400 (by decide) rfl dX12_normalAt_86 rfl (hs.e (by decide)) (hs.n rfl (by decide)) (by omega) (by decide) ?_
          refine r_topi (y := nI (cd ((tl W n).getD t []))) c1 ?_
          refine r_callV (Mc := mX12_write) (q := 90) (As := [zi (nI (cd ((tl W n).getD t [])))]) (st := []) ck12 dX12_normalAt_87 rfl rfl mkX12_write wt1742 wt1744 wp98 rfl (Nat.le_of_ble_eq_true rfl) (Nat.le_of_ble_eq_true rfl) (by decide) (by decide) (by decide) (Or.inl rfl) (hs.e (by decide)) (ok_X12_write hs hW htr hn7 he) (fun r87 S87 hp87 => ?_)
          obtain ⟨rfl, f9, hq9⟩ := hp87
          show Ok _ _ _ [zi (nI ((tx (wn W) (we W) [] ((tl W n).getD t [])).length))] _ _
          refine r_istore (q := 92) (L' := [some (zr 12 0), some (zi (nI n)), some (zi k0), some (zi i), some (zi k), some (zi (nI t)), some (zi (nI ((tx (wn W) (we W) [] ((tl W n).getD t [])).length)))]) dX12_normalAt_90 rfl (by decide) rfl ?_
          refine r_iload_n (q := 93) dX12_normalAt_92 rfl rfl rfl ?_
          refine r_iconst (q := 94) (nI 0) dX12_normalAt_93 rfl (by decide) ?_
          refine r_iload (q := 96) dX12_normalAt_94 rfl rfl ?_
          refine r_iconst (q := 97) (nI 1) dX12_normalAt_96 rfl (by decide) ?_
          refine r_isub (q := 98) dX12_normalAt_97 rfl ?_
          refine r_callS (Mc := mX12_isIn) (q := 101) (As := [zi i, zi (nI 0), zi ((nI ((tx (wn W) (we W) [] ((tl W n).getD t [])).length)) - (nI 1))]) (st := []) dX12_normalAt_98 rfl rfl mkX12_isIn wt1614 wt1615 rfl (Nat.le_of_ble_eq_true rfl) (Nat.le_of_ble_eq_true rfl) (by decide) (by decide) (by decide) (Or.inl rfl) (hs.fr f9).some (ok_X12_isIn_out (fun z => hi ⟨z.1, (le_pred (by omega)).mp z.2⟩)) (fun r98 S98 hp98 => ?_)
          obtain ⟨rfl, hq98⟩ := hp98
          rw [hq98]
          show Ok _ _ _ [zi (nI 0)] _ _
          refine r_if_eqN (q := 104) (t := 113) (by omega) dX12_normalAt_101 (by decide) rfl (fun h101 => ?_) (fun h101 => absurd h101 (by omega))
          refine r_iconst (q := 114) ((-1 : Int32)) dX12_normalAt_113 rfl (by decide) ?_
          refine r_ireturn dX12_normalAt_114 rfl ?_
          exact ⟨rfl, f9⟩
      · rw [if_neg hk]
        refine r_iload (q := 38) dX12_normalAt_36 rfl rfl ?_
        refine r_aload_n (q := 39) dX12_normalAt_38 rfl rfl rfl ?_
        refine r_getr (q := 42) (some (1324, 0)) ck12 dX12_normalAt_39 rfl (k := 24) (by decide) wt1302 rfl (hs.e (by decide)) (hs.r (by decide) (by decide)) ?_
        refine r_iload_n (q := 43) dX12_normalAt_42 rfl rfl rfl ?_
        refine r_ialdN (q := 44) 16 (by decide) rfl dX12_normalAt_43 rfl (hs.e (by decide)) (hs.n rfl (by decide)) (by omega) (by decide) ?_
        refine r_topi (y := nI ((tl W n).length)) h4 ?_
        refine r_icmp_geN (q := 47) (t := 124) (by omega) (by omega) dX12_normalAt_44 (by decide) rfl (fun h44 => absurd h44 (by omega)) (fun h44 => ?_)
        refine r_aload_n (q := 48) dX12_normalAt_47 rfl rfl rfl ?_
        refine r_getr (q := 51) (some (1332, 0)) ck12 dX12_normalAt_48 rfl (k := 32) (by decide) wt1310 rfl (hs.e (by decide)) (hs.r (by decide) (by decide)) ?_
        refine r_aload_n (q := 52) dX12_normalAt_51 rfl rfl rfl ?_
        refine r_getr (q := 55) (some (1325, 0)) ck12 dX12_normalAt_52 rfl (k := 25) (by decide) wt1303 rfl (hs.e (by decide)) (hs.r (by decide) (by decide)) ?_
        refine r_iload_n (q := 56) dX12_normalAt_55 rfl rfl rfl ?_
        refine r_ialdN (q := 57) 16 (by decide) rfl dX12_normalAt_56 rfl (hs.e (by decide)) (hs.n rfl (by decide)) (by omega) (by decide) ?_
        refine r_topi (y := nI F) h5 ?_
        refine r_iload (q := 59) dX12_normalAt_57 rfl rfl ?_
        refine r_iaddN (q := 60) dX12_normalAt_59 rfl ?_
        refine r_zaldN (q := 61) 4400 (by decide) rfl dX12_normalAt_60 rfl (hs.e (by decide)) (hs.n rfl (by decide)) (by omega) (by decide) ?_
        refine r_topi (y := nI 0) hp ?_
        refine r_if_eqN (q := 64) (t := 67) (by omega) dX12_normalAt_61 (by decide) rfl (fun h61 => ?_) (fun h61 => absurd h61 (by omega))
        refine r_iload (q := 69) dX12_normalAt_67 rfl rfl ?_
        refine r_if_ne (q := 72) (t := 115) dX12_normalAt_69 (by decide) rfl (fun h69 => ?_) (fun h69 => absurd h69 (fun z => z hk))
        refine r_iinc (q := 118) (L' := [some (zr 12 0), some (zi (nI n)), some (zi k0), some (zi i), some (zi (k + (-1))), some (zi (nI t)), none]) (k + (-1)) dX12_normalAt_115 rfl rfl (by decide) rfl rfl ?_
        refine r_iincN (q := 121) (L' := [some (zr 12 0), some (zi (nI n)), some (zi k0), some (zi i), some (zi (k + (-1))), some (zi (nI (t + 1))), none]) 1 rfl dX12_normalAt_118 rfl rfl (by decide) rfl ?_
        refine r_goto (q := 36) dX12_normalAt_121 (by decide) ?_
        exact ih (t + 1) _ (by omega)

set_option maxRecDepth 100000 in
theorem rm_nat_y {S : zS} (hs : Sd S) {W : zWd} (hW : Wok W) (hR : wqR W (fun k => gI S 1306 0 k) (fun i => gJ S 1308 0 i)) (hO : Cw S) (hcr : CR S W) (hI : IvI S) {n : Nat} (hn1 : 1 ≤ n) (hn7 : n ≤ 7) {k i : Int32} (hk : ¬ k < 0) (h3 : tc W n ≤ 300) : Ok mX12_normalAt 0 (ent 7 [zr 12 0, zi (nI n), zi k, zi i]) [] S (fun r S2 => ∃ S1, (Fr (fun x y k => tBy x y k || x == 12 && y == 0 && k == 0) S S1 ∧ Cw S1 ∧ CR S1 W ∧ IvI S1) ∧ Fr tWq S1 S2 ∧ ∃ pvs bss, LvR W pvs bss n ∧ r = some (zi (nAo W n i (fN (fun s => !pvs n s) (tl W n).length 0 k)))) := by
  show Ok mX12_normalAt 0 [some (zr 12 0), some (zi (nI n)), some (zi k), some (zi i), none, none, none] [] S _
  refine r_aload_n (q := 1) dX12_normalAt_0 rfl rfl rfl ?_
  refine r_iconst (q := 2) (nI 0) dX12_normalAt_1 rfl (by decide) ?_
  refine r_puti (q := 5) ck12 dX12_normalAt_2 rfl (k := 0) (by decide) wt1278 (Or.inl rfl) rfl (hs.e (by decide)) ?_
  refine r_iload_n (q := 6) dX12_normalAt_5 rfl rfl rfl ?_
  refine r_iconst (q := 7) (nI 1) dX12_normalAt_6 rfl (by decide) ?_
  refine r_bipush (q := 9) (nI 7) dX12_normalAt_7 rfl (by decide) ?_
  refine r_callS (Mc := mX12_isIn) (q := 12) (As := [zi (nI n), zi (nI 1), zi (nI 7)]) (st := []) dX12_normalAt_9 rfl rfl mkX12_isIn wt1614 wt1615 rfl (Nat.le_of_ble_eq_true rfl) (Nat.le_of_ble_eq_true rfl) (by decide) (by decide) (by decide) (Or.inl rfl) hs.some (ok_X12_isIn_in (by omega) (by omega) (by omega)) (fun r9 S9 hp9 => ?_)
  obtain ⟨rfl, hq9⟩ := hp9
  rw [hq9]
  show Ok _ _ _ [zi (nI 1)] _ _
  refine r_if_eqN (q := 15) (t := 28) (by omega) dX12_normalAt_12 (by decide) rfl (fun h12 => absurd h12 (by omega)) (fun h12 => ?_)
  refine r_iload_n (q := 16) dX12_normalAt_15 rfl rfl rfl ?_
  refine r_if_lt (q := 19) (t := 28) dX12_normalAt_16 (by decide) rfl (fun h16 => absurd h16 (hk)) (fun h16 => ?_)
  refine r_aload_n (q := 20) dX12_normalAt_19 rfl rfl rfl ?_
  refine r_iconst (q := 21) (nI 0) dX12_normalAt_20 rfl (by decide) ?_
  refine r_iload_n (q := 22) dX12_normalAt_21 rfl rfl rfl ?_
  refine r_callV (Mc := mX12_isBeyond) (q := 25) (As := [zi (nI 0), zi (nI n)]) (st := []) ck12 dX12_normalAt_22 rfl rfl mkX12_isBeyond wt1751 wt1753 wp99 rfl (Nat.le_of_ble_eq_true rfl) (Nat.le_of_ble_eq_true rfl) (by decide) (by decide) (by decide) (Or.inl rfl) (hs.e (by decide)) (ok_beyond0_n (S := sI S 12 0 0 (nI 0)) hs hW hn1 hn7 (wqR_thr hW hR) (rc_thr.rc (W := W).2.1 hO) (rc_thr.rc.1 hcr) (rc_thr.rc (W := W).2.2 hI) h3) (fun r22 S22 hp22 => ?_)
  obtain ⟨f1, hon, hcw, hiv, hws, L, pvs, bss, hB, hz⟩ := hp22
  have hs1 : Sd S22 := Sd.fr (S := sI S 12 0 0 (nI 0)) hs f1
  obtain ⟨rfl, _, hnL⟩ := hz.resolve_left (fun z => absurd z.2 (by omega))
  obtain ⟨hLr, hAc, hLv⟩ := hB.2.2.2.2 n hn1 (by omega)
  show Ok _ _ _ [zi (nI 0)] _ _
  refine r_if_eqN (q := 28) (t := 30) (by omega) dX12_normalAt_25 (by decide) rfl (fun h25 => ?_) (fun h25 => absurd h25 (by omega))
  refine r_iload_n (q := 31) dX12_normalAt_30 rfl rfl rfl ?_
  refine r_istore (q := 33) (L' := [some (zr 12 0), some (zi (nI n)), some (zi k), some (zi i), some (zi k), none, none]) dX12_normalAt_31 rfl (by decide) rfl ?_
  refine r_iconst (q := 34) (nI 0) dX12_normalAt_33 rfl (by decide) ?_
  refine r_istore (q := 36) (L' := [some (zr 12 0), some (zi (nI n)), some (zi k), some (zi i), some (zi k), some (zi (nI 0)), none]) dX12_normalAt_34 rfl (by decide) rfl ?_
  have e1306 : ∀ (x k : Nat), gI S22 1306 0 k = gI S 1306 0 k := fun _ k => (f1.1 _ _ _ rfl).trans (by rw [gI_sI, if_neg (by omega)])
  have h4 : gI S22 1324 0 n = nI (tl W n).length := by have z := hLr.2.1; rw [Nat.mul_zero, Nat.zero_add] at z; exact z
  have h5 : gI S22 1325 0 n = nI (FqR 0 W n) := by have z := hLr.1; rw [Nat.mul_zero, Nat.zero_add] at z; exact z
  refine Ok.mono (lp_rn36 hs1 hW hn7 h4 h5 hAc.1.2.2.2.2.1 hAc.1.2.2.2.2.2.1 hLr.2.2.1 hAc.1.2.2.2.2.2.2.2.1 (fun a ha => ⟨(e1306 0 _).trans (hR.2.2.2.1 a ha).1, (f1.2.1 _ _ _ rfl).trans (hR.2.2.2.1 a ha).2⟩) (tl W n).length 0 k (by omega)) (fun r S2 z => ⟨S22, ⟨((fr_thr (S := S)).mono (fun x y k h => by simp only [Bool.or_eq_true]; exact Or.inr h)).tr (f1.mono (fun x y k h => by simp [h])), hcw, fun _ => ⟨L, pvs, bss, hB⟩, hiv⟩, z.2, pvs, bss, hLv, z.1⟩)

set_option maxRecDepth 100000 in
theorem rm_nat_n {S : zS} (hs : Sd S) {W : zWd} (hW : Wok W) (hR : wqR W (fun k => gI S 1306 0 k) (fun i => gJ S 1308 0 i)) (hO : Cw S) (hcr : CR S W) (hI : IvI S) {n : Nat} (hn1 : 1 ≤ n) (hn7 : n ≤ 7) {k i : Int32} (hk : ¬ k < 0) (h3 : ¬ tc W n ≤ 300) : Ok mX12_normalAt 0 (ent 7 [zr 12 0, zi (nI n), zi k, zi i]) [] S (fun r S1 => (Fr (fun x y k => tBy x y k || x == 12 && y == 0 && k == 0) S S1 ∧ Cw S1 ∧ CR S1 W ∧ IvI S1) ∧ r = some (zi (-1))) := by
  show Ok mX12_normalAt 0 [some (zr 12 0), some (zi (nI n)), some (zi k), some (zi i), none, none, none] [] S _
  refine r_aload_n (q := 1) dX12_normalAt_0 rfl rfl rfl ?_
  refine r_iconst (q := 2) (nI 0) dX12_normalAt_1 rfl (by decide) ?_
  refine r_puti (q := 5) ck12 dX12_normalAt_2 rfl (k := 0) (by decide) wt1278 (Or.inl rfl) rfl (hs.e (by decide)) ?_
  refine r_iload_n (q := 6) dX12_normalAt_5 rfl rfl rfl ?_
  refine r_iconst (q := 7) (nI 1) dX12_normalAt_6 rfl (by decide) ?_
  refine r_bipush (q := 9) (nI 7) dX12_normalAt_7 rfl (by decide) ?_
  refine r_callS (Mc := mX12_isIn) (q := 12) (As := [zi (nI n), zi (nI 1), zi (nI 7)]) (st := []) dX12_normalAt_9 rfl rfl mkX12_isIn wt1614 wt1615 rfl (Nat.le_of_ble_eq_true rfl) (Nat.le_of_ble_eq_true rfl) (by decide) (by decide) (by decide) (Or.inl rfl) hs.some (ok_X12_isIn_in (by omega) (by omega) (by omega)) (fun r9 S9 hp9 => ?_)
  obtain ⟨rfl, hq9⟩ := hp9
  rw [hq9]
  show Ok _ _ _ [zi (nI 1)] _ _
  refine r_if_eqN (q := 15) (t := 28) (by omega) dX12_normalAt_12 (by decide) rfl (fun h12 => absurd h12 (by omega)) (fun h12 => ?_)
  refine r_iload_n (q := 16) dX12_normalAt_15 rfl rfl rfl ?_
  refine r_if_lt (q := 19) (t := 28) dX12_normalAt_16 (by decide) rfl (fun h16 => absurd h16 (hk)) (fun h16 => ?_)
  refine r_aload_n (q := 20) dX12_normalAt_19 rfl rfl rfl ?_
  refine r_iconst (q := 21) (nI 0) dX12_normalAt_20 rfl (by decide) ?_
  refine r_iload_n (q := 22) dX12_normalAt_21 rfl rfl rfl ?_
  refine r_callV (Mc := mX12_isBeyond) (q := 25) (As := [zi (nI 0), zi (nI n)]) (st := []) ck12 dX12_normalAt_22 rfl rfl mkX12_isBeyond wt1751 wt1753 wp99 rfl (Nat.le_of_ble_eq_true rfl) (Nat.le_of_ble_eq_true rfl) (by decide) (by decide) (by decide) (Or.inl rfl) (hs.e (by decide)) (ok_beyond0_y (S := sI S 12 0 0 (nI 0)) hs hW hn1 hn7 (wqR_thr hW hR) (rc_thr.rc (W := W).2.1 hO) (rc_thr.rc.1 hcr) (rc_thr.rc (W := W).2.2 hI) h3) (fun r22 S22 hp22 => ?_)
  obtain ⟨f1, hon, hcw, hiv, hws, L, pvs, bss, hB, hz⟩ := hp22
  have hs1 : Sd S22 := Sd.fr (S := sI S 12 0 0 (nI 0)) hs f1
  obtain ⟨rfl, _⟩ := hz.resolve_right (fun z => h3 z.2.1)
  show Ok _ _ _ [zi (nI 1)] _ _
  refine r_if_eqN (q := 28) (t := 30) (by omega) dX12_normalAt_25 (by decide) rfl (fun h25 => absurd h25 (by omega)) (fun h25 => ?_)
  refine r_iconst (q := 29) ((-1 : Int32)) dX12_normalAt_28 rfl (by decide) ?_
  refine r_ireturn dX12_normalAt_29 rfl ?_
  exact ⟨⟨((fr_thr (S := S)).mono (fun x y k h => by simp only [Bool.or_eq_true]; exact Or.inr h)).tr (f1.mono (fun x y k h => by simp [h])), hcw, fun _ => ⟨L, pvs, bss, hB⟩, hiv⟩, rfl⟩

set_option maxRecDepth 100000 in
theorem rm_nat_x {S : zS} (hs : Sd S) {x k i : Int32} (hx : ¬ (nI 1 ≤ x ∧ x ≤ nI 7)) : Ok mX12_normalAt 0 (ent 7 [zr 12 0, zi x, zi k, zi i]) [] S (fun r S1 => r = some (zi (-1)) ∧ S1 = sI S 12 0 0 (nI 0)) := by
  show Ok mX12_normalAt 0 [some (zr 12 0), some (zi x), some (zi k), some (zi i), none, none, none] [] S _
  refine r_aload_n (q := 1) dX12_normalAt_0 rfl rfl rfl ?_
  refine r_iconst (q := 2) (nI 0) dX12_normalAt_1 rfl (by decide) ?_
  refine r_puti (q := 5) ck12 dX12_normalAt_2 rfl (k := 0) (by decide) wt1278 (Or.inl rfl) rfl (hs.e (by decide)) ?_
  refine r_iload_n (q := 6) dX12_normalAt_5 rfl rfl rfl ?_
  refine r_iconst (q := 7) (nI 1) dX12_normalAt_6 rfl (by decide) ?_
  refine r_bipush (q := 9) (nI 7) dX12_normalAt_7 rfl (by decide) ?_
  refine r_callS (Mc := mX12_isIn) (q := 12) (As := [zi x, zi (nI 1), zi (nI 7)]) (st := []) dX12_normalAt_9 rfl rfl mkX12_isIn wt1614 wt1615 rfl (Nat.le_of_ble_eq_true rfl) (Nat.le_of_ble_eq_true rfl) (by decide) (by decide) (by decide) (Or.inl rfl) hs.some (ok_X12_isIn_out hx) (fun r9 S9 hp9 => ?_)
  obtain ⟨rfl, hq9⟩ := hp9
  rw [hq9]
  show Ok _ _ _ [zi (nI 0)] _ _
  refine r_if_eqN (q := 15) (t := 28) (by omega) dX12_normalAt_12 (by decide) rfl (fun h12 => ?_) (fun h12 => absurd h12 (by omega))
  refine r_iconst (q := 29) ((-1 : Int32)) dX12_normalAt_28 rfl (by decide) ?_
  refine r_ireturn dX12_normalAt_29 rfl ?_
  exact ⟨rfl, rfl⟩

set_option maxRecDepth 100000 in
theorem rm_nat_k {S : zS} (hs : Sd S) {n : Nat} (hn1 : 1 ≤ n) (hn7 : n ≤ 7) {k i : Int32} (hk : k < 0) : Ok mX12_normalAt 0 (ent 7 [zr 12 0, zi (nI n), zi k, zi i]) [] S (fun r S1 => r = some (zi (-1)) ∧ S1 = sI S 12 0 0 (nI 0)) := by
  show Ok mX12_normalAt 0 [some (zr 12 0), some (zi (nI n)), some (zi k), some (zi i), none, none, none] [] S _
  refine r_aload_n (q := 1) dX12_normalAt_0 rfl rfl rfl ?_
  refine r_iconst (q := 2) (nI 0) dX12_normalAt_1 rfl (by decide) ?_
  refine r_puti (q := 5) ck12 dX12_normalAt_2 rfl (k := 0) (by decide) wt1278 (Or.inl rfl) rfl (hs.e (by decide)) ?_
  refine r_iload_n (q := 6) dX12_normalAt_5 rfl rfl rfl ?_
  refine r_iconst (q := 7) (nI 1) dX12_normalAt_6 rfl (by decide) ?_
  refine r_bipush (q := 9) (nI 7) dX12_normalAt_7 rfl (by decide) ?_
  refine r_callS (Mc := mX12_isIn) (q := 12) (As := [zi (nI n), zi (nI 1), zi (nI 7)]) (st := []) dX12_normalAt_9 rfl rfl mkX12_isIn wt1614 wt1615 rfl (Nat.le_of_ble_eq_true rfl) (Nat.le_of_ble_eq_true rfl) (by decide) (by decide) (by decide) (Or.inl rfl) hs.some (ok_X12_isIn_in (by omega) (by omega) (by omega)) (fun r9 S9 hp9 => ?_)
  obtain ⟨rfl, hq9⟩ := hp9
  rw [hq9]
  show Ok _ _ _ [zi (nI 1)] _ _
  refine r_if_eqN (q := 15) (t := 28) (by omega) dX12_normalAt_12 (by decide) rfl (fun h12 => absurd h12 (by omega)) (fun h12 => ?_)
  refine r_iload_n (q := 16) dX12_normalAt_15 rfl rfl rfl ?_
  refine r_if_lt (q := 19) (t := 28) dX12_normalAt_16 (by decide) rfl (fun h16 => ?_) (fun h16 => absurd h16 (fun z => z hk))
  refine r_iconst (q := 29) ((-1 : Int32)) dX12_normalAt_28 rfl (by decide) ?_
  refine r_ireturn dX12_normalAt_29 rfl ?_
  exact ⟨rfl, rfl⟩

def tNa (cc a b k : Nat) : Prop := tBz cc a b k ∨ tWx a b k = true ∨ tWq a b k = true
theorem BsC.fr {S S1 : zS} {cc : Nat} {W : zWd} (h : BsC S cc W) {T : Nat → Nat → Nat → Prop} (f : Fg T S S1) (t1 : ¬ T 0 cc 2 ∧ ∀ x k, 103 ≤ x → x ≤ 108 → ¬ T x cc k) (t : ¬ T 12 0 33 ∧ ¬ T 12 0 43 ∧ (∀ x k, 1322 ≤ x → x ≤ 1334 ∨ x = 1342 → ¬ T x 0 k) ∧ ∀ k, k < 1173 → ¬ T 1306 0 k) : BsC S1 cc W := by
  obtain ⟨⟨n, mk, rl, hB⟩, h2, h3, h4⟩ := h
  have rc := (RcI.of f t).rc (W := W)
  exact ⟨⟨n, mk, rl, hB.fg f t1⟩, rc.1 h2, rc.2.1 h3, rc.2.2 h4⟩
theorem BsC.wx {S S1 : zS} {cc : Nat} {W : zWd} (h : BsC S cc W) (hs : Sd S) (f : Fr tWx S S1) : BsC S1 cc W := h.fr (f.fg hs (U := fun a _ _ => 1100 ≤ a ∧ a < 1300 ∨ a = 10) (fun a b k z => by simp [tWx, tWc, tWb] at z; omega)) ⟨by omega, fun x k a b => by omega⟩ ⟨by omega, by omega, fun x k a b => by omega, fun k _ => by omega⟩
theorem BsC.wq {S S1 : zS} {cc : Nat} {W : zWd} (h : BsC S cc W) (hs : Sd S) (f : Fr tWq S S1) : BsC S1 cc W := h.fr (f.fg hs (U := fun a _ k => 1359 ≤ a ∨ a = 1316 ∨ a = 12 ∧ k = 20) (fun a b k z => by simp [tWq] at z; omega)) ⟨by omega, fun x k a b => by omega⟩ ⟨by omega, by omega, fun x k a b => by omega, fun k _ => by omega⟩
theorem wqR.wx {S S1 : zS} {W : zWd} (hW : Wok W) (f : Fr tWx S S1) (h : wqR W (fun k => gI S 1306 0 k) (fun i => gJ S 1308 0 i)) : wqR W (fun k => gI S1 1306 0 k) (fun i => gJ S1 1308 0 i) := wqR.cong hW (fun k _ _ => (f.1 _ _ _ rfl).symm) (fun _ _ => (f.2.1 _ _ _ rfl).symm) h
theorem wqR.re2 {S S1 : zS} {W : zWd} (hW : Wok W) {cc : Nat} (f : Fg (tRe cc) S S1) (h : wqR W (fun k => gI S 1306 0 k) (fun i => gJ S 1308 0 i)) : wqR W (fun k => gI S1 1306 0 k) (fun i => gJ S1 1308 0 i) := wqR.cong hW (fun k _ _ => (f.I (by omega) (by unfold tRe; omega)).symm) (fun _ _ => (f.J (by omega) (by unfold tRe; omega)).symm) h
theorem pg_normalAt {S : zS} (hs : Sd S) {W : zWd} {cc : Nat} (hcc : gI S 11 0 3 = nI cc) (hc4 : cc < 4) (hw : WR wq S W cc 1306 0 1308 0) (hb : BsC S cc W) (a k i : Int32) : Pg mX11_normalAt 6 [zr 11 0, zi a, zi k, zi i] mX12_normalAt 7 [zr 12 0, zi a, zi k, zi i] S (fun S2 => Fg (tNa cc) S S2 ∧ BsC S2 cc W) := by
  obtain ⟨hW, hC, hR⟩ := hw.c
  obtain ⟨hc, hT⟩ := wq_WC hC
  have hb' := hb
  obtain ⟨⟨n0, mk, rl, hB⟩, hcr, hO, hI⟩ := hb
  have thr : ∀ S1, Sd S1 → Fg (tNa cc) S S1 → BsC S1 cc W → Fg (tNa cc) S (sI S1 12 0 0 (nI 0)) ∧ BsC (sI S1 12 0 0 (nI 0)) cc W := fun S1 h1 h2 h3 => by
    have f2 : Fr (fun x y k => tBy x y k || x == 12 && y == 0 && k == 0) S1 (sI S1 12 0 0 (nI 0)) := fr_thr.mono (fun x y k h => by simp only [Bool.or_eq_true]; exact Or.inr h)
    obtain ⟨⟨n, mk, rl, hB⟩, hcr, hO, hI⟩ := h3
    exact ⟨h2.tr ((fg_by h1 f2).mono fun a b k z => Or.inl z), ⟨n, mk, rl, hB.by h1 f2⟩, rc_thr.rc.1 hcr, (rc_thr.rc (W := W)).2.1 hO, (rc_thr.rc (W := W)).2.2 hI⟩
  by_cases ha : nI 1 ≤ a ∧ a ≤ nI 7
  · obtain ⟨n, rfl, hn1, hn7⟩ := in17 ha
    by_cases h3 : tc W n ≤ 300
    · refine Ok.mono (cm_nat_y hs hW hcc hc4 hc hT hB hn1 hn7 h3) fun r S2 z => ?_
      obtain ⟨S1, f1, f2, n1, mk1, rl1, hB1, hn, rfl⟩ := z
      have rc := (rc_re f1).rc (W := W)
      have hb1 : BsC S1 cc W := ⟨⟨n1, mk1, rl1, hB1⟩, rc.1 hcr, rc.2.1 hO, rc.2.2 hI⟩
      have hb2 := hb1.wx f1.sd f2
      have hs2 : Sd S2 := f1.sd.fr f2
      have g2 : Fg (tNa cc) S S2 := (f1.mono fun a b k z => Or.inl (Or.inl z)).tr (f2.fg f1.sd fun a b k z => Or.inr (Or.inl z))
      have hlc := (hB1.2.2.2.2.2.2.2.2.2 n hn1 hn).2
      refine ⟨_, rfl, hs2, ?_⟩
      by_cases hk : k < 0
      · have hnone : fN (fun s => decide (mk1 n s = 0)) (tl W n).length 0 k = none := fN_big (by
          have := neg_big hk
          have h4 := tl_len (W := W) hW.2.1 (n := n)
          omega)
        rw [hnone]
        refine Ok.mono (rm_nat_k hs2 hn1 hn7 hk) fun r2 S3 y => ?_
        obtain ⟨rfl, rfl⟩ := y
        exact ⟨rfl, thr S2 hs2 g2 hb2⟩
      · refine Ok.mono (rm_nat_y hs2 hW ((hR.re2 hW f1).wx hW f2) hb2.2.2.1 hb2.2.1 hb2.2.2.2 hn1 hn7 hk h3) fun r2 S4 y => ?_
        obtain ⟨S3, ⟨f3, y2, y3, y4⟩, f4, pvs, bss, y5, rfl⟩ := y
        have hl := lv_link hW hlc y5
        have e := fN_cong (b := fun s => decide (mk1 n s = 0)) (b' := fun s => !pvs n s) (d := (tl W n).length) (t := 0) (k := k) (fun s _ h => by
          have := (hl s (by omega)).1
          cases q : pvs n s with
          | true => simpa using this.mp q
          | false =>
            have : mk1 n s = 0 := Classical.byContradiction fun z => by rw [this.mpr z] at q; cases q
            simpa using this)
        have hs3 : Sd S3 := hs2.fr f3
        have hb3 : BsC S3 cc W := ⟨by obtain ⟨⟨n, mk, rl, hB⟩, _⟩ := hb2; exact ⟨n, mk, rl, hB.by hs2 f3⟩, y3, y2, y4⟩
        refine ⟨by rw [e], (g2.tr ((fg_by hs2 f3).mono fun a b k z => Or.inl z)).tr (f4.fg hs3 fun a b k z => Or.inr (Or.inr z)), hb3.wq hs3 f4⟩
    · refine Ok.mono (cm_nat_n hs hW hcc hc4 hc hT hB hn1 hn7 h3) fun r S1 z => ?_
      obtain ⟨f1, ⟨n1, mk1, rl1, hB1⟩, rfl⟩ := z
      have rc := (rc_re f1).rc (W := W)
      have hb1 : BsC S1 cc W := ⟨⟨n1, mk1, rl1, hB1⟩, rc.1 hcr, rc.2.1 hO, rc.2.2 hI⟩
      have g1 : Fg (tNa cc) S S1 := f1.mono fun a b k z => Or.inl (Or.inl z)
      refine ⟨_, rfl, f1.sd, ?_⟩
      by_cases hk : k < 0
      · refine Ok.mono (rm_nat_k f1.sd hn1 hn7 hk) fun r2 S3 y => ?_
        obtain ⟨rfl, rfl⟩ := y
        exact ⟨rfl, thr S1 f1.sd g1 hb1⟩
      · refine Ok.mono (rm_nat_n f1.sd hW (hR.re2 hW f1) hb1.2.2.1 hb1.2.1 hb1.2.2.2 hn1 hn7 hk h3) fun r2 S3 y => ?_
        obtain ⟨⟨f3, y2, y3, y4⟩, rfl⟩ := y
        exact ⟨rfl, g1.tr ((fg_by f1.sd f3).mono fun a b k z => Or.inl z), ⟨n1, mk1, rl1, hB1.by f1.sd f3⟩, y3, y2, y4⟩
  · refine Ok.mono (cm_nat_x hs hcc hc4 ha) fun r S1 z => ?_
    obtain ⟨rfl, rfl⟩ := z
    refine ⟨_, rfl, hs, Ok.mono (rm_nat_x hs ha) fun r2 S2 y => ?_⟩
    obtain ⟨rfl, rfl⟩ := y
    exact ⟨rfl, thr S1 hs (Fg.rf hs) hb'⟩

