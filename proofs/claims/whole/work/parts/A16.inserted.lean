def tIn (q n F RF m x y k : Nat) : Bool := y == 0 && (x == 1341 || x == 1331 && decide (RF ≤ k) && decide (k < RF + m * m) || x == 1332 && decide (F ≤ k) && decide (k < F + m) || x == 1326 && k == 8 * q + n)
def cntp (pv : Nat → Bool) (m : Nat) : Nat := sm (fun t => if pv t = true then 1 else 0) m
theorem cntp_le {pv : Nat → Bool} : ∀ m, cntp pv m ≤ m
  | 0 => Nat.le_refl _
  | m + 1 => by
    show cntp pv m + (if pv m = true then 1 else 0) ≤ m + 1
    have := cntp_le (pv := pv) m
    split <;> omega
theorem cntp_new {pv : Nat → Bool} {t0 m : Nat} (h : t0 < m) (hp : pv t0 = false) : cntp (npv pv t0) m = cntp pv m + 1 := by
  have := sm_upd (f := fun t => if npv pv t0 t = true then 1 else 0) (g := fun t => if pv t = true then 1 else 0) h (fun i _ hi => by
    show (if npv pv t0 i = true then 1 else 0) = (if pv i = true then 1 else 0)
    unfold npv
    rw [if_neg hi])
  have e1 : (if npv pv t0 t0 = true then 1 else 0) = 1 := by unfold npv; rw [if_pos rfl]; rfl
  have e2 : (if pv t0 = true then 1 else 0) = 0 := by rw [hp]; rfl
  unfold cntp
  simp only [e1, e2] at this
  omega
/-- inverses by P -/
def Iv (S : zS) (P : Nat) : Prop := ∀ a, 1 ≤ a → a < P → ∃ b, gI S 1342 0 a = nI b ∧ b < P ∧ b * a % P = 1
def InsR (S S1 : zS) (q n F RF P : Nat) (T : List (List Nat)) (pv : Nat → Bool) (bs : Nat → Nat → Nat) (v : Nat → Nat) : Prop := Fr (tIn q n F RF T.length) S S1 ∧ ∃ pv' bs', Bx S1 q n F RF T.length P pv' bs' ∧ RwOk T.length P pv' bs' ∧ Sp P (Rw T pv' (RR bs')) (Vn T v) ∧ (∀ u, Rw T pv (RR bs) u → Sp P (Rw T pv' (RR bs')) u) ∧ (∀ G : zL → Prop, Sp P G (Vn T v) → (∀ t, t < T.length → pv t = true → Sp P G (V T (RR bs t))) → ∀ t, t < T.length → pv' t = true → Sp P G (V T (RR bs' t))) ∧ gI S1 1326 0 (8 * q + n) = nI (cntp pv' T.length)
theorem tIn_rv {q n F RF m : Nat} (x y k : Nat) (h : tRv x y k = true) : tIn q n F RF m x y k = true := by
  simp [tRv] at h
  simp [tIn, h.1, h.2]
theorem nbs_0 {P : Nat} {bs : Nat → Nat → Nat} {t0 : Nat} {r : Nat → Nat} {c j : Nat} (hct : t0 < c) (h0 : bs c t0 = 0) (hb : bs c j < P) : nbs P bs t0 r c j = bs c j := by
  unfold nbs
  rw [if_neg (by omega), if_pos hct, h0, Nat.sub_zero]
  by_cases q : j ≤ t0
  · rw [if_pos q, Nat.add_mul_mod_self_left, Nat.mod_eq_of_lt hb]
  · rw [if_neg q]

set_option maxRecDepth 100000 in
theorem lp_in4 {q n m P F RF tp by' : Nat} (hq : q ≤ 1) (hn7 : n ≤ 7) (h2 : 2 ≤ P) (hP : P ≤ 97) (hm3 : m ≤ 300) (htp : tp < m) (hRF : RF + m * m ≤ 400000) (hF : F + m ≤ 4400) {pv : Nat → Bool} {bs : Nat → Nat → Nat} (hok : RwOk m P pv bs) {r : Nat → Nat} (hrP : ∀ j, j < m → r j < P) {Po : Option zV → zS → Prop} : ∀ (d c : Nat) (S : zS) (w10 w11 w12 : Option zV), c + d = m → tp < c → Sd S → (∀ t, t < m → gI S 1332 0 (F + t) = nI (b01 (pv t))) → gI S 1324 0 (8 * q + n) = nI m → gI S 1327 0 (8 * q + n) = nI RF → Bas S RF m P (npv pv tp) (cbs P bs tp r c) → (∀ S1 w10 w11 w12, Fr (tIn q n F RF m) S S1 → (∀ x y k, x ≠ 1331 → gI S1 x y k = gI S x y k) → Bas S1 RF m P (npv pv tp) (nbs P bs tp r) → Ok mX12_insert 256 [some (zr 12 0), some (zi (nI q)), some (zi (nI n)), some (zi (nI P)), some (zi (nI m)), some (zi (nI F)), some (zi (nI tp)), some (zi (nI by')), some (zi (nI (RF + tp * m))), some (zi (nI m)), w10, w11, w12] [] S1 Po) → Ok mX12_insert 146 [some (zr 12 0), some (zi (nI q)), some (zi (nI n)), some (zi (nI P)), some (zi (nI m)), some (zi (nI F)), some (zi (nI tp)), some (zi (nI by')), some (zi (nI (RF + tp * m))), some (zi (nI c)), w10, w11, w12] [] S Po := by
  intro d
  induction d with
  | zero =>
    intro c S w10 w11 w12 hc htc hs hp h4 h7 hB K
    obtain rfl : c = m := by omega
    refine r_mask [true, true, true, true, true, true, true, true, true, true, false, false, false] rfl ?_
    refine r_iload (q := 148) dX12_insert_146 rfl rfl ?_
    refine r_iload (q := 150) dX12_insert_148 rfl rfl ?_
    refine r_icmp_geN (q := 153) (t := 256) (by omega) (by omega) dX12_insert_150 (by decide) rfl (fun h150 => ?_) (fun h150 => absurd h150 (by omega))
    exact K S _ _ _ Fr.rf (fun _ _ _ _ => rfl) (fun t ht hpt j hj => by have := hB t ht hpt j hj; unfold cbs at this; rw [if_pos ht] at this; exact this)
  | succ d ih =>
    intro c S w10 w11 w12 hc htc hs hp h4 h7 hB K
    have hcm : c < m := by omega
    have p1 := hp c hcm
    have hml := mulle hcm
    have hml2 := mulle htp
    have hcne : c ≠ tp := by omega
    have hnp : npv pv tp c = pv c := if_neg hcne
    refine r_mask [true, true, true, true, true, true, true, true, true, true, false, false, false] rfl ?_
    cases hpv : pv c with
    | false =>
      rw [hpv] at p1
      have p1 : gI S 1332 0 (F + c) = nI 0 := p1
      refine r_iload (q := 148) dX12_insert_146 rfl rfl ?_
      refine r_iload (q := 150) dX12_insert_148 rfl rfl ?_
      refine r_icmp_geN (q := 153) (t := 256) (by omega) (by omega) dX12_insert_150 (by decide) rfl (fun h150 => absurd h150 (by omega)) (fun h150 => ?_)
      refine r_aload_n (q := 154) dX12_insert_153 rfl rfl rfl ?_
      refine r_getr (q := 157) (some (1332, 0)) ck12 dX12_insert_154 rfl (k := 32) (by decide) wt1310 rfl (hs.e (by decide)) (hs.r (by decide) (by decide)) ?_
      refine r_iload (q := 159) dX12_insert_157 rfl rfl ?_
      refine r_iload (q := 161) dX12_insert_159 rfl rfl ?_
      refine r_iaddN (q := 162) dX12_insert_161 rfl ?_
      refine r_zaldN (q := 163) 4400 (by decide) rfl dX12_insert_162 rfl (hs.e (by decide)) (hs.n rfl (by decide)) (by omega) (by decide) ?_
      refine r_topi (y := nI 0) p1 ?_
      refine r_if_neN (q := 166) (t := 169) (by omega) dX12_insert_163 (by decide) rfl (fun h163 => absurd h163 (by omega)) (fun h163 => ?_)
      refine r_goto (q := 250) dX12_insert_166 (by decide) ?_
      refine r_iincN (q := 253) (L' := [some (zr 12 0), some (zi (nI q)), some (zi (nI n)), some (zi (nI P)), some (zi (nI m)), some (zi (nI F)), some (zi (nI tp)), some (zi (nI by')), some (zi (nI (RF + tp * m))), some (zi (nI (c + 1))), none, none, none]) 1 rfl dX12_insert_250 rfl rfl (by decide) rfl ?_
      refine r_goto (q := 146) dX12_insert_253 (by decide) ?_
      exact ih (c + 1) S _ _ _ (by omega) (by omega) hs hp h4 h7 (fun t ht hpt j hj => by
        have := hB t ht hpt j hj
        unfold cbs at this ⊢
        by_cases e : t = c
        · rw [e, hnp, hpv] at hpt; cases hpt
        · by_cases q : t < c
          · rw [if_pos q] at this; rw [if_pos (by omega)]; exact this
          · rw [if_neg q] at this; rw [if_neg (by omega)]; exact this) K
    | true =>
      rw [hpv] at p1
      have p1 : gI S 1332 0 (F + c) = nI 1 := p1
      obtain ⟨o1, o2, o3, o4⟩ := hok c hcm hpv
      have hrc : ∀ j, j < m → gI S 1331 0 (RF + c * m + j) = nI (bs c j) := fun j hj => by
        have := (hB c hcm (by rw [hnp]; exact hpv) j hj).1
        unfold cbs at this
        rw [if_neg (by omega)] at this; exact this
      have hrt : ∀ j, j < m → gI S 1331 0 (RF + tp * m + j) = nI (r j) := fun j hj => by
        have := (hB tp htp (if_pos rfl) j hj).1
        unfold cbs nbs at this
        rw [if_pos htc, if_pos rfl] at this; exact this
      have rv := hrc tp htp
      have ov := o1 tp htp
      by_cases hv0 : bs c tp = 0
      · skip
        refine r_iload (q := 148) dX12_insert_146 rfl rfl ?_
        refine r_iload (q := 150) dX12_insert_148 rfl rfl ?_
        refine r_icmp_geN (q := 153) (t := 256) (by omega) (by omega) dX12_insert_150 (by decide) rfl (fun h150 => absurd h150 (by omega)) (fun h150 => ?_)
        refine r_aload_n (q := 154) dX12_insert_153 rfl rfl rfl ?_
        refine r_getr (q := 157) (some (1332, 0)) ck12 dX12_insert_154 rfl (k := 32) (by decide) wt1310 rfl (hs.e (by decide)) (hs.r (by decide) (by decide)) ?_
        refine r_iload (q := 159) dX12_insert_157 rfl rfl ?_
        refine r_iload (q := 161) dX12_insert_159 rfl rfl ?_
        refine r_iaddN (q := 162) dX12_insert_161 rfl ?_
        refine r_zaldN (q := 163) 4400 (by decide) rfl dX12_insert_162 rfl (hs.e (by decide)) (hs.n rfl (by decide)) (by omega) (by decide) ?_
        refine r_topi (y := nI 1) p1 ?_
        refine r_if_neN (q := 166) (t := 169) (by omega) dX12_insert_163 (by decide) rfl (fun h163 => ?_) (fun h163 => absurd h163 (by omega))
        refine r_aload_n (q := 170) dX12_insert_169 rfl rfl rfl ?_
        refine r_iload_n (q := 171) dX12_insert_170 rfl rfl rfl ?_
        refine r_iload_n (q := 172) dX12_insert_171 rfl rfl rfl ?_
        refine r_iload (q := 174) dX12_insert_172 rfl rfl ?_
        refine r_callV (Mc := mX12_rowAt) (q := 177) (As := [zi (nI q), zi (nI n), zi (nI c)]) (st := []) ck12 dX12_insert_174 rfl rfl mkX12_rowAt wt1808 wt1810 wp112 rfl (Nat.le_of_ble_eq_true rfl) (Nat.le_of_ble_eq_true rfl) (by decide) (by decide) (by decide) (Or.inl rfl) (hs.e (by decide)) (ok_rowAt hs hq hn7 h4 h7) (fun r174 S174 hp174 => ?_)
        obtain ⟨rfl, hq174⟩ := hp174
        rw [hq174]
        show Ok _ _ _ [zi (nI (RF + c * m))] _ _
        refine r_istore (q := 179) (L' := [some (zr 12 0), some (zi (nI q)), some (zi (nI n)), some (zi (nI P)), some (zi (nI m)), some (zi (nI F)), some (zi (nI tp)), some (zi (nI by')), some (zi (nI (RF + tp * m))), some (zi (nI c)), some (zi (nI (RF + c * m))), none, none]) dX12_insert_177 rfl (by decide) rfl ?_
        refine r_aload_n (q := 180) dX12_insert_179 rfl rfl rfl ?_
        refine r_getr (q := 183) (some (1331, 0)) ck12 dX12_insert_180 rfl (k := 31) (by decide) wt1309 rfl (hs.e (by decide)) (hs.r (by decide) (by decide)) ?_
        refine r_iload (q := 185) dX12_insert_183 rfl rfl ?_
        refine r_iload (q := 187) dX12_insert_185 rfl rfl ?_
        refine r_iaddN (q := 188) dX12_insert_187 rfl ?_
        refine r_ialdN (q := 189) 400000 (by decide) rfl dX12_insert_188 rfl (hs.e (by decide)) (hs.n rfl (by decide)) (by omega) (by decide) ?_
        refine r_topi (y := nI (bs c tp)) rv ?_
        refine r_istore (q := 191) (L' := [some (zr 12 0), some (zi (nI q)), some (zi (nI n)), some (zi (nI P)), some (zi (nI m)), some (zi (nI F)), some (zi (nI tp)), some (zi (nI by')), some (zi (nI (RF + tp * m))), some (zi (nI c)), some (zi (nI (RF + c * m))), some (zi (nI (bs c tp))), none]) dX12_insert_189 rfl (by decide) rfl ?_
        refine r_iconst (q := 192) (nI 0) dX12_insert_191 rfl (by decide) ?_
        refine r_istore (q := 194) (L' := [some (zr 12 0), some (zi (nI q)), some (zi (nI n)), some (zi (nI P)), some (zi (nI m)), some (zi (nI F)), some (zi (nI tp)), some (zi (nI by')), some (zi (nI (RF + tp * m))), some (zi (nI c)), some (zi (nI (RF + c * m))), some (zi (nI (bs c tp))), some (zi (nI 0))]) dX12_insert_192 rfl (by decide) rfl ?_
        refine r_iload (q := 196) dX12_insert_194 rfl rfl ?_
        refine r_iload (q := 198) dX12_insert_196 rfl rfl ?_
        refine r_icmp_gtN (q := 201) (t := 250) (by omega) (by omega) dX12_insert_198 (by decide) rfl (fun h198 => absurd h198 (by omega)) (fun h198 => ?_)
        refine r_iload (q := 203) dX12_insert_201 rfl rfl ?_
        refine r_if_leN (q := 206) (t := 250) (by omega) dX12_insert_203 (by decide) rfl (fun h203 => ?_) (fun h203 => absurd h203 (by omega))
        refine r_iincN (q := 253) (L' := [some (zr 12 0), some (zi (nI q)), some (zi (nI n)), some (zi (nI P)), some (zi (nI m)), some (zi (nI F)), some (zi (nI tp)), some (zi (nI by')), some (zi (nI (RF + tp * m))), some (zi (nI (c + 1))), some (zi (nI (RF + c * m))), some (zi (nI (bs c tp))), some (zi (nI 0))]) 1 rfl dX12_insert_250 rfl rfl (by decide) rfl ?_
        refine r_goto (q := 146) dX12_insert_253 (by decide) ?_
        exact ih (c + 1) S _ _ _ (by omega) (by omega) hs hp h4 h7 (fun t ht hpt j hj => by
          have := hB t ht hpt j hj
          unfold cbs at this ⊢
          by_cases e : t = c
          · subst e
            rw [if_neg (by omega)] at this
            rw [if_pos (by omega), nbs_0 htc hv0 (o1 j hj)]; exact this
          · by_cases q : t < c
            · rw [if_pos q] at this; rw [if_pos (by omega)]; exact this
            · rw [if_neg q] at this; rw [if_neg (by omega)]; exact this) K
      · skip
        refine r_iload (q := 148) dX12_insert_146 rfl rfl ?_
        refine r_iload (q := 150) dX12_insert_148 rfl rfl ?_
        refine r_icmp_geN (q := 153) (t := 256) (by omega) (by omega) dX12_insert_150 (by decide) rfl (fun h150 => absurd h150 (by omega)) (fun h150 => ?_)
        refine r_aload_n (q := 154) dX12_insert_153 rfl rfl rfl ?_
        refine r_getr (q := 157) (some (1332, 0)) ck12 dX12_insert_154 rfl (k := 32) (by decide) wt1310 rfl (hs.e (by decide)) (hs.r (by decide) (by decide)) ?_
        refine r_iload (q := 159) dX12_insert_157 rfl rfl ?_
        refine r_iload (q := 161) dX12_insert_159 rfl rfl ?_
        refine r_iaddN (q := 162) dX12_insert_161 rfl ?_
        refine r_zaldN (q := 163) 4400 (by decide) rfl dX12_insert_162 rfl (hs.e (by decide)) (hs.n rfl (by decide)) (by omega) (by decide) ?_
        refine r_topi (y := nI 1) p1 ?_
        refine r_if_neN (q := 166) (t := 169) (by omega) dX12_insert_163 (by decide) rfl (fun h163 => ?_) (fun h163 => absurd h163 (by omega))
        refine r_aload_n (q := 170) dX12_insert_169 rfl rfl rfl ?_
        refine r_iload_n (q := 171) dX12_insert_170 rfl rfl rfl ?_
        refine r_iload_n (q := 172) dX12_insert_171 rfl rfl rfl ?_
        refine r_iload (q := 174) dX12_insert_172 rfl rfl ?_
        refine r_callV (Mc := mX12_rowAt) (q := 177) (As := [zi (nI q), zi (nI n), zi (nI c)]) (st := []) ck12 dX12_insert_174 rfl rfl mkX12_rowAt wt1808 wt1810 wp112 rfl (Nat.le_of_ble_eq_true rfl) (Nat.le_of_ble_eq_true rfl) (by decide) (by decide) (by decide) (Or.inl rfl) (hs.e (by decide)) (ok_rowAt hs hq hn7 h4 h7) (fun r174 S174 hp174 => ?_)
        obtain ⟨rfl, hq174⟩ := hp174
        rw [hq174]
        show Ok _ _ _ [zi (nI (RF + c * m))] _ _
        refine r_istore (q := 179) (L' := [some (zr 12 0), some (zi (nI q)), some (zi (nI n)), some (zi (nI P)), some (zi (nI m)), some (zi (nI F)), some (zi (nI tp)), some (zi (nI by')), some (zi (nI (RF + tp * m))), some (zi (nI c)), some (zi (nI (RF + c * m))), none, none]) dX12_insert_177 rfl (by decide) rfl ?_
        refine r_aload_n (q := 180) dX12_insert_179 rfl rfl rfl ?_
        refine r_getr (q := 183) (some (1331, 0)) ck12 dX12_insert_180 rfl (k := 31) (by decide) wt1309 rfl (hs.e (by decide)) (hs.r (by decide) (by decide)) ?_
        refine r_iload (q := 185) dX12_insert_183 rfl rfl ?_
        refine r_iload (q := 187) dX12_insert_185 rfl rfl ?_
        refine r_iaddN (q := 188) dX12_insert_187 rfl ?_
        refine r_ialdN (q := 189) 400000 (by decide) rfl dX12_insert_188 rfl (hs.e (by decide)) (hs.n rfl (by decide)) (by omega) (by decide) ?_
        refine r_topi (y := nI (bs c tp)) rv ?_
        refine r_istore (q := 191) (L' := [some (zr 12 0), some (zi (nI q)), some (zi (nI n)), some (zi (nI P)), some (zi (nI m)), some (zi (nI F)), some (zi (nI tp)), some (zi (nI by')), some (zi (nI (RF + tp * m))), some (zi (nI c)), some (zi (nI (RF + c * m))), some (zi (nI (bs c tp))), none]) dX12_insert_189 rfl (by decide) rfl ?_
        refine r_iconst (q := 192) (nI 0) dX12_insert_191 rfl (by decide) ?_
        refine r_istore (q := 194) (L' := [some (zr 12 0), some (zi (nI q)), some (zi (nI n)), some (zi (nI P)), some (zi (nI m)), some (zi (nI F)), some (zi (nI tp)), some (zi (nI by')), some (zi (nI (RF + tp * m))), some (zi (nI c)), some (zi (nI (RF + c * m))), some (zi (nI (bs c tp))), some (zi (nI 0))]) dX12_insert_192 rfl (by decide) rfl ?_
        refine lp_in3 h2 hP hm3 htp hRF htc hcm ov (by omega) (b := bs c) (r := r) o1 hrP (tp + 1) 0 S (by omega) hs (fun j _ hj => hrc j hj) hrt (fun S1 f1 g9 g1 => ?_)
        refine r_iincN (q := 253) (L' := [some (zr 12 0), some (zi (nI q)), some (zi (nI n)), some (zi (nI P)), some (zi (nI m)), some (zi (nI F)), some (zi (nI tp)), some (zi (nI by')), some (zi (nI (RF + tp * m))), some (zi (nI (c + 1))), some (zi (nI (RF + c * m))), some (zi (nI (bs c tp))), some (zi (nI (tp + 1)))]) 1 rfl dX12_insert_250 rfl rfl (by decide) rfl ?_
        refine r_goto (q := 146) dX12_insert_253 (by decide) ?_
        have fI : ∀ x y k, x ≠ 1331 → gI S1 x y k = gI S x y k := fun x y k hx => f1.1 x y k (by simp [tBs]; omega)
        have f2 : Fr (tIn q n F RF m) S S1 := ⟨fun x y k hz => by
          by_cases e : x = 1331 ∧ y = 0
          · obtain ⟨rfl, rfl⟩ := e
            rw [g1 k, if_neg (fun z => by simp [tIn] at hz; omega)]
          · exact f1.1 x y k (by simp [tBs]; omega), fun x y k _ => g9 x y k, f1.2.2⟩
        exact ih (c + 1) S1 _ _ _ (by omega) (by omega) (hs.fr f1) (fun t ht => (fI _ _ _ (by omega)).trans (hp t ht)) ((fI _ _ _ (by omega)).trans h4) ((fI _ _ _ (by omega)).trans h7) (fun t ht hpt j hj => by
          have hb := hB t ht hpt j hj
          unfold cbs at hb ⊢
          rw [g1]
          by_cases e : t = c
          · subst e
            rw [if_neg (by omega)] at hb
            rw [if_pos (show t < t + 1 by omega)]
            unfold nbs
            rw [if_neg hcne, if_pos htc]
            by_cases q : j ≤ tp
            · rw [if_pos (by omega), if_pos q, show RF + t * m + j - (RF + t * m) = j by omega]; exact ⟨rfl, Nat.mod_lt _ (by omega)⟩
            · rw [if_neg (by omega), if_neg q]; exact hb
          · have hout : ¬ (RF + c * m + 0 ≤ RF + t * m + j ∧ RF + t * m + j ≤ RF + c * m + tp) := fun z => by
              rcases Nat.lt_or_gt_of_ne e with q | q
              · have := row_apart (i := 0) q hj; omega
              · have := row_apart (i := j) q htp; omega
            rw [if_neg hout]
            by_cases q : t < c
            · rw [if_pos q] at hb; rw [if_pos (by omega)]; exact hb
            · rw [if_neg q] at hb; rw [if_neg (by omega)]; exact hb) (fun S2 w10 w11 w12 k1 k2 k3 => K S2 w10 w11 w12 (f2.tr k1) (fun x y k hx => (k2 x y k hx).trans (fI x y k hx)) k3)

