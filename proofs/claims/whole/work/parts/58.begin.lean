/-- the bytes of a text in a row -/
def Bs (S : zS) (a : Nat) (bs : List Nat) : Prop := (∀ k, k < bs.length → gI S a 0 k = sbt (bs.getD k 0)) ∧ ∀ c, c ∈ bs → c < 256
theorem Bs.lt {S : zS} {a : Nat} {bs : List Nat} (h : Bs S a bs) (k : Nat) : bs.getD k 0 < 256 := by
  by_cases hk : k < bs.length
  · exact h.2 _ (getD_mem hk)
  · rw [List.getD_eq_getElem?_getD, List.getElem?_eq_none (by omega)]; decide
/-- tokens as the reader holds them -/
def Ka (S : zS) (l : List zTk) : Prop := ∀ i, i < l.length → gI S 500 0 i = nI (l.getD i t0).1 ∧ gI S 501 0 i = nI (l.getD i t0).2.1 ∧ ((l.getD i t0).1 = 2 ∨ (l.getD i t0).1 = 3 → gJ S 502 0 i = lN (l.getD i t0).2.2)
def tRk (a b k : Nat) : Bool := (a == 500 || a == 501 || a == 502 || a == 4 && k == 3) && b == 0
theorem getD_appT {w u : List zTk} {k : Nat} : (w ++ u).getD k t0 = if k < w.length then w.getD k t0 else u.getD (k - w.length) t0 := by
  rw [List.getD_eq_getElem?_getD, List.getD_eq_getElem?_getD, List.getD_eq_getElem?_getD]
  by_cases h : k < w.length
  · rw [if_pos h, List.getElem?_append_left h]
  · rw [if_neg h, List.getElem?_append_right (by omega)]
/-- a word as far as it was read -/
def Wv (w : List Nat) (v : Int64) : Prop := (w.all sml = true → w.length ≤ 6 → v = lN (wvl w)) ∧ (w.all dgt = true → w.length ≤ 2 → v = lN (nvl w))
theorem Wv.nil : Wv [] (lN 0) := ⟨fun _ _ => rfl, fun _ _ => rfl⟩
theorem all_snoc {f : Nat → Bool} {w : List Nat} {c : Nat} : (w ++ [c]).all f = (w.all f && f c) := by simp
theorem sml_dgt {c : Nat} (h : sml c = true) : dgt c = false := by simp [sml] at h; simp [dgt]; omega
theorem Wv.s {w : List Nat} {v : Int64} {c : Nat} (h : Wv w v) (hc : sml c = true) (hw : ∀ x, x ∈ w → x < 256) : Wv (w ++ [c]) ((v <<< ((nI 8).toInt64 &&& 63)) ||| lN c) := by
  refine ⟨fun h1 h2 => ?_, fun h1 _ => ?_⟩
  · rw [all_snoc, Bool.and_eq_true] at h1
    rw [List.length_append, List.length_singleton] at h2
    have hv := wvl_lt w hw
    have hp : 256 ^ w.length ≤ 256 ^ 5 := Nat.pow_le_pow_right (by omega) (by omega)
    have h5 : (256 : Nat) ^ 5 = 1099511627776 := by decide
    have hcl : c < 256 := by simp [sml] at hc; omega
    rw [h.1 h1.1 (by omega), wb_shl _ (by decide), show wvl w * 2 ^ 8 = wvl w * 256 from rfl, wb_or (by omega) (by omega), wvl_snoc]
    congr 1
    exact or_add (s := 8) (by omega)
  · rw [all_snoc, sml_dgt hc, Bool.and_false] at h1
    cases h1
theorem Wv.d {w : List Nat} {v : Int64} {c : Nat} (h : Wv w v) (hc : dgt c = true) : Wv (w ++ [c]) (v * lN 10 + lN c - lN 48) := by
  have hcs : sml c = false := by
    cases q : sml c with
    | false => rfl
    | true => rw [sml_dgt q] at hc; cases hc
  refine ⟨fun h1 _ => ?_, fun h1 h2 => ?_⟩
  · rw [all_snoc, hcs, Bool.and_false] at h1
    cases h1
  · rw [all_snoc, Bool.and_eq_true] at h1
    rw [List.length_append, List.length_singleton] at h2
    have hc2 := hc
    simp [dgt] at hc2
    rw [h.2 h1.1 (by omega), lN_mul, lN_add, lN_sub (by omega), nvl_snoc]
    congr 1
    omega
theorem sml_lt {c : Nat} (h : sml c = true) : 97 ≤ c ∧ c ≤ 122 := by simp [sml] at h; omega
theorem dgt_lt {c : Nat} (h : dgt c = true) : 48 ≤ c ∧ c ≤ 57 := by simp [dgt] at h; omega
theorem cnt_0 {f : Nat → Bool} : ∀ (w : List Nat), w.countP f = 0 ↔ ∀ c, c ∈ w → f c = false := fun w => by
  rw [List.countP_eq_zero]; exact ⟨fun h c hc => by simpa using h c hc, fun h c hc => by rw [h c hc]; decide⟩

set_option maxRecDepth 100000 in
theorem ok_X4_isSmall {S : zS} {c : Nat} (hc : c < 256) : Ok mX4_isSmall 0 (ent 1 [zi (sbt c)]) [] S (fun r S1 => r = some (zi (nI (if sml c = true then 1 else 0))) ∧ S1 = S) := by
  show Ok mX4_isSmall 0 [some (zi (sbt c))] [] S _
  refine r_iload_n (q := 1) dX4_isSmall_0 rfl rfl rfl ?_
  refine r_bipush (q := 3) (nI 97) dX4_isSmall_1 rfl (by decide) ?_
  refine r_icmp_lt (q := 6) (t := 16) dX4_isSmall_3 (by decide) rfl (fun h3 => ?_) (fun h3 => ?_)
  · skip
    refine r_iconst (q := 17) (nI 0) dX4_isSmall_16 rfl (by decide) ?_
    refine r_zreturn (by decide) dX4_isSmall_17 rfl ?_
    exact ⟨by rw [if_neg (fun z => by have := (sbt_small c hc).1.mpr z; exact absurd h3 (Int32.not_lt.mpr this.1))], rfl⟩
  · skip
    refine r_iload_n (q := 7) dX4_isSmall_6 rfl rfl rfl ?_
    refine r_bipush (q := 9) (nI 122) dX4_isSmall_7 rfl (by decide) ?_
    refine r_icmp_gt (q := 12) (t := 16) dX4_isSmall_9 (by decide) rfl (fun h9 => ?_) (fun h9 => ?_)
    · skip
      refine r_iconst (q := 17) (nI 0) dX4_isSmall_16 rfl (by decide) ?_
      refine r_zreturn (by decide) dX4_isSmall_17 rfl ?_
      exact ⟨by rw [if_neg (fun z => by have := (sbt_small c hc).1.mpr z; exact absurd h9 (Int32.not_lt.mpr this.2))], rfl⟩
    · skip
      refine r_iconst (q := 13) (nI 1) dX4_isSmall_12 rfl (by decide) ?_
      refine r_goto (q := 17) dX4_isSmall_13 (by decide) ?_
      refine r_zreturn (by decide) dX4_isSmall_17 rfl ?_
      exact ⟨by rw [if_pos ((sbt_small c hc).1.mp ⟨Int32.not_lt.mp h3, Int32.not_lt.mp h9⟩)], rfl⟩

set_option maxRecDepth 100000 in
theorem ok_X4_isDigit {S : zS} {c : Nat} (hc : c < 256) : Ok mX4_isDigit 0 (ent 1 [zi (sbt c)]) [] S (fun r S1 => r = some (zi (nI (if dgt c = true then 1 else 0))) ∧ S1 = S) := by
  show Ok mX4_isDigit 0 [some (zi (sbt c))] [] S _
  refine r_iload_n (q := 1) dX4_isDigit_0 rfl rfl rfl ?_
  refine r_bipush (q := 3) (nI 48) dX4_isDigit_1 rfl (by decide) ?_
  refine r_icmp_lt (q := 6) (t := 16) dX4_isDigit_3 (by decide) rfl (fun h3 => ?_) (fun h3 => ?_)
  · skip
    refine r_iconst (q := 17) (nI 0) dX4_isDigit_16 rfl (by decide) ?_
    refine r_zreturn (by decide) dX4_isDigit_17 rfl ?_
    exact ⟨by rw [if_neg (fun z => by have := (sbt_small c hc).2.mpr z; exact absurd h3 (Int32.not_lt.mpr this.1))], rfl⟩
  · skip
    refine r_iload_n (q := 7) dX4_isDigit_6 rfl rfl rfl ?_
    refine r_bipush (q := 9) (nI 57) dX4_isDigit_7 rfl (by decide) ?_
    refine r_icmp_gt (q := 12) (t := 16) dX4_isDigit_9 (by decide) rfl (fun h9 => ?_) (fun h9 => ?_)
    · skip
      refine r_iconst (q := 17) (nI 0) dX4_isDigit_16 rfl (by decide) ?_
      refine r_zreturn (by decide) dX4_isDigit_17 rfl ?_
      exact ⟨by rw [if_neg (fun z => by have := (sbt_small c hc).2.mpr z; exact absurd h9 (Int32.not_lt.mpr this.2))], rfl⟩
    · skip
      refine r_iconst (q := 13) (nI 1) dX4_isDigit_12 rfl (by decide) ?_
      refine r_goto (q := 17) dX4_isDigit_13 (by decide) ?_
      refine r_zreturn (by decide) dX4_isDigit_17 rfl ?_
      exact ⟨by rw [if_pos ((sbt_small c hc).2.mp ⟨Int32.not_lt.mp h3, Int32.not_lt.mp h9⟩)], rfl⟩

set_option maxRecDepth 100000 in
theorem ok_X4_isSign {S : zS} {c : Nat} (hc : c < 256) : Ok mX4_isSign 0 (ent 1 [zi (sbt c)]) [] S (fun r S1 => r = some (zi (nI (if sgn c = true then 1 else 0))) ∧ S1 = S) := by
  show Ok mX4_isSign 0 [some (zi (sbt c))] [] S _
  refine r_iload_n (q := 1) dX4_isSign_0 rfl rfl rfl ?_
  refine r_bipush (q := 3) (nI 59) dX4_isSign_1 rfl (by decide) ?_
  refine r_icmp_eq (q := 6) (t := 42) dX4_isSign_3 (by decide) rfl (fun h3 => ?_) (fun h3 => ?_)
  · skip
    have e3 : c = 59 := (sbt_eq c hc 59 (by omega)).mp h3
    refine r_iconst (q := 43) (nI 1) dX4_isSign_42 rfl (by decide) ?_
    refine r_goto (q := 47) dX4_isSign_43 (by decide) ?_
    refine r_zreturn (by decide) dX4_isSign_47 rfl ?_
    exact ⟨by rw [if_pos (by simp [sgn]; omega)], rfl⟩
  · skip
    have n3 : c ≠ 59 := fun z => h3 ((sbt_eq c hc 59 (by omega)).mpr z)
    refine r_iload_n (q := 7) dX4_isSign_6 rfl rfl rfl ?_
    refine r_bipush (q := 9) (nI 40) dX4_isSign_7 rfl (by decide) ?_
    refine r_icmp_eq (q := 12) (t := 42) dX4_isSign_9 (by decide) rfl (fun h9 => ?_) (fun h9 => ?_)
    · skip
      have e9 : c = 40 := (sbt_eq c hc 40 (by omega)).mp h9
      refine r_iconst (q := 43) (nI 1) dX4_isSign_42 rfl (by decide) ?_
      refine r_goto (q := 47) dX4_isSign_43 (by decide) ?_
      refine r_zreturn (by decide) dX4_isSign_47 rfl ?_
      exact ⟨by rw [if_pos (by simp [sgn]; omega)], rfl⟩
    · skip
      have n9 : c ≠ 40 := fun z => h9 ((sbt_eq c hc 40 (by omega)).mpr z)
      refine r_iload_n (q := 13) dX4_isSign_12 rfl rfl rfl ?_
      refine r_bipush (q := 15) (nI 41) dX4_isSign_13 rfl (by decide) ?_
      refine r_icmp_eq (q := 18) (t := 42) dX4_isSign_15 (by decide) rfl (fun h15 => ?_) (fun h15 => ?_)
      · skip
        have e15 : c = 41 := (sbt_eq c hc 41 (by omega)).mp h15
        refine r_iconst (q := 43) (nI 1) dX4_isSign_42 rfl (by decide) ?_
        refine r_goto (q := 47) dX4_isSign_43 (by decide) ?_
        refine r_zreturn (by decide) dX4_isSign_47 rfl ?_
        exact ⟨by rw [if_pos (by simp [sgn]; omega)], rfl⟩
      · skip
        have n15 : c ≠ 41 := fun z => h15 ((sbt_eq c hc 41 (by omega)).mpr z)
        refine r_iload_n (q := 19) dX4_isSign_18 rfl rfl rfl ?_
        refine r_bipush (q := 21) (nI 44) dX4_isSign_19 rfl (by decide) ?_
        refine r_icmp_eq (q := 24) (t := 42) dX4_isSign_21 (by decide) rfl (fun h21 => ?_) (fun h21 => ?_)
        · skip
          have e21 : c = 44 := (sbt_eq c hc 44 (by omega)).mp h21
          refine r_iconst (q := 43) (nI 1) dX4_isSign_42 rfl (by decide) ?_
          refine r_goto (q := 47) dX4_isSign_43 (by decide) ?_
          refine r_zreturn (by decide) dX4_isSign_47 rfl ?_
          exact ⟨by rw [if_pos (by simp [sgn]; omega)], rfl⟩
        · skip
          have n21 : c ≠ 44 := fun z => h21 ((sbt_eq c hc 44 (by omega)).mpr z)
          refine r_iload_n (q := 25) dX4_isSign_24 rfl rfl rfl ?_
          refine r_bipush (q := 27) (nI 43) dX4_isSign_25 rfl (by decide) ?_
          refine r_icmp_eq (q := 30) (t := 42) dX4_isSign_27 (by decide) rfl (fun h27 => ?_) (fun h27 => ?_)
          · skip
            have e27 : c = 43 := (sbt_eq c hc 43 (by omega)).mp h27
            refine r_iconst (q := 43) (nI 1) dX4_isSign_42 rfl (by decide) ?_
            refine r_goto (q := 47) dX4_isSign_43 (by decide) ?_
            refine r_zreturn (by decide) dX4_isSign_47 rfl ?_
            exact ⟨by rw [if_pos (by simp [sgn]; omega)], rfl⟩
          · skip
            have n27 : c ≠ 43 := fun z => h27 ((sbt_eq c hc 43 (by omega)).mpr z)
            refine r_iload_n (q := 31) dX4_isSign_30 rfl rfl rfl ?_
            refine r_bipush (q := 33) (nI 45) dX4_isSign_31 rfl (by decide) ?_
            refine r_icmp_eq (q := 36) (t := 42) dX4_isSign_33 (by decide) rfl (fun h33 => ?_) (fun h33 => ?_)
            · skip
              have e33 : c = 45 := (sbt_eq c hc 45 (by omega)).mp h33
              refine r_iconst (q := 43) (nI 1) dX4_isSign_42 rfl (by decide) ?_
              refine r_goto (q := 47) dX4_isSign_43 (by decide) ?_
              refine r_zreturn (by decide) dX4_isSign_47 rfl ?_
              exact ⟨by rw [if_pos (by simp [sgn]; omega)], rfl⟩
            · skip
              have n33 : c ≠ 45 := fun z => h33 ((sbt_eq c hc 45 (by omega)).mpr z)
              refine r_iload_n (q := 37) dX4_isSign_36 rfl rfl rfl ?_
              refine r_bipush (q := 39) (nI 61) dX4_isSign_37 rfl (by decide) ?_
              refine r_icmp_ne (q := 42) (t := 46) dX4_isSign_39 (by decide) rfl (fun h39 => ?_) (fun h39 => ?_)
              · skip
                have n39 : c ≠ 61 := fun z => h39 ((sbt_eq c hc 61 (by omega)).mpr z)
                refine r_iconst (q := 47) (nI 0) dX4_isSign_46 rfl (by decide) ?_
                refine r_zreturn (by decide) dX4_isSign_47 rfl ?_
                exact ⟨by rw [if_neg (by simp [sgn]; omega)], rfl⟩
              · skip
                have e39 : c = 61 := (sbt_eq c hc 61 (by omega)).mp (Decidable.of_not_not h39)
                refine r_iconst (q := 43) (nI 1) dX4_isSign_42 rfl (by decide) ?_
                refine r_goto (q := 47) dX4_isSign_43 (by decide) ?_
                refine r_zreturn (by decide) dX4_isSign_47 rfl ?_
                exact ⟨by rw [if_pos (by simp [sgn]; omega)], rfl⟩

set_option maxRecDepth 100000 in
theorem lp_addTok {Po : Option zV → zS → Prop} {S : zS} (hs : Sd S) {bs : List Nat} (hb : Bs S 1200 bs) (hbl : bs.length ≤ 940) {fr to : Nat} (hto : to ≤ bs.length) (K : ∀ v, Wv ((bs.drop fr).take (to - fr)) v → Ok mX4_addToken 95 [some (zr 4 0), some (zr 1200 0), some (zi (nI fr)), some (zi (nI to)), some (zi (nI (((bs.drop fr).take (to - fr)).countP sml))), some (zi (nI (((bs.drop fr).take (to - fr)).countP dgt))), some (zl v), none, some (zi (nI to))] [] S Po) : ∀ (d k : Nat) (v : Int64), fr + k + d = to → Wv ((bs.drop fr).take k) v → Ok mX4_addToken 23 [some (zr 4 0), some (zr 1200 0), some (zi (nI fr)), some (zi (nI to)), some (zi (nI (((bs.drop fr).take k).countP sml))), some (zi (nI (((bs.drop fr).take k).countP dgt))), some (zl v), none, some (zi (nI (fr + k)))] [] S Po := by
  intro d
  induction d with
  | zero =>
    intro k v hk hv
    obtain rfl : to = fr + k := by omega
    have K := K v (by rw [Nat.add_sub_cancel_left]; exact hv)
    rw [Nat.add_sub_cancel_left] at K
    refine r_iload (q := 25) dX4_addToken_23 rfl rfl ?_
    refine r_iload_n (q := 26) dX4_addToken_25 rfl rfl rfl ?_
    refine r_icmp_geN (q := 29) (t := 95) (by omega) (by omega) dX4_addToken_26 (by decide) rfl (fun h26 => ?_) (fun h26 => absurd h26 (by omega))
    exact K
  | succ d ih =>
    intro k v hk hv
    have hlt := hb.lt (fr + k)
    have r0 := hb.1 (fr + k) (by omega)
    have hdl : k < (bs.drop fr).length := by rw [List.length_drop]; omega
    have e0 : (bs.drop fr).take (k + 1) = (bs.drop fr).take k ++ [bs.getD (fr + k) 0] := by rw [take_snoc hdl, getD_drop]
    have hc1 : ((bs.drop fr).take k).countP sml ≤ 940 := Nat.le_trans List.countP_le_length (by rw [List.length_take, List.length_drop]; omega)
    have hc2 : ((bs.drop fr).take k).countP dgt ≤ 940 := Nat.le_trans List.countP_le_length (by rw [List.length_take, List.length_drop]; omega)
    have hmem : ∀ x, x ∈ (bs.drop fr).take k → x < 256 := fun x hx => hb.2 x (List.mem_of_mem_drop (List.mem_of_mem_take hx))
    have ih' := fun v => ih (k + 1) v (by omega)
    rw [e0, List.countP_append, List.countP_append] at ih'
    rw [show fr + (k + 1) = fr + k + 1 by omega] at ih'
    by_cases h1 : sml (bs.getD (fr + k) 0) = true
    · have cd0 := sml_dgt h1
      have hlo : sbt (bs.getD (fr + k) 0) = nI (bs.getD (fr + k) 0) := sbt_lo _ (by have := sml_lt h1; omega)
      simp only [List.countP_singleton, h1, cd0, if_true, if_false, Bool.false_eq_true] at ih'
      refine r_iload (q := 25) dX4_addToken_23 rfl rfl ?_
      refine r_iload_n (q := 26) dX4_addToken_25 rfl rfl rfl ?_
      refine r_icmp_geN (q := 29) (t := 95) (by omega) (by omega) dX4_addToken_26 (by decide) rfl (fun h26 => absurd h26 (by omega)) (fun h26 => ?_)
      refine r_aload_n (q := 30) dX4_addToken_29 rfl rfl rfl ?_
      refine r_iload (q := 32) dX4_addToken_30 rfl rfl ?_
      refine r_baldN (q := 33) 940 (by decide) rfl dX4_addToken_32 rfl (hs.e (by decide)) (hs.n rfl (by decide)) (by omega) (by decide) ?_
      refine r_topi (y := sbt (bs.getD (fr + k) 0)) r0 ?_
      refine r_callS (Mc := mX4_isSmall) (q := 36) (As := [zi (sbt (bs.getD (fr + k) 0))]) (st := []) dX4_addToken_33 rfl rfl mkX4_isSmall wt514 wt515 rfl (Nat.le_of_ble_eq_true rfl) (Nat.le_of_ble_eq_true rfl) (by decide) (by decide) (by decide) (Or.inl rfl) hs.some (ok_X4_isSmall hlt) (fun r33 S33 hp33 => ?_)
      obtain ⟨rfl, hq33⟩ := hp33
      rw [hq33]
      rw [if_pos h1]
      show Ok _ _ _ [zi (nI 1)] _ _
      refine r_if_eqN (q := 39) (t := 58) (by omega) dX4_addToken_36 (by decide) rfl (fun h36 => absurd h36 (by omega)) (fun h36 => ?_)
      refine r_iincN (q := 42) (L' := [some (zr 4 0), some (zr 1200 0), some (zi (nI fr)), some (zi (nI to)), some (zi (nI (((bs.drop fr).take k).countP sml + 1))), some (zi (nI (((bs.drop fr).take k).countP dgt))), some (zl v), none, some (zi (nI (fr + k)))]) 1 rfl dX4_addToken_39 rfl rfl (by decide) rfl ?_
      refine r_lload (q := 44) dX4_addToken_42 rfl rfl ?_
      refine r_bipush (q := 46) (nI 8) dX4_addToken_44 rfl (by decide) ?_
      refine r_lshl (q := 47) dX4_addToken_46 rfl ?_
      refine r_aload_n (q := 48) dX4_addToken_47 rfl rfl rfl ?_
      refine r_iload (q := 50) dX4_addToken_48 rfl rfl ?_
      refine r_baldN (q := 51) 940 (by decide) rfl dX4_addToken_50 rfl (hs.e (by decide)) (hs.n rfl (by decide)) (by omega) (by decide) ?_
      refine r_topi (y := nI (bs.getD (fr + k) 0)) (r0.trans hlo) ?_
      refine r_i2l (q := 52) dX4_addToken_51 rfl ?_
      refine r_topl (y := lN (bs.getD (fr + k) 0)) (nI_l (by omega)) ?_
      refine r_lor (q := 53) dX4_addToken_52 rfl ?_
      refine r_lstore (q := 55) (L' := [some (zr 4 0), some (zr 1200 0), some (zi (nI fr)), some (zi (nI to)), some (zi (nI (((bs.drop fr).take k).countP sml + 1))), some (zi (nI (((bs.drop fr).take k).countP dgt))), some (zl ((v <<< ((nI 8).toInt64 &&& 63)) ||| (lN (bs.getD (fr + k) 0)))), none, some (zi (nI (fr + k)))]) dX4_addToken_53 rfl (by decide) rfl ?_
      refine r_goto (q := 89) dX4_addToken_55 (by decide) ?_
      refine r_iincN (q := 92) (L' := [some (zr 4 0), some (zr 1200 0), some (zi (nI fr)), some (zi (nI to)), some (zi (nI (((bs.drop fr).take k).countP sml + 1))), some (zi (nI (((bs.drop fr).take k).countP dgt))), some (zl ((v <<< ((nI 8).toInt64 &&& 63)) ||| (lN (bs.getD (fr + k) 0)))), none, some (zi (nI (fr + k + 1)))]) 1 rfl dX4_addToken_89 rfl rfl (by decide) rfl ?_
      refine r_goto (q := 23) dX4_addToken_92 (by decide) ?_
      exact ih' _ (hv.s h1 hmem)
    · have h1f : sml (bs.getD (fr + k) 0) = false := by simpa using h1
      by_cases h2 : dgt (bs.getD (fr + k) 0) = true
      · have hlo : sbt (bs.getD (fr + k) 0) = nI (bs.getD (fr + k) 0) := sbt_lo _ (by have := dgt_lt h2; omega)
        simp only [List.countP_singleton, h1f, h2, if_true, if_false, Bool.false_eq_true] at ih'
        refine r_iload (q := 25) dX4_addToken_23 rfl rfl ?_
        refine r_iload_n (q := 26) dX4_addToken_25 rfl rfl rfl ?_
        refine r_icmp_geN (q := 29) (t := 95) (by omega) (by omega) dX4_addToken_26 (by decide) rfl (fun h26 => absurd h26 (by omega)) (fun h26 => ?_)
        refine r_aload_n (q := 30) dX4_addToken_29 rfl rfl rfl ?_
        refine r_iload (q := 32) dX4_addToken_30 rfl rfl ?_
        refine r_baldN (q := 33) 940 (by decide) rfl dX4_addToken_32 rfl (hs.e (by decide)) (hs.n rfl (by decide)) (by omega) (by decide) ?_
        refine r_topi (y := sbt (bs.getD (fr + k) 0)) r0 ?_
        refine r_callS (Mc := mX4_isSmall) (q := 36) (As := [zi (sbt (bs.getD (fr + k) 0))]) (st := []) dX4_addToken_33 rfl rfl mkX4_isSmall wt514 wt515 rfl (Nat.le_of_ble_eq_true rfl) (Nat.le_of_ble_eq_true rfl) (by decide) (by decide) (by decide) (Or.inl rfl) hs.some (ok_X4_isSmall hlt) (fun r33 S33 hp33 => ?_)
        obtain ⟨rfl, hq33⟩ := hp33
        rw [hq33]
        rw [if_neg h1]
        show Ok _ _ _ [zi (nI 0)] _ _
        refine r_if_eqN (q := 39) (t := 58) (by omega) dX4_addToken_36 (by decide) rfl (fun h36 => ?_) (fun h36 => absurd h36 (by omega))
        refine r_aload_n (q := 59) dX4_addToken_58 rfl rfl rfl ?_
        refine r_iload (q := 61) dX4_addToken_59 rfl rfl ?_
        refine r_baldN (q := 62) 940 (by decide) rfl dX4_addToken_61 rfl (hs.e (by decide)) (hs.n rfl (by decide)) (by omega) (by decide) ?_
        refine r_topi (y := sbt (bs.getD (fr + k) 0)) r0 ?_
        refine r_callS (Mc := mX4_isDigit) (q := 65) (As := [zi (sbt (bs.getD (fr + k) 0))]) (st := []) dX4_addToken_62 rfl rfl mkX4_isDigit wt517 wt518 rfl (Nat.le_of_ble_eq_true rfl) (Nat.le_of_ble_eq_true rfl) (by decide) (by decide) (by decide) (Or.inl rfl) hs.some (ok_X4_isDigit hlt) (fun r62 S62 hp62 => ?_)
        obtain ⟨rfl, hq62⟩ := hp62
        rw [hq62]
        rw [if_pos h2]
        show Ok _ _ _ [zi (nI 1)] _ _
        refine r_if_eqN (q := 68) (t := 89) (by omega) dX4_addToken_65 (by decide) rfl (fun h65 => absurd h65 (by omega)) (fun h65 => ?_)
        refine r_iincN (q := 71) (L' := [some (zr 4 0), some (zr 1200 0), some (zi (nI fr)), some (zi (nI to)), some (zi (nI (((bs.drop fr).take k).countP sml))), some (zi (nI (((bs.drop fr).take k).countP dgt + 1))), some (zl v), none, some (zi (nI (fr + k)))]) 1 rfl dX4_addToken_68 rfl rfl (by decide) rfl ?_
        refine r_lload (q := 73) dX4_addToken_71 rfl rfl ?_
        refine r_ldc2 (q := 76) (10 : Int64) dX4_addToken_73 rfl wt524 ?_
        refine r_topl (y := lN 10) rfl ?_
        refine r_lmul (q := 77) dX4_addToken_76 rfl ?_
        refine r_aload_n (q := 78) dX4_addToken_77 rfl rfl rfl ?_
        refine r_iload (q := 80) dX4_addToken_78 rfl rfl ?_
        refine r_baldN (q := 81) 940 (by decide) rfl dX4_addToken_80 rfl (hs.e (by decide)) (hs.n rfl (by decide)) (by omega) (by decide) ?_
        refine r_topi (y := nI (bs.getD (fr + k) 0)) (r0.trans hlo) ?_
        refine r_i2l (q := 82) dX4_addToken_81 rfl ?_
        refine r_topl (y := lN (bs.getD (fr + k) 0)) (nI_l (by omega)) ?_
        refine r_ladd (q := 83) dX4_addToken_82 rfl ?_
        refine r_ldc2 (q := 86) (48 : Int64) dX4_addToken_83 rfl wt525 ?_
        refine r_topl (y := lN 48) rfl ?_
        refine r_lsub (q := 87) dX4_addToken_86 rfl ?_
        refine r_lstore (q := 89) (L' := [some (zr 4 0), some (zr 1200 0), some (zi (nI fr)), some (zi (nI to)), some (zi (nI (((bs.drop fr).take k).countP sml))), some (zi (nI (((bs.drop fr).take k).countP dgt + 1))), some (zl (((v * (lN 10)) + (lN (bs.getD (fr + k) 0))) - (lN 48))), none, some (zi (nI (fr + k)))]) dX4_addToken_87 rfl (by decide) rfl ?_
        refine r_iincN (q := 92) (L' := [some (zr 4 0), some (zr 1200 0), some (zi (nI fr)), some (zi (nI to)), some (zi (nI (((bs.drop fr).take k).countP sml))), some (zi (nI (((bs.drop fr).take k).countP dgt + 1))), some (zl (((v * (lN 10)) + (lN (bs.getD (fr + k) 0))) - (lN 48))), none, some (zi (nI (fr + k + 1)))]) 1 rfl dX4_addToken_89 rfl rfl (by decide) rfl ?_
        refine r_goto (q := 23) dX4_addToken_92 (by decide) ?_
        exact ih' _ (hv.d h2)
      · have h2f : dgt (bs.getD (fr + k) 0) = false := by simpa using h2
        simp only [List.countP_singleton, h1f, h2f, if_false, Bool.false_eq_true] at ih'
        refine r_iload (q := 25) dX4_addToken_23 rfl rfl ?_
        refine r_iload_n (q := 26) dX4_addToken_25 rfl rfl rfl ?_
        refine r_icmp_geN (q := 29) (t := 95) (by omega) (by omega) dX4_addToken_26 (by decide) rfl (fun h26 => absurd h26 (by omega)) (fun h26 => ?_)
        refine r_aload_n (q := 30) dX4_addToken_29 rfl rfl rfl ?_
        refine r_iload (q := 32) dX4_addToken_30 rfl rfl ?_
        refine r_baldN (q := 33) 940 (by decide) rfl dX4_addToken_32 rfl (hs.e (by decide)) (hs.n rfl (by decide)) (by omega) (by decide) ?_
        refine r_topi (y := sbt (bs.getD (fr + k) 0)) r0 ?_
        refine r_callS (Mc := mX4_isSmall) (q := 36) (As := [zi (sbt (bs.getD (fr + k) 0))]) (st := []) dX4_addToken_33 rfl rfl mkX4_isSmall wt514 wt515 rfl (Nat.le_of_ble_eq_true rfl) (Nat.le_of_ble_eq_true rfl) (by decide) (by decide) (by decide) (Or.inl rfl) hs.some (ok_X4_isSmall hlt) (fun r33 S33 hp33 => ?_)
        obtain ⟨rfl, hq33⟩ := hp33
        rw [hq33]
        rw [if_neg h1]
        show Ok _ _ _ [zi (nI 0)] _ _
        refine r_if_eqN (q := 39) (t := 58) (by omega) dX4_addToken_36 (by decide) rfl (fun h36 => ?_) (fun h36 => absurd h36 (by omega))
        refine r_aload_n (q := 59) dX4_addToken_58 rfl rfl rfl ?_
        refine r_iload (q := 61) dX4_addToken_59 rfl rfl ?_
        refine r_baldN (q := 62) 940 (by decide) rfl dX4_addToken_61 rfl (hs.e (by decide)) (hs.n rfl (by decide)) (by omega) (by decide) ?_
        refine r_topi (y := sbt (bs.getD (fr + k) 0)) r0 ?_
        refine r_callS (Mc := mX4_isDigit) (q := 65) (As := [zi (sbt (bs.getD (fr + k) 0))]) (st := []) dX4_addToken_62 rfl rfl mkX4_isDigit wt517 wt518 rfl (Nat.le_of_ble_eq_true rfl) (Nat.le_of_ble_eq_true rfl) (by decide) (by decide) (by decide) (Or.inl rfl) hs.some (ok_X4_isDigit hlt) (fun r62 S62 hp62 => ?_)
        obtain ⟨rfl, hq62⟩ := hp62
        rw [hq62]
        rw [if_neg h2]
        show Ok _ _ _ [zi (nI 0)] _ _
        refine r_if_eqN (q := 68) (t := 89) (by omega) dX4_addToken_65 (by decide) rfl (fun h65 => ?_) (fun h65 => absurd h65 (by omega))
        refine r_iincN (q := 92) (L' := [some (zr 4 0), some (zr 1200 0), some (zi (nI fr)), some (zi (nI to)), some (zi (nI (((bs.drop fr).take k).countP sml))), some (zi (nI (((bs.drop fr).take k).countP dgt))), some (zl v), none, some (zi (nI (fr + k + 1)))]) 1 rfl dX4_addToken_89 rfl rfl (by decide) rfl ?_
        refine r_goto (q := 23) dX4_addToken_92 (by decide) ?_
        exact ih' v ⟨fun z _ => (by rw [all_snoc, h1f, Bool.and_false] at z; cases z), fun z _ => (by rw [all_snoc, h2f, Bool.and_false] at z; cases z)⟩

theorem ka_snoc {S S1 : zS} {l : List zTk} {t : zTk} (h : Ka S l) (hx : ∀ i, i < l.length → gI S1 500 0 i = gI S 500 0 i ∧ gI S1 501 0 i = gI S 501 0 i ∧ gJ S1 502 0 i = gJ S 502 0 i) (h1 : gI S1 500 0 l.length = nI t.1) (h2 : gI S1 501 0 l.length = nI t.2.1) (h3 : t.1 = 2 ∨ t.1 = 3 → gJ S1 502 0 l.length = lN t.2.2) : Ka S1 (l ++ [t]) := fun i hi => by
  rw [List.length_append, List.length_singleton] at hi
  rw [getD_appT]
  by_cases hi2 : i < l.length
  · obtain ⟨x1, x2, x3⟩ := hx i hi2
    rw [if_pos hi2, x1, x2, x3]
    exact h i hi2
  · obtain rfl : i = l.length := by omega
    rw [if_neg hi2, Nat.sub_self]
    exact ⟨h1, h2, h3⟩
theorem all_of {f : Nat → Bool} {w : List Nat} (h : ∀ c, c ∈ w → f c = true) : w.all f = true := List.all_eq_true.mpr h

set_option maxRecDepth 100000 in
theorem lp_at95_2 {S : zS} (hs : Sd S) {fr to : Nat} {l : List zTk} (hl : gI S 4 0 3 = nI l.length) (hl9 : l.length < 940) (hka : Ka S l) {le val : Nat} (h0 : 1 ≤ le) (h6 : le ≤ 6) {v : Int64} (hv : v = lN val) : Ok mX4_addToken 95 [some (zr 4 0), some (zr 1200 0), some (zi (nI fr)), some (zi (nI to)), some (zi (nI le)), some (zi (nI 0)), some (zl v), none, some (zi (nI to))] [] S (fun r S1 => r = none ∧ Fr tRk S S1 ∧ gI S1 4 0 3 = nI (l ++ [(2, fr, val)]).length ∧ Ka S1 (l ++ [(2, fr, val)])) := by
  refine r_aload_n (q := 96) dX4_addToken_95 rfl rfl rfl ?_
  refine r_getr (q := 99) (some (501, 0)) ck4 dX4_addToken_96 rfl (k := 1) (by decide) wt122 rfl (hs.e (by decide)) (hs.r (by decide) (by decide)) ?_
  refine r_aload_n (q := 100) dX4_addToken_99 rfl rfl rfl ?_
  refine r_geti (q := 103) ck4 dX4_addToken_100 rfl (k := 3) (by decide) wt124 (Or.inl rfl) (hs.e (by decide)) ?_
  refine r_topi (y := nI l.length) hl ?_
  refine r_iload_n (q := 104) dX4_addToken_103 rfl rfl rfl ?_
  refine r_iastN (q := 105) 941 (by decide) rfl dX4_addToken_104 rfl (hs.e (by decide)) (hs.n rfl (by decide)) (by omega) (by decide) ?_
  refine r_aload_n (q := 106) dX4_addToken_105 rfl rfl rfl ?_
  refine r_getr (q := 109) (some (502, 0)) ck4 dX4_addToken_106 rfl (k := 2) (by decide) wt123 rfl (hs.e (by decide)) (hs.r (by decide) (by decide)) ?_
  refine r_aload_n (q := 110) dX4_addToken_109 rfl rfl rfl ?_
  refine r_geti (q := 113) ck4 dX4_addToken_110 rfl (k := 3) (by decide) wt124 (Or.inl rfl) (hs.e (by decide)) ?_
  refine r_topi (y := gI S 4 0 3) (by simp [gI_sI, gJ_sJ, gI_sJ, gJ_sI]) ?_
  refine r_topi (y := nI l.length) hl ?_
  refine r_lload (q := 115) dX4_addToken_113 rfl rfl ?_
  refine r_lastN (q := 116) 941 (by decide) rfl dX4_addToken_115 rfl (hs.e (by decide)) (hs.n rfl (by decide)) (by omega) (by decide) ?_
  refine r_aload_n (q := 117) dX4_addToken_116 rfl rfl rfl ?_
  refine r_getr (q := 120) (some (500, 0)) ck4 dX4_addToken_117 rfl (k := 0) (by decide) wt121 rfl (hs.e (by decide)) (hs.r (by decide) (by decide)) ?_
  refine r_aload_n (q := 121) dX4_addToken_120 rfl rfl rfl ?_
  refine r_geti (q := 124) ck4 dX4_addToken_121 rfl (k := 3) (by decide) wt124 (Or.inl rfl) (hs.e (by decide)) ?_
  refine r_topi (y := gI S 4 0 3) (by simp [gI_sI, gJ_sJ, gI_sJ, gJ_sI]) ?_
  refine r_topi (y := nI l.length) hl ?_
  refine r_iconst (q := 125) (nI 4) dX4_addToken_124 rfl (by decide) ?_
  refine r_iastN (q := 126) 941 (by decide) rfl dX4_addToken_125 rfl (hs.e (by decide)) (hs.n rfl (by decide)) (by omega) (by decide) ?_
  refine r_iload (q := 128) dX4_addToken_126 rfl rfl ?_
  refine r_iload (q := 130) dX4_addToken_128 rfl rfl ?_
  refine r_iaddN (q := 131) dX4_addToken_130 rfl ?_
  refine r_if_neN (q := 134) (t := 162) (by omega) dX4_addToken_131 (by decide) rfl (fun h131 => ?_) (fun h131 => absurd h131 (by omega))
  refine r_iload (q := 164) dX4_addToken_162 rfl rfl ?_
  refine r_if_neN (q := 167) (t := 187) (by omega) dX4_addToken_164 (by decide) rfl (fun h164 => absurd h164 (by omega)) (fun h164 => ?_)
  refine r_iload (q := 169) dX4_addToken_167 rfl rfl ?_
  refine r_bipush (q := 171) (nI 6) dX4_addToken_169 rfl (by decide) ?_
  refine r_icmp_gtN (q := 174) (t := 187) (by omega) (by omega) dX4_addToken_171 (by decide) rfl (fun h171 => absurd h171 (by omega)) (fun h171 => ?_)
  refine r_aload_n (q := 175) dX4_addToken_174 rfl rfl rfl ?_
  refine r_getr (q := 178) (some (500, 0)) ck4 dX4_addToken_175 rfl (k := 0) (by decide) wt121 rfl (hs.e (by decide)) (hs.r (by decide) (by decide)) ?_
  refine r_aload_n (q := 179) dX4_addToken_178 rfl rfl rfl ?_
  refine r_geti (q := 182) ck4 dX4_addToken_179 rfl (k := 3) (by decide) wt124 (Or.inl rfl) (hs.e (by decide)) ?_
  refine r_topi (y := gI S 4 0 3) (by simp [gI_sI, gJ_sJ, gI_sJ, gJ_sI]) ?_
  refine r_topi (y := nI l.length) hl ?_
  refine r_iconst (q := 183) (nI 2) dX4_addToken_182 rfl (by decide) ?_
  refine r_iastN (q := 184) 941 (by decide) rfl dX4_addToken_183 rfl (hs.e (by decide)) (hs.n rfl (by decide)) (by omega) (by decide) ?_
  refine r_goto (q := 208) dX4_addToken_184 (by decide) ?_
  refine r_aload_n (q := 209) dX4_addToken_208 rfl rfl rfl ?_
  refine r_dup (q := 210) dX4_addToken_209 rfl rfl ?_
  refine r_geti (q := 213) ck4 dX4_addToken_210 rfl (k := 3) (by decide) wt124 (Or.inl rfl) (hs.e (by decide)) ?_
  refine r_topi (y := gI S 4 0 3) (by simp [gI_sI, gJ_sJ, gI_sJ, gJ_sI]) ?_
  refine r_topi (y := nI l.length) hl ?_
  refine r_iconst (q := 214) (nI 1) dX4_addToken_213 rfl (by decide) ?_
  refine r_iaddN (q := 215) dX4_addToken_214 rfl ?_
  refine r_puti (q := 218) ck4 dX4_addToken_215 rfl (k := 3) (by decide) wt124 (Or.inl rfl) rfl (hs.e (by decide)) ?_
  refine r_return dX4_addToken_218 rfl ?_
  refine ⟨rfl, ?_, ?_, ?_⟩
  · exact ((((Fr.rf.i rfl).j rfl).i rfl).i rfl).i rfl
  · rw [gI_sI, if_pos ⟨rfl, rfl, rfl⟩, List.length_append, List.length_singleton]
  · refine ka_snoc hka (fun i hi => ⟨?_, ?_, ?_⟩) ?_ ?_ ?_
    · repeat (first | rw [gI_sI, if_neg (by omega)] | rw [gI_sJ])
    · repeat (first | rw [gI_sI, if_neg (by omega)] | rw [gI_sJ])
    · repeat (first | rw [gJ_sI] | rw [gJ_sJ, if_neg (by omega)])
    · (repeat (first | rw [gI_sI, if_neg (by omega)] | rw [gI_sI, if_pos ⟨rfl, rfl, rfl⟩] | rw [gI_sJ])); first | done | (exfalso; omega)
    · (repeat (first | rw [gI_sI, if_neg (by omega)] | rw [gI_sI, if_pos ⟨rfl, rfl, rfl⟩] | rw [gI_sJ])); first | done | (exfalso; omega)
    · intro _; (repeat (first | rw [gJ_sI] | rw [gJ_sJ, if_pos ⟨rfl, rfl, rfl⟩])); first | done | exact hv

set_option maxRecDepth 100000 in
theorem lp_at95_3 {S : zS} (hs : Sd S) {fr to : Nat} {l : List zTk} (hl : gI S 4 0 3 = nI l.length) (hl9 : l.length < 940) (hka : Ka S l) {di val : Nat} (h0 : 1 ≤ di) (h6 : di ≤ 2) {v : Int64} (hv : v = lN val) : Ok mX4_addToken 95 [some (zr 4 0), some (zr 1200 0), some (zi (nI fr)), some (zi (nI to)), some (zi (nI 0)), some (zi (nI di)), some (zl v), none, some (zi (nI to))] [] S (fun r S1 => r = none ∧ Fr tRk S S1 ∧ gI S1 4 0 3 = nI (l ++ [(3, fr, val)]).length ∧ Ka S1 (l ++ [(3, fr, val)])) := by
  refine r_aload_n (q := 96) dX4_addToken_95 rfl rfl rfl ?_
  refine r_getr (q := 99) (some (501, 0)) ck4 dX4_addToken_96 rfl (k := 1) (by decide) wt122 rfl (hs.e (by decide)) (hs.r (by decide) (by decide)) ?_
  refine r_aload_n (q := 100) dX4_addToken_99 rfl rfl rfl ?_
  refine r_geti (q := 103) ck4 dX4_addToken_100 rfl (k := 3) (by decide) wt124 (Or.inl rfl) (hs.e (by decide)) ?_
  refine r_topi (y := nI l.length) hl ?_
  refine r_iload_n (q := 104) dX4_addToken_103 rfl rfl rfl ?_
  refine r_iastN (q := 105) 941 (by decide) rfl dX4_addToken_104 rfl (hs.e (by decide)) (hs.n rfl (by decide)) (by omega) (by decide) ?_
  refine r_aload_n (q := 106) dX4_addToken_105 rfl rfl rfl ?_
  refine r_getr (q := 109) (some (502, 0)) ck4 dX4_addToken_106 rfl (k := 2) (by decide) wt123 rfl (hs.e (by decide)) (hs.r (by decide) (by decide)) ?_
  refine r_aload_n (q := 110) dX4_addToken_109 rfl rfl rfl ?_
  refine r_geti (q := 113) ck4 dX4_addToken_110 rfl (k := 3) (by decide) wt124 (Or.inl rfl) (hs.e (by decide)) ?_
  refine r_topi (y := gI S 4 0 3) (by simp [gI_sI, gJ_sJ, gI_sJ, gJ_sI]) ?_
  refine r_topi (y := nI l.length) hl ?_
  refine r_lload (q := 115) dX4_addToken_113 rfl rfl ?_
  refine r_lastN (q := 116) 941 (by decide) rfl dX4_addToken_115 rfl (hs.e (by decide)) (hs.n rfl (by decide)) (by omega) (by decide) ?_
  refine r_aload_n (q := 117) dX4_addToken_116 rfl rfl rfl ?_
  refine r_getr (q := 120) (some (500, 0)) ck4 dX4_addToken_117 rfl (k := 0) (by decide) wt121 rfl (hs.e (by decide)) (hs.r (by decide) (by decide)) ?_
  refine r_aload_n (q := 121) dX4_addToken_120 rfl rfl rfl ?_
  refine r_geti (q := 124) ck4 dX4_addToken_121 rfl (k := 3) (by decide) wt124 (Or.inl rfl) (hs.e (by decide)) ?_
  refine r_topi (y := gI S 4 0 3) (by simp [gI_sI, gJ_sJ, gI_sJ, gJ_sI]) ?_
  refine r_topi (y := nI l.length) hl ?_
  refine r_iconst (q := 125) (nI 4) dX4_addToken_124 rfl (by decide) ?_
  refine r_iastN (q := 126) 941 (by decide) rfl dX4_addToken_125 rfl (hs.e (by decide)) (hs.n rfl (by decide)) (by omega) (by decide) ?_
  refine r_iload (q := 128) dX4_addToken_126 rfl rfl ?_
  refine r_iload (q := 130) dX4_addToken_128 rfl rfl ?_
  refine r_iaddN (q := 131) dX4_addToken_130 rfl ?_
  refine r_if_neN (q := 134) (t := 162) (by omega) dX4_addToken_131 (by decide) rfl (fun h131 => ?_) (fun h131 => absurd h131 (by omega))
  refine r_iload (q := 164) dX4_addToken_162 rfl rfl ?_
  refine r_if_neN (q := 167) (t := 187) (by omega) dX4_addToken_164 (by decide) rfl (fun h164 => ?_) (fun h164 => absurd h164 (by omega))
  refine r_iload (q := 189) dX4_addToken_187 rfl rfl ?_
  refine r_if_neN (q := 192) (t := 208) (by omega) dX4_addToken_189 (by decide) rfl (fun h189 => absurd h189 (by omega)) (fun h189 => ?_)
  refine r_iload (q := 194) dX4_addToken_192 rfl rfl ?_
  refine r_iconst (q := 195) (nI 2) dX4_addToken_194 rfl (by decide) ?_
  refine r_icmp_gtN (q := 198) (t := 208) (by omega) (by omega) dX4_addToken_195 (by decide) rfl (fun h195 => absurd h195 (by omega)) (fun h195 => ?_)
  refine r_aload_n (q := 199) dX4_addToken_198 rfl rfl rfl ?_
  refine r_getr (q := 202) (some (500, 0)) ck4 dX4_addToken_199 rfl (k := 0) (by decide) wt121 rfl (hs.e (by decide)) (hs.r (by decide) (by decide)) ?_
  refine r_aload_n (q := 203) dX4_addToken_202 rfl rfl rfl ?_
  refine r_geti (q := 206) ck4 dX4_addToken_203 rfl (k := 3) (by decide) wt124 (Or.inl rfl) (hs.e (by decide)) ?_
  refine r_topi (y := gI S 4 0 3) (by simp [gI_sI, gJ_sJ, gI_sJ, gJ_sI]) ?_
  refine r_topi (y := nI l.length) hl ?_
  refine r_iconst (q := 207) (nI 3) dX4_addToken_206 rfl (by decide) ?_
  refine r_iastN (q := 208) 941 (by decide) rfl dX4_addToken_207 rfl (hs.e (by decide)) (hs.n rfl (by decide)) (by omega) (by decide) ?_
  refine r_aload_n (q := 209) dX4_addToken_208 rfl rfl rfl ?_
  refine r_dup (q := 210) dX4_addToken_209 rfl rfl ?_
  refine r_geti (q := 213) ck4 dX4_addToken_210 rfl (k := 3) (by decide) wt124 (Or.inl rfl) (hs.e (by decide)) ?_
  refine r_topi (y := gI S 4 0 3) (by simp [gI_sI, gJ_sJ, gI_sJ, gJ_sI]) ?_
  refine r_topi (y := nI l.length) hl ?_
  refine r_iconst (q := 214) (nI 1) dX4_addToken_213 rfl (by decide) ?_
  refine r_iaddN (q := 215) dX4_addToken_214 rfl ?_
  refine r_puti (q := 218) ck4 dX4_addToken_215 rfl (k := 3) (by decide) wt124 (Or.inl rfl) rfl (hs.e (by decide)) ?_
  refine r_return dX4_addToken_218 rfl ?_
  refine ⟨rfl, ?_, ?_, ?_⟩
  · exact ((((Fr.rf.i rfl).j rfl).i rfl).i rfl).i rfl
  · rw [gI_sI, if_pos ⟨rfl, rfl, rfl⟩, List.length_append, List.length_singleton]
  · refine ka_snoc hka (fun i hi => ⟨?_, ?_, ?_⟩) ?_ ?_ ?_
    · repeat (first | rw [gI_sI, if_neg (by omega)] | rw [gI_sJ])
    · repeat (first | rw [gI_sI, if_neg (by omega)] | rw [gI_sJ])
    · repeat (first | rw [gJ_sI] | rw [gJ_sJ, if_neg (by omega)])
    · (repeat (first | rw [gI_sI, if_neg (by omega)] | rw [gI_sI, if_pos ⟨rfl, rfl, rfl⟩] | rw [gI_sJ])); first | done | (exfalso; omega)
    · (repeat (first | rw [gI_sI, if_neg (by omega)] | rw [gI_sI, if_pos ⟨rfl, rfl, rfl⟩] | rw [gI_sJ])); first | done | (exfalso; omega)
    · intro _; (repeat (first | rw [gJ_sI] | rw [gJ_sJ, if_pos ⟨rfl, rfl, rfl⟩])); first | done | exact hv

set_option maxRecDepth 100000 in
theorem lp_at95_4 {S : zS} (hs : Sd S) {fr to : Nat} {l : List zTk} (hl : gI S 4 0 3 = nI l.length) (hl9 : l.length < 940) (hka : Ka S l) {le di : Nat} (h0 : 1 ≤ le + di) (hA : di = 0 → 6 < le) (hB : le = 0 → 2 < di) (hle : le ≤ 940) (hdi : di ≤ 940) {v : Int64} : Ok mX4_addToken 95 [some (zr 4 0), some (zr 1200 0), some (zi (nI fr)), some (zi (nI to)), some (zi (nI le)), some (zi (nI di)), some (zl v), none, some (zi (nI to))] [] S (fun r S1 => r = none ∧ Fr tRk S S1 ∧ gI S1 4 0 3 = nI (l ++ [(4, fr, 0)]).length ∧ Ka S1 (l ++ [(4, fr, 0)])) := by
  refine r_aload_n (q := 96) dX4_addToken_95 rfl rfl rfl ?_
  refine r_getr (q := 99) (some (501, 0)) ck4 dX4_addToken_96 rfl (k := 1) (by decide) wt122 rfl (hs.e (by decide)) (hs.r (by decide) (by decide)) ?_
  refine r_aload_n (q := 100) dX4_addToken_99 rfl rfl rfl ?_
  refine r_geti (q := 103) ck4 dX4_addToken_100 rfl (k := 3) (by decide) wt124 (Or.inl rfl) (hs.e (by decide)) ?_
  refine r_topi (y := nI l.length) hl ?_
  refine r_iload_n (q := 104) dX4_addToken_103 rfl rfl rfl ?_
  refine r_iastN (q := 105) 941 (by decide) rfl dX4_addToken_104 rfl (hs.e (by decide)) (hs.n rfl (by decide)) (by omega) (by decide) ?_
  refine r_aload_n (q := 106) dX4_addToken_105 rfl rfl rfl ?_
  refine r_getr (q := 109) (some (502, 0)) ck4 dX4_addToken_106 rfl (k := 2) (by decide) wt123 rfl (hs.e (by decide)) (hs.r (by decide) (by decide)) ?_
  refine r_aload_n (q := 110) dX4_addToken_109 rfl rfl rfl ?_
  refine r_geti (q := 113) ck4 dX4_addToken_110 rfl (k := 3) (by decide) wt124 (Or.inl rfl) (hs.e (by decide)) ?_
  refine r_topi (y := gI S 4 0 3) (by simp [gI_sI, gJ_sJ, gI_sJ, gJ_sI]) ?_
  refine r_topi (y := nI l.length) hl ?_
  refine r_lload (q := 115) dX4_addToken_113 rfl rfl ?_
  refine r_lastN (q := 116) 941 (by decide) rfl dX4_addToken_115 rfl (hs.e (by decide)) (hs.n rfl (by decide)) (by omega) (by decide) ?_
  refine r_aload_n (q := 117) dX4_addToken_116 rfl rfl rfl ?_
  refine r_getr (q := 120) (some (500, 0)) ck4 dX4_addToken_117 rfl (k := 0) (by decide) wt121 rfl (hs.e (by decide)) (hs.r (by decide) (by decide)) ?_
  refine r_aload_n (q := 121) dX4_addToken_120 rfl rfl rfl ?_
  refine r_geti (q := 124) ck4 dX4_addToken_121 rfl (k := 3) (by decide) wt124 (Or.inl rfl) (hs.e (by decide)) ?_
  refine r_topi (y := gI S 4 0 3) (by simp [gI_sI, gJ_sJ, gI_sJ, gJ_sI]) ?_
  refine r_topi (y := nI l.length) hl ?_
  refine r_iconst (q := 125) (nI 4) dX4_addToken_124 rfl (by decide) ?_
  refine r_iastN (q := 126) 941 (by decide) rfl dX4_addToken_125 rfl (hs.e (by decide)) (hs.n rfl (by decide)) (by omega) (by decide) ?_
  refine r_iload (q := 128) dX4_addToken_126 rfl rfl ?_
  refine r_iload (q := 130) dX4_addToken_128 rfl rfl ?_
  refine r_iaddN (q := 131) dX4_addToken_130 rfl ?_
  refine r_if_neN (q := 134) (t := 162) (by omega) dX4_addToken_131 (by decide) rfl (fun h131 => ?_) (fun h131 => absurd h131 (by omega))
  refine r_iload (q := 164) dX4_addToken_162 rfl rfl ?_
  refine r_if_neN (q := 167) (t := 187) (by omega) dX4_addToken_164 (by decide) rfl (fun h164 => ?_) (fun h164 => ?_)
  · skip
    refine r_iload (q := 189) dX4_addToken_187 rfl rfl ?_
    refine r_if_neN (q := 192) (t := 208) (by omega) dX4_addToken_189 (by decide) rfl (fun h189 => ?_) (fun h189 => ?_)
    · skip
      refine r_aload_n (q := 209) dX4_addToken_208 rfl rfl rfl ?_
      refine r_dup (q := 210) dX4_addToken_209 rfl rfl ?_
      refine r_geti (q := 213) ck4 dX4_addToken_210 rfl (k := 3) (by decide) wt124 (Or.inl rfl) (hs.e (by decide)) ?_
      refine r_topi (y := gI S 4 0 3) (by simp [gI_sI, gJ_sJ, gI_sJ, gJ_sI]) ?_
      refine r_topi (y := nI l.length) hl ?_
      refine r_iconst (q := 214) (nI 1) dX4_addToken_213 rfl (by decide) ?_
      refine r_iaddN (q := 215) dX4_addToken_214 rfl ?_
      refine r_puti (q := 218) ck4 dX4_addToken_215 rfl (k := 3) (by decide) wt124 (Or.inl rfl) rfl (hs.e (by decide)) ?_
      refine r_return dX4_addToken_218 rfl ?_
      refine ⟨rfl, ?_, ?_, ?_⟩
      · exact (((Fr.rf.i rfl).j rfl).i rfl).i rfl
      · rw [gI_sI, if_pos ⟨rfl, rfl, rfl⟩, List.length_append, List.length_singleton]
      · refine ka_snoc hka (fun i hi => ⟨?_, ?_, ?_⟩) ?_ ?_ ?_
        · repeat (first | rw [gI_sI, if_neg (by omega)] | rw [gI_sJ])
        · repeat (first | rw [gI_sI, if_neg (by omega)] | rw [gI_sJ])
        · repeat (first | rw [gJ_sI] | rw [gJ_sJ, if_neg (by omega)])
        · (repeat (first | rw [gI_sI, if_neg (by omega)] | rw [gI_sI, if_pos ⟨rfl, rfl, rfl⟩] | rw [gI_sJ])); first | done | (exfalso; omega)
        · (repeat (first | rw [gI_sI, if_neg (by omega)] | rw [gI_sI, if_pos ⟨rfl, rfl, rfl⟩] | rw [gI_sJ])); first | done | (exfalso; omega)
        · intro z; simp at z
    · skip
      refine r_iload (q := 194) dX4_addToken_192 rfl rfl ?_
      refine r_iconst (q := 195) (nI 2) dX4_addToken_194 rfl (by decide) ?_
      refine r_icmp_gtN (q := 198) (t := 208) (by omega) (by omega) dX4_addToken_195 (by decide) rfl (fun h195 => ?_) (fun h195 => absurd h195 (by have := hB (by omega); omega))
      refine r_aload_n (q := 209) dX4_addToken_208 rfl rfl rfl ?_
      refine r_dup (q := 210) dX4_addToken_209 rfl rfl ?_
      refine r_geti (q := 213) ck4 dX4_addToken_210 rfl (k := 3) (by decide) wt124 (Or.inl rfl) (hs.e (by decide)) ?_
      refine r_topi (y := gI S 4 0 3) (by simp [gI_sI, gJ_sJ, gI_sJ, gJ_sI]) ?_
      refine r_topi (y := nI l.length) hl ?_
      refine r_iconst (q := 214) (nI 1) dX4_addToken_213 rfl (by decide) ?_
      refine r_iaddN (q := 215) dX4_addToken_214 rfl ?_
      refine r_puti (q := 218) ck4 dX4_addToken_215 rfl (k := 3) (by decide) wt124 (Or.inl rfl) rfl (hs.e (by decide)) ?_
      refine r_return dX4_addToken_218 rfl ?_
      refine ⟨rfl, ?_, ?_, ?_⟩
      · exact (((Fr.rf.i rfl).j rfl).i rfl).i rfl
      · rw [gI_sI, if_pos ⟨rfl, rfl, rfl⟩, List.length_append, List.length_singleton]
      · refine ka_snoc hka (fun i hi => ⟨?_, ?_, ?_⟩) ?_ ?_ ?_
        · repeat (first | rw [gI_sI, if_neg (by omega)] | rw [gI_sJ])
        · repeat (first | rw [gI_sI, if_neg (by omega)] | rw [gI_sJ])
        · repeat (first | rw [gJ_sI] | rw [gJ_sJ, if_neg (by omega)])
        · (repeat (first | rw [gI_sI, if_neg (by omega)] | rw [gI_sI, if_pos ⟨rfl, rfl, rfl⟩] | rw [gI_sJ])); first | done | (exfalso; omega)
        · (repeat (first | rw [gI_sI, if_neg (by omega)] | rw [gI_sI, if_pos ⟨rfl, rfl, rfl⟩] | rw [gI_sJ])); first | done | (exfalso; omega)
        · intro z; simp at z
  · skip
    refine r_iload (q := 169) dX4_addToken_167 rfl rfl ?_
    refine r_bipush (q := 171) (nI 6) dX4_addToken_169 rfl (by decide) ?_
    refine r_icmp_gtN (q := 174) (t := 187) (by omega) (by omega) dX4_addToken_171 (by decide) rfl (fun h171 => ?_) (fun h171 => absurd h171 (by have := hA (by omega); omega))
    refine r_iload (q := 189) dX4_addToken_187 rfl rfl ?_
    refine r_if_neN (q := 192) (t := 208) (by omega) dX4_addToken_189 (by decide) rfl (fun h189 => ?_) (fun h189 => ?_)
    · skip
      refine r_aload_n (q := 209) dX4_addToken_208 rfl rfl rfl ?_
      refine r_dup (q := 210) dX4_addToken_209 rfl rfl ?_
      refine r_geti (q := 213) ck4 dX4_addToken_210 rfl (k := 3) (by decide) wt124 (Or.inl rfl) (hs.e (by decide)) ?_
      refine r_topi (y := gI S 4 0 3) (by simp [gI_sI, gJ_sJ, gI_sJ, gJ_sI]) ?_
      refine r_topi (y := nI l.length) hl ?_
      refine r_iconst (q := 214) (nI 1) dX4_addToken_213 rfl (by decide) ?_
      refine r_iaddN (q := 215) dX4_addToken_214 rfl ?_
      refine r_puti (q := 218) ck4 dX4_addToken_215 rfl (k := 3) (by decide) wt124 (Or.inl rfl) rfl (hs.e (by decide)) ?_
      refine r_return dX4_addToken_218 rfl ?_
      refine ⟨rfl, ?_, ?_, ?_⟩
      · exact (((Fr.rf.i rfl).j rfl).i rfl).i rfl
      · rw [gI_sI, if_pos ⟨rfl, rfl, rfl⟩, List.length_append, List.length_singleton]
      · refine ka_snoc hka (fun i hi => ⟨?_, ?_, ?_⟩) ?_ ?_ ?_
        · repeat (first | rw [gI_sI, if_neg (by omega)] | rw [gI_sJ])
        · repeat (first | rw [gI_sI, if_neg (by omega)] | rw [gI_sJ])
        · repeat (first | rw [gJ_sI] | rw [gJ_sJ, if_neg (by omega)])
        · (repeat (first | rw [gI_sI, if_neg (by omega)] | rw [gI_sI, if_pos ⟨rfl, rfl, rfl⟩] | rw [gI_sJ])); first | done | (exfalso; omega)
        · (repeat (first | rw [gI_sI, if_neg (by omega)] | rw [gI_sI, if_pos ⟨rfl, rfl, rfl⟩] | rw [gI_sJ])); first | done | (exfalso; omega)
        · intro z; simp at z
    · skip
      refine r_iload (q := 194) dX4_addToken_192 rfl rfl ?_
      refine r_iconst (q := 195) (nI 2) dX4_addToken_194 rfl (by decide) ?_
      refine r_icmp_gtN (q := 198) (t := 208) (by omega) (by omega) dX4_addToken_195 (by decide) rfl (fun h195 => ?_) (fun h195 => absurd h195 (by have := hB (by omega); omega))
      refine r_aload_n (q := 209) dX4_addToken_208 rfl rfl rfl ?_
      refine r_dup (q := 210) dX4_addToken_209 rfl rfl ?_
      refine r_geti (q := 213) ck4 dX4_addToken_210 rfl (k := 3) (by decide) wt124 (Or.inl rfl) (hs.e (by decide)) ?_
      refine r_topi (y := gI S 4 0 3) (by simp [gI_sI, gJ_sJ, gI_sJ, gJ_sI]) ?_
      refine r_topi (y := nI l.length) hl ?_
      refine r_iconst (q := 214) (nI 1) dX4_addToken_213 rfl (by decide) ?_
      refine r_iaddN (q := 215) dX4_addToken_214 rfl ?_
      refine r_puti (q := 218) ck4 dX4_addToken_215 rfl (k := 3) (by decide) wt124 (Or.inl rfl) rfl (hs.e (by decide)) ?_
      refine r_return dX4_addToken_218 rfl ?_
      refine ⟨rfl, ?_, ?_, ?_⟩
      · exact (((Fr.rf.i rfl).j rfl).i rfl).i rfl
      · rw [gI_sI, if_pos ⟨rfl, rfl, rfl⟩, List.length_append, List.length_singleton]
      · refine ka_snoc hka (fun i hi => ⟨?_, ?_, ?_⟩) ?_ ?_ ?_
        · repeat (first | rw [gI_sI, if_neg (by omega)] | rw [gI_sJ])
        · repeat (first | rw [gI_sI, if_neg (by omega)] | rw [gI_sJ])
        · repeat (first | rw [gJ_sI] | rw [gJ_sJ, if_neg (by omega)])
        · (repeat (first | rw [gI_sI, if_neg (by omega)] | rw [gI_sI, if_pos ⟨rfl, rfl, rfl⟩] | rw [gI_sJ])); first | done | (exfalso; omega)
        · (repeat (first | rw [gI_sI, if_neg (by omega)] | rw [gI_sI, if_pos ⟨rfl, rfl, rfl⟩] | rw [gI_sJ])); first | done | (exfalso; omega)
        · intro z; simp at z

set_option maxRecDepth 100000 in
theorem lp_at95_s1 {S : zS} (hs : Sd S) {fr to : Nat} {l : List zTk} (hl : gI S 4 0 3 = nI l.length) (hl9 : l.length < 940) (hka : Ka S l) {c : Nat} (hc : c < 256) (hcb : gI S 1200 0 fr = sbt c) (hfr : fr < 940) (hsg : sgn c = true) {v : Int64} : Ok mX4_addToken 95 [some (zr 4 0), some (zr 1200 0), some (zi (nI fr)), some (zi (nI to)), some (zi (nI 0)), some (zi (nI 0)), some (zl v), none, some (zi (nI to))] [] S (fun r S1 => r = none ∧ Fr tRk S S1 ∧ gI S1 4 0 3 = nI (l ++ [(c, fr, 0)]).length ∧ Ka S1 (l ++ [(c, fr, 0)])) := by
  refine r_aload_n (q := 96) dX4_addToken_95 rfl rfl rfl ?_
  refine r_getr (q := 99) (some (501, 0)) ck4 dX4_addToken_96 rfl (k := 1) (by decide) wt122 rfl (hs.e (by decide)) (hs.r (by decide) (by decide)) ?_
  refine r_aload_n (q := 100) dX4_addToken_99 rfl rfl rfl ?_
  refine r_geti (q := 103) ck4 dX4_addToken_100 rfl (k := 3) (by decide) wt124 (Or.inl rfl) (hs.e (by decide)) ?_
  refine r_topi (y := nI l.length) hl ?_
  refine r_iload_n (q := 104) dX4_addToken_103 rfl rfl rfl ?_
  refine r_iastN (q := 105) 941 (by decide) rfl dX4_addToken_104 rfl (hs.e (by decide)) (hs.n rfl (by decide)) (by omega) (by decide) ?_
  refine r_aload_n (q := 106) dX4_addToken_105 rfl rfl rfl ?_
  refine r_getr (q := 109) (some (502, 0)) ck4 dX4_addToken_106 rfl (k := 2) (by decide) wt123 rfl (hs.e (by decide)) (hs.r (by decide) (by decide)) ?_
  refine r_aload_n (q := 110) dX4_addToken_109 rfl rfl rfl ?_
  refine r_geti (q := 113) ck4 dX4_addToken_110 rfl (k := 3) (by decide) wt124 (Or.inl rfl) (hs.e (by decide)) ?_
  refine r_topi (y := gI S 4 0 3) (by simp [gI_sI, gJ_sJ, gI_sJ, gJ_sI]) ?_
  refine r_topi (y := nI l.length) hl ?_
  refine r_lload (q := 115) dX4_addToken_113 rfl rfl ?_
  refine r_lastN (q := 116) 941 (by decide) rfl dX4_addToken_115 rfl (hs.e (by decide)) (hs.n rfl (by decide)) (by omega) (by decide) ?_
  refine r_aload_n (q := 117) dX4_addToken_116 rfl rfl rfl ?_
  refine r_getr (q := 120) (some (500, 0)) ck4 dX4_addToken_117 rfl (k := 0) (by decide) wt121 rfl (hs.e (by decide)) (hs.r (by decide) (by decide)) ?_
  refine r_aload_n (q := 121) dX4_addToken_120 rfl rfl rfl ?_
  refine r_geti (q := 124) ck4 dX4_addToken_121 rfl (k := 3) (by decide) wt124 (Or.inl rfl) (hs.e (by decide)) ?_
  refine r_topi (y := gI S 4 0 3) (by simp [gI_sI, gJ_sJ, gI_sJ, gJ_sI]) ?_
  refine r_topi (y := nI l.length) hl ?_
  refine r_iconst (q := 125) (nI 4) dX4_addToken_124 rfl (by decide) ?_
  refine r_iastN (q := 126) 941 (by decide) rfl dX4_addToken_125 rfl (hs.e (by decide)) (hs.n rfl (by decide)) (by omega) (by decide) ?_
  refine r_iload (q := 128) dX4_addToken_126 rfl rfl ?_
  refine r_iload (q := 130) dX4_addToken_128 rfl rfl ?_
  refine r_iaddN (q := 131) dX4_addToken_130 rfl ?_
  refine r_if_neN (q := 134) (t := 162) (by omega) dX4_addToken_131 (by decide) rfl (fun h131 => absurd h131 (by omega)) (fun h131 => ?_)
  refine r_aload_n (q := 135) dX4_addToken_134 rfl rfl rfl ?_
  refine r_getr (q := 138) (some (500, 0)) ck4 dX4_addToken_135 rfl (k := 0) (by decide) wt121 rfl (hs.e (by decide)) (hs.r (by decide) (by decide)) ?_
  refine r_aload_n (q := 139) dX4_addToken_138 rfl rfl rfl ?_
  refine r_geti (q := 142) ck4 dX4_addToken_139 rfl (k := 3) (by decide) wt124 (Or.inl rfl) (hs.e (by decide)) ?_
  refine r_topi (y := gI S 4 0 3) (by simp [gI_sI, gJ_sJ, gI_sJ, gJ_sI]) ?_
  refine r_topi (y := nI l.length) hl ?_
  refine r_aload_n (q := 143) dX4_addToken_142 rfl rfl rfl ?_
  refine r_iload_n (q := 144) dX4_addToken_143 rfl rfl rfl ?_
  refine r_baldN (q := 145) 940 (by decide) rfl dX4_addToken_144 rfl (hs.e (by decide)) (hs.n rfl (by decide)) (by omega) (by decide) ?_
  refine r_topi (y := gI S 1200 0 fr) (by simp [gI_sI, gJ_sJ, gI_sJ, gJ_sI]) ?_
  refine r_topi (y := sbt c) (by (repeat (first | rw [gI_sI, if_neg (by omega)] | rw [gI_sJ])); exact hcb) ?_
  refine r_callS (Mc := mX4_isSign) (q := 148) (As := [zi (sbt c)]) (st := [zi (nI l.length), zr 500 0]) dX4_addToken_145 rfl rfl mkX4_isSign wt526 wt527 rfl (Nat.le_of_ble_eq_true rfl) (Nat.le_of_ble_eq_true rfl) (by decide) (by decide) (by decide) (Or.inl rfl) hs.some (ok_X4_isSign hc) (fun r145 S145 hp145 => ?_)
  obtain ⟨rfl, hq145⟩ := hp145
  rw [hq145]
  rw [if_pos hsg]
  show Ok _ _ _ [zi (nI 1), zi (nI l.length), zr 500 0] _ _
  refine r_if_eqN (q := 151) (t := 157) (by omega) dX4_addToken_148 (by decide) rfl (fun h148 => absurd h148 (by omega)) (fun h148 => ?_)
  refine r_aload_n (q := 152) dX4_addToken_151 rfl rfl rfl ?_
  refine r_iload_n (q := 153) dX4_addToken_152 rfl rfl rfl ?_
  refine r_baldN (q := 154) 940 (by decide) rfl dX4_addToken_153 rfl (hs.e (by decide)) (hs.n rfl (by decide)) (by omega) (by decide) ?_
  refine r_topi (y := gI S 1200 0 fr) (by simp [gI_sI, gJ_sJ, gI_sJ, gJ_sI]) ?_
  refine r_topi (y := nI c) (by (repeat (first | rw [gI_sI, if_neg (by omega)] | rw [gI_sJ])); exact hcb.trans (sbt_lo c (by simp [sgn] at hsg; omega))) ?_
  refine r_goto (q := 158) dX4_addToken_154 (by decide) ?_
  refine r_iastN (q := 159) 941 (by decide) rfl dX4_addToken_158 rfl (hs.e (by decide)) (hs.n rfl (by decide)) (by omega) (by decide) ?_
  refine r_goto (q := 208) dX4_addToken_159 (by decide) ?_
  refine r_aload_n (q := 209) dX4_addToken_208 rfl rfl rfl ?_
  refine r_dup (q := 210) dX4_addToken_209 rfl rfl ?_
  refine r_geti (q := 213) ck4 dX4_addToken_210 rfl (k := 3) (by decide) wt124 (Or.inl rfl) (hs.e (by decide)) ?_
  refine r_topi (y := gI S 4 0 3) (by simp [gI_sI, gJ_sJ, gI_sJ, gJ_sI]) ?_
  refine r_topi (y := nI l.length) hl ?_
  refine r_iconst (q := 214) (nI 1) dX4_addToken_213 rfl (by decide) ?_
  refine r_iaddN (q := 215) dX4_addToken_214 rfl ?_
  refine r_puti (q := 218) ck4 dX4_addToken_215 rfl (k := 3) (by decide) wt124 (Or.inl rfl) rfl (hs.e (by decide)) ?_
  refine r_return dX4_addToken_218 rfl ?_
  refine ⟨rfl, ?_, ?_, ?_⟩
  · exact ((((Fr.rf.i rfl).j rfl).i rfl).i rfl).i rfl
  · rw [gI_sI, if_pos ⟨rfl, rfl, rfl⟩, List.length_append, List.length_singleton]
  · refine ka_snoc hka (fun i hi => ⟨?_, ?_, ?_⟩) ?_ ?_ ?_
    · repeat (first | rw [gI_sI, if_neg (by omega)] | rw [gI_sJ])
    · repeat (first | rw [gI_sI, if_neg (by omega)] | rw [gI_sJ])
    · repeat (first | rw [gJ_sI] | rw [gJ_sJ, if_neg (by omega)])
    · (repeat (first | rw [gI_sI, if_neg (by omega)] | rw [gI_sI, if_pos ⟨rfl, rfl, rfl⟩] | rw [gI_sJ])); first | done | (exfalso; omega)
    · (repeat (first | rw [gI_sI, if_neg (by omega)] | rw [gI_sI, if_pos ⟨rfl, rfl, rfl⟩] | rw [gI_sJ])); first | done | (exfalso; omega)
    · intro z; exact absurd z (by simp [sgn] at hsg; omega)

set_option maxRecDepth 100000 in
theorem lp_at95_s0 {S : zS} (hs : Sd S) {fr to : Nat} {l : List zTk} (hl : gI S 4 0 3 = nI l.length) (hl9 : l.length < 940) (hka : Ka S l) {c : Nat} (hc : c < 256) (hcb : gI S 1200 0 fr = sbt c) (hfr : fr < 940) (hsg : ¬ sgn c = true) {v : Int64} : Ok mX4_addToken 95 [some (zr 4 0), some (zr 1200 0), some (zi (nI fr)), some (zi (nI to)), some (zi (nI 0)), some (zi (nI 0)), some (zl v), none, some (zi (nI to))] [] S (fun r S1 => r = none ∧ Fr tRk S S1 ∧ gI S1 4 0 3 = nI (l ++ [(4, fr, 0)]).length ∧ Ka S1 (l ++ [(4, fr, 0)])) := by
  refine r_aload_n (q := 96) dX4_addToken_95 rfl rfl rfl ?_
  refine r_getr (q := 99) (some (501, 0)) ck4 dX4_addToken_96 rfl (k := 1) (by decide) wt122 rfl (hs.e (by decide)) (hs.r (by decide) (by decide)) ?_
  refine r_aload_n (q := 100) dX4_addToken_99 rfl rfl rfl ?_
  refine r_geti (q := 103) ck4 dX4_addToken_100 rfl (k := 3) (by decide) wt124 (Or.inl rfl) (hs.e (by decide)) ?_
  refine r_topi (y := nI l.length) hl ?_
  refine r_iload_n (q := 104) dX4_addToken_103 rfl rfl rfl ?_
  refine r_iastN (q := 105) 941 (by decide) rfl dX4_addToken_104 rfl (hs.e (by decide)) (hs.n rfl (by decide)) (by omega) (by decide) ?_
  refine r_aload_n (q := 106) dX4_addToken_105 rfl rfl rfl ?_
  refine r_getr (q := 109) (some (502, 0)) ck4 dX4_addToken_106 rfl (k := 2) (by decide) wt123 rfl (hs.e (by decide)) (hs.r (by decide) (by decide)) ?_
  refine r_aload_n (q := 110) dX4_addToken_109 rfl rfl rfl ?_
  refine r_geti (q := 113) ck4 dX4_addToken_110 rfl (k := 3) (by decide) wt124 (Or.inl rfl) (hs.e (by decide)) ?_
  refine r_topi (y := gI S 4 0 3) (by simp [gI_sI, gJ_sJ, gI_sJ, gJ_sI]) ?_
  refine r_topi (y := nI l.length) hl ?_
  refine r_lload (q := 115) dX4_addToken_113 rfl rfl ?_
  refine r_lastN (q := 116) 941 (by decide) rfl dX4_addToken_115 rfl (hs.e (by decide)) (hs.n rfl (by decide)) (by omega) (by decide) ?_
  refine r_aload_n (q := 117) dX4_addToken_116 rfl rfl rfl ?_
  refine r_getr (q := 120) (some (500, 0)) ck4 dX4_addToken_117 rfl (k := 0) (by decide) wt121 rfl (hs.e (by decide)) (hs.r (by decide) (by decide)) ?_
  refine r_aload_n (q := 121) dX4_addToken_120 rfl rfl rfl ?_
  refine r_geti (q := 124) ck4 dX4_addToken_121 rfl (k := 3) (by decide) wt124 (Or.inl rfl) (hs.e (by decide)) ?_
  refine r_topi (y := gI S 4 0 3) (by simp [gI_sI, gJ_sJ, gI_sJ, gJ_sI]) ?_
  refine r_topi (y := nI l.length) hl ?_
  refine r_iconst (q := 125) (nI 4) dX4_addToken_124 rfl (by decide) ?_
  refine r_iastN (q := 126) 941 (by decide) rfl dX4_addToken_125 rfl (hs.e (by decide)) (hs.n rfl (by decide)) (by omega) (by decide) ?_
  refine r_iload (q := 128) dX4_addToken_126 rfl rfl ?_
  refine r_iload (q := 130) dX4_addToken_128 rfl rfl ?_
  refine r_iaddN (q := 131) dX4_addToken_130 rfl ?_
  refine r_if_neN (q := 134) (t := 162) (by omega) dX4_addToken_131 (by decide) rfl (fun h131 => absurd h131 (by omega)) (fun h131 => ?_)
  refine r_aload_n (q := 135) dX4_addToken_134 rfl rfl rfl ?_
  refine r_getr (q := 138) (some (500, 0)) ck4 dX4_addToken_135 rfl (k := 0) (by decide) wt121 rfl (hs.e (by decide)) (hs.r (by decide) (by decide)) ?_
  refine r_aload_n (q := 139) dX4_addToken_138 rfl rfl rfl ?_
  refine r_geti (q := 142) ck4 dX4_addToken_139 rfl (k := 3) (by decide) wt124 (Or.inl rfl) (hs.e (by decide)) ?_
  refine r_topi (y := gI S 4 0 3) (by simp [gI_sI, gJ_sJ, gI_sJ, gJ_sI]) ?_
  refine r_topi (y := nI l.length) hl ?_
  refine r_aload_n (q := 143) dX4_addToken_142 rfl rfl rfl ?_
  refine r_iload_n (q := 144) dX4_addToken_143 rfl rfl rfl ?_
  refine r_baldN (q := 145) 940 (by decide) rfl dX4_addToken_144 rfl (hs.e (by decide)) (hs.n rfl (by decide)) (by omega) (by decide) ?_
  refine r_topi (y := gI S 1200 0 fr) (by simp [gI_sI, gJ_sJ, gI_sJ, gJ_sI]) ?_
  refine r_topi (y := sbt c) (by (repeat (first | rw [gI_sI, if_neg (by omega)] | rw [gI_sJ])); exact hcb) ?_
  refine r_callS (Mc := mX4_isSign) (q := 148) (As := [zi (sbt c)]) (st := [zi (nI l.length), zr 500 0]) dX4_addToken_145 rfl rfl mkX4_isSign wt526 wt527 rfl (Nat.le_of_ble_eq_true rfl) (Nat.le_of_ble_eq_true rfl) (by decide) (by decide) (by decide) (Or.inl rfl) hs.some (ok_X4_isSign hc) (fun r145 S145 hp145 => ?_)
  obtain ⟨rfl, hq145⟩ := hp145
  rw [hq145]
  rw [if_neg hsg]
  show Ok _ _ _ [zi (nI 0), zi (nI l.length), zr 500 0] _ _
  refine r_if_eqN (q := 151) (t := 157) (by omega) dX4_addToken_148 (by decide) rfl (fun h148 => ?_) (fun h148 => absurd h148 (by omega))
  refine r_iconst (q := 158) (nI 4) dX4_addToken_157 rfl (by decide) ?_
  refine r_iastN (q := 159) 941 (by decide) rfl dX4_addToken_158 rfl (hs.e (by decide)) (hs.n rfl (by decide)) (by omega) (by decide) ?_
  refine r_goto (q := 208) dX4_addToken_159 (by decide) ?_
  refine r_aload_n (q := 209) dX4_addToken_208 rfl rfl rfl ?_
  refine r_dup (q := 210) dX4_addToken_209 rfl rfl ?_
  refine r_geti (q := 213) ck4 dX4_addToken_210 rfl (k := 3) (by decide) wt124 (Or.inl rfl) (hs.e (by decide)) ?_
  refine r_topi (y := gI S 4 0 3) (by simp [gI_sI, gJ_sJ, gI_sJ, gJ_sI]) ?_
  refine r_topi (y := nI l.length) hl ?_
  refine r_iconst (q := 214) (nI 1) dX4_addToken_213 rfl (by decide) ?_
  refine r_iaddN (q := 215) dX4_addToken_214 rfl ?_
  refine r_puti (q := 218) ck4 dX4_addToken_215 rfl (k := 3) (by decide) wt124 (Or.inl rfl) rfl (hs.e (by decide)) ?_
  refine r_return dX4_addToken_218 rfl ?_
  refine ⟨rfl, ?_, ?_, ?_⟩
  · exact ((((Fr.rf.i rfl).j rfl).i rfl).i rfl).i rfl
  · rw [gI_sI, if_pos ⟨rfl, rfl, rfl⟩, List.length_append, List.length_singleton]
  · refine ka_snoc hka (fun i hi => ⟨?_, ?_, ?_⟩) ?_ ?_ ?_
    · repeat (first | rw [gI_sI, if_neg (by omega)] | rw [gI_sJ])
    · repeat (first | rw [gI_sI, if_neg (by omega)] | rw [gI_sJ])
    · repeat (first | rw [gJ_sI] | rw [gJ_sJ, if_neg (by omega)])
    · (repeat (first | rw [gI_sI, if_neg (by omega)] | rw [gI_sI, if_pos ⟨rfl, rfl, rfl⟩] | rw [gI_sJ])); first | done | (exfalso; omega)
    · (repeat (first | rw [gI_sI, if_neg (by omega)] | rw [gI_sI, if_pos ⟨rfl, rfl, rfl⟩] | rw [gI_sJ])); first | done | (exfalso; omega)
    · intro z; simp at z

theorem cnt_all {f : Nat → Bool} : ∀ {w : List Nat}, w.all f = true → w.countP f = w.length
  | [], _ => rfl
  | c :: w, h => by
    rw [List.all_cons, Bool.and_eq_true] at h
    rw [List.countP_cons, cnt_all h.2, if_pos h.1, List.length_cons]
theorem cnt_aln : ∀ {w : List Nat}, (∀ c, c ∈ w → aln c = true) → w.countP sml + w.countP dgt = w.length
  | [], _ => rfl
  | c :: w, h => by
    have ih := cnt_aln (w := w) (fun x hx => h x (List.mem_cons_of_mem _ hx))
    have hc := h c List.mem_cons_self
    rw [List.countP_cons, List.countP_cons, List.length_cons]
    cases q : sml c with
    | true => rw [sml_dgt q]; simp; omega
    | false =>
      have : dgt c = true := by simpa [aln, q] using hc
      rw [this]; simp; omega
theorem all_cnt {f : Nat → Bool} : ∀ {w : List Nat}, w.countP f = w.length → w.all f = true
  | [], _ => rfl
  | c :: w, h => by
    rw [List.countP_cons, List.length_cons] at h
    have hle := List.countP_le_length (p := f) (l := w)
    split at h
    · rename_i hc
      rw [List.all_cons, hc, all_cnt (by omega)]; rfl
    · omega

set_option maxRecDepth 100000 in
theorem ok_addToken_w {S : zS} (hs : Sd S) {bs : List Nat} (hb : Bs S 1200 bs) (hbl : bs.length ≤ 940) {fr n : Nat} (hto : fr + n ≤ bs.length) {l : List zTk} (hl : gI S 4 0 3 = nI l.length) (hl9 : l.length < 940) (hka : Ka S l) (hn : 1 ≤ n) (ha : ∀ c, c ∈ ((bs.drop fr).take n) → aln c = true) : Ok mX4_addToken 0 (ent 9 [zr 4 0, zr 1200 0, zi (nI fr), zi (nI (fr + n))]) [] S (fun r S1 => r = none ∧ Fr tRk S S1 ∧ gI S1 4 0 3 = nI (l ++ [(tkk ((bs.drop fr).take n), fr, tkv ((bs.drop fr).take n))]).length ∧ Ka S1 (l ++ [(tkk ((bs.drop fr).take n), fr, tkv ((bs.drop fr).take n))])) := by

  show Ok mX4_addToken 0 [some (zr 4 0), some (zr 1200 0), some (zi (nI fr)), some (zi (nI (fr + n))), none, none, none, none, none] [] S _
  refine r_aload_n (q := 1) dX4_addToken_0 rfl rfl rfl ?_
  refine r_geti (q := 4) ck4 dX4_addToken_1 rfl (k := 3) (by decide) wt124 (Or.inl rfl) (hs.e (by decide)) ?_
  refine r_topi (y := nI l.length) hl ?_
  refine r_sipush (q := 7) (nI 940) dX4_addToken_4 rfl (by decide) ?_
  refine r_icmp_ltN (q := 10) (t := 11) (by omega) (by omega) dX4_addToken_7 (by decide) rfl (fun h7 => ?_) (fun h7 => absurd h7 (by omega))
  refine r_iconst (q := 12) (nI 0) dX4_addToken_11 rfl (by decide) ?_
  refine r_istore (q := 14) (L' := [some (zr 4 0), some (zr 1200 0), some (zi (nI fr)), some (zi (nI (fr + n))), some (zi (nI 0)), none, none, none, none]) dX4_addToken_12 rfl (by decide) rfl ?_
  refine r_iconst (q := 15) (nI 0) dX4_addToken_14 rfl (by decide) ?_
  refine r_istore (q := 17) (L' := [some (zr 4 0), some (zr 1200 0), some (zi (nI fr)), some (zi (nI (fr + n))), some (zi (nI 0)), some (zi (nI 0)), none, none, none]) dX4_addToken_15 rfl (by decide) rfl ?_
  refine r_lconst (q := 18) (0 : Int64) dX4_addToken_17 rfl rfl ?_
  refine r_topl (y := lN 0) rfl ?_
  refine r_lstore (q := 20) (L' := [some (zr 4 0), some (zr 1200 0), some (zi (nI fr)), some (zi (nI (fr + n))), some (zi (nI 0)), some (zi (nI 0)), some (zl (lN 0)), none, none]) dX4_addToken_18 rfl (by decide) rfl ?_
  refine r_iload_n (q := 21) dX4_addToken_20 rfl rfl rfl ?_
  refine r_istore (q := 23) (L' := [some (zr 4 0), some (zr 1200 0), some (zi (nI fr)), some (zi (nI (fr + n))), some (zi (nI 0)), some (zi (nI 0)), some (zl (lN 0)), none, some (zi (nI fr))]) dX4_addToken_21 rfl (by decide) rfl ?_
  have q := lp_addTok (Po := (fun r S1 => r = none ∧ Fr tRk S S1 ∧ gI S1 4 0 3 = nI (l ++ [(tkk ((bs.drop fr).take n), fr, tkv ((bs.drop fr).take n))]).length ∧ Ka S1 (l ++ [(tkk ((bs.drop fr).take n), fr, tkv ((bs.drop fr).take n))]))) hs hb hbl (fr := fr) (to := fr + n) hto (fun v hv => ?_) n 0 (lN 0) (by omega) (by rw [List.take_zero]; exact Wv.nil)
  · rw [List.take_zero] at q; exact q
  rw [Nat.add_sub_cancel_left] at hv ⊢
  have hwl : ((bs.drop fr).take n).length = n := by rw [List.length_take, List.length_drop]; omega
  have hsum := cnt_aln ha
  have hne : ∀ f : Nat → Bool, ((bs.drop fr).take n).all f = true → ((bs.drop fr).take n).countP f = n := fun f h => by rw [cnt_all h, hwl]
  by_cases c2 : ((bs.drop fr).take n).all sml = true ∧ ((bs.drop fr).take n).length ≤ 6
  · have e1 := hne _ c2.1
    have e2 : ((bs.drop fr).take n).countP dgt = 0 := by omega
    have ek : tkk ((bs.drop fr).take n) = 2 := by unfold tkk; rw [if_pos c2]
    have ev : tkv ((bs.drop fr).take n) = wvl ((bs.drop fr).take n) := by unfold tkv; rw [if_pos c2.1]
    rw [ek, ev, e1, e2]
    exact lp_at95_2 hs hl hl9 hka (by omega) (by omega) (hv.1 c2.1 c2.2)
  · by_cases c3 : ((bs.drop fr).take n).all dgt = true ∧ ((bs.drop fr).take n).length ≤ 2
    · have e1 := hne _ c3.1
      have e2 : ((bs.drop fr).take n).countP sml = 0 := by omega
      have ek : tkk ((bs.drop fr).take n) = 3 := by unfold tkk; rw [if_neg c2, if_pos c3]
      have ev : tkv ((bs.drop fr).take n) = nvl ((bs.drop fr).take n) := by unfold tkv; rw [if_neg (fun z => by have := hne _ z; omega)]
      rw [ek, ev, e1, e2]
      exact lp_at95_3 hs hl hl9 hka (by omega) (by omega) (hv.2 c3.1 c3.2)
    · have ek : tkk ((bs.drop fr).take n) = 4 := by unfold tkk; rw [if_neg c2, if_neg c3]
      have hA : ((bs.drop fr).take n).countP dgt = 0 → 6 < ((bs.drop fr).take n).countP sml := fun z => by have := all_cnt (f := sml) (w := ((bs.drop fr).take n)) (by omega); exact Nat.lt_of_not_le (fun y => c2 ⟨this, by omega⟩)
      have hB : ((bs.drop fr).take n).countP sml = 0 → 2 < ((bs.drop fr).take n).countP dgt := fun z => by have := all_cnt (f := dgt) (w := ((bs.drop fr).take n)) (by omega); exact Nat.lt_of_not_le (fun y => c3 ⟨this, by omega⟩)
      have q := lp_at95_4 (fr := fr) (to := fr + n) hs hl hl9 hka (v := v) (show 1 ≤ List.countP sml ((bs.drop fr).take n) + List.countP dgt ((bs.drop fr).take n) by omega) hA hB (by omega) (by omega)
      rw [ek]
      exact Ok.mono q (fun r S1 z => ⟨z.1, z.2.1, by have := z.2.2.1; rw [List.length_append, List.length_singleton] at this ⊢; exact this, fun i hi => by have := z.2.2.2 i (by rw [List.length_append, List.length_singleton] at hi ⊢; exact hi); rw [getD_appT] at this ⊢; by_cases g : i < l.length; rw [if_pos g] at this ⊢; exact this; rw [List.length_append, List.length_singleton] at hi; rw [if_neg g, show i - l.length = 0 by omega] at this ⊢; exact ⟨this.1, this.2.1, fun z => absurd z (by show ¬ ((4 : Nat) = 2 ∨ (4 : Nat) = 3); omega)⟩⟩)

set_option maxRecDepth 100000 in
theorem ok_addToken_s {S : zS} (hs : Sd S) {bs : List Nat} (hb : Bs S 1200 bs) (hbl : bs.length ≤ 940) {fr : Nat} (hto : fr < bs.length) {l : List zTk} (hl : gI S 4 0 3 = nI l.length) (hl9 : l.length < 940) (hka : Ka S l) (ha : ¬ aln (bs.getD fr 0) = true) : Ok mX4_addToken 0 (ent 9 [zr 4 0, zr 1200 0, zi (nI fr), zi (nI (fr + 1))]) [] S (fun r S1 => r = none ∧ Fr tRk S S1 ∧ gI S1 4 0 3 = nI (l ++ [(if sgn (bs.getD fr 0) then bs.getD fr 0 else 4, fr, 0)]).length ∧ Ka S1 (l ++ [(if sgn (bs.getD fr 0) then bs.getD fr 0 else 4, fr, 0)])) := by
  show Ok mX4_addToken 0 [some (zr 4 0), some (zr 1200 0), some (zi (nI fr)), some (zi (nI (fr + 1))), none, none, none, none, none] [] S _
  refine r_aload_n (q := 1) dX4_addToken_0 rfl rfl rfl ?_
  refine r_geti (q := 4) ck4 dX4_addToken_1 rfl (k := 3) (by decide) wt124 (Or.inl rfl) (hs.e (by decide)) ?_
  refine r_topi (y := nI l.length) hl ?_
  refine r_sipush (q := 7) (nI 940) dX4_addToken_4 rfl (by decide) ?_
  refine r_icmp_ltN (q := 10) (t := 11) (by omega) (by omega) dX4_addToken_7 (by decide) rfl (fun h7 => ?_) (fun h7 => absurd h7 (by omega))
  refine r_iconst (q := 12) (nI 0) dX4_addToken_11 rfl (by decide) ?_
  refine r_istore (q := 14) (L' := [some (zr 4 0), some (zr 1200 0), some (zi (nI fr)), some (zi (nI (fr + 1))), some (zi (nI 0)), none, none, none, none]) dX4_addToken_12 rfl (by decide) rfl ?_
  refine r_iconst (q := 15) (nI 0) dX4_addToken_14 rfl (by decide) ?_
  refine r_istore (q := 17) (L' := [some (zr 4 0), some (zr 1200 0), some (zi (nI fr)), some (zi (nI (fr + 1))), some (zi (nI 0)), some (zi (nI 0)), none, none, none]) dX4_addToken_15 rfl (by decide) rfl ?_
  refine r_lconst (q := 18) (0 : Int64) dX4_addToken_17 rfl rfl ?_
  refine r_topl (y := lN 0) rfl ?_
  refine r_lstore (q := 20) (L' := [some (zr 4 0), some (zr 1200 0), some (zi (nI fr)), some (zi (nI (fr + 1))), some (zi (nI 0)), some (zi (nI 0)), some (zl (lN 0)), none, none]) dX4_addToken_18 rfl (by decide) rfl ?_
  refine r_iload_n (q := 21) dX4_addToken_20 rfl rfl rfl ?_
  refine r_istore (q := 23) (L' := [some (zr 4 0), some (zr 1200 0), some (zi (nI fr)), some (zi (nI (fr + 1))), some (zi (nI 0)), some (zi (nI 0)), some (zl (lN 0)), none, some (zi (nI fr))]) dX4_addToken_21 rfl (by decide) rfl ?_
  have q := lp_addTok (Po := (fun r S1 => r = none ∧ Fr tRk S S1 ∧ gI S1 4 0 3 = nI (l ++ [(if sgn (bs.getD fr 0) then bs.getD fr 0 else 4, fr, 0)]).length ∧ Ka S1 (l ++ [(if sgn (bs.getD fr 0) then bs.getD fr 0 else 4, fr, 0)]))) hs hb hbl (fr := fr) (to := fr + 1) (by omega) (fun v hv => ?_) 1 0 (lN 0) (by omega) (by rw [List.take_zero]; exact Wv.nil)
  · rw [List.take_zero] at q; exact q
  have hdl : 0 < (bs.drop fr).length := by rw [List.length_drop]; omega
  have e0 : (bs.drop fr).take 1 = [bs.getD fr 0] := by have := take_snoc hdl; rw [List.take_zero, List.nil_append, getD_drop, Nat.add_zero] at this; exact this
  have na : aln (bs.getD fr 0) = false := by simpa using ha
  have n1 : sml (bs.getD fr 0) = false ∧ dgt (bs.getD fr 0) = false := by rw [aln, Bool.or_eq_false_iff] at na; exact na
  rw [Nat.add_sub_cancel_left, e0, List.countP_singleton, List.countP_singleton, n1.1, n1.2, if_neg (by decide)]
  by_cases hsg : sgn (bs.getD fr 0) = true
  · rw [if_pos hsg]; exact lp_at95_s1 hs hl hl9 hka (hb.lt fr) (hb.1 fr (by omega)) (by omega) hsg
  · rw [if_neg hsg]; exact lp_at95_s0 hs hl hl9 hka (hb.lt fr) (hb.1 fr (by omega)) (by omega) hsg

