def Sk (S : zS) : List (Nat × Nat) → Prop
  | [] => True
  | (g, l) :: st => gI S 1318 0 st.length = nI g ∧ gI S 1319 0 st.length = nI l ∧ 1 ≤ l ∧ l ≤ 4 ∧ g < 2 * 4 ^ st.length ∧ Sk S st
theorem Sk.cong {S S1 : zS} : ∀ {st : List (Nat × Nat)}, Sk S st → (∀ i, i < st.length → gI S1 1318 0 i = gI S 1318 0 i ∧ gI S1 1319 0 i = gI S 1319 0 i) → Sk S1 st
  | [], _, _ => trivial
  | (g, l) :: st, h, hc => by
    have := hc st.length (by simp)
    exact ⟨this.1.trans h.1, this.2.trans h.2.1, h.2.2.1, h.2.2.2.1, h.2.2.2.2.1, h.2.2.2.2.2.cong fun i hi => hc i (by rw [List.length_cons]; omega)⟩
def tPa (a b k : Nat) : Bool := (a == 1316 || a == 1317 || a == 1318 || a == 1319) && b == 0 || a == 12 && b == 0 && (k == 20 || k == 21)
theorem pop_len : ∀ (st : List (Nat × Nat)) (h : Nat), (pop st h).1.length ≤ st.length
  | [], _ => Nat.le_refl _
  | (g, l) :: st, h => by
    rw [pop]
    split
    · simp
    · have := pop_len st g; rw [List.length_cons]; omega
theorem Sk.popb {S : zS} : ∀ {st : List (Nat × Nat)} {h : Nat}, Sk S st → h < 2 * 4 ^ st.length → (pop st h).2 < 2 * 4 ^ (pop st h).1.length
  | [], _, _, hh => hh
  | (g, l) :: st, h, hk, hh => by
    rw [pop]
    split
    · exact hh
    · exact hk.2.2.2.2.2.popb hk.2.2.2.2.1
theorem pow46 {n : Nat} (h : n ≤ 6) : 4 ^ n ≤ 4096 := Nat.le_trans (Nat.pow_le_pow_right (by omega) h) (by decide)

set_option maxRecDepth 100000 in
theorem lp_pop {Po : Option zV → zS → Prop} {c o : Int32} {k : Nat} (hk : k < 100) : ∀ (st : List (Nat × Nat)) (S : zS) (h : Nat), Sd S → st.length ≤ 6 → Sk S st → h < 2147483648 → (∀ S', Fr tPa S S' → (∀ x y z, x ≠ 1319 → gI S' x y z = gI S x y z) → Sk S' (pop st h).1 → Ok mX12_paths 154 [some (zr 12 0), some (zi c), some (zi o), some (zi (nI (pop st h).1.length)), some (zi (nI (pop st h).2)), some (zi (nI k))] [] S' Po) → Ok mX12_paths 110 [some (zr 12 0), some (zi c), some (zi o), some (zi (nI st.length)), some (zi (nI h)), some (zi (nI k))] [] S Po := by
  intro st
  induction st with
  | nil =>
    intro S h hs h6 hst hh K
    show Ok mX12_paths 110 [some (zr 12 0), some (zi c), some (zi o), some (zi (nI 0)), some (zi (nI h)), some (zi (nI k))] [] S Po
    refine r_iload_n (q := 111) dX12_paths_110 rfl rfl rfl ?_
    refine r_if_leN (q := 114) (t := 154) (by omega) dX12_paths_111 (by decide) rfl (fun h111 => ?_) (fun h111 => absurd h111 (by omega))
    exact K S Fr.rf (fun _ _ _ _ => rfl) trivial
  | cons q st ih =>
    obtain ⟨g, l⟩ := q
    intro S h hs h6 hst hh K
    rw [List.length_cons] at h6
    obtain ⟨s1, s2, s3, s4, s5, s6⟩ := hst
    have p6 := pow46 (n := st.length) (by omega)
    rw [pop] at K
    show Ok mX12_paths 110 [some (zr 12 0), some (zi c), some (zi o), some (zi (nI (st.length + 1))), some (zi (nI h)), some (zi (nI k))] [] S Po
    refine r_iload_n (q := 111) dX12_paths_110 rfl rfl rfl ?_
    refine r_if_leN (q := 114) (t := 154) (by omega) dX12_paths_111 (by decide) rfl (fun h111 => absurd h111 (by omega)) (fun h111 => ?_)
    refine r_aload_n (q := 115) dX12_paths_114 rfl rfl rfl ?_
    refine r_getr (q := 118) (some (1319, 0)) ck12 dX12_paths_115 rfl (k := 19) (by decide) wt1297 rfl (hs.e (by decide)) (hs.r (by decide) (by decide)) ?_
    refine r_iload_n (q := 119) dX12_paths_118 rfl rfl rfl ?_
    refine r_iconst (q := 120) (nI 1) dX12_paths_119 rfl (by decide) ?_
    refine r_isubN (q := 121) (by omega) dX12_paths_120 rfl ?_
    refine r_topi (y := nI st.length) (congrArg nI (by omega)) ?_
    refine r_dup2 (q := 122) dX12_paths_121 rfl rfl rfl ?_
    refine r_ialdN (q := 123) 8 (by decide) rfl dX12_paths_122 rfl (hs.e (by decide)) (hs.n rfl (by decide)) (by omega) (by decide) ?_
    refine r_topi (y := nI l) s2 ?_
    refine r_iconst (q := 124) (nI 1) dX12_paths_123 rfl (by decide) ?_
    refine r_isubN (q := 125) (by omega) dX12_paths_124 rfl ?_
    refine r_iastN (q := 126) 8 (by decide) rfl dX12_paths_125 rfl (hs.e (by decide)) (hs.n rfl (by decide)) (by omega) (by decide) ?_
    refine r_aload_n (q := 127) dX12_paths_126 rfl rfl rfl ?_
    refine r_getr (q := 130) (some (1319, 0)) ck12 dX12_paths_127 rfl (k := 19) (by decide) wt1297 rfl (hs.e (by decide)) (hs.r (by decide) (by decide)) ?_
    refine r_iload_n (q := 131) dX12_paths_130 rfl rfl rfl ?_
    refine r_iconst (q := 132) (nI 1) dX12_paths_131 rfl (by decide) ?_
    refine r_isubN (q := 133) (by omega) dX12_paths_132 rfl ?_
    refine r_topi (y := nI st.length) (congrArg nI (by omega)) ?_
    refine r_ialdN (q := 134) 8 (by decide) rfl dX12_paths_133 rfl (hs.e (by decide)) (hs.n rfl (by decide)) (by omega) (by decide) ?_
    refine r_topi (y := nI (l - 1)) (by simp [gI_sI, gJ_sJ, gI_sJ, gJ_sI]) ?_
    refine r_if_leN (q := 137) (t := 140) (by omega) dX12_paths_134 (by decide) rfl (fun h134 => ?_) (fun h134 => ?_)
    · skip
      refine r_idecN (q := 143) (L' := [some (zr 12 0), some (zi c), some (zi o), some (zi (nI (st.length + 1 - 1))), some (zi (nI h)), some (zi (nI k))]) 1 (by omega) rfl dX12_paths_140 rfl rfl (by decide) rfl ?_
      refine r_aload_n (q := 144) dX12_paths_143 rfl rfl rfl ?_
      refine r_getr (q := 147) (some (1318, 0)) ck12 dX12_paths_144 rfl (k := 18) (by decide) wt1296 rfl (hs.e (by decide)) (hs.r (by decide) (by decide)) ?_
      refine r_iload_n (q := 148) dX12_paths_147 rfl rfl rfl ?_
      refine r_ialdN (q := 149) 8 (by decide) rfl dX12_paths_148 rfl (hs.e (by decide)) (hs.n rfl (by decide)) (by omega) (by decide) ?_
      refine r_topi (y := gI S 1318 0 (st.length + 1 - 1)) (by simp [gI_sI, gJ_sJ, gI_sJ, gJ_sI]) ?_
      refine r_topi (y := nI g) s1 ?_
      refine r_istore (q := 151) (L' := [some (zr 12 0), some (zi c), some (zi o), some (zi (nI (st.length + 1 - 1))), some (zi (nI g)), some (zi (nI k))]) dX12_paths_149 rfl (by decide) rfl ?_
      refine r_goto (q := 110) dX12_paths_151 (by decide) ?_
      rw [if_neg (by omega)] at K
      refine ih _ g hs (by omega) (s6.cong fun i hi => ⟨by rw [gI_sI, if_neg (by omega)], by rw [gI_sI, if_neg (by omega)]⟩) (by omega) (fun S' f1 f2 f3 => K S' ((Fr.rf.i rfl).tr f1) (fun x y z hx => by rw [f2 x y z hx, gI_sI, if_neg (by omega)]) f3)
    · skip
      refine r_goto (q := 154) dX12_paths_137 (by decide) ?_
      rw [if_pos (by omega)] at K
      exact K _ (Fr.rf.i rfl) (fun x y z hx => by rw [gI_sI, if_neg (by omega)]) ⟨by rw [gI_sI, if_neg (by omega)]; exact s1, by rw [gI_sI, if_pos ⟨rfl, rfl, rfl⟩], by omega, by omega, s5, s6.cong fun i hi => ⟨by rw [gI_sI, if_neg (by omega)], by rw [gI_sI, if_neg (by omega)]⟩⟩

set_option maxRecDepth 100000 in
theorem lp_paths {Po : Option zV → zS → Prop} {c : Int32} {A off : Nat} {e : Nat → Nat} (hE : Eok A e) (ho : off ≤ 1173) : ∀ (r : List Nat) (S : zS) (st : List (Nat × Nat)) (h k p m : Nat), Sd S → (∀ a, a < A → gI S 1322 0 (off + 4 + a) = nI (e a)) → Fs A e r m → (∀ i, i < r.length → gI S 1316 0 (k + i) = nI (r.getD i 0)) → gI S 12 0 20 = nI (k + r.length) → k + r.length ≤ 13 → Sk S st → h < 2 * 4 ^ st.length → st.length + acs r ≤ 6 → gI S 12 0 21 = nI p → p + lvs r ≤ 7 → (∀ S', Fr tPa S S' → gI S' 12 0 21 = nI (p + lvs r) → (∀ i, i < p → gI S' 1317 0 i = gI S 1317 0 i) → (∀ i, i < lvs r → gI S' 1317 0 (p + i) = nI ((pth e st h r).getD i 0)) → Po none S') → Ok mX12_paths 18 [some (zr 12 0), some (zi c), some (zi (nI off)), some (zi (nI st.length)), some (zi (nI h)), some (zi (nI k))] [] S Po := by
  intro r
  induction r with
  | nil =>
    intro S st h k p m hs hw hf ht hm hk hst hh h6 hp h7 K
    have hm : gI S 12 0 20 = nI k := hm
    have hk : k ≤ 13 := hk
    refine r_iload (q := 20) dX12_paths_18 rfl rfl ?_
    refine r_aload_n (q := 21) dX12_paths_20 rfl rfl rfl ?_
    refine r_geti (q := 24) ck12 dX12_paths_21 rfl (k := 20) (by decide) wt1298 (Or.inl rfl) (hs.e (by decide)) ?_
    refine r_topi (y := nI k) hm ?_
    refine r_icmp_geN (q := 27) (t := 160) (by omega) (by omega) dX12_paths_24 (by decide) rfl (fun h24 => ?_) (fun h24 => absurd h24 (by omega))
    refine r_return dX12_paths_160 rfl ?_
    exact K S Fr.rf hp (fun _ _ => rfl) (fun i hi => absurd hi (by simp [lvs]))
  | cons x r ih =>
    intro S st h k p m hs hw hf ht hm hk hst hh h6 hp h7 K
    rw [List.length_cons] at hm hk
    have ht0 := ht 0 (by simp)
    have hx3 := Nat.le_trans (hf.tok x List.mem_cons_self) hE.1
    have hx : gI S 1316 0 k = nI x := ht0
    have p6 := pow46 (n := st.length) (by omega)
    have htr : ∀ i, i < r.length → gI S 1316 0 (k + 1 + i) = nI (r.getD i 0) := fun i hi => by
      have := ht (i + 1) (by rw [List.length_cons]; omega)
      rw [show k + 1 + i = k + (i + 1) by omega, this]; rfl
    have hmr : gI S 12 0 20 = nI (k + 1 + r.length) := by rw [hm]; congr 1; omega
    refine r_iload (q := 20) dX12_paths_18 rfl rfl ?_
    refine r_aload_n (q := 21) dX12_paths_20 rfl rfl rfl ?_
    refine r_geti (q := 24) ck12 dX12_paths_21 rfl (k := 20) (by decide) wt1298 (Or.inl rfl) (hs.e (by decide)) ?_
    refine r_topi (y := nI (k + (r.length + 1))) hm ?_
    refine r_icmp_geN (q := 27) (t := 160) (by omega) (by omega) dX12_paths_24 (by decide) rfl (fun h24 => absurd h24 (by omega)) (fun h24 => ?_)
    refine r_aload_n (q := 28) dX12_paths_27 rfl rfl rfl ?_
    refine r_getr (q := 31) (some (1316, 0)) ck12 dX12_paths_28 rfl (k := 16) (by decide) wt1294 rfl (hs.e (by decide)) (hs.r (by decide) (by decide)) ?_
    refine r_iload (q := 33) dX12_paths_31 rfl rfl ?_
    refine r_ialdN (q := 34) 16 (by decide) rfl dX12_paths_33 rfl (hs.e (by decide)) (hs.n rfl (by decide)) (by omega) (by decide) ?_
    refine r_topi (y := nI x) hx ?_
    refine r_if_leN (q := 37) (t := 89) (by omega) dX12_paths_34 (by decide) rfl (fun h34 => ?_) (fun h34 => ?_)
    · skip
      have h34' : x = 0 := by omega
      have hf2 := hf.2
      rw [if_pos h34'] at hf2
      simp only [acs, lvs, if_pos h34'] at h6 h7 K
      rw [pth, if_pos h34'] at K
      refine r_aload_n (q := 90) dX12_paths_89 rfl rfl rfl ?_
      refine r_getr (q := 93) (some (1317, 0)) ck12 dX12_paths_90 rfl (k := 17) (by decide) wt1295 rfl (hs.e (by decide)) (hs.r (by decide) (by decide)) ?_
      refine r_aload_n (q := 94) dX12_paths_93 rfl rfl rfl ?_
      refine r_geti (q := 97) ck12 dX12_paths_94 rfl (k := 21) (by decide) wt1299 (Or.inl rfl) (hs.e (by decide)) ?_
      refine r_topi (y := nI p) hp ?_
      refine r_iload (q := 99) dX12_paths_97 rfl rfl ?_
      refine r_iastN (q := 100) 8 (by decide) rfl dX12_paths_99 rfl (hs.e (by decide)) (hs.n rfl (by decide)) (by omega) (by decide) ?_
      refine r_aload_n (q := 101) dX12_paths_100 rfl rfl rfl ?_
      refine r_dup (q := 102) dX12_paths_101 rfl rfl ?_
      refine r_geti (q := 105) ck12 dX12_paths_102 rfl (k := 21) (by decide) wt1299 (Or.inl rfl) (hs.e (by decide)) ?_
      refine r_topi (y := gI S 12 0 21) (by simp [gI_sI, gJ_sJ, gI_sJ, gJ_sI]) ?_
      refine r_topi (y := nI p) hp ?_
      refine r_iconst (q := 106) (nI 1) dX12_paths_105 rfl (by decide) ?_
      refine r_iaddN (q := 107) dX12_paths_106 rfl ?_
      refine r_puti (q := 110) ck12 dX12_paths_107 rfl (k := 21) (by decide) wt1299 (Or.inl rfl) rfl (hs.e (by decide)) ?_
      refine lp_pop (by omega) st _ h hs (by omega) (hst.cong fun i hi => ⟨by rw [gI_sI, if_neg (by omega), gI_sI, if_neg (by omega)], by rw [gI_sI, if_neg (by omega), gI_sI, if_neg (by omega)]⟩) (by omega) (fun S' f1 f2 f3 => ?_)
      have hs' : Sd S' := Sd.fr hs ((Fr.rf.i rfl).i rfl |>.tr f1)
      have pb := hst.popb hh
      have pl := pop_len st h
      have g' : ∀ y z w, y ≠ 1319 → ¬ (y = 1317 ∧ z = 0 ∧ w = p) → ¬ (y = 12 ∧ z = 0 ∧ w = 21) → gI S' y z w = gI S y z w := fun y z w q1 q2 q3 => by rw [f2 y z w q1, gI_sI, if_neg q3, gI_sI, if_neg q2]
      refine r_iincN (q := 157) (L' := [some (zr 12 0), some (zi c), some (zi (nI off)), some (zi (nI ((pop st h).1.length))), some (zi (nI ((pop st h).2))), some (zi (nI (k + 1)))]) 1 rfl dX12_paths_154 rfl rfl (by decide) rfl ?_
      refine r_goto (q := 18) dX12_paths_157 (by decide) ?_
      refine ih S' _ _ (k + 1) (p + 1) _ hs' (fun a ha => (g' _ _ _ (by omega) (by omega) (by omega)).trans (hw a ha)) hf2 (fun i hi => (g' _ _ _ (by omega) (by omega) (by omega)).trans (htr i hi)) ((g' _ _ _ (by omega) (by omega) (by omega)).trans hmr) (by omega) f3 pb (by omega) (by rw [f2 _ _ _ (by omega), gI_sI, if_pos ⟨rfl, rfl, rfl⟩]) (by omega) (fun S2 k1 k2 k3 k4 => ?_)
      refine K S2 ((((Fr.rf.i rfl).i rfl).tr f1).tr k1) (by rw [k2]; congr 1; omega) (fun i hi => (k3 i (by omega)).trans (g' _ _ _ (by omega) (by omega) (by omega))) (fun i hi => ?_)
      cases i with
      | zero => rw [Nat.add_zero, k3 p (by omega), f2 _ _ _ (by omega), gI_sI, if_neg (by omega), gI_sI, if_pos ⟨rfl, rfl, rfl⟩]; rfl
      | succ i => rw [show p + (i + 1) = p + 1 + i by omega, k4 i (by omega)]; rfl
    · skip
      have h34' : ¬ x = 0 := by omega
      have hf2 := hf.2
      rw [if_neg h34'] at hf2
      have hxA : x - 1 < A := by omega
      have he4 := hE.2 (x - 1) hxA
      simp only [acs, lvs, if_neg h34'] at h6 h7 K
      rw [pth, if_neg h34'] at K
      refine r_aload_n (q := 38) dX12_paths_37 rfl rfl rfl ?_
      refine r_getr (q := 41) (some (1318, 0)) ck12 dX12_paths_38 rfl (k := 18) (by decide) wt1296 rfl (hs.e (by decide)) (hs.r (by decide) (by decide)) ?_
      refine r_iload_n (q := 42) dX12_paths_41 rfl rfl rfl ?_
      refine r_iload (q := 44) dX12_paths_42 rfl rfl ?_
      refine r_iastN (q := 45) 8 (by decide) rfl dX12_paths_44 rfl (hs.e (by decide)) (hs.n rfl (by decide)) (by omega) (by decide) ?_
      refine r_aload_n (q := 46) dX12_paths_45 rfl rfl rfl ?_
      refine r_getr (q := 49) (some (1319, 0)) ck12 dX12_paths_46 rfl (k := 19) (by decide) wt1297 rfl (hs.e (by decide)) (hs.r (by decide) (by decide)) ?_
      refine r_iload_n (q := 50) dX12_paths_49 rfl rfl rfl ?_
      refine r_aload_n (q := 51) dX12_paths_50 rfl rfl rfl ?_
      refine r_getr (q := 54) (some (1322, 0)) ck12 dX12_paths_51 rfl (k := 22) (by decide) wt1300 rfl (hs.e (by decide)) (hs.r (by decide) (by decide)) ?_
      refine r_iload_n (q := 55) dX12_paths_54 rfl rfl rfl ?_
      refine r_iconst (q := 56) (nI 4) dX12_paths_55 rfl (by decide) ?_
      refine r_iaddN (q := 57) dX12_paths_56 rfl ?_
      refine r_aload_n (q := 58) dX12_paths_57 rfl rfl rfl ?_
      refine r_getr (q := 61) (some (1316, 0)) ck12 dX12_paths_58 rfl (k := 16) (by decide) wt1294 rfl (hs.e (by decide)) (hs.r (by decide) (by decide)) ?_
      refine r_iload (q := 63) dX12_paths_61 rfl rfl ?_
      refine r_ialdN (q := 64) 16 (by decide) rfl dX12_paths_63 rfl (hs.e (by decide)) (hs.n rfl (by decide)) (by omega) (by decide) ?_
      refine r_topi (y := gI S 1316 0 k) (by simp [gI_sI, gJ_sJ, gI_sJ, gJ_sI]) ?_
      refine r_topi (y := nI x) hx ?_
      refine r_iaddN (q := 65) dX12_paths_64 rfl ?_
      refine r_iconst (q := 66) (nI 1) dX12_paths_65 rfl (by decide) ?_
      refine r_isubN (q := 67) (by omega) dX12_paths_66 rfl ?_
      refine r_topi (y := nI (off + 4 + (x - 1))) (congrArg nI (by omega)) ?_
      refine r_ialdN (q := 68) 2346 (by decide) rfl dX12_paths_67 rfl (hs.e (by decide)) (hs.n rfl (by decide)) (by omega) (by decide) ?_
      refine r_topi (y := gI S 1322 0 (off + 4 + (x - 1))) (by simp [gI_sI, gJ_sJ, gI_sJ, gJ_sI]) ?_
      refine r_topi (y := nI (e (x - 1))) (hw (x - 1) hxA) ?_
      refine r_iastN (q := 69) 8 (by decide) rfl dX12_paths_68 rfl (hs.e (by decide)) (hs.n rfl (by decide)) (by omega) (by decide) ?_
      refine r_iincN (q := 72) (L' := [some (zr 12 0), some (zi c), some (zi (nI off)), some (zi (nI (st.length + 1))), some (zi (nI h)), some (zi (nI k))]) 1 rfl dX12_paths_69 rfl rfl (by decide) rfl ?_
      refine r_iload (q := 74) dX12_paths_72 rfl rfl ?_
      refine r_iconst (q := 75) (nI 2) dX12_paths_74 rfl (by decide) ?_
      refine r_ishl (q := 76) dX12_paths_75 rfl ?_
      refine r_topi (y := nI (h * 4)) (pk_shlN _ 2 (by decide) (show h * 2 ^ 2 < 2 ^ 32 by omega)) ?_
      refine r_aload_n (q := 77) dX12_paths_76 rfl rfl rfl ?_
      refine r_getr (q := 80) (some (1316, 0)) ck12 dX12_paths_77 rfl (k := 16) (by decide) wt1294 rfl (hs.e (by decide)) (hs.r (by decide) (by decide)) ?_
      refine r_iload (q := 82) dX12_paths_80 rfl rfl ?_
      refine r_ialdN (q := 83) 16 (by decide) rfl dX12_paths_82 rfl (hs.e (by decide)) (hs.n rfl (by decide)) (by omega) (by decide) ?_
      refine r_topi (y := gI S 1316 0 k) (by simp [gI_sI, gJ_sJ, gI_sJ, gJ_sI]) ?_
      refine r_topi (y := nI x) hx ?_
      refine r_ior (q := 84) dX12_paths_83 rfl ?_
      refine r_topi (y := nI (4 * h + x)) (by rw [show h * 4 = h * 2 ^ 2 from rfl, or_addN (by omega)]; congr 1; omega) ?_
      refine r_istore (q := 86) (L' := [some (zr 12 0), some (zi c), some (zi (nI off)), some (zi (nI (st.length + 1))), some (zi (nI (4 * h + x))), some (zi (nI k))]) dX12_paths_84 rfl (by decide) rfl ?_
      refine r_goto (q := 154) dX12_paths_86 (by decide) ?_
      refine r_iincN (q := 157) (L' := [some (zr 12 0), some (zi c), some (zi (nI off)), some (zi (nI (st.length + 1))), some (zi (nI (4 * h + x))), some (zi (nI (k + 1)))]) 1 rfl dX12_paths_154 rfl rfl (by decide) rfl ?_
      refine r_goto (q := 18) dX12_paths_157 (by decide) ?_
      have g' : ∀ y z w, ¬ (y = 1318 ∧ z = 0 ∧ w = st.length) → ¬ (y = 1319 ∧ z = 0 ∧ w = st.length) → gI (sI (sI S 1318 0 st.length (nI h)) 1319 0 st.length (nI (e (x - 1)))) y z w = gI S y z w := fun y z w q1 q2 => by rw [gI_sI, if_neg q2, gI_sI, if_neg q1]
      refine ih _ ((h, e (x - 1)) :: st) (4 * h + x) (k + 1) p _ hs (fun a ha => (g' _ _ _ (by omega) (by omega)).trans (hw a ha)) hf2.2 (fun i hi => (g' _ _ _ (by omega) (by omega)).trans (htr i hi)) ((g' _ _ _ (by omega) (by omega)).trans hmr) (by omega) ⟨by rw [gI_sI, if_neg (by omega), gI_sI, if_pos ⟨rfl, rfl, rfl⟩], by rw [gI_sI, if_pos ⟨rfl, rfl, rfl⟩], by omega, by omega, hh, hst.cong fun i hi => ⟨g' _ _ _ (by omega) (by omega), g' _ _ _ (by omega) (by omega)⟩⟩ (by rw [List.length_cons, Nat.pow_succ]; omega) (by rw [List.length_cons]; omega) ((g' _ _ _ (by omega) (by omega)).trans hp) (by omega) (fun S2 k1 k2 k3 k4 => ?_)
      refine K S2 (((Fr.rf.i rfl).i rfl).tr k1) (by rw [k2]; congr 1; omega) (fun i hi => (k3 i hi).trans (g' _ _ _ (by omega) (by omega))) (fun i hi => k4 i (by omega))

set_option maxRecDepth 100000 in
theorem ok_X12_paths {S : zS} (hs : Sd S) {A n off : Nat} {e : Nat → Nat} (hE : Eok A e) {t : List Nat} (ht : Tr A e n t) (hn : n ≤ 7) (ho : off ≤ 1173) (hw : ∀ a, a < A → gI S 1322 0 (off + 4 + a) = nI (e a)) : Ok mX12_paths 0 (ent 6 [zr 12 0, zi (nI (cd t)), zi (nI off)]) [] S (fun r S1 => r = none ∧ Fr tPa S S1 ∧ gI S1 12 0 21 = nI n ∧ ∀ i, i < n → gI S1 1317 0 i = nI ((pth e [] 1 t).getD i 0)) := by
  have hl := ht.len hE
  have hc := ht.1.cnt hE.two
  have h2 := ht.2
  have hb := cd_le (ht.tok hE) (by omega)
  have f0 : ∀ y z w, ¬ (y = 1316 ∧ z = 0) → ¬ (y = 12 ∧ z = 0 ∧ w = 20) → ¬ (y = 12 ∧ z = 0 ∧ w = 21) → gI (sI (stR (sI S 12 0 20 (nI t.length)) 1316 0 t) 12 0 21 (nI 0)) y z w = gI S y z w := fun y z w q1 q2 q3 => by rw [gI_sI, if_neg q3, gI_stR_x q1, gI_sI, if_neg q2]
  show Ok mX12_paths 0 [some (zr 12 0), some (zi (nI (cd t))), some (zi (nI off)), none, none, none] [] S _
  refine r_aload_n (q := 1) dX12_paths_0 rfl rfl rfl ?_
  refine r_iload_n (q := 2) dX12_paths_1 rfl rfl rfl ?_
  refine r_callV (Mc := mX12_tokens) (q := 5) (As := [zi (nI (cd t))]) (st := []) ck12 dX12_paths_2 rfl rfl mkX12_tokens wt1649 wt1651 wp85 rfl (Nat.le_of_ble_eq_true rfl) (Nat.le_of_ble_eq_true rfl) (by decide) (by decide) (by decide) (Or.inl rfl) (hs.e (by decide)) (ok_X12_tokens hs (ht.tok hE) (by omega)) (fun r2 S2 hp2 => ?_)
  obtain ⟨rfl, hq2⟩ := hp2
  rw [hq2]
  show Ok _ _ _ [] _ _
  refine r_aload_n (q := 6) dX12_paths_5 rfl rfl rfl ?_
  refine r_iconst (q := 7) (nI 0) dX12_paths_6 rfl (by decide) ?_
  refine r_puti (q := 10) ck12 dX12_paths_7 rfl (k := 21) (by decide) wt1299 (Or.inl rfl) rfl (hs.e (by decide)) ?_
  refine r_iconst (q := 11) (nI 0) dX12_paths_10 rfl (by decide) ?_
  refine r_istore_n (q := 12) (L' := [some (zr 12 0), some (zi (nI (cd t))), some (zi (nI off)), some (zi (nI 0)), none, none]) dX12_paths_11 rfl rfl (by decide) rfl ?_
  refine r_iconst (q := 13) (nI 1) dX12_paths_12 rfl (by decide) ?_
  refine r_istore (q := 15) (L' := [some (zr 12 0), some (zi (nI (cd t))), some (zi (nI off)), some (zi (nI 0)), some (zi (nI 1)), none]) dX12_paths_13 rfl (by decide) rfl ?_
  refine r_iconst (q := 16) (nI 0) dX12_paths_15 rfl (by decide) ?_
  refine r_istore (q := 18) (L' := [some (zr 12 0), some (zi (nI (cd t))), some (zi (nI off)), some (zi (nI 0)), some (zi (nI 1)), some (zi (nI 0))]) dX12_paths_16 rfl (by decide) rfl ?_
  refine lp_paths hE ho t _ [] 1 0 0 1 hs (fun a ha => (f0 _ _ _ (by omega) (by omega) (by omega)).trans (hw a ha)) ht.1 (fun i hi => by rw [Nat.zero_add, gI_sI, if_neg (by omega), gI_stR_k hi]) (by rw [Nat.zero_add, gI_sI, if_neg (by omega), gI_stR_x (by omega), gI_sI, if_pos ⟨rfl, rfl, rfl⟩]) (by omega) trivial (by decide) (by simp only [List.length_nil]; omega) (by rw [gI_sI, if_pos ⟨rfl, rfl, rfl⟩]) (by omega) (fun S2 k1 k2 k3 k4 => ?_)
  refine ⟨rfl, Fr.tr (Fr.i (Fr.stR (Fr.i Fr.rf rfl) (fun _ => rfl)) rfl) k1, by rw [k2, Nat.zero_add, ht.2], fun i hi => ?_⟩
  have := k4 i (by rw [ht.2]; exact hi)
  rw [Nat.zero_add] at this
  exact this

