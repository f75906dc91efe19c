/-! koszul: the reference -/
theorem tcT_dW {W : zWd} {mk : Nat → Bool} {R : Nat → Nat → Nat} : ∀ m, tcT (dW W mk R) m = tcT W m
  | 0 => rfl
  | m + 1 => by
    funext k
    show (if k ≤ m then tcT (dW W mk R) m k else if k = m + 1 then (if m = 0 then 1 else 0) + sm (fun a => foL (tcT (dW W mk R) m) (we W a) (m + 1)) (wA W) else 0) = _
    rw [tcT_dW m]
    rfl
theorem tc_dW {W : zWd} {mk : Nat → Bool} {R : Nat → Nat → Nat} (m : Nat) : tc (dW W mk R) m = tc W m := congrFun (tcT_dW m) m
theorem ivS_ex (f : Nat → Nat) : ∀ n, ∃ g : Nat → Int64, IvS g f n
  | 0 => ⟨fun _ => 0, fun m a b => absurd a (by omega)⟩
  | n + 1 => by
    obtain ⟨g, hg⟩ := ivS_ex f n
    refine ⟨fun m => if m = n + 1 then accJ g f (n + 1) n else g m, fun m a b => ?_⟩
    have hc : ∀ m, m ≤ n + 1 → accJ (fun m => if m = n + 1 then accJ g f (n + 1) n else g m) f m (m - 1) = accJ g f m (m - 1) := fun m hm => accJ_cong (fun i i1 i2 => ⟨if_neg (by omega), rfl⟩)
    show (if m = n + 1 then accJ g f (n + 1) n else g m) = _
    rw [hc m b]
    by_cases e : m = n + 1
    · rw [if_pos e, e]
      rfl
    · rw [if_neg e]
      exact hg m a (by omega)
theorem IvS.le {g : Nat → Int64} {f : Nat → Nat} {n m : Nat} (h : IvS g f n) (hm : m ≤ n) : IvS g f m := fun k a b => h k a (by omega)
/-- the sign of a size -/
def sgK (d : Nat → Nat) (k : Nat) : Int64 := (if k % 2 = 0 then -(nI (d k)) else nI (d k)).toInt64
/-- the first number of leaves at which the series are not each other's inverse -/
noncomputable def kzF (W : zWd) (g : Nat → Int64) (d : Nat → Nat) : Nat → Nat → Int32
  | 0, _ => -1
  | f + 1, k => if tc W k ≤ 300 then (if g k = sgK d k then kzF W g d f (k + 1) else nI k) else -1
theorem lg_eq0 {x y : Int64} : lg_cmp x y = 0 ↔ x = y := by
  constructor
  · intro h
    by_cases a : x = y
    · exact a
    · exfalso
      unfold lg_cmp at h
      by_cases b : x > y
      · rw [if_pos b] at h; exact absurd h (by decide)
      · rw [if_neg b] at h
        by_cases c : x = y
        · exact a c
        · rw [if_neg c] at h; exact absurd h (by decide)
  · intro h
    rw [h]
    exact lg_same y
theorem RB.q0 {S S1 : zS} {W : zWd} (hE : Eok (wA W) (we W)) {L : Nat} {pvs : Nat → Nat → Bool} {bss : Nat → Nat → Nat → Nat} (h : RB S W 1 L pvs bss) (f : Fr tSr0 S S1) : RB S1 W 1 L pvs bss := h.fr hE (by omega) f (bfalse fun z => by simp [tSr0, tBy, tOw, tSe, tTq, tPt, tPa, tIv] at z) (bfalse fun z => by simp [tSr0, tBy, tOw, tSe, tTq, tPt, tPa, tIv] at z) (fun s a b => ⟨bfalse fun z => by simp [tSr0, tBy, tOw, tSe, tTq, tPt, tPa, tIv] at z; omega, bfalse fun z => by simp [tSr0, tBy, tOw, tSe, tTq, tPt, tPa, tIv] at z; omega, bfalse fun z => by simp [tSr0, tBy, tOw, tSe, tTq, tPt, tPa, tIv] at z; omega, bfalse fun z => by simp [tSr0, tBy, tOw, tSe, tTq, tPt, tPa, tIv] at z; omega⟩) (fun k a b => ⟨bfalse fun z => by simp [tSr0, tBy, tOw, tSe, tTq, tPt, tPa, tIv] at z; omega, bfalse fun z => by simp [tSr0, tBy, tOw, tSe, tTq, tPt, tPa, tIv] at z; omega, bfalse fun z => by simp [tSr0, tBy, tOw, tSe, tTq, tPt, tPa, tIv] at z; omega⟩) (fun k a b => bfalse fun z => by simp [tSr0, tBy, tOw, tSe, tTq, tPt, tPa, tIv] at z; omega) (fun i a b => bfalse fun z => by simp [tSr0, tBy, tOw, tSe, tTq, tPt, tPa, tIv] at z; omega)
def KoI (S : zS) (W W' : zWd) (n9 : Nat → Int64) : Prop := Sd S ∧ wqR W (fun k => gI S 1306 0 k) n9 ∧ Cw S ∧ CR S W ∧ IvI S ∧ wqR W' (fun k => gI S 1322 0 (1173 * 1 + k)) n9 ∧ ∃ L pvs bss, RB S W' 1 L pvs bss
def tKl (x y k : Nat) : Bool := tSr0 x y k || tSe 1 x y k || tBk x y k
theorem wq1 {S S1 : zS} {W' : zWd} {n9 : Nat → Int64} {T : Nat → Nat → Nat → Bool} (h : wqR W' (fun k => gI S 1322 0 (1173 * 1 + k)) n9) (f : Fr T S S1) (t : ∀ k, T 1322 0 (1173 * 1 + k) = false) : wqR W' (fun k => gI S1 1322 0 (1173 * 1 + k)) n9 := by
  have e : (fun k => gI S1 1322 0 (1173 * 1 + k)) = fun k => gI S 1322 0 (1173 * 1 + k) := funext fun k => f.1 _ _ _ (t k)
  rw [e]; exact h

set_option maxRecDepth 100000 in
theorem lp_ko66 {W W' : zWd} (hW : Wok W) (hW' : Wok W') (htc : ∀ m, tc W' m = tc W m) {n : Nat} (hn7 : n ≤ 7) {g : Nat → Int64} (hg : IvS g (szW W) 7) {n9 : Nat → Int64} : ∀ (d k : Nat) (S : zS), d + k = n + 1 → 1 ≤ k → KoI S W W' n9 → Ok mX12_koszul 66 [some (zr 12 0), some (zi (nI n)), some (zi (nI k))] [] S (fun r S1 => r = some (zi (kzF W g (szW W') d k)) ∧ Fr tKl S S1 ∧ Cw S1 ∧ CR S1 W ∧ IvI S1) := by
  intro d
  induction d with
  | zero =>
    intro k S hk hk1 hI
    obtain ⟨hs, hR, hO, hcr, hIv, hR1, hRB⟩ := hI
    refine r_iload_n (q := 67) dX12_koszul_66 rfl rfl rfl ?_
    refine r_iload_n (q := 68) dX12_koszul_67 rfl rfl rfl ?_
    refine r_icmp_gtN (q := 71) (t := 137) (by omega) (by omega) dX12_koszul_68 (by decide) rfl (fun h68 => ?_) (fun h68 => absurd h68 (by omega))
    refine r_iconst (q := 138) ((-1 : Int32)) dX12_koszul_137 rfl (by decide) ?_
    refine r_ireturn dX12_koszul_138 rfl ?_
    exact ⟨rfl, Fr.rf, hO, hcr, hIv⟩
  | succ d ih =>
    intro k S hk hk1 hI
    obtain ⟨hs, hR, hO, hcr, hIv, hR1, L0, pvs0, bss0, hRB⟩ := hI
    by_cases h3 : tc W k ≤ 300
    · have h3' : tc W' k ≤ 300 := by rw [htc]; exact h3
      by_cases hp2 : k % 2 = 0
      · have hsg : sgK (szW W') k = (-(nI (szW W' k))).toInt64 := by unfold sgK; rw [if_pos hp2]
        refine r_iload_n (q := 67) dX12_koszul_66 rfl rfl rfl ?_
        refine r_iload_n (q := 68) dX12_koszul_67 rfl rfl rfl ?_
        refine r_icmp_gtN (q := 71) (t := 137) (by omega) (by omega) dX12_koszul_68 (by decide) rfl (fun h68 => absurd h68 (by omega)) (fun h68 => ?_)
        refine r_aload_n (q := 72) dX12_koszul_71 rfl rfl rfl ?_
        refine r_iconst (q := 73) (nI 0) dX12_koszul_72 rfl (by decide) ?_
        refine r_iload_n (q := 74) dX12_koszul_73 rfl rfl rfl ?_
        refine r_callV (Mc := mX12_series) (q := 77) (As := [zi (nI 0), zi (nI k)]) (st := []) ck12 dX12_koszul_74 rfl rfl mkX12_series wt1916 wt1918 wp130 rfl (Nat.le_of_ble_eq_true rfl) (Nat.le_of_ble_eq_true rfl) (by decide) (by decide) (by decide) (Or.inl rfl) (hs.e (by decide)) (ok_series0_y hs hW (by omega) h3 hR hO hcr hIv) (fun r74 S74 hp74 => ?_)
        obtain ⟨rfl, hf, f1, hO1, hcr1, hI1⟩ := hp74
        have hs1 : Sd S74 := hs.fr f1
        have hR11 : wqR W' (fun k => gI S74 1322 0 (1173 * 1 + k)) n9 := wq1 hR1 f1 (fun k => bfalse fun z => by simp [tSr0, tBy, tOw, tSe, tTq, tPt, tPa, tIv] at z; omega)
        have hB1 := hRB.q0 hW'.2.1 f1
        have hR1a : wqR W (fun k => gI S74 1306 0 k) n9 := hR.frq f1 (fun _ => bfalse fun z => by simp [tSr0, tBy, tOw, tSe, tTq, tPt, tPa, tIv] at z)
        show Ok _ _ _ [zi (nI 1)] _ _
        refine r_if_eqN (q := 80) (t := 89) (by omega) dX12_koszul_77 (by decide) rfl (fun h77 => absurd h77 (by omega)) (fun h77 => ?_)
        refine r_aload_n (q := 81) dX12_koszul_80 rfl rfl rfl ?_
        refine r_iconst (q := 82) (nI 1) dX12_koszul_81 rfl (by decide) ?_
        refine r_iload_n (q := 83) dX12_koszul_82 rfl rfl rfl ?_
        refine r_callV (Mc := mX12_isBeyond) (q := 86) (As := [zi (nI 1), zi (nI k)]) (st := []) ck12 dX12_koszul_83 rfl rfl mkX12_isBeyond wt1751 wt1753 wp99 rfl (Nat.le_of_ble_eq_true rfl) (Nat.le_of_ble_eq_true rfl) (by decide) (by decide) (by decide) (Or.inl rfl) (hs1.e (by decide)) (ok_beyond1 hs1 hW' hk1 (by omega) (WS.of hW' (q := 1) hR11) hB1 hI1) (fun r83 S83 hp83 => ?_)
        obtain ⟨f2, hI2, hWS2, L, pvs, bss, hB2, hr⟩ := hp83
        have hs2 : Sd S83 := hs1.fr f2
        rcases hr with ⟨-, hr⟩ | ⟨rfl, -, hkL⟩
        · omega
        have hf2 : Fst S83 (szW W) k := hf.fr f2 (fun _ => bfalse fun z => by simp [tSe, tTq, tPt, tPa, tIv] at z)
        have hO2 : Cw S83 := hO1.f3 f2 ⟨bfalse fun z => by simp [tSe, tTq, tPt, tPa, tIv] at z, fun k _ => bfalse fun z => by simp [tSe, tTq, tPt, tPa, tIv] at z, fun k => bfalse fun z => by simp [tSe, tTq, tPt, tPa, tIv] at z⟩
        have hcr2 : CR S83 W := fun z => by
          obtain ⟨L', p', b', q'⟩ := hcr1 ((f2.1 _ _ _ (bfalse fun z => by simp [tSe, tTq, tPt, tPa, tIv] at z)).symm.trans z)
          exact ⟨L', p', b', q'.q1 hW.2.1 f2⟩
        show Ok _ _ _ [zi (nI 0)] _ _
        refine r_if_eqN (q := 89) (t := 91) (by omega) dX12_koszul_86 (by decide) rfl (fun h86 => ?_) (fun h86 => absurd h86 (by omega))
        refine r_aload_n (q := 92) dX12_koszul_91 rfl rfl rfl ?_
        refine r_iload_n (q := 93) dX12_koszul_92 rfl rfl rfl ?_
        refine r_callV (Mc := mX12_back) (q := 96) (As := [zi (nI k)]) (st := []) ck12 dX12_koszul_93 rfl rfl mkX12_back wt1920 wt1922 wp131 rfl (Nat.le_of_ble_eq_true rfl) (Nat.le_of_ble_eq_true rfl) (by decide) (by decide) (by decide) (Or.inl rfl) (hs2.e (by decide)) (ok_back hs2 hk1 (by omega) hf2) (fun r93 S93 hp93 => ?_)
        obtain ⟨rfl, f3, hiv⟩ := hp93
        have hs3 : Sd S93 := hs2.fr f3
        have hgk : gJ S93 1369 0 k = g k := hiv.uniq (hg.le (show k ≤ 7 by omega)) k hk1 (Nat.le_refl _)
        have rc : RcI S83 S93 := RcI.of (f3.fg hs2 (U := fun a _ _ => a = 1368 ∨ a = 1369) (fun a b k z => by simp [tBk] at z; exact z.1)) ⟨by omega, by omega, fun x k a b => by omega, fun k _ => by omega⟩
        have hB3 : RB S93 W' 1 L pvs bss := hB2.fg (fun x k a b => f3.1 _ _ _ (bfalse fun z => by simp [tBk] at z; omega)) (fun k => f3.2.1 _ _ _ rfl)
        obtain ⟨hLr, hAc, hLv⟩ := hB3.2.2.2.2 k hk1 (by omega)
        have hsz := sz_R hW' hLv
        have h6 := hAc.2.2.1
        have h4 := hLr.2.1
        have gall : Fr tKl S S93 := ((f1.mono fun x y k z => by simp [tKl, z]).tr (f2.mono fun x y k z => by simp [tKl, z])).tr (f3.mono fun x y k z => by simp [tKl, z])
        show Ok _ _ _ [] _ _
        refine r_aload_n (q := 97) dX12_koszul_96 rfl rfl rfl ?_
        refine r_getr (q := 100) (some (1369, 0)) ck12 dX12_koszul_97 rfl (k := 69) (by decide) wt1347 rfl (hs3.e (by decide)) (hs3.r (by decide) (by decide)) ?_
        refine r_iload_n (q := 101) dX12_koszul_100 rfl rfl rfl ?_
        refine r_laldN (q := 102) 8 (by decide) rfl dX12_koszul_101 rfl (hs3.e (by decide)) (hs3.n rfl (by decide)) (by omega) (by decide) ?_
        refine r_iload_n (q := 103) dX12_koszul_102 rfl rfl rfl ?_
        refine r_iconst (q := 104) (nI 2) dX12_koszul_103 rfl (by decide) ?_
        refine r_iremN (q := 105) (by omega) (by omega) (by omega) dX12_koszul_104 rfl ?_
        refine r_if_neN (q := 108) (t := 118) (by omega) dX12_koszul_105 (by decide) rfl (fun h105 => absurd h105 (by omega)) (fun h105 => ?_)
        refine r_aload_n (q := 109) dX12_koszul_108 rfl rfl rfl ?_
        refine r_iconst (q := 110) (nI 1) dX12_koszul_109 rfl (by decide) ?_
        refine r_iload_n (q := 111) dX12_koszul_110 rfl rfl rfl ?_
        refine r_callV (Mc := mX12_sizeOf) (q := 114) (As := [zi (nI 1), zi (nI k)]) (st := [zl (gJ S93 1369 0 k)]) ck12 dX12_koszul_111 rfl rfl mkX12_sizeOf wt1844 wt1846 wp120 rfl (Nat.le_of_ble_eq_true rfl) (Nat.le_of_ble_eq_true rfl) (by decide) (by decide) (by decide) (Or.inl rfl) (hs3.e (by decide)) (ok_sizeOf hs3 (q := 1) (by omega) (show k ≤ 7 by omega) (cntp_lq (pv := pvs k) _) h6 h4) (fun r111 S111 hp111 => ?_)
        obtain ⟨rfl, hq111⟩ := hp111
        rw [hq111, hsz]
        show Ok _ _ _ [zi (nI (szW W' k)), zl (gJ S93 1369 0 k)] _ _
        refine r_ineg (q := 115) dX12_koszul_114 rfl ?_
        refine r_goto (q := 124) dX12_koszul_115 (by decide) ?_
        refine r_i2l (q := 125) dX12_koszul_124 rfl ?_
        refine r_lcmp (q := 126) dX12_koszul_125 rfl ?_
        by_cases he : g k = sgK (szW W') k
        · rw [hgk, ← hsg, he]
          refine r_topi (y := nI 0) (lg_same _) ?_
          refine r_if_eqN (q := 129) (t := 131) (by omega) dX12_koszul_126 (by decide) rfl (fun h126 => ?_) (fun h126 => absurd h126 (by omega))
          refine r_iincN (q := 134) (L' := [some (zr 12 0), some (zi (nI n)), some (zi (nI (k + 1)))]) 1 rfl dX12_koszul_131 rfl rfl (by decide) rfl ?_
          refine r_goto (q := 66) dX12_koszul_134 (by decide) ?_
          refine Ok.mono (ih (k + 1) S93 (by omega) (by omega) ⟨hs3, (hR1a.frq f2 (fun _ => bfalse fun z => by simp [tSe, tTq, tPt, tPa, tIv] at z)).frq f3 (fun _ => rfl), (rc.rc (W := W)).2.1 hO2, rc.rc.1 hcr2, (rc.rc (W := W)).2.2 hI2, wq1 (wq1 hR11 f2 (fun k => bfalse fun z => by simp [tSe, tTq, tPt, tPa, tIv] at z)) f3 (fun _ => rfl), L, pvs, bss, hB3⟩) (fun r S9 q => ⟨by rw [kzF, if_pos h3, if_pos he]; exact q.1, gall.tr q.2.1, q.2.2⟩)
        · rw [hgk, ← hsg]
          refine r_if_eq (q := 129) (t := 131) dX12_koszul_126 (by decide) rfl (fun h126 => absurd h126 ((fun z => he (lg_eq0.mp z)))) (fun h126 => ?_)
          refine r_iload_n (q := 130) dX12_koszul_129 rfl rfl rfl ?_
          refine r_ireturn dX12_koszul_130 rfl ?_
          exact ⟨by rw [kzF, if_pos h3, if_neg he], gall, (rc.rc (W := W)).2.1 hO2, rc.rc.1 hcr2, (rc.rc (W := W)).2.2 hI2⟩
      · have hsg : sgK (szW W') k = (nI (szW W' k)).toInt64 := by unfold sgK; rw [if_neg hp2]
        refine r_iload_n (q := 67) dX12_koszul_66 rfl rfl rfl ?_
        refine r_iload_n (q := 68) dX12_koszul_67 rfl rfl rfl ?_
        refine r_icmp_gtN (q := 71) (t := 137) (by omega) (by omega) dX12_koszul_68 (by decide) rfl (fun h68 => absurd h68 (by omega)) (fun h68 => ?_)
        refine r_aload_n (q := 72) dX12_koszul_71 rfl rfl rfl ?_
        refine r_iconst (q := 73) (nI 0) dX12_koszul_72 rfl (by decide) ?_
        refine r_iload_n (q := 74) dX12_koszul_73 rfl rfl rfl ?_
        refine r_callV (Mc := mX12_series) (q := 77) (As := [zi (nI 0), zi (nI k)]) (st := []) ck12 dX12_koszul_74 rfl rfl mkX12_series wt1916 wt1918 wp130 rfl (Nat.le_of_ble_eq_true rfl) (Nat.le_of_ble_eq_true rfl) (by decide) (by decide) (by decide) (Or.inl rfl) (hs.e (by decide)) (ok_series0_y hs hW (by omega) h3 hR hO hcr hIv) (fun r74 S74 hp74 => ?_)
        obtain ⟨rfl, hf, f1, hO1, hcr1, hI1⟩ := hp74
        have hs1 : Sd S74 := hs.fr f1
        have hR11 : wqR W' (fun k => gI S74 1322 0 (1173 * 1 + k)) n9 := wq1 hR1 f1 (fun k => bfalse fun z => by simp [tSr0, tBy, tOw, tSe, tTq, tPt, tPa, tIv] at z; omega)
        have hB1 := hRB.q0 hW'.2.1 f1
        have hR1a : wqR W (fun k => gI S74 1306 0 k) n9 := hR.frq f1 (fun _ => bfalse fun z => by simp [tSr0, tBy, tOw, tSe, tTq, tPt, tPa, tIv] at z)
        show Ok _ _ _ [zi (nI 1)] _ _
        refine r_if_eqN (q := 80) (t := 89) (by omega) dX12_koszul_77 (by decide) rfl (fun h77 => absurd h77 (by omega)) (fun h77 => ?_)
        refine r_aload_n (q := 81) dX12_koszul_80 rfl rfl rfl ?_
        refine r_iconst (q := 82) (nI 1) dX12_koszul_81 rfl (by decide) ?_
        refine r_iload_n (q := 83) dX12_koszul_82 rfl rfl rfl ?_
        refine r_callV (Mc := mX12_isBeyond) (q := 86) (As := [zi (nI 1), zi (nI k)]) (st := []) ck12 dX12_koszul_83 rfl rfl mkX12_isBeyond wt1751 wt1753 wp99 rfl (Nat.le_of_ble_eq_true rfl) (Nat.le_of_ble_eq_true rfl) (by decide) (by decide) (by decide) (Or.inl rfl) (hs1.e (by decide)) (ok_beyond1 hs1 hW' hk1 (by omega) (WS.of hW' (q := 1) hR11) hB1 hI1) (fun r83 S83 hp83 => ?_)
        obtain ⟨f2, hI2, hWS2, L, pvs, bss, hB2, hr⟩ := hp83
        have hs2 : Sd S83 := hs1.fr f2
        rcases hr with ⟨-, hr⟩ | ⟨rfl, -, hkL⟩
        · omega
        have hf2 : Fst S83 (szW W) k := hf.fr f2 (fun _ => bfalse fun z => by simp [tSe, tTq, tPt, tPa, tIv] at z)
        have hO2 : Cw S83 := hO1.f3 f2 ⟨bfalse fun z => by simp [tSe, tTq, tPt, tPa, tIv] at z, fun k _ => bfalse fun z => by simp [tSe, tTq, tPt, tPa, tIv] at z, fun k => bfalse fun z => by simp [tSe, tTq, tPt, tPa, tIv] at z⟩
        have hcr2 : CR S83 W := fun z => by
          obtain ⟨L', p', b', q'⟩ := hcr1 ((f2.1 _ _ _ (bfalse fun z => by simp [tSe, tTq, tPt, tPa, tIv] at z)).symm.trans z)
          exact ⟨L', p', b', q'.q1 hW.2.1 f2⟩
        show Ok _ _ _ [zi (nI 0)] _ _
        refine r_if_eqN (q := 89) (t := 91) (by omega) dX12_koszul_86 (by decide) rfl (fun h86 => ?_) (fun h86 => absurd h86 (by omega))
        refine r_aload_n (q := 92) dX12_koszul_91 rfl rfl rfl ?_
        refine r_iload_n (q := 93) dX12_koszul_92 rfl rfl rfl ?_
        refine r_callV (Mc := mX12_back) (q := 96) (As := [zi (nI k)]) (st := []) ck12 dX12_koszul_93 rfl rfl mkX12_back wt1920 wt1922 wp131 rfl (Nat.le_of_ble_eq_true rfl) (Nat.le_of_ble_eq_true rfl) (by decide) (by decide) (by decide) (Or.inl rfl) (hs2.e (by decide)) (ok_back hs2 hk1 (by omega) hf2) (fun r93 S93 hp93 => ?_)
        obtain ⟨rfl, f3, hiv⟩ := hp93
        have hs3 : Sd S93 := hs2.fr f3
        have hgk : gJ S93 1369 0 k = g k := hiv.uniq (hg.le (show k ≤ 7 by omega)) k hk1 (Nat.le_refl _)
        have rc : RcI S83 S93 := RcI.of (f3.fg hs2 (U := fun a _ _ => a = 1368 ∨ a = 1369) (fun a b k z => by simp [tBk] at z; exact z.1)) ⟨by omega, by omega, fun x k a b => by omega, fun k _ => by omega⟩
        have hB3 : RB S93 W' 1 L pvs bss := hB2.fg (fun x k a b => f3.1 _ _ _ (bfalse fun z => by simp [tBk] at z; omega)) (fun k => f3.2.1 _ _ _ rfl)
        obtain ⟨hLr, hAc, hLv⟩ := hB3.2.2.2.2 k hk1 (by omega)
        have hsz := sz_R hW' hLv
        have h6 := hAc.2.2.1
        have h4 := hLr.2.1
        have gall : Fr tKl S S93 := ((f1.mono fun x y k z => by simp [tKl, z]).tr (f2.mono fun x y k z => by simp [tKl, z])).tr (f3.mono fun x y k z => by simp [tKl, z])
        show Ok _ _ _ [] _ _
        refine r_aload_n (q := 97) dX12_koszul_96 rfl rfl rfl ?_
        refine r_getr (q := 100) (some (1369, 0)) ck12 dX12_koszul_97 rfl (k := 69) (by decide) wt1347 rfl (hs3.e (by decide)) (hs3.r (by decide) (by decide)) ?_
        refine r_iload_n (q := 101) dX12_koszul_100 rfl rfl rfl ?_
        refine r_laldN (q := 102) 8 (by decide) rfl dX12_koszul_101 rfl (hs3.e (by decide)) (hs3.n rfl (by decide)) (by omega) (by decide) ?_
        refine r_iload_n (q := 103) dX12_koszul_102 rfl rfl rfl ?_
        refine r_iconst (q := 104) (nI 2) dX12_koszul_103 rfl (by decide) ?_
        refine r_iremN (q := 105) (by omega) (by omega) (by omega) dX12_koszul_104 rfl ?_
        refine r_if_neN (q := 108) (t := 118) (by omega) dX12_koszul_105 (by decide) rfl (fun h105 => ?_) (fun h105 => absurd h105 (by omega))
        refine r_aload_n (q := 119) dX12_koszul_118 rfl rfl rfl ?_
        refine r_iconst (q := 120) (nI 1) dX12_koszul_119 rfl (by decide) ?_
        refine r_iload_n (q := 121) dX12_koszul_120 rfl rfl rfl ?_
        refine r_callV (Mc := mX12_sizeOf) (q := 124) (As := [zi (nI 1), zi (nI k)]) (st := [zl (gJ S93 1369 0 k)]) ck12 dX12_koszul_121 rfl rfl mkX12_sizeOf wt1844 wt1846 wp120 rfl (Nat.le_of_ble_eq_true rfl) (Nat.le_of_ble_eq_true rfl) (by decide) (by decide) (by decide) (Or.inl rfl) (hs3.e (by decide)) (ok_sizeOf hs3 (q := 1) (by omega) (show k ≤ 7 by omega) (cntp_lq (pv := pvs k) _) h6 h4) (fun r121 S121 hp121 => ?_)
        obtain ⟨rfl, hq121⟩ := hp121
        rw [hq121, hsz]
        show Ok _ _ _ [zi (nI (szW W' k)), zl (gJ S93 1369 0 k)] _ _
        refine r_i2l (q := 125) dX12_koszul_124 rfl ?_
        refine r_lcmp (q := 126) dX12_koszul_125 rfl ?_
        by_cases he : g k = sgK (szW W') k
        · rw [hgk, ← hsg, he]
          refine r_topi (y := nI 0) (lg_same _) ?_
          refine r_if_eqN (q := 129) (t := 131) (by omega) dX12_koszul_126 (by decide) rfl (fun h126 => ?_) (fun h126 => absurd h126 (by omega))
          refine r_iincN (q := 134) (L' := [some (zr 12 0), some (zi (nI n)), some (zi (nI (k + 1)))]) 1 rfl dX12_koszul_131 rfl rfl (by decide) rfl ?_
          refine r_goto (q := 66) dX12_koszul_134 (by decide) ?_
          refine Ok.mono (ih (k + 1) S93 (by omega) (by omega) ⟨hs3, (hR1a.frq f2 (fun _ => bfalse fun z => by simp [tSe, tTq, tPt, tPa, tIv] at z)).frq f3 (fun _ => rfl), (rc.rc (W := W)).2.1 hO2, rc.rc.1 hcr2, (rc.rc (W := W)).2.2 hI2, wq1 (wq1 hR11 f2 (fun k => bfalse fun z => by simp [tSe, tTq, tPt, tPa, tIv] at z)) f3 (fun _ => rfl), L, pvs, bss, hB3⟩) (fun r S9 q => ⟨by rw [kzF, if_pos h3, if_pos he]; exact q.1, gall.tr q.2.1, q.2.2⟩)
        · rw [hgk, ← hsg]
          refine r_if_eq (q := 129) (t := 131) dX12_koszul_126 (by decide) rfl (fun h126 => absurd h126 ((fun z => he (lg_eq0.mp z)))) (fun h126 => ?_)
          refine r_iload_n (q := 130) dX12_koszul_129 rfl rfl rfl ?_
          refine r_ireturn dX12_koszul_130 rfl ?_
          exact ⟨by rw [kzF, if_pos h3, if_neg he], gall, (rc.rc (W := W)).2.1 hO2, rc.rc.1 hcr2, (rc.rc (W := W)).2.2 hI2⟩
    · skip
      refine r_iload_n (q := 67) dX12_koszul_66 rfl rfl rfl ?_
      refine r_iload_n (q := 68) dX12_koszul_67 rfl rfl rfl ?_
      refine r_icmp_gtN (q := 71) (t := 137) (by omega) (by omega) dX12_koszul_68 (by decide) rfl (fun h68 => absurd h68 (by omega)) (fun h68 => ?_)
      refine r_aload_n (q := 72) dX12_koszul_71 rfl rfl rfl ?_
      refine r_iconst (q := 73) (nI 0) dX12_koszul_72 rfl (by decide) ?_
      refine r_iload_n (q := 74) dX12_koszul_73 rfl rfl rfl ?_
      refine r_callV (Mc := mX12_series) (q := 77) (As := [zi (nI 0), zi (nI k)]) (st := []) ck12 dX12_koszul_74 rfl rfl mkX12_series wt1916 wt1918 wp130 rfl (Nat.le_of_ble_eq_true rfl) (Nat.le_of_ble_eq_true rfl) (by decide) (by decide) (by decide) (Or.inl rfl) (hs.e (by decide)) (ok_series0_n hs hW (by omega) h3 hR hO hcr hIv) (fun r74 S74 hp74 => ?_)
      obtain ⟨rfl, f1, hO1, hcr1, hI1⟩ := hp74
      show Ok _ _ _ [zi (nI 0)] _ _
      refine r_if_eqN (q := 80) (t := 89) (by omega) dX12_koszul_77 (by decide) rfl (fun h77 => ?_) (fun h77 => absurd h77 (by omega))
      refine r_iconst (q := 90) ((-1 : Int32)) dX12_koszul_89 rfl (by decide) ?_
      refine r_ireturn dX12_koszul_90 rfl ?_
      exact ⟨by rw [kzF, if_neg h3], f1.mono fun x y k z => by simp [tKl, z], hO1, hcr1, hI1⟩

