/-! is a law too great there: the reference -/
def tIg (a b k : Nat) : Bool := b == 0 && (a == 1316 || a == 12 && k == 20)

set_option maxRecDepth 100000 in
theorem lp_ig87 {l q2 k : Nat} {u : List Nat} (hk : k + u.length ≤ 16) {Po : Option zV → zS → Prop} {S : zS} (hs : Sd S) (hu : ∀ i, i < u.length → gI S 1316 0 (k + i) = nI (u.getD i 0)) (hu3 : ∀ x, x ∈ u → x ≤ 3) (K : Ok mX12_isGreatThere 120 [some (zr 12 0), some (zi (nI l)), some (zi (nI q2)), some (zi (nI k)), some (zi (nI (lvs u))), some (zi (nI (k + u.length))), some (zi (nI (k + u.length)))] [] S Po) : ∀ (d i : Nat), i + d = u.length → Ok mX12_isGreatThere 87 [some (zr 12 0), some (zi (nI l)), some (zi (nI q2)), some (zi (nI k)), some (zi (nI (lvs (u.take i)))), some (zi (nI (k + u.length))), some (zi (nI (k + i)))] [] S Po := by
  intro d
  have hlv : ∀ i, lvs (u.take i) ≤ 16 := fun i => by
    have h1 := len_la (u.take i)
    have h2 := List.length_take_le i u
    have h3 : (u.take i).length ≤ u.length := by rw [List.length_take]; omega
    omega
  induction d with
  | zero =>
    intro i hi
    have ei : i = u.length := by omega
    subst ei
    rw [List.take_length]
    refine r_iload (q := 89) dX12_isGreatThere_87 rfl rfl ?_
    refine r_iload (q := 91) dX12_isGreatThere_89 rfl rfl ?_
    refine r_icmp_geN (q := 94) (t := 120) (by omega) (by omega) dX12_isGreatThere_91 (by decide) rfl (fun h91 => ?_) (fun h91 => absurd h91 (by omega))
    exact K
  | succ d ih =>
    intro i hi
    have x1 := hu i (by omega)
    have h16 := hlv i
    have hx3 := hu3 (u.getD i 0) (by rw [List.getD_eq_getElem?_getD, List.getElem?_eq_getElem (by omega)]; exact List.getElem_mem _)
    have hst : u.take (i + 1) = u.take i ++ [u.getD i 0] := by
      rw [List.take_add_one, List.getD_eq_getElem?_getD, List.getElem?_eq_getElem (by omega)]; rfl
    have e1 : lvs (u.take (i + 1)) = lvs (u.take i) + (if u.getD i 0 = 0 then 1 else 0) := by rw [hst, lvs_app]; rfl
    refine r_iload (q := 89) dX12_isGreatThere_87 rfl rfl ?_
    refine r_iload (q := 91) dX12_isGreatThere_89 rfl rfl ?_
    refine r_icmp_geN (q := 94) (t := 120) (by omega) (by omega) dX12_isGreatThere_91 (by decide) rfl (fun h91 => absurd h91 (by omega)) (fun h91 => ?_)
    refine r_iload (q := 96) dX12_isGreatThere_94 rfl rfl ?_
    refine r_aload_n (q := 97) dX12_isGreatThere_96 rfl rfl rfl ?_
    refine r_getr (q := 100) (some (1316, 0)) ck12 dX12_isGreatThere_97 rfl (k := 16) (by decide) wt1294 rfl (hs.e (by decide)) (hs.r (by decide) (by decide)) ?_
    refine r_iload (q := 102) dX12_isGreatThere_100 rfl rfl ?_
    refine r_ialdN (q := 103) 16 (by decide) rfl dX12_isGreatThere_102 rfl (hs.e (by decide)) (hs.n rfl (by decide)) (by omega) (by decide) ?_
    refine r_topi (y := nI (u.getD i 0)) x1 ?_
    refine r_if_neN (q := 106) (t := 110) (by omega) dX12_isGreatThere_103 (by decide) rfl (fun h103 => ?_) (fun h103 => ?_)
    · skip
      refine r_iconst (q := 111) (nI 0) dX12_isGreatThere_110 rfl (by decide) ?_
      refine r_iaddN (q := 112) dX12_isGreatThere_111 rfl ?_
      refine r_istore (q := 114) (L' := [some (zr 12 0), some (zi (nI l)), some (zi (nI q2)), some (zi (nI k)), some (zi (nI ((lvs (u.take i)) + 0))), some (zi (nI (k + u.length))), some (zi (nI (k + i)))]) dX12_isGreatThere_112 rfl (by decide) rfl ?_
      refine r_iincN (q := 117) (L' := [some (zr 12 0), some (zi (nI l)), some (zi (nI q2)), some (zi (nI k)), some (zi (nI ((lvs (u.take i)) + 0))), some (zi (nI (k + u.length))), some (zi (nI (k + i + 1)))]) 1 rfl dX12_isGreatThere_114 rfl rfl (by decide) rfl ?_
      refine r_goto (q := 87) dX12_isGreatThere_117 (by decide) ?_
      rw [if_neg (show ¬ u.getD i 0 = 0 by omega)] at e1
      rw [show k + i + 1 = k + (i + 1) by omega]
      rw [show lvs (u.take i) + 0 = lvs (u.take (i + 1)) by rw [e1]]
      exact ih (i + 1) (by omega)
    · skip
      refine r_iconst (q := 107) (nI 1) dX12_isGreatThere_106 rfl (by decide) ?_
      refine r_goto (q := 111) dX12_isGreatThere_107 (by decide) ?_
      refine r_iaddN (q := 112) dX12_isGreatThere_111 rfl ?_
      refine r_istore (q := 114) (L' := [some (zr 12 0), some (zi (nI l)), some (zi (nI q2)), some (zi (nI k)), some (zi (nI ((lvs (u.take i)) + 1))), some (zi (nI (k + u.length))), some (zi (nI (k + i)))]) dX12_isGreatThere_112 rfl (by decide) rfl ?_
      refine r_iincN (q := 117) (L' := [some (zr 12 0), some (zi (nI l)), some (zi (nI q2)), some (zi (nI k)), some (zi (nI ((lvs (u.take i)) + 1))), some (zi (nI (k + u.length))), some (zi (nI (k + i + 1)))]) 1 rfl dX12_isGreatThere_114 rfl rfl (by decide) rfl ?_
      refine r_goto (q := 87) dX12_isGreatThere_117 (by decide) ?_
      rw [if_pos h103] at e1
      rw [show k + i + 1 = k + (i + 1) by omega]
      rw [← e1]
      exact ih (i + 1) (by omega)

set_option maxRecDepth 100000 in
theorem lp_ig66 {W Wk : zWd} (hW : Wok W) (hK : Wok Wk) {l : Nat} (hl : l < wL W) {n9 : Nat → Int64} {q2 : Nat} {t : List Nat} (ht : Tr (wA W) (we W) (lw W l).1 t) (h3 : tc Wk (lw W l).1 ≤ 300) {Po : Option zV → zS → Prop} {S : zS} (hs : Sd S) (hR : wqR W (fun k => gI S 1306 0 k) n9) (hTt : Tt S (tc Wk) 1 11) (h20 : gI S 12 0 20 = nI t.length) (htk : ∀ i, i < t.length → gI S 1316 0 i = nI (t.getD i 0)) (K : Ok mX12_isGreatThere 145 [some (zr 12 0), some (zi (nI l)), some (zi (nI q2)), some (zi (nI t.length)), none, none, none] [] S Po) : ∀ (d k : Nat), k + d = t.length → Ok mX12_isGreatThere 66 [some (zr 12 0), some (zi (nI l)), some (zi (nI q2)), some (zi (nI k)), none, none, none] [] S Po := by
  intro d
  obtain ⟨g1, g2, g3⟩ := hW.2.2.2.2.2 l hl
  have hlf1 : lf W (l + 1) = lf W l + (lw W l).2.length := lf_succ hl
  have hlf2 := hW.2.2.2.2.1
  have hlf3 := lf_mono (W := W) (show l + 1 ≤ wL W by omega)
  have h18 := hW.2.2.2.1
  have hE := hW.2.1
  have hsm := tc_small hK.2.1 g2
  have htl := ht.len hE
  induction d with
  | zero =>
    intro k hk
    have ek : k = t.length := by omega
    subst ek
    refine r_iload_n (q := 67) dX12_isGreatThere_66 rfl rfl rfl ?_
    refine r_aload_n (q := 68) dX12_isGreatThere_67 rfl rfl rfl ?_
    refine r_geti (q := 71) ck12 dX12_isGreatThere_68 rfl (k := 20) (by decide) wt1298 (Or.inl rfl) (hs.e (by decide)) ?_
    refine r_topi (y := nI t.length) h20 ?_
    refine r_icmp_geN (q := 74) (t := 145) (by omega) (by omega) dX12_isGreatThere_71 (by decide) rfl (fun h71 => ?_) (fun h71 => absurd h71 (by omega))
    exact K
  | succ d ih =>
    intro k hk
    obtain ⟨kk, -, hcut⟩ := Fs.cut (p := t.take k) (r := t.drop k) (by rw [List.take_append_drop]; exact ht.1)
    obtain ⟨us, u1, u2, u3⟩ := Fs.split hcut
    have hlt := lvs_app (t.take k) (t.drop k)
    rw [List.take_append_drop, ht.2] at hlt
    have hne : us ≠ [] := fun z => by
      rw [z] at u3
      have : (t.drop k).length = 0 := by rw [u3]; rfl
      rw [List.length_drop] at this; omega
    obtain ⟨u, ur, rfl⟩ : ∃ u ur, us = u :: ur := by
      cases us with
      | nil => exact absurd rfl hne
      | cons u ur => exact ⟨u, ur, rfl⟩
    have hu := u2 u List.mem_cons_self
    have hdr : t.drop k = u ++ ur.flatten := by rw [u3, List.flatten_cons]
    have hln : (t.drop k).length = u.length + ur.flatten.length := by rw [hdr, List.length_append]
    rw [List.length_drop] at hln
    have hlu : lvs u ≤ (lw W l).1 := by rw [hdr, lvs_app] at hlt; omega
    have hul : Tr (wA W) (we W) (lvs u) u := ⟨hu, rfl⟩
    have hul2 := hul.len hE
    have hrow : ∀ i, i < u.length → gI S 1316 0 (k + i) = nI (u.getD i 0) := fun i hi => by
      rw [htk (k + i) (by omega)]
      refine congrArg nI ?_
      have : (t.drop k).getD i 0 = u.getD i 0 := by
        rw [hdr, List.getD_eq_getElem?_getD, List.getElem?_append_left hi, ← List.getD_eq_getElem?_getD]
      rw [← this, List.getD_eq_getElem?_getD, List.getD_eq_getElem?_getD, List.getElem?_drop]
    have htu : tc Wk (lvs u) ≤ 300 := tc_down hK.2.1 g2 h3 hlu
    have h9 : gJ S 1334 0 (11 + lvs u) = lN (tc Wk (lvs u)) := hTt (lvs u) (by omega) (by omega)
    have hEw : Ew S (wA W) (we W) := fun a ha => (hR.2.2.2.1 a ha).1
    refine r_iload_n (q := 67) dX12_isGreatThere_66 rfl rfl rfl ?_
    refine r_aload_n (q := 68) dX12_isGreatThere_67 rfl rfl rfl ?_
    refine r_geti (q := 71) ck12 dX12_isGreatThere_68 rfl (k := 20) (by decide) wt1298 (Or.inl rfl) (hs.e (by decide)) ?_
    refine r_topi (y := nI t.length) h20 ?_
    refine r_icmp_geN (q := 74) (t := 145) (by omega) (by omega) dX12_isGreatThere_71 (by decide) rfl (fun h71 => absurd h71 (by omega)) (fun h71 => ?_)
    refine r_iconst (q := 75) (nI 0) dX12_isGreatThere_74 rfl (by decide) ?_
    refine r_istore (q := 77) (L' := [some (zr 12 0), some (zi (nI l)), some (zi (nI q2)), some (zi (nI k)), some (zi (nI 0)), none, none]) dX12_isGreatThere_75 rfl (by decide) rfl ?_
    refine r_aload_n (q := 78) dX12_isGreatThere_77 rfl rfl rfl ?_
    refine r_iload_n (q := 79) dX12_isGreatThere_78 rfl rfl rfl ?_
    refine r_callV (Mc := mX12_endOf) (q := 82) (As := [zi (nI k)]) (st := []) ck12 dX12_isGreatThere_79 rfl rfl mkX12_endOf wt1864 wt1866 wp123 rfl (Nat.le_of_ble_eq_true rfl) (Nat.le_of_ble_eq_true rfl) (by decide) (by decide) (by decide) (Or.inl rfl) (hs.e (by decide)) (ok_endOfR hs hE hEw hu (by omega) (by omega) hrow) (fun r79 S79 hp79 => ?_)
    obtain ⟨rfl, hq79⟩ := hp79
    rw [hq79]
    show Ok _ _ _ [zi (nI (k + u.length))] _ _
    refine r_istore (q := 84) (L' := [some (zr 12 0), some (zi (nI l)), some (zi (nI q2)), some (zi (nI k)), some (zi (nI 0)), some (zi (nI (k + u.length))), none]) dX12_isGreatThere_82 rfl (by decide) rfl ?_
    refine r_iload_n (q := 85) dX12_isGreatThere_84 rfl rfl rfl ?_
    refine r_istore (q := 87) (L' := [some (zr 12 0), some (zi (nI l)), some (zi (nI q2)), some (zi (nI k)), some (zi (nI 0)), some (zi (nI (k + u.length))), some (zi (nI k))]) dX12_isGreatThere_85 rfl (by decide) rfl ?_
    refine lp_ig87 (by omega) hs hrow (hul.tok hE) ?_ u.length 0 (by omega)
    refine r_aload_n (q := 121) dX12_isGreatThere_120 rfl rfl rfl ?_
    refine r_getr (q := 124) (some (1334, 0)) ck12 dX12_isGreatThere_121 rfl (k := 34) (by decide) wt1312 rfl (hs.e (by decide)) (hs.r (by decide) (by decide)) ?_
    refine r_bipush (q := 126) (nI 11) dX12_isGreatThere_124 rfl (by decide) ?_
    refine r_iload (q := 128) dX12_isGreatThere_126 rfl rfl ?_
    refine r_iaddN (q := 129) dX12_isGreatThere_128 rfl ?_
    refine r_laldN (q := 130) 22 (by decide) rfl dX12_isGreatThere_129 rfl (hs.e (by decide)) (hs.n rfl (by decide)) (by omega) (by decide) ?_
    refine r_topl (y := lN (tc Wk (lvs u))) h9 ?_
    refine r_ldc2 (q := 133) (300 : Int64) dX12_isGreatThere_130 rfl wt1755 ?_
    refine r_topl (y := lN 300) rfl ?_
    refine r_lcmp (q := 134) dX12_isGreatThere_133 rfl ?_
    refine r_if_le (q := 137) (t := 139) dX12_isGreatThere_134 (by decide) rfl (fun h134 => ?_) (fun h134 => absurd h134 (fun z => z ((lcmp_le (by omega) (by omega)).mpr htu)))
    refine r_iincN (q := 142) (L' := [some (zr 12 0), some (zi (nI l)), some (zi (nI q2)), some (zi (nI (k + 1))), some (zi (nI (lvs u))), some (zi (nI (k + u.length))), some (zi (nI (k + u.length)))]) 1 rfl dX12_isGreatThere_139 rfl rfl (by decide) rfl ?_
    refine r_goto (q := 66) dX12_isGreatThere_142 (by decide) ?_
    refine r_mask [true, true, true, true, false, false, false] rfl ?_
    exact ih (k + 1) (by omega)

set_option maxRecDepth 100000 in
theorem lp_ig36 {W Wk : zWd} (hW : Wok W) (hK : Wok Wk) {l : Nat} (hl : l < wL W) {n9 : Nat → Int64} (h3 : tc Wk (lw W l).1 ≤ 300) : ∀ (d k : Nat) (S : zS), k + d = (lw W l).2.length → Sd S → wqR W (fun k => gI S 1306 0 k) n9 → Tt S (tc Wk) 1 11 → Ok mX12_isGreatThere 36 [some (zr 12 0), some (zi (nI l)), some (zi (nI (lf W l + k))), none, none, none, none] [] S (fun r S1 => r = some (zi (nI 0)) ∧ Fr tIg S S1) := by
  intro d
  obtain ⟨g1, g2, g3⟩ := hW.2.2.2.2.2 l hl
  have hlf1 : lf W (l + 1) = lf W l + (lw W l).2.length := lf_succ hl
  have hlf2 := hW.2.2.2.2.1
  have hlf3 := lf_mono (W := W) (show l + 1 ≤ wL W by omega)
  have h18 := hW.2.2.2.1
  have hE := hW.2.1
  have hsm := tc_small hK.2.1 g2
  induction d with
  | zero =>
    intro k S hk hs hR hTt
    have ek : k = (lw W l).2.length := by omega
    subst ek
    have e1 := hR.2.2.2.2.2.1 (l + 1) (by omega)
    have e1 : gI S 1306 0 (25 + l + 1) = nI (lf W (l + 1)) := e1
    refine r_iload_n (q := 37) dX12_isGreatThere_36 rfl rfl rfl ?_
    refine r_aload_n (q := 38) dX12_isGreatThere_37 rfl rfl rfl ?_
    refine r_getr (q := 41) (some (1306, 0)) ck12 dX12_isGreatThere_38 rfl (k := 6) (by decide) wt1284 rfl (hs.e (by decide)) (hs.r (by decide) (by decide)) ?_
    refine r_bipush (q := 43) (nI 25) dX12_isGreatThere_41 rfl (by decide) ?_
    refine r_iload_n (q := 44) dX12_isGreatThere_43 rfl rfl rfl ?_
    refine r_iaddN (q := 45) dX12_isGreatThere_44 rfl ?_
    refine r_iconst (q := 46) (nI 1) dX12_isGreatThere_45 rfl (by decide) ?_
    refine r_iaddN (q := 47) dX12_isGreatThere_46 rfl ?_
    refine r_ialdN (q := 48) 3775 (by decide) rfl dX12_isGreatThere_47 rfl (hs.e (by decide)) (hs.n rfl (by decide)) (by omega) (by decide) ?_
    refine r_topi (y := nI (lf W (l + 1))) e1 ?_
    refine r_icmp_geN (q := 51) (t := 151) (by omega) (by omega) dX12_isGreatThere_48 (by decide) rfl (fun h48 => ?_) (fun h48 => absurd h48 (by omega))
    refine r_iconst (q := 152) (nI 0) dX12_isGreatThere_151 rfl (by decide) ?_
    refine r_zreturn (by decide) dX12_isGreatThere_152 rfl ?_
    exact ⟨rfl, Fr.rf⟩
  | succ d ih =>
    intro k S hk hs hR hTt
    have e1 := hR.2.2.2.2.2.1 (l + 1) (by omega)
    have e1 : gI S 1306 0 (25 + l + 1) = nI (lf W (l + 1)) := e1
    have hkl : k < (lw W l).2.length := by omega
    obtain ⟨e3, e4⟩ := hR.2.2.2.2.2.2 l k hl hkl
    have e3 : gI S 1306 0 (44 + (lf W l + k)) = nI (cd ((lw W l).2.getD k zd).1) := e3
    obtain ⟨hv, hx⟩ := g3.1.2 _ (mem_getD hkl)
    have hvl := hv.len hE
    refine r_iload_n (q := 37) dX12_isGreatThere_36 rfl rfl rfl ?_
    refine r_aload_n (q := 38) dX12_isGreatThere_37 rfl rfl rfl ?_
    refine r_getr (q := 41) (some (1306, 0)) ck12 dX12_isGreatThere_38 rfl (k := 6) (by decide) wt1284 rfl (hs.e (by decide)) (hs.r (by decide) (by decide)) ?_
    refine r_bipush (q := 43) (nI 25) dX12_isGreatThere_41 rfl (by decide) ?_
    refine r_iload_n (q := 44) dX12_isGreatThere_43 rfl rfl rfl ?_
    refine r_iaddN (q := 45) dX12_isGreatThere_44 rfl ?_
    refine r_iconst (q := 46) (nI 1) dX12_isGreatThere_45 rfl (by decide) ?_
    refine r_iaddN (q := 47) dX12_isGreatThere_46 rfl ?_
    refine r_ialdN (q := 48) 3775 (by decide) rfl dX12_isGreatThere_47 rfl (hs.e (by decide)) (hs.n rfl (by decide)) (by omega) (by decide) ?_
    refine r_topi (y := nI (lf W (l + 1))) e1 ?_
    refine r_icmp_geN (q := 51) (t := 151) (by omega) (by omega) dX12_isGreatThere_48 (by decide) rfl (fun h48 => absurd h48 (by omega)) (fun h48 => ?_)
    refine r_aload_n (q := 52) dX12_isGreatThere_51 rfl rfl rfl ?_
    refine r_aload_n (q := 53) dX12_isGreatThere_52 rfl rfl rfl ?_
    refine r_getr (q := 56) (some (1306, 0)) ck12 dX12_isGreatThere_53 rfl (k := 6) (by decide) wt1284 rfl (hs.e (by decide)) (hs.r (by decide) (by decide)) ?_
    refine r_bipush (q := 58) (nI 44) dX12_isGreatThere_56 rfl (by decide) ?_
    refine r_iload_n (q := 59) dX12_isGreatThere_58 rfl rfl rfl ?_
    refine r_iaddN (q := 60) dX12_isGreatThere_59 rfl ?_
    refine r_ialdN (q := 61) 3775 (by decide) rfl dX12_isGreatThere_60 rfl (hs.e (by decide)) (hs.n rfl (by decide)) (by omega) (by decide) ?_
    refine r_topi (y := nI (cd ((lw W l).2.getD k zd).1)) e3 ?_
    refine r_callV (Mc := mX12_tokens) (q := 64) (As := [zi (nI (cd ((lw W l).2.getD k zd).1))]) (st := []) ck12 dX12_isGreatThere_61 rfl rfl mkX12_tokens wt1649 wt1651 wp85 rfl (Nat.le_of_ble_eq_true rfl) (Nat.le_of_ble_eq_true rfl) (by decide) (by decide) (by decide) (Or.inl rfl) (hs.e (by decide)) (ok_X12_tokens hs (hv.tok hE) (by omega)) (fun r61 S61 hp61 => ?_)
    obtain ⟨rfl, hq61⟩ := hp61
    rw [hq61]
    have f0 : Fr tIg S (stR (sI S 12 0 20 (nI ((lw W l).2.getD k zd).1.length)) 1316 0 ((lw W l).2.getD k zd).1) := ⟨fun a b k z => by rw [gI_stR, if_neg (fun y => by rw [y.1, y.2.1] at z; simp [tIg] at z), gI_sI, if_neg (fun y => by rw [y.1, y.2.1, y.2.2] at z; simp [tIg] at z)], fun _ _ _ _ => rfl, rfl⟩
    have hs0 : Sd (stR (sI S 12 0 20 (nI ((lw W l).2.getD k zd).1.length)) 1316 0 ((lw W l).2.getD k zd).1) := hs.fr f0
    have k20 : gI (stR (sI S 12 0 20 (nI ((lw W l).2.getD k zd).1.length)) 1316 0 ((lw W l).2.getD k zd).1) 12 0 20 = nI ((lw W l).2.getD k zd).1.length := by rw [gI_stR_x (by omega), gI_sI, if_pos ⟨rfl, rfl, rfl⟩]
    have hR0 := hR.frk f0 (fun _ => rfl)
    have hTt0 : Tt (stR (sI S 12 0 20 (nI ((lw W l).2.getD k zd).1.length)) 1316 0 ((lw W l).2.getD k zd).1) (tc Wk) 1 11 := hTt
    show Ok _ _ _ [] _ _
    refine r_iconst (q := 65) (nI 0) dX12_isGreatThere_64 rfl (by decide) ?_
    refine r_istore_n (q := 66) (L' := [some (zr 12 0), some (zi (nI l)), some (zi (nI (lf W l + k))), some (zi (nI 0)), none, none, none]) dX12_isGreatThere_65 rfl rfl (by decide) rfl ?_
    refine lp_ig66 hW hK hl hv h3 hs0 hR0 hTt0 k20 (fun i hi => gI_stR_k hi) ?_ ((lw W l).2.getD k zd).1.length 0 (by omega)
    refine r_iincN (q := 148) (L' := [some (zr 12 0), some (zi (nI l)), some (zi (nI (lf W l + k + 1))), some (zi (nI (((lw W l).2.getD k zd).1.length))), none, none, none]) 1 rfl dX12_isGreatThere_145 rfl rfl (by decide) rfl ?_
    refine r_goto (q := 36) dX12_isGreatThere_148 (by decide) ?_
    refine r_mask [true, true, true, false, false, false, false] rfl ?_
    exact Ok.mono (ih (k + 1) _ (by omega) hs0 hR0 hTt0) fun r S1 z => ⟨z.1, f0.tr z.2⟩

set_option maxRecDepth 100000 in
theorem ok_isGreat_n {W Wk : zWd} (hW : Wok W) (hK : Wok Wk) {l : Nat} (hl : l < wL W) {n9 : Nat → Int64} (h3 : tc Wk (lw W l).1 ≤ 300) {S : zS} (hs : Sd S) (hR : wqR W (fun k => gI S 1306 0 k) n9) (hTt : Tt S (tc Wk) 1 11) : Ok mX12_isGreatThere 0 (ent 7 [zr 12 0, zi (nI l)]) [] S (fun r S1 => r = some (zi (nI 0)) ∧ Fr tIg S S1) := by
  obtain ⟨g1, g2, g3⟩ := hW.2.2.2.2.2 l hl
  have hlf1 : lf W (l + 1) = lf W l + (lw W l).2.length := lf_succ hl
  have hlf2 := hW.2.2.2.2.1
  have hlf3 := lf_mono (W := W) (show l + 1 ≤ wL W by omega)
  have h18 := hW.2.2.2.1
  have hE := hW.2.1
  have hsm := tc_small hK.2.1 g2
  have e7 : gI S 1306 0 (7 + l) = nI (lw W l).1 := hR.2.2.2.2.1 l hl
  have e25 : gI S 1306 0 (25 + l) = nI (lf W l) := hR.2.2.2.2.2.1 l (by omega)
  have h9 : gJ S 1334 0 (11 + (lw W l).1) = lN (tc Wk (lw W l).1) := hTt (lw W l).1 (by omega) (by omega)
  show Ok mX12_isGreatThere 0 [some (zr 12 0), some (zi (nI l)), none, none, none, none, none] [] S _
  refine r_aload_n (q := 1) dX12_isGreatThere_0 rfl rfl rfl ?_
  refine r_getr (q := 4) (some (1334, 0)) ck12 dX12_isGreatThere_1 rfl (k := 34) (by decide) wt1312 rfl (hs.e (by decide)) (hs.r (by decide) (by decide)) ?_
  refine r_bipush (q := 6) (nI 11) dX12_isGreatThere_4 rfl (by decide) ?_
  refine r_aload_n (q := 7) dX12_isGreatThere_6 rfl rfl rfl ?_
  refine r_getr (q := 10) (some (1306, 0)) ck12 dX12_isGreatThere_7 rfl (k := 6) (by decide) wt1284 rfl (hs.e (by decide)) (hs.r (by decide) (by decide)) ?_
  refine r_bipush (q := 12) (nI 7) dX12_isGreatThere_10 rfl (by decide) ?_
  refine r_iload_n (q := 13) dX12_isGreatThere_12 rfl rfl rfl ?_
  refine r_iaddN (q := 14) dX12_isGreatThere_13 rfl ?_
  refine r_ialdN (q := 15) 3775 (by decide) rfl dX12_isGreatThere_14 rfl (hs.e (by decide)) (hs.n rfl (by decide)) (by omega) (by decide) ?_
  refine r_topi (y := nI ((lw W l).1)) e7 ?_
  refine r_iaddN (q := 16) dX12_isGreatThere_15 rfl ?_
  refine r_laldN (q := 17) 22 (by decide) rfl dX12_isGreatThere_16 rfl (hs.e (by decide)) (hs.n rfl (by decide)) (by omega) (by decide) ?_
  refine r_topl (y := lN (tc Wk (lw W l).1)) h9 ?_
  refine r_ldc2 (q := 20) (300 : Int64) dX12_isGreatThere_17 rfl wt1755 ?_
  refine r_topl (y := lN 300) rfl ?_
  refine r_lcmp (q := 21) dX12_isGreatThere_20 rfl ?_
  refine r_if_le (q := 24) (t := 26) dX12_isGreatThere_21 (by decide) rfl (fun h21 => ?_) (fun h21 => absurd h21 (fun z => z ((lcmp_le (by omega) (by omega)).mpr h3)))
  refine r_aload_n (q := 27) dX12_isGreatThere_26 rfl rfl rfl ?_
  refine r_getr (q := 30) (some (1306, 0)) ck12 dX12_isGreatThere_27 rfl (k := 6) (by decide) wt1284 rfl (hs.e (by decide)) (hs.r (by decide) (by decide)) ?_
  refine r_bipush (q := 32) (nI 25) dX12_isGreatThere_30 rfl (by decide) ?_
  refine r_iload_n (q := 33) dX12_isGreatThere_32 rfl rfl rfl ?_
  refine r_iaddN (q := 34) dX12_isGreatThere_33 rfl ?_
  refine r_ialdN (q := 35) 3775 (by decide) rfl dX12_isGreatThere_34 rfl (hs.e (by decide)) (hs.n rfl (by decide)) (by omega) (by decide) ?_
  refine r_topi (y := nI (lf W l)) e25 ?_
  refine r_istore_n (q := 36) (L' := [some (zr 12 0), some (zi (nI l)), some (zi (nI (lf W l))), none, none, none, none]) dX12_isGreatThere_35 rfl rfl (by decide) rfl ?_
  exact lp_ig36 hW hK hl h3 (lw W l).2.length 0 S (by omega) hs hR hTt

set_option maxRecDepth 100000 in
theorem ok_isGreat_y {W Wk : zWd} (hW : Wok W) (hK : Wok Wk) {l : Nat} (hl : l < wL W) {n9 : Nat → Int64} (h3 : ¬ tc Wk (lw W l).1 ≤ 300) {S : zS} (hs : Sd S) (hR : wqR W (fun k => gI S 1306 0 k) n9) (hTt : Tt S (tc Wk) 1 11) : Ok mX12_isGreatThere 0 (ent 7 [zr 12 0, zi (nI l)]) [] S (fun r S1 => r = some (zi (nI 1)) ∧ S1 = S) := by
  obtain ⟨g1, g2, g3⟩ := hW.2.2.2.2.2 l hl
  have hlf1 : lf W (l + 1) = lf W l + (lw W l).2.length := lf_succ hl
  have hlf2 := hW.2.2.2.2.1
  have hlf3 := lf_mono (W := W) (show l + 1 ≤ wL W by omega)
  have h18 := hW.2.2.2.1
  have hE := hW.2.1
  have hsm := tc_small hK.2.1 g2
  have e7 : gI S 1306 0 (7 + l) = nI (lw W l).1 := hR.2.2.2.2.1 l hl
  have e25 : gI S 1306 0 (25 + l) = nI (lf W l) := hR.2.2.2.2.2.1 l (by omega)
  have h9 : gJ S 1334 0 (11 + (lw W l).1) = lN (tc Wk (lw W l).1) := hTt (lw W l).1 (by omega) (by omega)
  show Ok mX12_isGreatThere 0 [some (zr 12 0), some (zi (nI l)), none, none, none, none, none] [] S _
  refine r_aload_n (q := 1) dX12_isGreatThere_0 rfl rfl rfl ?_
  refine r_getr (q := 4) (some (1334, 0)) ck12 dX12_isGreatThere_1 rfl (k := 34) (by decide) wt1312 rfl (hs.e (by decide)) (hs.r (by decide) (by decide)) ?_
  refine r_bipush (q := 6) (nI 11) dX12_isGreatThere_4 rfl (by decide) ?_
  refine r_aload_n (q := 7) dX12_isGreatThere_6 rfl rfl rfl ?_
  refine r_getr (q := 10) (some (1306, 0)) ck12 dX12_isGreatThere_7 rfl (k := 6) (by decide) wt1284 rfl (hs.e (by decide)) (hs.r (by decide) (by decide)) ?_
  refine r_bipush (q := 12) (nI 7) dX12_isGreatThere_10 rfl (by decide) ?_
  refine r_iload_n (q := 13) dX12_isGreatThere_12 rfl rfl rfl ?_
  refine r_iaddN (q := 14) dX12_isGreatThere_13 rfl ?_
  refine r_ialdN (q := 15) 3775 (by decide) rfl dX12_isGreatThere_14 rfl (hs.e (by decide)) (hs.n rfl (by decide)) (by omega) (by decide) ?_
  refine r_topi (y := nI ((lw W l).1)) e7 ?_
  refine r_iaddN (q := 16) dX12_isGreatThere_15 rfl ?_
  refine r_laldN (q := 17) 22 (by decide) rfl dX12_isGreatThere_16 rfl (hs.e (by decide)) (hs.n rfl (by decide)) (by omega) (by decide) ?_
  refine r_topl (y := lN (tc Wk (lw W l).1)) h9 ?_
  refine r_ldc2 (q := 20) (300 : Int64) dX12_isGreatThere_17 rfl wt1755 ?_
  refine r_topl (y := lN 300) rfl ?_
  refine r_lcmp (q := 21) dX12_isGreatThere_20 rfl ?_
  refine r_if_le (q := 24) (t := 26) dX12_isGreatThere_21 (by decide) rfl (fun h21 => absurd h21 (fun z => h3 ((lcmp_le (by omega) (by omega)).mp z))) (fun h21 => ?_)
  refine r_iconst (q := 25) (nI 1) dX12_isGreatThere_24 rfl (by decide) ?_
  refine r_zreturn (by decide) dX12_isGreatThere_25 rfl ?_
  exact ⟨rfl, rfl⟩

