/-- a byte, as 0 to 255 -/
def bt (x : Int32) : Nat := (x &&& nI 255).toInt.toNat
theorem bt_e (x : Int32) : x &&& nI 255 = nI (bt x) ∧ bt x < 256 := by
  obtain ⟨c, hc, ec⟩ : ∃ c, c < 256 ∧ x &&& nI 255 = nI c := pk_andE x (m := nI 255) 8 (by decide)
  have : bt x = c := by
    unfold bt
    rw [ec, nI_toInt (by omega)]
    rfl
  rw [this]
  exact ⟨ec, hc⟩
/-- a row filled by a function -/
def fm (S : zS) (a b off lo hi : Nat) (g : Nat → Int32) : zS := (fun x y k => if x = a ∧ y = b ∧ off + lo ≤ k ∧ k < off + hi then g (k - off) else S.1 x y k, S.2)
theorem gI_fm {S : zS} {a b off lo hi x y k : Nat} {g : Nat → Int32} : gI (fm S a b off lo hi g) x y k = if x = a ∧ y = b ∧ off + lo ≤ k ∧ k < off + hi then g (k - off) else gI S x y k := rfl
theorem fm_all {S : zS} {a b off hi : Nat} {g : Nat → Int32} : fm S a b off hi hi g = S := by
  refine Prod.ext ?_ rfl
  funext x y k
  exact if_neg fun z => by omega
theorem fm_step {S : zS} {a b off i hi : Nat} {g : Nat → Int32} (h : i < hi) : fm (sI S a b (off + i) (g i)) a b off (i + 1) hi g = fm S a b off i hi g := by
  refine Prod.ext ?_ rfl
  funext x y k
  show gI (fm (sI S a b (off + i) (g i)) a b off (i + 1) hi g) x y k = gI (fm S a b off i hi g) x y k
  rw [gI_fm, gI_fm, gI_sI]
  by_cases e : x = a ∧ y = b
  · obtain ⟨rfl, rfl⟩ := e
    by_cases h1 : k = off + i
    · subst h1
      rw [if_neg (by omega), if_pos ⟨rfl, rfl, rfl⟩, if_pos (by omega), Nat.add_sub_cancel_left]
    · by_cases h2 : off + (i + 1) ≤ k ∧ k < off + hi
      · rw [if_pos (by omega), if_pos (by omega)]
      · rw [if_neg (by omega), if_neg (by omega), if_neg (by omega)]
  · rw [if_neg (fun z => e ⟨z.1, z.2.1⟩), if_neg (fun z => e ⟨z.1, z.2.1⟩), if_neg (fun z => e ⟨z.1, z.2.1⟩)]
theorem Sd.fm {S : zS} (h : Sd S) {a b off lo hi : Nat} {g : Nat → Int32} : Sd (fm S a b off lo hi g) := h
set_option maxRecDepth 100000 in
theorem lp_table {Po : Option zV → zS → Prop} {m t c P : Nat} {tp : Nat → Int32} (hm : m < 3) (ht : t ≤ 243) (hc4 : c < 4) (h2 : 2 ≤ P) (h97 : P ≤ 97) : ∀ (d i : Nat) (S : zS), i + d = t → Sd S → (∀ k, k < t → gI S 1200 0 k = tp k) → gI S 9 c 0 = nI P → (∀ S2, S2 = fm S 801 0 (m * 243) i t (fun k => nI (bt (tp k) % P)) → Ok mX11_table 85 [some (zr 11 0), some (zi (nI m)), some (zi (nI t)), some (zr 9 c), some (zi (nI t))] [] S2 Po) → Ok mX11_table 45 [some (zr 11 0), some (zi (nI m)), some (zi (nI t)), some (zr 9 c), some (zi (nI i))] [] S Po := by
  intro d
  induction d with
  | zero =>
    intro i S hi hs htp hP K
    obtain rfl : t = i := by omega
    refine r_iload (q := 47) dX11_table_45 rfl rfl ?_
    refine r_iload_n (q := 48) dX11_table_47 rfl rfl rfl ?_
    refine r_icmp_geN (q := 51) (t := 85) (by omega) (by omega) dX11_table_48 (by decide) rfl (fun h48 => ?_) (fun h48 => absurd h48 (by omega))
    exact K _ (fm_all.symm)
  | succ d ih =>
    intro i S hi hs htp hP K
    refine r_iload (q := 47) dX11_table_45 rfl rfl ?_
    refine r_iload_n (q := 48) dX11_table_47 rfl rfl rfl ?_
    refine r_icmp_geN (q := 51) (t := 85) (by omega) (by omega) dX11_table_48 (by decide) rfl (fun h48 => absurd h48 (by omega)) (fun h48 => ?_)
    refine r_aload_n (q := 52) dX11_table_51 rfl rfl rfl ?_
    refine r_getr (q := 55) (some (7, 0)) ck11 dX11_table_52 rfl (k := 5) (by decide) wt427 rfl (hs.e (by decide)) (hs.r (by decide) (by decide)) ?_
    refine r_iload_n (q := 56) dX11_table_55 rfl rfl rfl ?_
    refine r_iload (q := 58) dX11_table_56 rfl rfl ?_
    refine r_aload_n (q := 59) dX11_table_58 rfl rfl rfl ?_
    refine r_getr (q := 62) (some (1200, 0)) ck11 dX11_table_59 rfl (k := 0) (by decide) wt422 rfl (hs.e (by decide)) (hs.r (by decide) (by decide)) ?_
    refine r_iload (q := 64) dX11_table_62 rfl rfl ?_
    refine r_baldN (q := 65) 940 (by decide) rfl dX11_table_64 rfl (hs.e (by decide)) (hs.n rfl (by decide)) (by omega) (by decide) ?_
    refine r_sipush (q := 68) (nI 255) dX11_table_65 rfl (by decide) ?_
    refine r_iand (q := 69) dX11_table_68 rfl ?_
    refine r_topi (y := nI (bt (tp i))) (by rw [htp i (by omega)]; exact (bt_e _).1) ?_
    refine r_aload_n (q := 70) dX11_table_69 rfl rfl rfl ?_
    refine r_geti (q := 73) ck9 dX11_table_70 rfl (k := 0) (by decide) wt295 (Or.inl rfl) (hs.e (show c < 4 by omega)) ?_
    refine r_topi (y := nI P) hP ?_
    refine r_callS (Mc := mX11_rest) (q := 76) (As := [zi (nI (bt (tp i))), zi (nI P)]) (st := [zi (nI i), zi (nI m), zr 7 0]) dX11_table_73 rfl rfl mkX11_rest wt884 wt614 rfl (Nat.le_of_ble_eq_true rfl) (Nat.le_of_ble_eq_true rfl) (by decide) (by decide) (by decide) (Or.inl rfl) hs.some (ok_X11_rest (Nat.lt_trans (bt_e (tp i)).2 (by decide)) (by omega) (by omega)) (fun r73 S73 hp73 => ?_)
    obtain ⟨rfl, hq73⟩ := hp73
    rw [hq73]
    show Ok _ _ _ [zi (nI (bt (tp i) % P)), zi (nI i), zi (nI m), zr 7 0] _ _
    refine r_callV (Mc := mX7_set) (q := 79) (As := [zi (nI m), zi (nI i), zi (nI (bt (tp i) % P))]) (st := []) ck7 dX11_table_76 rfl rfl mkX7_set wt1091 wt1092 wt1093 rfl (Nat.le_of_ble_eq_true rfl) (Nat.le_of_ble_eq_true rfl) (by decide) (by decide) (by decide) (Or.inl rfl) (hs.e (by decide)) (ok_X7_set (S := S) (a := m) (i := i) hs (by decide) (by omega) (by omega) _) (fun r76 S76 hp76 => ?_)
    obtain ⟨rfl, hq76⟩ := hp76
    rw [hq76]
    show Ok _ _ _ [] _ _
    refine r_iincN (q := 82) (L' := [some (zr 11 0), some (zi (nI m)), some (zi (nI t)), some (zr 9 c), some (zi (nI (i + 1)))]) 1 rfl dX11_table_79 rfl rfl (by decide) rfl ?_
    refine r_goto (q := 45) dX11_table_82 (by decide) ?_
    exact ih (i + 1) _ (by omega) hs (htp) (hP) (fun S2 h => K S2 (h.trans (fm_step (S := S) (a := 801) (b := 0) (off := m * 243) (g := fun k => nI (bt (tp k) % P)) (by omega))))

set_option maxRecDepth 100000 in
theorem lp_tableM {Po : Option zV → zS → Prop} {m t P : Nat} {tp : Nat → Int32} (hm : m < 3) (ht : t ≤ 243) (h2 : 2 ≤ P) (h97 : P ≤ 97) : ∀ (d i : Nat) (S : zS), i + d = t → Sd S → gI S 12 0 3 = nI t → (∀ k, k < t → gI S 1301 0 k = tp k) → gI S 1306 0 0 = nI P → (∀ S2, S2 = fm S 1306 0 (444 + (243 * m)) i t (fun k => nI (bt (tp k) % P)) → Ok mX12_table 78 [some (zr 12 0), some (zi (nI m)), some (zi (nI t))] [] S2 Po) → Ok mX12_table 36 [some (zr 12 0), some (zi (nI m)), some (zi (nI i))] [] S Po := by
  intro d
  induction d with
  | zero =>
    intro i S hi hs hsz htp hP K
    obtain rfl : t = i := by omega
    refine r_iload_n (q := 37) dX12_table_36 rfl rfl rfl ?_
    refine r_aload_n (q := 38) dX12_table_37 rfl rfl rfl ?_
    refine r_geti (q := 41) ck12 dX12_table_38 rfl (k := 3) (by decide) wt1281 (Or.inl rfl) (hs.e (by decide)) ?_
    refine r_topi (y := nI t) hsz ?_
    refine r_icmp_geN (q := 44) (t := 78) (by omega) (by omega) dX12_table_41 (by decide) rfl (fun h41 => ?_) (fun h41 => absurd h41 (by omega))
    exact K _ (fm_all.symm)
  | succ d ih =>
    intro i S hi hs hsz htp hP K
    refine r_iload_n (q := 37) dX12_table_36 rfl rfl rfl ?_
    refine r_aload_n (q := 38) dX12_table_37 rfl rfl rfl ?_
    refine r_geti (q := 41) ck12 dX12_table_38 rfl (k := 3) (by decide) wt1281 (Or.inl rfl) (hs.e (by decide)) ?_
    refine r_topi (y := nI t) hsz ?_
    refine r_icmp_geN (q := 44) (t := 78) (by omega) (by omega) dX12_table_41 (by decide) rfl (fun h41 => absurd h41 (by omega)) (fun h41 => ?_)
    refine r_aload_n (q := 45) dX12_table_44 rfl rfl rfl ?_
    refine r_getr (q := 48) (some (1306, 0)) ck12 dX12_table_45 rfl (k := 6) (by decide) wt1284 rfl (hs.e (by decide)) (hs.r (by decide) (by decide)) ?_
    refine r_sipush (q := 51) (nI 444) dX12_table_48 rfl (by decide) ?_
    refine r_sipush (q := 54) (nI 243) dX12_table_51 rfl (by decide) ?_
    refine r_iload_n (q := 55) dX12_table_54 rfl rfl rfl ?_
    refine r_imulN (q := 56) dX12_table_55 rfl ?_
    refine r_iaddN (q := 57) dX12_table_56 rfl ?_
    refine r_iload_n (q := 58) dX12_table_57 rfl rfl rfl ?_
    refine r_iaddN (q := 59) dX12_table_58 rfl ?_
    refine r_aload_n (q := 60) dX12_table_59 rfl rfl rfl ?_
    refine r_iload_n (q := 61) dX12_table_60 rfl rfl rfl ?_
    refine r_callV (Mc := mX12_octet) (q := 64) (As := [zi (nI i)]) (st := [zi (nI ((444 + (243 * m)) + i)), zr 1306 0]) ck12 dX12_table_61 rfl rfl mkX12_octet wt1984 wt1986 wp141 rfl (Nat.le_of_ble_eq_true rfl) (Nat.le_of_ble_eq_true rfl) (by decide) (by decide) (by decide) (Or.inl rfl) (hs.e (by decide)) (ok_X12_octet (S := S) hs (by omega)) (fun r61 S61 hp61 => ?_)
    obtain ⟨rfl, hq61⟩ := hp61
    rw [hq61]
    show Ok _ _ _ [zi (gI S 1301 0 i &&& nI 255), zi (nI ((444 + (243 * m)) + i)), zr 1306 0] _ _
    refine r_topi (y := nI (bt (tp i))) (by rw [htp i (by omega)]; exact (bt_e _).1) ?_
    refine r_aload_n (q := 65) dX12_table_64 rfl rfl rfl ?_
    refine r_getr (q := 68) (some (1306, 0)) ck12 dX12_table_65 rfl (k := 6) (by decide) wt1284 rfl (hs.e (by decide)) (hs.r (by decide) (by decide)) ?_
    refine r_iconst (q := 69) (nI 0) dX12_table_68 rfl (by decide) ?_
    refine r_ialdN (q := 70) 3775 (by decide) rfl dX12_table_69 rfl (hs.e (by decide)) (hs.n rfl (by decide)) (by omega) (by decide) ?_
    refine r_topi (y := nI P) hP ?_
    have hbt := (bt_e (tp i)).2
    refine r_iremN (q := 71) (by omega) (by omega) (by omega) dX12_table_70 rfl ?_
    refine r_iastN (q := 72) 3775 (by decide) rfl dX12_table_71 rfl (hs.e (by decide)) (hs.n rfl (by decide)) (by omega) (by decide) ?_
    refine r_iincN (q := 75) (L' := [some (zr 12 0), some (zi (nI m)), some (zi (nI (i + 1)))]) 1 rfl dX12_table_72 rfl rfl (by decide) rfl ?_
    refine r_goto (q := 36) dX12_table_75 (by decide) ?_
    exact ih (i + 1) _ (by omega) hs (hsz) (htp) (by rw [gI_sI, if_neg (by omega)]; exact hP) (fun S2 h => K S2 (h.trans (fm_step (S := S) (a := 1306) (b := 0) (off := 444 + (243 * m)) (g := fun k => nI (bt (tp k) % P)) (by omega))))

