/-! holds: the class's block -/
def mX1_putTable1 : mD := (RX1, cX1_putTable, 13, none, yX1_putTable, 1, 23, 1, 0, fun _ => 0)
def mX1_fillBlock1 : mD := (RX1, cX1_fillBlock, 12, none, yX1_fillBlock, 2, 55, 1, 0, fun _ => 0)
theorem mkX1_putTable1 : mOK mX1_putTable1 5 := mkX1_putTable
theorem mkX1_fillBlock1 : mOK mX1_fillBlock1 4 := mkX1_fillBlock
theorem rep_sw2 {G : zG} {adr : zA} {S : zS} {H : Heap} {a1 b1 a2 b2 c b k1 k2 : Nat} (n1 : ¬ a1 < 13) (n2 : ¬ a2 < 13) (t1 : tN a1 = 1) (t2 : tN a2 = 1) (s1 : a1 ≠ 77777) (s2 : a2 ≠ 77777) (h12 : ¬ (a1 = a2 ∧ b1 = b2)) (hk : k1 ≠ k2) (he1 : gE S a1 b1 = true) (he2 : gE S a2 b2 = true) (hf1 : gR S c b k1 = some (a1, b1)) (hf2 : gR S c b k2 = some (a2, b2)) (hn1 : ∀ x y z, gR S x y z = some (a1, b1) → x = c ∧ y = b ∧ z = k1) (hn2 : ∀ x y z, gR S x y z = some (a2, b2) → x = c ∧ y = b ∧ z = k2) (hR : Rep G adr (sR (sR S c b k1 (some (a2, b2))) c b k2 (some (a1, b1))) H) : Rep G (swA a1 b1 a2 b2 adr) (swS S a1 b1 a2 b2) H := by
  obtain ⟨q1, q2, q3, q4, q5⟩ := hR
  have hz : ∀ x y z, zad (swA a1 b1 a2 b2 adr) (gR (swS S a1 b1 a2 b2) x y z) = zad adr (gR (sR (sR S c b k1 (some (a2, b2))) c b k2 (some (a1, b1))) x y z) := by
    intro x y z
    show zad (swA a1 b1 a2 b2 adr) (gR S x y z) = _
    rw [gR_sR, gR_sR]
    by_cases e : x = c ∧ y = b ∧ z = k2
    · rw [if_pos e, e.1, e.2.1, e.2.2, hf2]
      show some (adr (swp a1 b1 a2 b2 a2 b2).1 (swp a1 b1 a2 b2 a2 b2).2) = some (adr a1 b1)
      rw [swp_2]
    · rw [if_neg e]
      by_cases e1 : x = c ∧ y = b ∧ z = k1
      · rw [if_pos e1, e1.1, e1.2.1, e1.2.2, hf1]
        show some (adr (swp a1 b1 a2 b2 a1 b1).1 (swp a1 b1 a2 b2 a1 b1).2) = some (adr a2 b2)
        rw [swp_1]
      · rw [if_neg e1]
        cases h : gR S x y z with
        | none => rfl
        | some p =>
          show some (adr (swp a1 b1 a2 b2 p.1 p.2).1 (swp a1 b1 a2 b2 p.1 p.2).2) = some (adr p.1 p.2)
          rw [swp_x (fun w => e1 (hn1 x y z (by rw [h, ← w.1, ← w.2]))) (fun w => e (hn2 x y z (by rw [h, ← w.1, ← w.2])))]
  have hin : ∀ x y, gE S x y = true → gE S (swp a1 b1 a2 b2 x y).1 (swp a1 b1 a2 b2 x y).2 = true := by
    intro x y h
    by_cases e1 : x = a1 ∧ y = b1
    · rw [e1.1, e1.2, swp_1]; exact he2
    · by_cases e2 : x = a2 ∧ y = b2
      · rw [e2.1, e2.2, swp_2]; exact he1
      · rw [swp_x e1 e2]; exact h
  have hcel : ∀ x y, cel G.2.1 (swA a1 b1 a2 b2 adr) (swS S a1 b1 a2 b2) x y = cel G.2.1 adr (sR (sR S c b k1 (some (a2, b2))) c b k2 (some (a1, b1))) (swp a1 b1 a2 b2 x y).1 (swp a1 b1 a2 b2 x y).2 := by
    intro x y
    by_cases e1 : x = a1 ∧ y = b1
    · rw [e1.1, e1.2, swp_1]
      unfold cel
      rw [if_neg n1, if_neg n2, t1, t2]
      unfold zarr
      rw [t1, t2, if_neg (by decide), if_neg (by decide), if_neg (by decide), if_neg (by decide), gN_sw, swp_1, show gI (swS S a1 b1 a2 b2) a1 b1 = gI (sR (sR S c b k1 (some (a2, b2))) c b k2 (some (a1, b1))) a2 b2 from funext fun k => by rw [gI_sw, swp_1]; rfl]
      rfl
    · by_cases e2 : x = a2 ∧ y = b2
      · rw [e2.1, e2.2, swp_2]
        unfold cel
        rw [if_neg n1, if_neg n2, t1, t2]
        unfold zarr
        rw [t1, t2, if_neg (by decide), if_neg (by decide), if_neg (by decide), if_neg (by decide), gN_sw, swp_2, show gI (swS S a1 b1 a2 b2) a2 b2 = gI (sR (sR S c b k1 (some (a2, b2))) c b k2 (some (a1, b1))) a1 b1 from funext fun k => by rw [gI_sw, swp_2]; rfl]
        rfl
      · rw [swp_x e1 e2]
        have hi : ∀ k, gI (swS S a1 b1 a2 b2) x y k = gI (sR (sR S c b k1 (some (a2, b2))) c b k2 (some (a1, b1))) x y k := fun k => by rw [gI_sw, swp_x e1 e2]; rfl
        unfold cel
        by_cases h13 : x < 13
        · rw [if_pos h13, if_pos h13]
          have : fva (swA a1 b1 a2 b2 adr) (swS S a1 b1 a2 b2) x y = fva adr (sR (sR S c b k1 (some (a2, b2))) c b k2 (some (a1, b1))) x y := by
            funext k
            unfold fva
            rw [hz x y k, hi k]
            rfl
          rw [this]
        · rw [if_neg h13, if_neg h13]
          unfold zarr
          rw [gN_sw, swp_x e1 e2, show gI (swS S a1 b1 a2 b2) x y = gI (sR (sR S c b k1 (some (a2, b2))) c b k2 (some (a1, b1))) x y from funext hi, show (fun i => zad (swA a1 b1 a2 b2 adr) (gR (swS S a1 b1 a2 b2) x y i)) = fun i => zad adr (gR (sR (sR S c b k1 (some (a2, b2))) c b k2 (some (a1, b1))) x y i) from funext (hz x y)]
          rfl
  refine ⟨fun x y h => ?_, fun x y x' y' h h' e => ?_, fun x y z p h hp => ?_, q4, ?_⟩
  · rw [hcel]
    exact q1 _ _ (hin x y h)
  · have := q2 _ _ _ _ (hin x y h) (hin x' y' h') e
    have e2 : swp a1 b1 a2 b2 x y = swp a1 b1 a2 b2 x' y' := Prod.ext this.1 this.2
    have e3 := swp_swp (a1 := a1) (b1 := b1) (a2 := a2) (b2 := b2) (x := x) (y := y)
    rw [e2, swp_swp] at e3
    exact ⟨(congrArg Prod.fst e3).symm, (congrArg Prod.snd e3).symm⟩
  · have hp : gR S x y z = some p := hp
    by_cases e : x = c ∧ y = b ∧ z = k2
    · rw [e.1, e.2.1, e.2.2, hf2] at hp
      cases hp
      exact he2
    · by_cases e1 : x = c ∧ y = b ∧ z = k1
      · rw [e1.1, e1.2.1, e1.2.2, hf1] at hp
        cases hp
        exact he1
      · exact q3 x y z p h (by rw [gR_sR, if_neg e, gR_sR, if_neg e1]; exact hp)
  · show adr (swp a1 b1 a2 b2 77777 0).1 (swp a1 b1 a2 b2 77777 0).2 = _
    rw [swp_x (fun w => s1 w.1.symm) (fun w => s2 w.1.symm)]
    exact q5
/-- the two rows of the block change places -/
def swB (S : zS) : zS := swS S 200 0 201 0
theorem swB_I {S : zS} {a b k : Nat} (h : ¬ ((a = 200 ∨ a = 201) ∧ b = 0)) : gI (swB S) a b k = gI S a b k := by
  unfold swB
  rw [gI_sw, swp_x (by omega) (by omega)]
theorem swB_N {S : zS} {a b : Nat} (h : ¬ ((a = 200 ∨ a = 201) ∧ b = 0)) : gN (swB S) a b = gN S a b := by
  unfold swB
  rw [gN_sw, swp_x (by omega) (by omega)]
theorem swB_0 {S : zS} {k : Nat} : gI (swB S) 200 0 k = gI S 201 0 k ∧ gI (swB S) 201 0 k = gI S 200 0 k := by
  unfold swB
  rw [gI_sw, gI_sw, swp_1, swp_2]
  exact ⟨rfl, rfl⟩
theorem swB_n {S : zS} : gN (swB S) 200 0 = gN S 201 0 ∧ gN (swB S) 201 0 = gN S 200 0 := by
  unfold swB
  rw [gN_sw, gN_sw, swp_1, swp_2]
  exact ⟨rfl, rfl⟩
theorem sd_swB {S : zS} (h : Sd S) : Sd (swB S) := ⟨fun a b hb => h.1 a b hb, fun a b k hb hk => h.2.1 a b k hb hk, fun a b hg hb => by
  unfold swB
  rw [gN_sw, swp_x (fun z => by rw [z.1] at hg; cases hg) (fun z => by rw [z.1] at hg; cases hg)]
  exact h.2.2.1 a b hg hb, h.2.2.2.1, h.2.2.2.2⟩

def t201 (a b _k : Nat) : Bool := a == 201 && b == 0
/-- what putTable reads -/
def PtI (S : zS) (c a w P L : Nat) (tb B : Nat → Nat) (n : Nat) : Prop := Sd S ∧ gI S 9 c 0 = nI P ∧ TbC S a P tb ∧ gN S 200 0 = L ∧ gN S 201 0 = L ∧ ∀ i, i < n → gI S 200 0 i = nI (B i) ∧ B i < P
theorem PtI.fr {S S1 : zS} {c a w P L n : Nat} {tb B : Nat → Nat} (h : PtI S c a w P L tb B n) (f : Fr t201 S S1) : PtI S1 c a w P L tb B n := ⟨h.1.fr f, (f.1 _ _ _ rfl).trans h.2.1, fun i hi => ⟨(f.1 _ _ _ rfl).trans (h.2.2.1 i hi).1, (h.2.2.1 i hi).2⟩, (gN_22 f.2.2).trans h.2.2.2.1, (gN_22 f.2.2).trans h.2.2.2.2.1, fun i hi => ⟨(f.1 _ _ _ rfl).trans (h.2.2.2.2.2 i hi).1, (h.2.2.2.2.2 i hi).2⟩⟩
theorem ix_lt {a n b m : Nat} (h1 : a < n) (h2 : b < m) : a * m + b < n * m := by
  have : (a + 1) * m ≤ n * m := Nat.mul_le_mul_right m h1
  rw [Nat.succ_mul] at this
  omega

theorem sm_bd {f : Nat → Nat} {M : Nat} : ∀ {n : Nat}, (∀ i, i < n → f i ≤ M) → sm f n ≤ n * M
  | 0, _ => Nat.zero_le _
  | n + 1, h => by
    rw [sm_succ, Nat.succ_mul]
    exact Nat.add_le_add (sm_bd (n := n) (fun i hi => h i (by omega))) (h n (by omega))
set_option maxRecDepth 100000 in
theorem lp_pt72 {c a w rows bh ah P L : Nat} {tb B : Nat → Nat} (hc4 : c < 4) (ha3 : a < 3) (h1 : 1 ≤ w) (h3 : w ≤ 3) (hP2 : 2 ≤ P) (hP97 : P ≤ 97) (hr0 : 0 < rows) (hb0 : 0 < bh) (hrw : rows * w ≤ 243) (hN : ah * rows * bh ≤ L) (hN2 : ah * w * bh ≤ L) (hL : L ≤ 6561) {b r y : Nat} (hb : b < ah) (hr : r < rows) (hy : y < bh) {S : zS} (hI : PtI S c a w P L tb B (ah * w * bh)) (hw : gI S 7 0 0 = nI w) {Po : Option zV → zS → Prop} (K : Ok mX1_putTable1 123 [some (zr 1 0), some (zr 9 c), some (zi (nI a)), some (zr 7 0), some (zi (nI ah)), some (zi (nI bh)), some (zi (nI w)), some (zi (nI rows)), some (zi (nI b)), some (zi (nI r)), some (zi (nI y)), some (zi (nI (sm (fun j => tb (r * w + j) * B ((b * w + j) * bh + y)) w))), some (zi (nI w))] [] S Po) : ∀ (d j : Nat), j + d = w → Ok mX1_putTable1 72 [some (zr 1 0), some (zr 9 c), some (zi (nI a)), some (zr 7 0), some (zi (nI ah)), some (zi (nI bh)), some (zi (nI w)), some (zi (nI rows)), some (zi (nI b)), some (zi (nI r)), some (zi (nI y)), some (zi (nI (sm (fun j => tb (r * w + j) * B ((b * w + j) * bh + y)) j))), some (zi (nI j))] [] S Po := by
  obtain ⟨hs, hp0, hT, hn0, hn1, hB⟩ := hI
  intro d
  induction d with
  | zero =>
    intro j hj
    obtain rfl : w = j := by omega
    refine r_iload (q := 74) dX1_putTable_72 rfl rfl ?_
    refine r_iload (q := 76) dX1_putTable_74 rfl rfl ?_
    refine r_icmp_geN (q := 79) (t := 123) (by omega) (by omega) dX1_putTable_76 (by decide) rfl (fun h76 => ?_) (fun h76 => absurd h76 (by omega))
    exact K
  | succ d ih =>
    intro j hj
    have g1 : r * w + j < 243 := by have := ix_lt hr (show j < w by omega); omega
    have g2 : b * w + j < ah * w := ix_lt hb (show j < w by omega)
    have g3 : (b * w + j) * bh + y < ah * w * bh := ix_lt g2 hy
    have g4 := hB _ g3
    have g5 := hT _ g1
    have g6 : ah * w * bh ≤ 6561 := by omega
    have g7 : b * w + j < 6561 := by have := Nat.le_mul_of_pos_right (ah * w) hb0; omega
    have g8 : (b * w + j) * bh < 6561 := by omega
    have g10 : bh ≤ 6561 := Nat.le_trans (Nat.le_mul_of_pos_left bh (by omega)) g6
    refine r_iload (q := 74) dX1_putTable_72 rfl rfl ?_
    refine r_iload (q := 76) dX1_putTable_74 rfl rfl ?_
    refine r_icmp_geN (q := 79) (t := 123) (by omega) (by omega) dX1_putTable_76 (by decide) rfl (fun h76 => absurd h76 (by omega)) (fun h76 => ?_)
    refine r_iload (q := 81) dX1_putTable_79 rfl rfl ?_
    refine r_aload_n (q := 82) dX1_putTable_81 rfl rfl rfl ?_
    refine r_iload_n (q := 83) dX1_putTable_82 rfl rfl rfl ?_
    refine r_iload (q := 85) dX1_putTable_83 rfl rfl ?_
    refine r_iload (q := 87) dX1_putTable_85 rfl rfl ?_
    refine r_imulN (q := 88) dX1_putTable_87 rfl ?_
    refine r_iload (q := 90) dX1_putTable_88 rfl rfl ?_
    refine r_iaddN (q := 91) dX1_putTable_90 rfl ?_
    refine r_topi (y := nI (r * w + j)) rfl ?_
    refine r_callV (Mc := mX7_get) (q := 94) (As := [zi (nI a), zi (nI (r * w + j))]) (st := [zi (nI (sm (fun j => tb (r * w + j) * B ((b * w + j) * bh + y)) j))]) ck7 dX1_putTable_91 rfl rfl mkX7_get wt1120 wt1121 wt1122 rfl (Nat.le_of_ble_eq_true rfl) (Nat.le_of_ble_eq_true rfl) (by decide) (by decide) (by decide) (Or.inl rfl) (hs.e (by decide)) (ok_X7_get hs (by omega) ha3 g1) (fun r91 S91 hp91 => ?_)
    obtain ⟨rfl, rfl⟩ := hp91
    rw [g5.1]
    show Ok _ _ _ [zi (nI (tb (r * w + j))), zi (nI (sm (fun j => tb (r * w + j) * B ((b * w + j) * bh + y)) j))] _ _
    refine r_aload_n (q := 95) dX1_putTable_94 rfl rfl rfl ?_
    refine r_getr (q := 98) (some (200, 0)) ck1 dX1_putTable_95 rfl (k := 0) (by decide) wt228 rfl (hs.e (by decide)) (hs.r (by decide) (by decide)) ?_
    refine r_iload (q := 100) dX1_putTable_98 rfl rfl ?_
    refine r_iload (q := 102) dX1_putTable_100 rfl rfl ?_
    refine r_imulN (q := 103) dX1_putTable_102 rfl ?_
    refine r_iload (q := 105) dX1_putTable_103 rfl rfl ?_
    refine r_iaddN (q := 106) dX1_putTable_105 rfl ?_
    refine r_topi (y := nI (b * w + j)) rfl ?_
    refine r_iload (q := 108) dX1_putTable_106 rfl rfl ?_
    refine r_imulN (q := 109) dX1_putTable_108 rfl ?_
    refine r_iload (q := 111) dX1_putTable_109 rfl rfl ?_
    refine r_iaddN (q := 112) dX1_putTable_111 rfl ?_
    refine r_topi (y := nI ((b * w + j) * bh + y)) rfl ?_
    refine r_ialdN (q := 113) L (by decide) rfl dX1_putTable_112 rfl (hs.e (by decide)) hn0 (by omega) (by omega) ?_
    refine r_topi (y := nI (B ((b * w + j) * bh + y))) g4.1 ?_
    refine r_imulN (q := 114) dX1_putTable_113 rfl ?_
    refine r_iaddN (q := 115) dX1_putTable_114 rfl ?_
    refine r_istore (q := 117) (L' := [some (zr 1 0), some (zr 9 c), some (zi (nI a)), some (zr 7 0), some (zi (nI ah)), some (zi (nI bh)), some (zi (nI w)), some (zi (nI rows)), some (zi (nI b)), some (zi (nI r)), some (zi (nI y)), some (zi (nI ((sm (fun j => tb (r * w + j) * B ((b * w + j) * bh + y)) j) + ((tb (r * w + j)) * (B ((b * w + j) * bh + y)))))), some (zi (nI j))]) dX1_putTable_115 rfl (by decide) rfl ?_
    refine r_iincN (q := 120) (L' := [some (zr 1 0), some (zr 9 c), some (zi (nI a)), some (zr 7 0), some (zi (nI ah)), some (zi (nI bh)), some (zi (nI w)), some (zi (nI rows)), some (zi (nI b)), some (zi (nI r)), some (zi (nI y)), some (zi (nI ((sm (fun j => tb (r * w + j) * B ((b * w + j) * bh + y)) j) + ((tb (r * w + j)) * (B ((b * w + j) * bh + y)))))), some (zi (nI (j + 1)))]) 1 rfl dX1_putTable_117 rfl rfl (by decide) rfl ?_
    refine r_goto (q := 72) dX1_putTable_120 (by decide) ?_
    exact ih (j + 1) (by omega)

set_option maxRecDepth 100000 in
theorem lp_pt59 {c a w rows bh ah P L : Nat} {tb B : Nat → Nat} (hc4 : c < 4) (ha3 : a < 3) (h1 : 1 ≤ w) (h3 : w ≤ 3) (hP2 : 2 ≤ P) (hP97 : P ≤ 97) (hr0 : 0 < rows) (hb0 : 0 < bh) (hrw : rows * w ≤ 243) (hN : ah * rows * bh ≤ L) (hN2 : ah * w * bh ≤ L) (hL : L ≤ 6561) {b r : Nat} (hb : b < ah) (hr : r < rows) {Po : Option zV → zS → Prop} : ∀ (d y : Nat) (S : zS), y + d = bh → PtI S c a w P L tb B (ah * w * bh) → gI S 7 0 0 = nI w → (∀ i, i < (b * rows + r) * bh + y → gI S 201 0 i = nI (ptB w P tb rows bh B i)) → (∀ S1, Fr t201 S S1 → (∀ i, i < (b * rows + r) * bh + bh → gI S1 201 0 i = nI (ptB w P tb rows bh B i)) → Ok mX1_putTable1 157 [some (zr 1 0), some (zr 9 c), some (zi (nI a)), some (zr 7 0), some (zi (nI ah)), some (zi (nI bh)), some (zi (nI w)), some (zi (nI rows)), some (zi (nI b)), some (zi (nI r)), some (zi (nI bh)), none, none] [] S1 Po) → Ok mX1_putTable1 59 [some (zr 1 0), some (zr 9 c), some (zi (nI a)), some (zr 7 0), some (zi (nI ah)), some (zi (nI bh)), some (zi (nI w)), some (zi (nI rows)), some (zi (nI b)), some (zi (nI r)), some (zi (nI y)), none, none] [] S Po := by
  intro d
  induction d with
  | zero =>
    intro y S hy hI hw hD K
    have hs := hI.1
    obtain rfl : bh = y := by omega
    have g6 : ah * rows * bh ≤ 6561 := by omega
    have g10 : bh ≤ 6561 := Nat.le_trans (Nat.le_mul_of_pos_left bh (Nat.mul_pos (by omega) hr0)) g6
    refine r_iload (q := 61) dX1_putTable_59 rfl rfl ?_
    refine r_iload (q := 63) dX1_putTable_61 rfl rfl ?_
    refine r_icmp_geN (q := 66) (t := 157) (by omega) (by omega) dX1_putTable_63 (by decide) rfl (fun h63 => ?_) (fun h63 => absurd h63 (by omega))
    exact K S Fr.rf hD
  | succ d ih =>
    intro y S hy hI hw hD K
    have hs := hI.1
    have g2 : b * rows + r < ah * rows := ix_lt hb hr
    have g3 : (b * rows + r) * bh + y < ah * rows * bh := ix_lt g2 (show y < bh by omega)
    have g6 : ah * rows * bh ≤ 6561 := by omega
    have g10 : bh ≤ 6561 := Nat.le_trans (Nat.le_mul_of_pos_left bh (Nat.mul_pos (by omega) hr0)) g6
    have hsm : sm (fun j => tb (r * w + j) * B ((b * w + j) * bh + y)) w ≤ w * (97 * 97) := sm_bd fun j hj => Nat.mul_le_mul (Nat.le_of_lt (Nat.lt_of_lt_of_le (hI.2.2.1 (r * w + j) (by have := ix_lt hr hj; omega)).2 hP97)) (Nat.le_of_lt (Nat.lt_of_lt_of_le (hI.2.2.2.2.2 ((b * w + j) * bh + y) (ix_lt (ix_lt hb hj) (by omega))).2 hP97))
    have hw97 : w * (97 * 97) ≤ 3 * (97 * 97) := Nat.mul_le_mul_right _ h3
    refine r_iload (q := 61) dX1_putTable_59 rfl rfl ?_
    refine r_iload (q := 63) dX1_putTable_61 rfl rfl ?_
    refine r_icmp_geN (q := 66) (t := 157) (by omega) (by omega) dX1_putTable_63 (by decide) rfl (fun h63 => absurd h63 (by omega)) (fun h63 => ?_)
    refine r_iconst (q := 67) (nI 0) dX1_putTable_66 rfl (by decide) ?_
    refine r_istore (q := 69) (L' := [some (zr 1 0), some (zr 9 c), some (zi (nI a)), some (zr 7 0), some (zi (nI ah)), some (zi (nI bh)), some (zi (nI w)), some (zi (nI rows)), some (zi (nI b)), some (zi (nI r)), some (zi (nI y)), some (zi (nI 0)), none]) dX1_putTable_67 rfl (by decide) rfl ?_
    refine r_iconst (q := 70) (nI 0) dX1_putTable_69 rfl (by decide) ?_
    refine r_istore (q := 72) (L' := [some (zr 1 0), some (zr 9 c), some (zi (nI a)), some (zr 7 0), some (zi (nI ah)), some (zi (nI bh)), some (zi (nI w)), some (zi (nI rows)), some (zi (nI b)), some (zi (nI r)), some (zi (nI y)), some (zi (nI 0)), some (zi (nI 0))]) dX1_putTable_70 rfl (by decide) rfl ?_
    refine lp_pt72 hc4 ha3 h1 h3 hP2 hP97 hr0 hb0 hrw hN hN2 hL hb hr (show y < bh by omega) hI hw ?_ w 0 (by omega)
    refine r_aload_n (q := 124) dX1_putTable_123 rfl rfl rfl ?_
    refine r_getr (q := 127) (some (201, 0)) ck1 dX1_putTable_124 rfl (k := 1) (by decide) wt229 rfl (hs.e (by decide)) (hs.r (by decide) (by decide)) ?_
    refine r_iload (q := 129) dX1_putTable_127 rfl rfl ?_
    refine r_iload (q := 131) dX1_putTable_129 rfl rfl ?_
    refine r_imulN (q := 132) dX1_putTable_131 rfl ?_
    refine r_iload (q := 134) dX1_putTable_132 rfl rfl ?_
    refine r_iaddN (q := 135) dX1_putTable_134 rfl ?_
    refine r_topi (y := nI (b * rows + r)) rfl ?_
    refine r_iload (q := 137) dX1_putTable_135 rfl rfl ?_
    refine r_imulN (q := 138) dX1_putTable_137 rfl ?_
    refine r_iload (q := 140) dX1_putTable_138 rfl rfl ?_
    refine r_iaddN (q := 141) dX1_putTable_140 rfl ?_
    refine r_topi (y := nI ((b * rows + r) * bh + y)) rfl ?_
    refine r_iload (q := 143) dX1_putTable_141 rfl rfl ?_
    refine r_aload_n (q := 144) dX1_putTable_143 rfl rfl rfl ?_
    refine r_geti (q := 147) ck9 dX1_putTable_144 rfl (k := 0) (by decide) wt291 (Or.inl rfl) (hs.e (show c < 4 by omega)) ?_
    refine r_topi (y := nI P) hI.2.1 ?_
    refine r_callSN (Mc := mX11_rest) (q := 150) (As := [zi (nI (sm (fun j => tb (r * w + j) * B ((b * w + j) * bh + y)) w)), zi (nI P)]) (st := [zi (nI ((b * rows + r) * bh + y)), zr 201 0]) dX1_putTable_147 rfl rfl mkX11_rest wn1124 wt614 rfl (Nat.le_of_ble_eq_true rfl) (Nat.le_of_ble_eq_true rfl) (by decide) (by decide) (by decide) (Or.inl rfl) hs.some (ok_X11_rest (by omega) hP2 (by omega)) (fun r147 S147 hp147 => ?_)
    obtain ⟨rfl, hq147⟩ := hp147
    rw [hq147]
    show Ok _ _ _ [zi (nI (sm (fun j => tb (r * w + j) * B ((b * w + j) * bh + y)) w % P)), zi (nI ((b * rows + r) * bh + y)), zr 201 0] _ _
    refine r_iastN (q := 151) L (by decide) rfl dX1_putTable_150 rfl (hs.e (by decide)) hI.2.2.2.2.1 (by omega) (by omega) ?_
    refine r_iincN (q := 154) (L' := [some (zr 1 0), some (zr 9 c), some (zi (nI a)), some (zr 7 0), some (zi (nI ah)), some (zi (nI bh)), some (zi (nI w)), some (zi (nI rows)), some (zi (nI b)), some (zi (nI r)), some (zi (nI (y + 1))), some (zi (nI (sm (fun j => tb (r * w + j) * B ((b * w + j) * bh + y)) w))), some (zi (nI w))]) 1 rfl dX1_putTable_151 rfl rfl (by decide) rfl ?_
    refine r_goto (q := 59) dX1_putTable_154 (by decide) ?_
    refine r_mask [true, true, true, true, true, true, true, true, true, true, true, false, false] rfl ?_
    have f1 : Fr t201 S (sI S 201 0 ((b * rows + r) * bh + y) (nI (sm (fun j => tb (r * w + j) * B ((b * w + j) * bh + y)) w % P))) := Fr.rf.i (by simp [t201])
    refine ih (y + 1) (sI S 201 0 ((b * rows + r) * bh + y) (nI (sm (fun j => tb (r * w + j) * B ((b * w + j) * bh + y)) w % P))) (by omega) (hI.fr f1) (by rw [gI_sI, if_neg (by omega)]; exact hw) (fun i hi => ?_) (fun S1 f2 h2 => K S1 (f1.tr f2) h2)
    rw [gI_sI]
    by_cases e : i = (b * rows + r) * bh + y
    · rw [if_pos ⟨rfl, rfl, e⟩, e, ptB_at hr (show y < bh by omega)]
    · rw [if_neg (by omega)]
      exact hD i (by omega)

set_option maxRecDepth 100000 in
theorem lp_pt49 {c a w rows bh ah P L : Nat} {tb B : Nat → Nat} (hc4 : c < 4) (ha3 : a < 3) (h1 : 1 ≤ w) (h3 : w ≤ 3) (hP2 : 2 ≤ P) (hP97 : P ≤ 97) (hr0 : 0 < rows) (hb0 : 0 < bh) (hrw : rows * w ≤ 243) (hN : ah * rows * bh ≤ L) (hN2 : ah * w * bh ≤ L) (hL : L ≤ 6561) {b : Nat} (hb : b < ah) {Po : Option zV → zS → Prop} : ∀ (d r : Nat) (S : zS), r + d = rows → PtI S c a w P L tb B (ah * w * bh) → gI S 7 0 0 = nI w → (∀ i, i < (b * rows + r) * bh → gI S 201 0 i = nI (ptB w P tb rows bh B i)) → (∀ S1, Fr t201 S S1 → (∀ i, i < (b * rows + rows) * bh → gI S1 201 0 i = nI (ptB w P tb rows bh B i)) → Ok mX1_putTable1 163 [some (zr 1 0), some (zr 9 c), some (zi (nI a)), some (zr 7 0), some (zi (nI ah)), some (zi (nI bh)), some (zi (nI w)), some (zi (nI rows)), some (zi (nI b)), some (zi (nI rows)), none, none, none] [] S1 Po) → Ok mX1_putTable1 49 [some (zr 1 0), some (zr 9 c), some (zi (nI a)), some (zr 7 0), some (zi (nI ah)), some (zi (nI bh)), some (zi (nI w)), some (zi (nI rows)), some (zi (nI b)), some (zi (nI r)), none, none, none] [] S Po := by
  intro d
  induction d with
  | zero =>
    intro r S hy hI hw hD K
    have hs := hI.1
    have grw : rows ≤ 243 := Nat.le_trans (Nat.le_mul_of_pos_right rows h1) hrw
    obtain rfl : rows = r := by omega
    refine r_iload (q := 51) dX1_putTable_49 rfl rfl ?_
    refine r_iload (q := 53) dX1_putTable_51 rfl rfl ?_
    refine r_icmp_geN (q := 56) (t := 163) (by omega) (by omega) dX1_putTable_53 (by decide) rfl (fun h53 => ?_) (fun h53 => absurd h53 (by omega))
    exact K S Fr.rf hD
  | succ d ih =>
    intro r S hy hI hw hD K
    have hs := hI.1
    have grw : rows ≤ 243 := Nat.le_trans (Nat.le_mul_of_pos_right rows h1) hrw
    refine r_iload (q := 51) dX1_putTable_49 rfl rfl ?_
    refine r_iload (q := 53) dX1_putTable_51 rfl rfl ?_
    refine r_icmp_geN (q := 56) (t := 163) (by omega) (by omega) dX1_putTable_53 (by decide) rfl (fun h53 => absurd h53 (by omega)) (fun h53 => ?_)
    refine r_iconst (q := 57) (nI 0) dX1_putTable_56 rfl (by decide) ?_
    refine r_istore (q := 59) (L' := [some (zr 1 0), some (zr 9 c), some (zi (nI a)), some (zr 7 0), some (zi (nI ah)), some (zi (nI bh)), some (zi (nI w)), some (zi (nI rows)), some (zi (nI b)), some (zi (nI r)), some (zi (nI 0)), none, none]) dX1_putTable_57 rfl (by decide) rfl ?_
    refine lp_pt59 hc4 ha3 h1 h3 hP2 hP97 hr0 hb0 hrw hN hN2 hL hb (show r < rows by omega) bh 0 S (by omega) hI hw (fun i hi => hD i (by omega)) (fun S1 f1 h2 => ?_)
    have hs1 : Sd S1 := hs.fr f1
    refine r_iincN (q := 160) (L' := [some (zr 1 0), some (zr 9 c), some (zi (nI a)), some (zr 7 0), some (zi (nI ah)), some (zi (nI bh)), some (zi (nI w)), some (zi (nI rows)), some (zi (nI b)), some (zi (nI (r + 1))), some (zi (nI bh)), none, none]) 1 rfl dX1_putTable_157 rfl rfl (by decide) rfl ?_
    refine r_goto (q := 49) dX1_putTable_160 (by decide) ?_
    refine r_mask [true, true, true, true, true, true, true, true, true, true, false, false, false] rfl ?_
    exact ih (r + 1) S1 (by omega) (hI.fr f1) ((f1.1 _ _ _ rfl).trans hw) (fun i hi => h2 i (by rw [show b * rows + (r + 1) = (b * rows + r) + 1 by omega, Nat.succ_mul] at hi; omega)) (fun S2 f2 h3 => K S2 (f1.tr f2) h3)

set_option maxRecDepth 100000 in
theorem lp_pt39 {c a w rows bh ah P L : Nat} {tb B : Nat → Nat} (hc4 : c < 4) (ha3 : a < 3) (h1 : 1 ≤ w) (h3 : w ≤ 3) (hP2 : 2 ≤ P) (hP97 : P ≤ 97) (hr0 : 0 < rows) (hb0 : 0 < bh) (hrw : rows * w ≤ 243) (hN : ah * rows * bh ≤ L) (hN2 : ah * w * bh ≤ L) (hL : L ≤ 6561) {Po : Option zV → zS → Prop} : ∀ (d b : Nat) (S : zS), b + d = ah → PtI S c a w P L tb B (ah * w * bh) → gI S 7 0 0 = nI w → (∀ i, i < b * rows * bh → gI S 201 0 i = nI (ptB w P tb rows bh B i)) → (∀ S1, Fr t201 S S1 → (∀ i, i < ah * rows * bh → gI S1 201 0 i = nI (ptB w P tb rows bh B i)) → Ok mX1_putTable1 169 [some (zr 1 0), some (zr 9 c), some (zi (nI a)), some (zr 7 0), some (zi (nI ah)), some (zi (nI bh)), some (zi (nI w)), some (zi (nI rows)), some (zi (nI ah)), none, none, none, none] [] S1 Po) → Ok mX1_putTable1 39 [some (zr 1 0), some (zr 9 c), some (zi (nI a)), some (zr 7 0), some (zi (nI ah)), some (zi (nI bh)), some (zi (nI w)), some (zi (nI rows)), some (zi (nI b)), none, none, none, none] [] S Po := by
  intro d
  induction d with
  | zero =>
    intro b S hy hI hw hD K
    have hs := hI.1
    obtain rfl : ah = b := by omega
    have g6 : ah * (rows * bh) ≤ 6561 := by rw [← Nat.mul_assoc]; omega
    have g10 : ah ≤ 6561 := Nat.le_trans (Nat.le_mul_of_pos_right ah (Nat.mul_pos hr0 hb0)) g6
    refine r_iload (q := 41) dX1_putTable_39 rfl rfl ?_
    refine r_iload (q := 43) dX1_putTable_41 rfl rfl ?_
    refine r_icmp_geN (q := 46) (t := 169) (by omega) (by omega) dX1_putTable_43 (by decide) rfl (fun h43 => ?_) (fun h43 => absurd h43 (by omega))
    exact K S Fr.rf hD
  | succ d ih =>
    intro b S hy hI hw hD K
    have hs := hI.1
    have g6 : ah * (rows * bh) ≤ 6561 := by rw [← Nat.mul_assoc]; omega
    have g10 : ah ≤ 6561 := Nat.le_trans (Nat.le_mul_of_pos_right ah (Nat.mul_pos hr0 hb0)) g6
    refine r_iload (q := 41) dX1_putTable_39 rfl rfl ?_
    refine r_iload (q := 43) dX1_putTable_41 rfl rfl ?_
    refine r_icmp_geN (q := 46) (t := 169) (by omega) (by omega) dX1_putTable_43 (by decide) rfl (fun h43 => absurd h43 (by omega)) (fun h43 => ?_)
    refine r_iconst (q := 47) (nI 0) dX1_putTable_46 rfl (by decide) ?_
    refine r_istore (q := 49) (L' := [some (zr 1 0), some (zr 9 c), some (zi (nI a)), some (zr 7 0), some (zi (nI ah)), some (zi (nI bh)), some (zi (nI w)), some (zi (nI rows)), some (zi (nI b)), some (zi (nI 0)), none, none, none]) dX1_putTable_47 rfl (by decide) rfl ?_
    refine lp_pt49 hc4 ha3 h1 h3 hP2 hP97 hr0 hb0 hrw hN hN2 hL (show b < ah by omega) rows 0 S (by omega) hI hw (fun i hi => hD i (by rw [Nat.add_zero] at hi; exact hi)) (fun S1 f1 h2 => ?_)
    have hs1 : Sd S1 := hs.fr f1
    refine r_iincN (q := 166) (L' := [some (zr 1 0), some (zr 9 c), some (zi (nI a)), some (zr 7 0), some (zi (nI ah)), some (zi (nI bh)), some (zi (nI w)), some (zi (nI rows)), some (zi (nI (b + 1))), some (zi (nI rows)), none, none, none]) 1 rfl dX1_putTable_163 rfl rfl (by decide) rfl ?_
    refine r_goto (q := 39) dX1_putTable_166 (by decide) ?_
    refine r_mask [true, true, true, true, true, true, true, true, true, false, false, false, false] rfl ?_
    exact ih (b + 1) S1 (by omega) (hI.fr f1) ((f1.1 _ _ _ rfl).trans hw) (fun i hi => h2 i (by rw [Nat.succ_mul] at hi; exact hi)) (fun S2 f2 h3 => K S2 (f1.tr f2) h3)

theorem wg_200 {S : zS} (hs : Sd S) : gR S 1 0 0 = some (200, 0) ∧ gR S 1 0 1 = some (201, 0) := ⟨hs.r (by decide) (by decide), hs.r (by decide) (by decide)⟩
theorem wg_ren {S : zS} (hs : Sd S) {G : zG} {adr : zA} {H : Heap} (hR : Rep G adr (sR (sR S 1 0 0 (some (201, 0))) 1 0 1 (some (200, 0))) H) : Rep G (swA 200 0 201 0 adr) (swB S) H :=
  rep_sw2 (by decide) (by decide) rfl rfl (by decide) (by decide) (by decide) (by decide) (hs.e (by decide)) (hs.e (by decide)) (wg_200 hs).1 (wg_200 hs).2 (fun x y z h => by
    have := hs.2.2.2.1 x y z _ h rfl
    have e : gO 200 = (1, 0) := rfl
    rw [e] at this
    exact ⟨congrArg Prod.fst this.2.1, this.2.2, congrArg Prod.snd this.2.1⟩) (fun x y z h => by
    have := hs.2.2.2.1 x y z _ h rfl
    have e : gO 201 = (1, 1) := rfl
    rw [e] at this
    exact ⟨congrArg Prod.fst this.2.1, this.2.2, congrArg Prod.snd this.2.1⟩) hR
def tBk1 (a b _k : Nat) : Prop := (a = 200 ∨ a = 201) ∧ b = 0
theorem fg_swB {S : zS} (hs : Sd S) : Fg tBk1 S (swB S) := by
  have e1 : sm (fun j => c8 (gN (swB S) 902 j)) 19 = sm (fun j => c8 (gN S 902 j)) 19 := sm_cong fun j _ => by rw [swB_N (by omega)]
  have e2 : sm (fun j => c0 (gN (swB S) 107 j)) 4 = sm (fun j => c0 (gN S 107 j)) 4 := sm_cong fun j _ => by rw [swB_N (by omega)]
  have e3 : sm (fun j => q8 (gN (swB S) 902 j)) 19 = sm (fun j => q8 (gN S 902 j)) 19 := sm_cong fun j _ => by rw [swB_N (by omega)]
  have e4 : sm (fun j => q0 (gN (swB S) 107 j)) 4 = sm (fun j => q0 (gN S 107 j)) 4 := sm_cong fun j _ => by rw [swB_N (by omega)]
  have e5 : gN (swB S) 202 0 = gN S 202 0 := swB_N (by omega)
  refine ⟨sd_swB hs, fun a b k _ h => swB_I h, fun a b k _ h => rfl, fun a b _ h => swB_N h, ?_, ?_⟩
  · unfold pC
    rw [e1, e2, e5]
    exact Nat.le_refl _
  · unfold pQ
    rw [e3, e4, e5]
    exact Nat.le_refl _

set_option maxRecDepth 100000 in
theorem ok_putTable {S : zS} {c a w P L e lf op : Nat} {tb B : Nat → Nat} (hc4 : c < 4) (ha3 : a < 3) (h1 : 1 ≤ w) (h3 : w ≤ 3) (hP2 : 2 ≤ P) (hP97 : P ≤ 97) (he4 : e ≤ 4) (hlf : lf < op) (hN : w ^ (op + e) ≤ L) (hL : L ≤ 6561) (hI : PtI S c a w P L tb B (w ^ (op + 1))) (hw : gI S 7 0 0 = nI w) (hea : gI S 1003 c a = nI e) (he1 : 1 ≤ e) : Ok mX1_putTable1 0 (ent 13 [zr 1 0, zr 9 c, zi (nI a), zr 7 0, zi (nI (w ^ lf)), zi (nI (w ^ (op - lf)))]) [] S (fun r S1 => r = none ∧ Fg tBk1 S S1 ∧ gN S1 200 0 = L ∧ gN S1 201 0 = L ∧ ∀ i, i < w ^ (op + e) → gI S1 200 0 i = nI (ptB w P tb (w ^ e) (w ^ (op - lf)) B i) ∧ ptB w P tb (w ^ e) (w ^ (op - lf)) B i < P) := by
  have hs := hI.1
  have q1 : w ^ lf * w * w ^ (op - lf) = w ^ (op + 1) := by rw [← Nat.pow_succ, ← Nat.pow_add]; congr 1; omega
  have q2 : w ^ lf * w ^ e * w ^ (op - lf) = w ^ (op + e) := by rw [← Nat.pow_add, ← Nat.pow_add]; congr 1; omega
  have q3 : w ^ (op + 1) ≤ w ^ (op + e) := Nat.pow_le_pow_right h1 (by omega)
  have q4 : 0 < w ^ lf := Nat.pow_pos h1
  have q5 : 0 < w ^ e := Nat.pow_pos h1
  have q6 : 0 < w ^ (op - lf) := Nat.pow_pos h1
  have q7 : w ^ e * w ≤ 243 := by rw [← Nat.pow_succ]; exact Nat.le_trans (Nat.pow_le_pow_left h3 _) (Nat.pow_le_pow_right (by decide) (show e + 1 ≤ 5 by omega))
  have q8 : w ^ lf ≤ w ^ (op + e) := Nat.pow_le_pow_right h1 (by omega)
  have q9 : w ^ e ≤ w ^ (op + e) := Nat.pow_le_pow_right h1 (by omega)
  have q10 : w ^ (op - lf) ≤ w ^ (op + e) := Nat.pow_le_pow_right h1 (by omega)
  show Ok mX1_putTable1 0 [some (zr 1 0), some (zr 9 c), some (zi (nI a)), some (zr 7 0), some (zi (nI (w ^ lf))), some (zi (nI (w ^ (op - lf)))), none, none, none, none, none, none, none] [] S _
  refine r_aload_n (q := 1) dX1_putTable_0 rfl rfl rfl ?_
  refine r_geti (q := 4) ck7 dX1_putTable_1 rfl (k := 0) (by decide) wt38 (Or.inl rfl) (hs.e (by decide)) ?_
  refine r_topi (y := nI w) hw ?_
  refine r_istore (q := 6) (L' := [some (zr 1 0), some (zr 9 c), some (zi (nI a)), some (zr 7 0), some (zi (nI (w ^ lf))), some (zi (nI (w ^ (op - lf)))), some (zi (nI w)), none, none, none, none, none, none]) dX1_putTable_4 rfl (by decide) rfl ?_
  refine r_iload (q := 8) dX1_putTable_6 rfl rfl ?_
  refine r_aload_n (q := 9) dX1_putTable_8 rfl rfl rfl ?_
  refine r_getr (q := 12) (some (1003, c)) ck9 dX1_putTable_9 rfl (k := 3) (by decide) wt307 rfl (hs.e (show c < 4 by omega)) (hs.r (show c < 4 by omega) (by decide)) ?_
  refine r_iload_n (q := 13) dX1_putTable_12 rfl rfl rfl ?_
  refine r_ialdN (q := 14) 3 (by decide) rfl dX1_putTable_13 rfl (hs.e (show c < 4 by omega)) (hs.n rfl (show c < 4 by omega)) (by omega) (by decide) ?_
  refine r_topi (y := nI e) hea ?_
  refine r_callSN (Mc := mX11_power) (q := 17) (As := [zi (nI w), zi (nI e)]) (st := []) dX1_putTable_14 rfl rfl mkX11_power wn1103 wt1089 rfl (Nat.le_of_ble_eq_true rfl) (Nat.le_of_ble_eq_true rfl) (by decide) (by decide) (by decide) (Or.inl rfl) hs.some (ok_pow h1 h3 (by omega)) (fun r14 S14 hp14 => ?_)
  obtain ⟨rfl, hq14⟩ := hp14
  rw [hq14]
  show Ok _ _ _ [zi (nI (w ^ e))] _ _
  refine r_istore (q := 19) (L' := [some (zr 1 0), some (zr 9 c), some (zi (nI a)), some (zr 7 0), some (zi (nI (w ^ lf))), some (zi (nI (w ^ (op - lf)))), some (zi (nI w)), some (zi (nI (w ^ e))), none, none, none, none, none]) dX1_putTable_17 rfl (by decide) rfl ?_
  refine r_iload (q := 21) dX1_putTable_19 rfl rfl ?_
  refine r_iload (q := 23) dX1_putTable_21 rfl rfl ?_
  refine r_imulN (q := 24) dX1_putTable_23 rfl ?_
  refine r_topi (y := nI (w ^ lf * w ^ e)) rfl ?_
  refine r_iload (q := 26) dX1_putTable_24 rfl rfl ?_
  refine r_imulN (q := 27) dX1_putTable_26 rfl ?_
  refine r_topi (y := nI (w ^ (op + e))) (congrArg nI q2) ?_
  refine r_aload_n (q := 28) dX1_putTable_27 rfl rfl rfl ?_
  refine r_getr (q := 31) (some (201, 0)) ck1 dX1_putTable_28 rfl (k := 1) (by decide) wt229 rfl (hs.e (by decide)) (hs.r (by decide) (by decide)) ?_
  refine r_alen (q := 32) (by decide) (by decide) dX1_putTable_31 rfl (hs.e (by decide)) ?_
  refine r_topi (y := nI L) (congrArg nI hI.2.2.2.2.1) ?_
  refine r_icmp_leN (q := 35) (t := 36) (by omega) (by omega) dX1_putTable_32 (by decide) rfl (fun h32 => ?_) (fun h32 => absurd h32 (by omega))
  refine r_iconst (q := 37) (nI 0) dX1_putTable_36 rfl (by decide) ?_
  refine r_istore (q := 39) (L' := [some (zr 1 0), some (zr 9 c), some (zi (nI a)), some (zr 7 0), some (zi (nI (w ^ lf))), some (zi (nI (w ^ (op - lf)))), some (zi (nI w)), some (zi (nI (w ^ e))), some (zi (nI 0)), none, none, none, none]) dX1_putTable_37 rfl (by decide) rfl ?_
  refine lp_pt39 (rows := w ^ e) (ah := w ^ lf) (bh := w ^ (op - lf)) (tb := tb) (B := B) hc4 ha3 h1 h3 hP2 hP97 q5 q6 q7 (by rw [q2]; exact hN) (by rw [q1]; omega) hL (w ^ lf) 0 S (by omega) (by rw [q1]; exact hI) hw (fun i hi => absurd hi (by rw [Nat.zero_mul, Nat.zero_mul]; exact Nat.not_lt_zero i)) (fun S1 f1 hD => ?_)
  rw [q2] at hD
  have hs1 : Sd S1 := hs.fr f1
  refine r_aload_n (q := 170) dX1_putTable_169 rfl rfl rfl ?_
  refine r_getr (q := 173) (some (200, 0)) ck1 dX1_putTable_170 rfl (k := 0) (by decide) wt228 rfl (hs1.e (by decide)) (hs1.r (by decide) (by decide)) ?_
  refine r_astore (q := 175) (L' := [some (zr 1 0), some (zr 9 c), some (zi (nI a)), some (zr 7 0), some (zi (nI (w ^ lf))), some (zi (nI (w ^ (op - lf)))), some (zi (nI w)), some (zi (nI (w ^ e))), some (zr 200 0), none, none, none, none]) dX1_putTable_173 rfl (by decide) rfl ?_
  refine r_aload_n (q := 176) dX1_putTable_175 rfl rfl rfl ?_
  refine r_aload_n (q := 177) dX1_putTable_176 rfl rfl rfl ?_
  refine r_getr (q := 180) (some (201, 0)) ck1 dX1_putTable_177 rfl (k := 1) (by decide) wt229 rfl (hs1.e (by decide)) (hs1.r (by decide) (by decide)) ?_
  refine r_putr (q := 183) (r := some (201, 0)) (fun p hp => by cases hp; exact hs1.e (by decide)) ck1 dX1_putTable_180 rfl (k := 0) (by decide) wt228 (Or.inl rfl) rfl (hs1.e (by decide)) ?_
  refine r_aload_n (q := 184) dX1_putTable_183 rfl rfl rfl ?_
  refine r_aload (q := 186) dX1_putTable_184 rfl rfl ?_
  refine r_putr (q := 189) (S := sR S1 1 0 0 (some (201, 0))) (r := some (200, 0)) (fun p hp => by cases hp; exact hs1.e (by decide)) ck1 dX1_putTable_186 rfl (k := 1) (by decide) wt229 (Or.inl rfl) rfl (hs1.e (by decide)) ?_
  refine r_mask [true, true, true, true, true, true, true, true, false, false, false, false, false] rfl ?_
  refine r_ren (S := sR (sR S1 1 0 0 (some (201, 0))) 1 0 1 (some (200, 0))) (S1 := swB S1) (a1 := 200) (b1 := 0) (a2 := 201) (b2 := 0) (by decide) rfl rfl rfl rfl rfl rfl (fun _ _ => rfl) (fun G adr H hR => wg_ren hs1 hR) ?_
  refine r_return dX1_putTable_189 rfl ?_
  exact ⟨rfl, (f1.fg hs (fun a b k z => by simp [t201] at z; exact ⟨Or.inr z.1, z.2⟩)).tr (fg_swB hs1), swB_n.1.trans ((gN_22 f1.2.2).trans hI.2.2.2.2.1), swB_n.2.trans ((gN_22 f1.2.2).trans hI.2.2.2.1), fun i hi => ⟨swB_0.1.trans (hD i hi), Nat.mod_lt _ (by omega)⟩⟩

