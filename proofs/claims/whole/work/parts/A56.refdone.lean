/-! done, the reference -/
def tTk (x y k : Nat) : Bool := x == 12 && y == 0 && (k == 0 || k == 2 || k == 3 || k == 4 || k == 5)
def tRdn (x y k : Nat) : Bool := tTk x y k || tRdt x y k || x == 1387 && y == 0

set_option maxRecDepth 100000 in
theorem rm_dn_l {S : zS} (hs : Sd S) {bs : List Nat} (hb9 : bs.length ≤ 940) (hl : gI S 12 0 2 = nI bs.length) {n w : Nat} (hn7 : n ≤ 7) (hn0 : gI S 1306 0 1173 = nI n) (h1 : 1 ≤ w) (h3 : w ≤ 3) (hw : gI S 1306 0 3 = nI w) (hx : bs.length ≠ n) {a : Int32} : Ok mX12_done 0 (ent 3 [zr 12 0, zi a]) [] S (fun r S1 => r = some (zi (-1)) ∧ Fr tRdn S S1 ∧ gI S1 12 0 2 = nI 0) := by
  show Ok mX12_done 0 [some (zr 12 0), some (zi a), none] [] S _
  refine r_aload_n (q := 1) dX12_done_0 rfl rfl rfl ?_
  refine r_iconst (q := 2) (nI 0) dX12_done_1 rfl (by decide) ?_
  refine r_puti (q := 5) ck12 dX12_done_2 rfl (k := 0) (by decide) wt1278 (Or.inl rfl) rfl (hs.e (by decide)) ?_
  refine r_aload_n (q := 6) dX12_done_5 rfl rfl rfl ?_
  refine r_sipush (q := 9) (nI 940) dX12_done_6 rfl (by decide) ?_
  refine r_callV (Mc := mX12_taken) (q := 12) (As := [zi (nI 940)]) (st := []) ck12 dX12_done_9 rfl rfl mkX12_taken wt1565 wt1567 wp68 rfl (Nat.le_of_ble_eq_true rfl) (Nat.le_of_ble_eq_true rfl) (by decide) (by decide) (by decide) (Or.inl rfl) (hs.e (by decide)) (ok_X12_taken (S := sI S 12 0 0 (nI 0)) hs (nI 940)) (fun r9 S9 hp9 => ?_)
  obtain ⟨rfl, hq9⟩ := hp9
  rw [hq9]
  have f9 : Fr tTk S (sI (sI (sI (sI (sI S 12 0 0 (nI 0)) 12 0 3 (gI (sI S 12 0 0 (nI 0)) 12 0 2)) 12 0 2 (nI 0)) 12 0 4 (nI 0)) 12 0 5 (nI 940)) := (((((Fr.rf).i rfl).i rfl).i rfl).i rfl).i rfl
  have h93 : gI (sI (sI (sI (sI (sI S 12 0 0 (nI 0)) 12 0 3 (gI (sI S 12 0 0 (nI 0)) 12 0 2)) 12 0 2 (nI 0)) 12 0 4 (nI 0)) 12 0 5 (nI 940)) 12 0 3 = nI bs.length := by
    rw [gI_sI, if_neg (by omega), gI_sI, if_neg (by omega), gI_sI, if_neg (by omega), gI_sI, if_pos ⟨rfl, rfl, rfl⟩, gI_sI, if_neg (by omega)]; exact hl
  have h92 : gI (sI (sI (sI (sI (sI S 12 0 0 (nI 0)) 12 0 3 (gI (sI S 12 0 0 (nI 0)) 12 0 2)) 12 0 2 (nI 0)) 12 0 4 (nI 0)) 12 0 5 (nI 940)) 12 0 2 = nI 0 := by rw [gI_sI, if_neg (by omega), gI_sI, if_neg (by omega), gI_sI, if_pos ⟨rfl, rfl, rfl⟩]
  obtain ⟨S9, hS9⟩ : ∃ S9, S9 = sI (sI (sI (sI (sI S 12 0 0 (nI 0)) 12 0 3 (gI (sI S 12 0 0 (nI 0)) 12 0 2)) 12 0 2 (nI 0)) 12 0 4 (nI 0)) 12 0 5 (nI 940) := ⟨_, rfl⟩
  rw [← hS9] at f9 h93 h92 ⊢
  have hs9 : Sd S9 := hs.fr f9
  have hn9 : gI S9 1306 0 1173 = nI n := (f9.1 _ _ _ rfl).trans hn0
  have hw9 : gI S9 1306 0 3 = nI w := (f9.1 _ _ _ rfl).trans hw
  show Ok _ _ _ [] _ _
  refine r_aload_n (q := 13) dX12_done_12 rfl rfl rfl ?_
  refine r_geti (q := 16) ck12 dX12_done_13 rfl (k := 3) (by decide) wt1281 (Or.inl rfl) (hs9.e (by decide)) ?_
  refine r_topi (y := nI bs.length) h93 ?_
  refine r_aload_n (q := 17) dX12_done_16 rfl rfl rfl ?_
  refine r_getr (q := 20) (some (1306, 0)) ck12 dX12_done_17 rfl (k := 6) (by decide) wt1284 rfl (hs9.e (by decide)) (hs9.r (by decide) (by decide)) ?_
  refine r_sipush (q := 23) (nI 1173) dX12_done_20 rfl (by decide) ?_
  refine r_ialdN (q := 24) 3775 (by decide) rfl dX12_done_23 rfl (hs9.e (by decide)) (hs9.n rfl (by decide)) (by omega) (by decide) ?_
  refine r_topi (y := nI n) hn9 ?_
  refine r_icmp_neN (q := 27) (t := 43) (by omega) (by omega) dX12_done_24 (by decide) rfl (fun h24 => ?_) (fun h24 => absurd h24 (by omega))
  refine r_iconst (q := 44) ((-1 : Int32)) dX12_done_43 rfl (by decide) ?_
  refine r_ireturn dX12_done_44 rfl ?_
  exact ⟨rfl, f9.mono (fun x y k h => by simp [tRdn, h]), h92⟩

theorem lt_succI {a : Int32} {n : Nat} (hn : n < 1000) (h : a ≤ nI n) : a < nI (n + 1) := by
  rw [Int32.lt_iff_toInt_lt]
  rw [Int32.le_iff_toInt_le] at h
  rw [nI_toInt (by omega)] at h ⊢
  omega

set_option maxRecDepth 100000 in
theorem rm_dn_a {S : zS} (hs : Sd S) {bs : List Nat} (hb9 : bs.length ≤ 940) (hl : gI S 12 0 2 = nI bs.length) {n w : Nat} (hn7 : n ≤ 7) (hn0 : gI S 1306 0 1173 = nI n) (h1 : 1 ≤ w) (h3 : w ≤ 3) (hw : gI S 1306 0 3 = nI w) (hx : bs.length = n) {a : Int32} (ha : ¬ (0 ≤ a ∧ a < nI w)) : Ok mX12_done 0 (ent 3 [zr 12 0, zi a]) [] S (fun r S1 => r = some (zi (-1)) ∧ Fr tRdn S S1 ∧ gI S1 12 0 2 = nI 0) := by
  show Ok mX12_done 0 [some (zr 12 0), some (zi a), none] [] S _
  refine r_aload_n (q := 1) dX12_done_0 rfl rfl rfl ?_
  refine r_iconst (q := 2) (nI 0) dX12_done_1 rfl (by decide) ?_
  refine r_puti (q := 5) ck12 dX12_done_2 rfl (k := 0) (by decide) wt1278 (Or.inl rfl) rfl (hs.e (by decide)) ?_
  refine r_aload_n (q := 6) dX12_done_5 rfl rfl rfl ?_
  refine r_sipush (q := 9) (nI 940) dX12_done_6 rfl (by decide) ?_
  refine r_callV (Mc := mX12_taken) (q := 12) (As := [zi (nI 940)]) (st := []) ck12 dX12_done_9 rfl rfl mkX12_taken wt1565 wt1567 wp68 rfl (Nat.le_of_ble_eq_true rfl) (Nat.le_of_ble_eq_true rfl) (by decide) (by decide) (by decide) (Or.inl rfl) (hs.e (by decide)) (ok_X12_taken (S := sI S 12 0 0 (nI 0)) hs (nI 940)) (fun r9 S9 hp9 => ?_)
  obtain ⟨rfl, hq9⟩ := hp9
  rw [hq9]
  have f9 : Fr tTk S (sI (sI (sI (sI (sI S 12 0 0 (nI 0)) 12 0 3 (gI (sI S 12 0 0 (nI 0)) 12 0 2)) 12 0 2 (nI 0)) 12 0 4 (nI 0)) 12 0 5 (nI 940)) := (((((Fr.rf).i rfl).i rfl).i rfl).i rfl).i rfl
  have h93 : gI (sI (sI (sI (sI (sI S 12 0 0 (nI 0)) 12 0 3 (gI (sI S 12 0 0 (nI 0)) 12 0 2)) 12 0 2 (nI 0)) 12 0 4 (nI 0)) 12 0 5 (nI 940)) 12 0 3 = nI bs.length := by
    rw [gI_sI, if_neg (by omega), gI_sI, if_neg (by omega), gI_sI, if_neg (by omega), gI_sI, if_pos ⟨rfl, rfl, rfl⟩, gI_sI, if_neg (by omega)]; exact hl
  have h92 : gI (sI (sI (sI (sI (sI S 12 0 0 (nI 0)) 12 0 3 (gI (sI S 12 0 0 (nI 0)) 12 0 2)) 12 0 2 (nI 0)) 12 0 4 (nI 0)) 12 0 5 (nI 940)) 12 0 2 = nI 0 := by rw [gI_sI, if_neg (by omega), gI_sI, if_neg (by omega), gI_sI, if_pos ⟨rfl, rfl, rfl⟩]
  obtain ⟨S9, hS9⟩ : ∃ S9, S9 = sI (sI (sI (sI (sI S 12 0 0 (nI 0)) 12 0 3 (gI (sI S 12 0 0 (nI 0)) 12 0 2)) 12 0 2 (nI 0)) 12 0 4 (nI 0)) 12 0 5 (nI 940) := ⟨_, rfl⟩
  rw [← hS9] at f9 h93 h92 ⊢
  have hs9 : Sd S9 := hs.fr f9
  have hn9 : gI S9 1306 0 1173 = nI n := (f9.1 _ _ _ rfl).trans hn0
  have hw9 : gI S9 1306 0 3 = nI w := (f9.1 _ _ _ rfl).trans hw
  show Ok _ _ _ [] _ _
  refine r_aload_n (q := 13) dX12_done_12 rfl rfl rfl ?_
  refine r_geti (q := 16) ck12 dX12_done_13 rfl (k := 3) (by decide) wt1281 (Or.inl rfl) (hs9.e (by decide)) ?_
  refine r_topi (y := nI bs.length) h93 ?_
  refine r_aload_n (q := 17) dX12_done_16 rfl rfl rfl ?_
  refine r_getr (q := 20) (some (1306, 0)) ck12 dX12_done_17 rfl (k := 6) (by decide) wt1284 rfl (hs9.e (by decide)) (hs9.r (by decide) (by decide)) ?_
  refine r_sipush (q := 23) (nI 1173) dX12_done_20 rfl (by decide) ?_
  refine r_ialdN (q := 24) 3775 (by decide) rfl dX12_done_23 rfl (hs9.e (by decide)) (hs9.n rfl (by decide)) (by omega) (by decide) ?_
  refine r_topi (y := nI n) hn9 ?_
  refine r_icmp_neN (q := 27) (t := 43) (by omega) (by omega) dX12_done_24 (by decide) rfl (fun h24 => absurd h24 (by omega)) (fun h24 => ?_)
  refine r_iload_n (q := 28) dX12_done_27 rfl rfl rfl ?_
  refine r_iconst (q := 29) (nI 0) dX12_done_28 rfl (by decide) ?_
  refine r_aload_n (q := 30) dX12_done_29 rfl rfl rfl ?_
  refine r_getr (q := 33) (some (1306, 0)) ck12 dX12_done_30 rfl (k := 6) (by decide) wt1284 rfl (hs9.e (by decide)) (hs9.r (by decide) (by decide)) ?_
  refine r_iconst (q := 34) (nI 3) dX12_done_33 rfl (by decide) ?_
  refine r_ialdN (q := 35) 3775 (by decide) rfl dX12_done_34 rfl (hs9.e (by decide)) (hs9.n rfl (by decide)) (by omega) (by decide) ?_
  refine r_topi (y := nI w) hw9 ?_
  refine r_iconst (q := 36) (nI 1) dX12_done_35 rfl (by decide) ?_
  refine r_isubN (q := 37) (by omega) dX12_done_36 rfl ?_
  refine r_callS (Mc := mX12_isIn) (q := 40) (As := [zi a, zi (nI 0), zi (nI (w - 1))]) (st := []) dX12_done_37 rfl rfl mkX12_isIn wt1614 wt1615 rfl (Nat.le_of_ble_eq_true rfl) (Nat.le_of_ble_eq_true rfl) (by decide) (by decide) (by decide) (Or.inl rfl) hs9.some (ok_X12_isIn_out (fun z => ha ⟨z.1, by have h := lt_succI (n := w - 1) (by omega) z.2; rw [show w - 1 + 1 = w by omega] at h; exact h⟩)) (fun r37 S37 hp37 => ?_)
  obtain ⟨rfl, hq37⟩ := hp37
  rw [hq37]
  show Ok _ _ _ [zi (nI 0)] _ _
  refine r_if_neN (q := 43) (t := 45) (by omega) dX12_done_40 (by decide) rfl (fun h40 => absurd h40 (by omega)) (fun h40 => ?_)
  refine r_iconst (q := 44) ((-1 : Int32)) dX12_done_43 rfl (by decide) ?_
  refine r_ireturn dX12_done_44 rfl ?_
  exact ⟨rfl, f9.mono (fun x y k h => by simp [tRdn, h]), h92⟩

def tWyo (x y _k : Nat) : Bool := x == 1387 && y == 0

set_option maxRecDepth 100000 in
theorem lp_rn47y {bs : List Nat} (hb7 : bs.length ≤ 7) {w y : Nat} (h1 : 1 ≤ w) (h3 : w ≤ 3) {Po : Option zV → zS → Prop} (hal : ∀ i, i < bs.length → bs.getD i 0 < w) : ∀ (d i : Nat) (S : zS), i + d = bs.length → Sd S → Bs S 1301 bs → gI S 12 0 3 = nI bs.length → gI S 1306 0 3 = nI w → (∀ k, k < i → gI S 1387 0 k = nI (bs.getD k 0)) → (∀ k, k < i → bs.getD k 0 < w) → (∀ S1, Fr tWyo S S1 → (∀ k, k < bs.length → gI S1 1387 0 k = nI (bs.getD k 0)) → Ok mX12_done 89 [some (zr 12 0), some (zi (nI y)), some (zi (nI bs.length))] [] S1 Po) → Ok mX12_done 47 [some (zr 12 0), some (zi (nI y)), some (zi (nI i))] [] S Po := by
  intro d
  induction d with
  | zero =>
    intro i S hi hs hB hsz hw hwy hlo K
    have ei : i = bs.length := by omega
    subst ei
    refine r_iload_n (q := 48) dX12_done_47 rfl rfl rfl ?_
    refine r_aload_n (q := 49) dX12_done_48 rfl rfl rfl ?_
    refine r_geti (q := 52) ck12 dX12_done_49 rfl (k := 3) (by decide) wt1281 (Or.inl rfl) (hs.e (by decide)) ?_
    refine r_topi (y := nI bs.length) hsz ?_
    refine r_icmp_geN (q := 55) (t := 89) (by omega) (by omega) dX12_done_52 (by decide) rfl (fun h52 => ?_) (fun h52 => absurd h52 (by omega))
    exact K S Fr.rf hwy
  | succ d ih =>
    intro i S hi hs hB hsz hw hwy hlo K
    have h256 := hB.lt i
    have hby : (gI S 1301 0 i) &&& nI 255 = nI (bs.getD i 0) := by rw [hB.1 i (by omega)]; exact sbt_255 _ h256
    obtain ⟨S1, hS1⟩ : ∃ S1, S1 = sI S 1387 0 i (nI (bs.getD i 0)) := ⟨_, rfl⟩
    have f1 : Fr tWyo S S1 := by rw [hS1]; exact (Fr.rf).i rfl
    have hs1 : Sd S1 := hs.fr f1
    have hr1 : gI S1 1387 0 i = nI (bs.getD i 0) := by rw [hS1, gI_sI, if_pos ⟨rfl, rfl, rfl⟩]
    have hw1 : gI S1 1306 0 3 = nI w := (f1.1 _ _ _ rfl).trans hw
    have hiw := hal i (by omega)
    refine r_iload_n (q := 48) dX12_done_47 rfl rfl rfl ?_
    refine r_aload_n (q := 49) dX12_done_48 rfl rfl rfl ?_
    refine r_geti (q := 52) ck12 dX12_done_49 rfl (k := 3) (by decide) wt1281 (Or.inl rfl) (hs.e (by decide)) ?_
    refine r_topi (y := nI bs.length) hsz ?_
    refine r_icmp_geN (q := 55) (t := 89) (by omega) (by omega) dX12_done_52 (by decide) rfl (fun h52 => absurd h52 (by omega)) (fun h52 => ?_)
    refine r_aload_n (q := 56) dX12_done_55 rfl rfl rfl ?_
    refine r_getr (q := 59) (some (1387, 0)) ck12 dX12_done_56 rfl (k := 87) (by decide) wt1365 rfl (hs.e (by decide)) (hs.r (by decide) (by decide)) ?_
    refine r_iload_n (q := 60) dX12_done_59 rfl rfl rfl ?_
    refine r_aload_n (q := 61) dX12_done_60 rfl rfl rfl ?_
    refine r_iload_n (q := 62) dX12_done_61 rfl rfl rfl ?_
    refine r_callV (Mc := mX12_octet) (q := 65) (As := [zi (nI i)]) (st := [zi (nI i), zr 1387 0]) ck12 dX12_done_62 rfl rfl mkX12_octet wt1984 wt1986 wp141 rfl (Nat.le_of_ble_eq_true rfl) (Nat.le_of_ble_eq_true rfl) (by decide) (by decide) (by decide) (Or.inl rfl) (hs.e (by decide)) (ok_X12_octet hs (show i < 940 by omega)) (fun r62 S62 hp62 => ?_)
    rw [hby] at hp62
    obtain ⟨rfl, hq62⟩ := hp62
    rw [hq62]
    show Ok _ _ _ [zi (nI (bs.getD i 0)), zi (nI i), zr 1387 0] _ _
    refine r_iastN (q := 66) 8 (by decide) rfl dX12_done_65 rfl (hs.e (by decide)) (hs.n rfl (by decide)) (by omega) (by decide) ?_
    rw [← hS1]
    refine r_aload_n (q := 67) dX12_done_66 rfl rfl rfl ?_
    refine r_getr (q := 70) (some (1387, 0)) ck12 dX12_done_67 rfl (k := 87) (by decide) wt1365 rfl (hs1.e (by decide)) (hs1.r (by decide) (by decide)) ?_
    refine r_iload_n (q := 71) dX12_done_70 rfl rfl rfl ?_
    refine r_ialdN (q := 72) 8 (by decide) rfl dX12_done_71 rfl (hs1.e (by decide)) (hs1.n rfl (by decide)) (by omega) (by decide) ?_
    refine r_topi (y := nI (bs.getD i 0)) hr1 ?_
    refine r_aload_n (q := 73) dX12_done_72 rfl rfl rfl ?_
    refine r_getr (q := 76) (some (1306, 0)) ck12 dX12_done_73 rfl (k := 6) (by decide) wt1284 rfl (hs1.e (by decide)) (hs1.r (by decide) (by decide)) ?_
    refine r_iconst (q := 77) (nI 3) dX12_done_76 rfl (by decide) ?_
    refine r_ialdN (q := 78) 3775 (by decide) rfl dX12_done_77 rfl (hs1.e (by decide)) (hs1.n rfl (by decide)) (by omega) (by decide) ?_
    refine r_topi (y := nI w) hw1 ?_
    refine r_icmp_ltN (q := 81) (t := 83) (by omega) (by omega) dX12_done_78 (by decide) rfl (fun h78 => ?_) (fun h78 => absurd h78 (by omega))
    refine r_iincN (q := 86) (L' := [some (zr 12 0), some (zi (nI y)), some (zi (nI (i + 1)))]) 1 rfl dX12_done_83 rfl rfl (by decide) rfl ?_
    refine r_goto (q := 47) dX12_done_86 (by decide) ?_
    exact ih (i + 1) S1 (by omega) hs1 ⟨fun k hk => (f1.1 _ _ _ rfl).trans (hB.1 k hk), hB.2⟩ ((f1.1 _ _ _ rfl).trans hsz) hw1 (fun k hk => by rw [hS1, gI_sI]; by_cases e1 : k = i; (rw [if_pos ⟨rfl, rfl, e1⟩, e1]); (rw [if_neg (by omega)]; exact hwy k (by omega))) (fun k hk => (Nat.lt_succ_iff_lt_or_eq.mp hk).elim (hlo k) (fun z => by rw [z]; exact hiw)) (fun S2 g h => K S2 (f1.tr g) h)

set_option maxRecDepth 100000 in
theorem lp_rn47n {bs : List Nat} (hb7 : bs.length ≤ 7) {w y : Nat} (h1 : 1 ≤ w) (h3 : w ≤ 3)  (hal : ¬ ∀ i, i < bs.length → bs.getD i 0 < w) : ∀ (d i : Nat) (S : zS), i + d = bs.length → Sd S → Bs S 1301 bs → gI S 12 0 3 = nI bs.length → gI S 1306 0 3 = nI w → (∀ k, k < i → gI S 1387 0 k = nI (bs.getD k 0)) → (∀ k, k < i → bs.getD k 0 < w) → Ok mX12_done 47 [some (zr 12 0), some (zi (nI y)), some (zi (nI i))] [] S (fun r S1 => r = some (zi (-1)) ∧ Fr tWyo S S1) := by
  intro d
  induction d with
  | zero =>
    intro i S hi hs hB hsz hw hwy hlo
    have ei : i = bs.length := by omega
    subst ei
    exact absurd hlo hal
  | succ d ih =>
    intro i S hi hs hB hsz hw hwy hlo
    have h256 := hB.lt i
    have hby : (gI S 1301 0 i) &&& nI 255 = nI (bs.getD i 0) := by rw [hB.1 i (by omega)]; exact sbt_255 _ h256
    obtain ⟨S1, hS1⟩ : ∃ S1, S1 = sI S 1387 0 i (nI (bs.getD i 0)) := ⟨_, rfl⟩
    have f1 : Fr tWyo S S1 := by rw [hS1]; exact (Fr.rf).i rfl
    have hs1 : Sd S1 := hs.fr f1
    have hr1 : gI S1 1387 0 i = nI (bs.getD i 0) := by rw [hS1, gI_sI, if_pos ⟨rfl, rfl, rfl⟩]
    have hw1 : gI S1 1306 0 3 = nI w := (f1.1 _ _ _ rfl).trans hw
    by_cases hiw : bs.getD i 0 < w
    · skip
      refine r_iload_n (q := 48) dX12_done_47 rfl rfl rfl ?_
      refine r_aload_n (q := 49) dX12_done_48 rfl rfl rfl ?_
      refine r_geti (q := 52) ck12 dX12_done_49 rfl (k := 3) (by decide) wt1281 (Or.inl rfl) (hs.e (by decide)) ?_
      refine r_topi (y := nI bs.length) hsz ?_
      refine r_icmp_geN (q := 55) (t := 89) (by omega) (by omega) dX12_done_52 (by decide) rfl (fun h52 => absurd h52 (by omega)) (fun h52 => ?_)
      refine r_aload_n (q := 56) dX12_done_55 rfl rfl rfl ?_
      refine r_getr (q := 59) (some (1387, 0)) ck12 dX12_done_56 rfl (k := 87) (by decide) wt1365 rfl (hs.e (by decide)) (hs.r (by decide) (by decide)) ?_
      refine r_iload_n (q := 60) dX12_done_59 rfl rfl rfl ?_
      refine r_aload_n (q := 61) dX12_done_60 rfl rfl rfl ?_
      refine r_iload_n (q := 62) dX12_done_61 rfl rfl rfl ?_
      refine r_callV (Mc := mX12_octet) (q := 65) (As := [zi (nI i)]) (st := [zi (nI i), zr 1387 0]) ck12 dX12_done_62 rfl rfl mkX12_octet wt1984 wt1986 wp141 rfl (Nat.le_of_ble_eq_true rfl) (Nat.le_of_ble_eq_true rfl) (by decide) (by decide) (by decide) (Or.inl rfl) (hs.e (by decide)) (ok_X12_octet hs (show i < 940 by omega)) (fun r62 S62 hp62 => ?_)
      rw [hby] at hp62
      obtain ⟨rfl, hq62⟩ := hp62
      rw [hq62]
      show Ok _ _ _ [zi (nI (bs.getD i 0)), zi (nI i), zr 1387 0] _ _
      refine r_iastN (q := 66) 8 (by decide) rfl dX12_done_65 rfl (hs.e (by decide)) (hs.n rfl (by decide)) (by omega) (by decide) ?_
      rw [← hS1]
      refine r_aload_n (q := 67) dX12_done_66 rfl rfl rfl ?_
      refine r_getr (q := 70) (some (1387, 0)) ck12 dX12_done_67 rfl (k := 87) (by decide) wt1365 rfl (hs1.e (by decide)) (hs1.r (by decide) (by decide)) ?_
      refine r_iload_n (q := 71) dX12_done_70 rfl rfl rfl ?_
      refine r_ialdN (q := 72) 8 (by decide) rfl dX12_done_71 rfl (hs1.e (by decide)) (hs1.n rfl (by decide)) (by omega) (by decide) ?_
      refine r_topi (y := nI (bs.getD i 0)) hr1 ?_
      refine r_aload_n (q := 73) dX12_done_72 rfl rfl rfl ?_
      refine r_getr (q := 76) (some (1306, 0)) ck12 dX12_done_73 rfl (k := 6) (by decide) wt1284 rfl (hs1.e (by decide)) (hs1.r (by decide) (by decide)) ?_
      refine r_iconst (q := 77) (nI 3) dX12_done_76 rfl (by decide) ?_
      refine r_ialdN (q := 78) 3775 (by decide) rfl dX12_done_77 rfl (hs1.e (by decide)) (hs1.n rfl (by decide)) (by omega) (by decide) ?_
      refine r_topi (y := nI w) hw1 ?_
      refine r_icmp_ltN (q := 81) (t := 83) (by omega) (by omega) dX12_done_78 (by decide) rfl (fun h78 => ?_) (fun h78 => absurd h78 (by omega))
      refine r_iincN (q := 86) (L' := [some (zr 12 0), some (zi (nI y)), some (zi (nI (i + 1)))]) 1 rfl dX12_done_83 rfl rfl (by decide) rfl ?_
      refine r_goto (q := 47) dX12_done_86 (by decide) ?_
      exact Ok.mono (ih (i + 1) S1 (by omega) hs1 ⟨fun k hk => (f1.1 _ _ _ rfl).trans (hB.1 k hk), hB.2⟩ ((f1.1 _ _ _ rfl).trans hsz) hw1 (fun k hk => by rw [hS1, gI_sI]; by_cases e1 : k = i; (rw [if_pos ⟨rfl, rfl, e1⟩, e1]); (rw [if_neg (by omega)]; exact hwy k (by omega))) (fun k hk => (Nat.lt_succ_iff_lt_or_eq.mp hk).elim (hlo k) (fun z => by rw [z]; exact hiw))) (fun r S2 z => ⟨z.1, f1.tr z.2⟩)
    · skip
      refine r_iload_n (q := 48) dX12_done_47 rfl rfl rfl ?_
      refine r_aload_n (q := 49) dX12_done_48 rfl rfl rfl ?_
      refine r_geti (q := 52) ck12 dX12_done_49 rfl (k := 3) (by decide) wt1281 (Or.inl rfl) (hs.e (by decide)) ?_
      refine r_topi (y := nI bs.length) hsz ?_
      refine r_icmp_geN (q := 55) (t := 89) (by omega) (by omega) dX12_done_52 (by decide) rfl (fun h52 => absurd h52 (by omega)) (fun h52 => ?_)
      refine r_aload_n (q := 56) dX12_done_55 rfl rfl rfl ?_
      refine r_getr (q := 59) (some (1387, 0)) ck12 dX12_done_56 rfl (k := 87) (by decide) wt1365 rfl (hs.e (by decide)) (hs.r (by decide) (by decide)) ?_
      refine r_iload_n (q := 60) dX12_done_59 rfl rfl rfl ?_
      refine r_aload_n (q := 61) dX12_done_60 rfl rfl rfl ?_
      refine r_iload_n (q := 62) dX12_done_61 rfl rfl rfl ?_
      refine r_callV (Mc := mX12_octet) (q := 65) (As := [zi (nI i)]) (st := [zi (nI i), zr 1387 0]) ck12 dX12_done_62 rfl rfl mkX12_octet wt1984 wt1986 wp141 rfl (Nat.le_of_ble_eq_true rfl) (Nat.le_of_ble_eq_true rfl) (by decide) (by decide) (by decide) (Or.inl rfl) (hs.e (by decide)) (ok_X12_octet hs (show i < 940 by omega)) (fun r62 S62 hp62 => ?_)
      rw [hby] at hp62
      obtain ⟨rfl, hq62⟩ := hp62
      rw [hq62]
      show Ok _ _ _ [zi (nI (bs.getD i 0)), zi (nI i), zr 1387 0] _ _
      refine r_iastN (q := 66) 8 (by decide) rfl dX12_done_65 rfl (hs.e (by decide)) (hs.n rfl (by decide)) (by omega) (by decide) ?_
      rw [← hS1]
      refine r_aload_n (q := 67) dX12_done_66 rfl rfl rfl ?_
      refine r_getr (q := 70) (some (1387, 0)) ck12 dX12_done_67 rfl (k := 87) (by decide) wt1365 rfl (hs1.e (by decide)) (hs1.r (by decide) (by decide)) ?_
      refine r_iload_n (q := 71) dX12_done_70 rfl rfl rfl ?_
      refine r_ialdN (q := 72) 8 (by decide) rfl dX12_done_71 rfl (hs1.e (by decide)) (hs1.n rfl (by decide)) (by omega) (by decide) ?_
      refine r_topi (y := nI (bs.getD i 0)) hr1 ?_
      refine r_aload_n (q := 73) dX12_done_72 rfl rfl rfl ?_
      refine r_getr (q := 76) (some (1306, 0)) ck12 dX12_done_73 rfl (k := 6) (by decide) wt1284 rfl (hs1.e (by decide)) (hs1.r (by decide) (by decide)) ?_
      refine r_iconst (q := 77) (nI 3) dX12_done_76 rfl (by decide) ?_
      refine r_ialdN (q := 78) 3775 (by decide) rfl dX12_done_77 rfl (hs1.e (by decide)) (hs1.n rfl (by decide)) (by omega) (by decide) ?_
      refine r_topi (y := nI w) hw1 ?_
      refine r_icmp_ltN (q := 81) (t := 83) (by omega) (by omega) dX12_done_78 (by decide) rfl (fun h78 => absurd h78 (by omega)) (fun h78 => ?_)
      refine r_iconst (q := 82) ((-1 : Int32)) dX12_done_81 rfl (by decide) ?_
      refine r_ireturn dX12_done_82 rfl ?_
      exact ⟨rfl, f1⟩

set_option maxRecDepth 100000 in
theorem rm_dn_n {S : zS} (hs : Sd S) {bs : List Nat} (hb9 : bs.length ≤ 940) (hl : gI S 12 0 2 = nI bs.length) {n w : Nat} (hn7 : n ≤ 7) (hn0 : gI S 1306 0 1173 = nI n) (h1 : 1 ≤ w) (h3 : w ≤ 3) (hw : gI S 1306 0 3 = nI w) (hx : bs.length = n) {y : Nat} (hy : y < w) (hB : Bs S 1301 bs) (hal : ¬ ∀ i, i < bs.length → bs.getD i 0 < w) : Ok mX12_done 0 (ent 3 [zr 12 0, zi (nI y)]) [] S (fun r S1 => r = some (zi (-1)) ∧ Fr tRdn S S1 ∧ gI S1 12 0 2 = nI 0) := by
  show Ok mX12_done 0 [some (zr 12 0), some (zi (nI y)), none] [] S _
  refine r_aload_n (q := 1) dX12_done_0 rfl rfl rfl ?_
  refine r_iconst (q := 2) (nI 0) dX12_done_1 rfl (by decide) ?_
  refine r_puti (q := 5) ck12 dX12_done_2 rfl (k := 0) (by decide) wt1278 (Or.inl rfl) rfl (hs.e (by decide)) ?_
  refine r_aload_n (q := 6) dX12_done_5 rfl rfl rfl ?_
  refine r_sipush (q := 9) (nI 940) dX12_done_6 rfl (by decide) ?_
  refine r_callV (Mc := mX12_taken) (q := 12) (As := [zi (nI 940)]) (st := []) ck12 dX12_done_9 rfl rfl mkX12_taken wt1565 wt1567 wp68 rfl (Nat.le_of_ble_eq_true rfl) (Nat.le_of_ble_eq_true rfl) (by decide) (by decide) (by decide) (Or.inl rfl) (hs.e (by decide)) (ok_X12_taken (S := sI S 12 0 0 (nI 0)) hs (nI 940)) (fun r9 S9 hp9 => ?_)
  obtain ⟨rfl, hq9⟩ := hp9
  rw [hq9]
  have f9 : Fr tTk S (sI (sI (sI (sI (sI S 12 0 0 (nI 0)) 12 0 3 (gI (sI S 12 0 0 (nI 0)) 12 0 2)) 12 0 2 (nI 0)) 12 0 4 (nI 0)) 12 0 5 (nI 940)) := (((((Fr.rf).i rfl).i rfl).i rfl).i rfl).i rfl
  have h93 : gI (sI (sI (sI (sI (sI S 12 0 0 (nI 0)) 12 0 3 (gI (sI S 12 0 0 (nI 0)) 12 0 2)) 12 0 2 (nI 0)) 12 0 4 (nI 0)) 12 0 5 (nI 940)) 12 0 3 = nI bs.length := by
    rw [gI_sI, if_neg (by omega), gI_sI, if_neg (by omega), gI_sI, if_neg (by omega), gI_sI, if_pos ⟨rfl, rfl, rfl⟩, gI_sI, if_neg (by omega)]; exact hl
  have h92 : gI (sI (sI (sI (sI (sI S 12 0 0 (nI 0)) 12 0 3 (gI (sI S 12 0 0 (nI 0)) 12 0 2)) 12 0 2 (nI 0)) 12 0 4 (nI 0)) 12 0 5 (nI 940)) 12 0 2 = nI 0 := by rw [gI_sI, if_neg (by omega), gI_sI, if_neg (by omega), gI_sI, if_pos ⟨rfl, rfl, rfl⟩]
  obtain ⟨S9, hS9⟩ : ∃ S9, S9 = sI (sI (sI (sI (sI S 12 0 0 (nI 0)) 12 0 3 (gI (sI S 12 0 0 (nI 0)) 12 0 2)) 12 0 2 (nI 0)) 12 0 4 (nI 0)) 12 0 5 (nI 940) := ⟨_, rfl⟩
  rw [← hS9] at f9 h93 h92 ⊢
  have hs9 : Sd S9 := hs.fr f9
  have hn9 : gI S9 1306 0 1173 = nI n := (f9.1 _ _ _ rfl).trans hn0
  have hw9 : gI S9 1306 0 3 = nI w := (f9.1 _ _ _ rfl).trans hw
  show Ok _ _ _ [] _ _
  refine r_aload_n (q := 13) dX12_done_12 rfl rfl rfl ?_
  refine r_geti (q := 16) ck12 dX12_done_13 rfl (k := 3) (by decide) wt1281 (Or.inl rfl) (hs9.e (by decide)) ?_
  refine r_topi (y := nI bs.length) h93 ?_
  refine r_aload_n (q := 17) dX12_done_16 rfl rfl rfl ?_
  refine r_getr (q := 20) (some (1306, 0)) ck12 dX12_done_17 rfl (k := 6) (by decide) wt1284 rfl (hs9.e (by decide)) (hs9.r (by decide) (by decide)) ?_
  refine r_sipush (q := 23) (nI 1173) dX12_done_20 rfl (by decide) ?_
  refine r_ialdN (q := 24) 3775 (by decide) rfl dX12_done_23 rfl (hs9.e (by decide)) (hs9.n rfl (by decide)) (by omega) (by decide) ?_
  refine r_topi (y := nI n) hn9 ?_
  refine r_icmp_neN (q := 27) (t := 43) (by omega) (by omega) dX12_done_24 (by decide) rfl (fun h24 => absurd h24 (by omega)) (fun h24 => ?_)
  refine r_iload_n (q := 28) dX12_done_27 rfl rfl rfl ?_
  refine r_iconst (q := 29) (nI 0) dX12_done_28 rfl (by decide) ?_
  refine r_aload_n (q := 30) dX12_done_29 rfl rfl rfl ?_
  refine r_getr (q := 33) (some (1306, 0)) ck12 dX12_done_30 rfl (k := 6) (by decide) wt1284 rfl (hs9.e (by decide)) (hs9.r (by decide) (by decide)) ?_
  refine r_iconst (q := 34) (nI 3) dX12_done_33 rfl (by decide) ?_
  refine r_ialdN (q := 35) 3775 (by decide) rfl dX12_done_34 rfl (hs9.e (by decide)) (hs9.n rfl (by decide)) (by omega) (by decide) ?_
  refine r_topi (y := nI w) hw9 ?_
  refine r_iconst (q := 36) (nI 1) dX12_done_35 rfl (by decide) ?_
  refine r_isubN (q := 37) (by omega) dX12_done_36 rfl ?_
  refine r_callS (Mc := mX12_isIn) (q := 40) (As := [zi (nI y), zi (nI 0), zi (nI (w - 1))]) (st := []) dX12_done_37 rfl rfl mkX12_isIn wt1614 wt1615 rfl (Nat.le_of_ble_eq_true rfl) (Nat.le_of_ble_eq_true rfl) (by decide) (by decide) (by decide) (Or.inl rfl) hs9.some (ok_X12_isIn_in (Nat.zero_le _) (show y ≤ w - 1 by omega) (by omega)) (fun r37 S37 hp37 => ?_)
  obtain ⟨rfl, hq37⟩ := hp37
  rw [hq37]
  show Ok _ _ _ [zi (nI 1)] _ _
  refine r_if_neN (q := 43) (t := 45) (by omega) dX12_done_40 (by decide) rfl (fun h40 => ?_) (fun h40 => absurd h40 (by omega))
  refine r_iconst (q := 46) (nI 0) dX12_done_45 rfl (by decide) ?_
  refine r_istore_n (q := 47) (L' := [some (zr 12 0), some (zi (nI y)), some (zi (nI 0))]) dX12_done_46 rfl rfl (by decide) rfl ?_
  exact Ok.mono (lp_rn47n (y := y) (by omega) h1 h3 hal bs.length 0 S9 (by omega) hs9 ⟨fun k hk => (f9.1 _ _ _ rfl).trans (hB.1 k hk), hB.2⟩ h93 hw9 (fun k hk => absurd hk (by omega)) (fun k hk => absurd hk (by omega))) (fun r S2 z => ⟨z.1, (f9.mono (fun x y k h => by simp [tRdn, h]) : Fr tRdn S S9).tr (z.2.mono (fun x y k h => by simp [tWyo] at h; simp [tRdn, h])), (z.2.1 12 0 2 rfl).trans h92⟩)

set_option maxRecDepth 100000 in
theorem lp_rn91 {y : Nat} {Po : Option zV → zS → Prop} : ∀ (d j : Nat) (S : zS), j + d = 3 → Sd S → (∀ S1, Fr tRds S S1 → (∀ i, j ≤ i → i < 3 → gI S1 1389 0 i = nI 0) → (∀ i, i < j → gI S1 1389 0 i = gI S 1389 0 i) → Ok mX12_done 109 [some (zr 12 0), some (zi (nI y)), some (zi (nI 3))] [] S1 Po) → Ok mX12_done 91 [some (zr 12 0), some (zi (nI y)), some (zi (nI j))] [] S Po := by
  intro d
  induction d with
  | zero =>
    intro j S hj hs K
    obtain rfl : j = 3 := by omega
    refine r_iload_n (q := 92) dX12_done_91 rfl rfl rfl ?_
    refine r_iconst (q := 93) (nI 3) dX12_done_92 rfl (by decide) ?_
    refine r_icmp_geN (q := 96) (t := 109) (by omega) (by omega) dX12_done_93 (by decide) rfl (fun h93 => ?_) (fun h93 => absurd h93 (by omega))
    exact K S Fr.rf (fun i a b => absurd a (by omega)) (fun _ _ => rfl)
  | succ d ih =>
    intro j S hj hs K
    have f1 : Fr tRds S (sI S 1389 0 j (nI 0)) := (Fr.rf).i rfl
    refine r_iload_n (q := 92) dX12_done_91 rfl rfl rfl ?_
    refine r_iconst (q := 93) (nI 3) dX12_done_92 rfl (by decide) ?_
    refine r_icmp_geN (q := 96) (t := 109) (by omega) (by omega) dX12_done_93 (by decide) rfl (fun h93 => absurd h93 (by omega)) (fun h93 => ?_)
    refine r_aload_n (q := 97) dX12_done_96 rfl rfl rfl ?_
    refine r_getr (q := 100) (some (1389, 0)) ck12 dX12_done_97 rfl (k := 89) (by decide) wt1367 rfl (hs.e (by decide)) (hs.r (by decide) (by decide)) ?_
    refine r_iload_n (q := 101) dX12_done_100 rfl rfl rfl ?_
    refine r_iconst (q := 102) (nI 0) dX12_done_101 rfl (by decide) ?_
    refine r_iastN (q := 103) 3 (by decide) rfl dX12_done_102 rfl (hs.e (by decide)) (hs.n rfl (by decide)) (by omega) (by decide) ?_
    refine r_iincN (q := 106) (L' := [some (zr 12 0), some (zi (nI y)), some (zi (nI (j + 1)))]) 1 rfl dX12_done_103 rfl rfl (by decide) rfl ?_
    refine r_goto (q := 91) dX12_done_106 (by decide) ?_
    refine ih (j + 1) (sI S 1389 0 j (nI 0)) (by omega) (hs.fr f1) (fun S1 g h1' h2' => K S1 (f1.tr g) (fun i a b => ?_) (fun i hi => ?_))
    · by_cases e1 : i = j
      · rw [h2' i (by omega), gI_sI, if_pos ⟨rfl, rfl, e1⟩]
      · exact h1' i (by omega) b
    · rw [h2' i (by omega), gI_sI, if_neg (by omega)]

set_option maxRecDepth 100000 in
theorem lp_rn111 {n w P : Nat} (hn7 : n ≤ 7) (h1 : 1 ≤ w) (h3 : w ≤ 3) (hP2 : 2 ≤ P) (hP97 : P ≤ 97) {A : Nat} {e : Nat → Nat} (hE : Eok A e) {tb : Nat → Nat → Nat} {bs : List Nat} {q : List zT} (hq : Ce A e P n q) (hq12 : q.length ≤ 1200) {y : Nat} (hy : y < w) : ∀ (d i : Nat) (S : zS), i + d = q.length → Sd S → gI S 1306 0 0 = nI P → (∀ a, a < A → gI S 1306 0 (4 + a) = nI (e a)) → gI S 1306 0 3 = nI w → (∀ a, a < A → TbR S a P (tb a)) → (∀ i, i < n → gI S 1387 0 i = nI (bs.getD i 0) ∧ bs.getD i 0 ≤ 3) → gI S 1306 0 1174 = nI q.length → (∀ k, k < q.length → gI S 1306 0 (1175 + k) = nI (cd (q.getD k zd).1) ∧ gI S 1306 0 (2475 + k) = nI (q.getD k zd).2) → (∀ j, j < w → gI S 1389 0 j = nI (dsA (fun t => (dvS w P e tb (fun i => bs.getD i 0) n (t)).1 0 j) P q i)) → Ok mX12_done 111 [some (zr 12 0), some (zi (nI y)), some (zi (nI i))] [] S (fun r S1 => r = some (zi (nI (dsA (fun t => (dvS w P e tb (fun i => bs.getD i 0) n (t)).1 0 y) P q q.length))) ∧ Fr tRdt S S1) := by
  intro d
  induction d with
  | zero =>
    intro i S hi hs hp0 he hw hT hway hql hqk hd0
    have ei : i = q.length := by omega
    subst ei
    have hdy := hd0 y hy
    refine r_iload_n (q := 112) dX12_done_111 rfl rfl rfl ?_
    refine r_aload_n (q := 113) dX12_done_112 rfl rfl rfl ?_
    refine r_getr (q := 116) (some (1306, 0)) ck12 dX12_done_113 rfl (k := 6) (by decide) wt1284 rfl (hs.e (by decide)) (hs.r (by decide) (by decide)) ?_
    refine r_sipush (q := 119) (nI 1174) dX12_done_116 rfl (by decide) ?_
    refine r_ialdN (q := 120) 3775 (by decide) rfl dX12_done_119 rfl (hs.e (by decide)) (hs.n rfl (by decide)) (by omega) (by decide) ?_
    refine r_topi (y := nI q.length) hql ?_
    refine r_icmp_geN (q := 123) (t := 153) (by omega) (by omega) dX12_done_120 (by decide) rfl (fun h120 => ?_) (fun h120 => absurd h120 (by omega))
    refine r_aload_n (q := 154) dX12_done_153 rfl rfl rfl ?_
    refine r_getr (q := 157) (some (1389, 0)) ck12 dX12_done_154 rfl (k := 89) (by decide) wt1367 rfl (hs.e (by decide)) (hs.r (by decide) (by decide)) ?_
    refine r_iload_n (q := 158) dX12_done_157 rfl rfl rfl ?_
    refine r_ialdN (q := 159) 3 (by decide) rfl dX12_done_158 rfl (hs.e (by decide)) (hs.n rfl (by decide)) (by omega) (by decide) ?_
    refine r_topi (y := nI (dsA (fun t => (dvS w P e tb (fun i => bs.getD i 0) n (t)).1 0 y) P q q.length)) hdy ?_
    refine r_ireturn dX12_done_159 rfl ?_
    exact ⟨rfl, Fr.rf⟩
  | succ d ih =>
    intro i S hi hs hp0 he hw hT hway hql hqk hd0
    have hil : i < q.length := by omega
    obtain ⟨hk1, hk2⟩ := hqk i hil
    obtain ⟨htr, hnum⟩ := hq.1.2 _ (mem_getD hil)
    refine r_iload_n (q := 112) dX12_done_111 rfl rfl rfl ?_
    refine r_aload_n (q := 113) dX12_done_112 rfl rfl rfl ?_
    refine r_getr (q := 116) (some (1306, 0)) ck12 dX12_done_113 rfl (k := 6) (by decide) wt1284 rfl (hs.e (by decide)) (hs.r (by decide) (by decide)) ?_
    refine r_sipush (q := 119) (nI 1174) dX12_done_116 rfl (by decide) ?_
    refine r_ialdN (q := 120) 3775 (by decide) rfl dX12_done_119 rfl (hs.e (by decide)) (hs.n rfl (by decide)) (by omega) (by decide) ?_
    refine r_topi (y := nI q.length) hql ?_
    refine r_icmp_geN (q := 123) (t := 153) (by omega) (by omega) dX12_done_120 (by decide) rfl (fun h120 => absurd h120 (by omega)) (fun h120 => ?_)
    refine r_aload_n (q := 124) dX12_done_123 rfl rfl rfl ?_
    refine r_aload_n (q := 125) dX12_done_124 rfl rfl rfl ?_
    refine r_getr (q := 128) (some (1306, 0)) ck12 dX12_done_125 rfl (k := 6) (by decide) wt1284 rfl (hs.e (by decide)) (hs.r (by decide) (by decide)) ?_
    refine r_sipush (q := 131) (nI 1175) dX12_done_128 rfl (by decide) ?_
    refine r_iload_n (q := 132) dX12_done_131 rfl rfl rfl ?_
    refine r_iaddN (q := 133) dX12_done_132 rfl ?_
    refine r_ialdN (q := 134) 3775 (by decide) rfl dX12_done_133 rfl (hs.e (by decide)) (hs.n rfl (by decide)) (by omega) (by decide) ?_
    refine r_topi (y := nI (cd (q.getD i zd).1)) hk1 ?_
    refine r_aload_n (q := 135) dX12_done_134 rfl rfl rfl ?_
    refine r_getr (q := 138) (some (1306, 0)) ck12 dX12_done_135 rfl (k := 6) (by decide) wt1284 rfl (hs.e (by decide)) (hs.r (by decide) (by decide)) ?_
    refine r_sipush (q := 141) (nI 2475) dX12_done_138 rfl (by decide) ?_
    refine r_iload_n (q := 142) dX12_done_141 rfl rfl rfl ?_
    refine r_iaddN (q := 143) dX12_done_142 rfl ?_
    refine r_ialdN (q := 144) 3775 (by decide) rfl dX12_done_143 rfl (hs.e (by decide)) (hs.n rfl (by decide)) (by omega) (by decide) ?_
    refine r_topi (y := nI ((q.getD i zd).2)) hk2 ?_
    refine r_callV (Mc := mX12_doTree) (q := 147) (As := [zi (nI (cd (q.getD i zd).1)), zi (nI ((q.getD i zd).2))]) (st := []) ck12 dX12_done_144 rfl rfl mkX12_doTree wt1992 wt1994 wp142 rfl (Nat.le_of_ble_eq_true rfl) (Nat.le_of_ble_eq_true rfl) (by decide) (by decide) (by decide) (Or.inl rfl) (hs.e (by decide)) (ok_doTreeR hs h1 h3 hP2 hP97 hnum hn7 hE (tb := tb) (way := fun i => bs.getD i 0) htr hp0 he hw hT hway (D := fun j => dsA (fun t => (dvS w P e tb (fun i => bs.getD i 0) n (t)).1 0 j) P q i) (fun j hj => ⟨hd0 j hj, dsA_lt (by omega) i⟩)) (fun r144 S144 hp144 => ?_)
    obtain ⟨rfl, f1, hd1⟩ := hp144
    have hs1 : Sd S144 := hs.fr f1
    show Ok _ _ _ [] _ _
    refine r_iincN (q := 150) (L' := [some (zr 12 0), some (zi (nI y)), some (zi (nI (i + 1)))]) 1 rfl dX12_done_147 rfl rfl (by decide) rfl ?_
    refine r_goto (q := 111) dX12_done_150 (by decide) ?_
    exact Ok.mono (ih (i + 1) S144 (by omega) hs1 ((f1.1 _ _ _ rfl).trans hp0) (fun a ha => (f1.1 _ _ _ (by simp [tRdt])).trans (he a ha)) ((f1.1 _ _ _ rfl).trans hw) (fun a ha => (hT a ha).fr f1 (fun _ => rfl)) (fun i hi => ⟨(f1.1 _ _ _ rfl).trans (hway i hi).1, (hway i hi).2⟩) ((f1.1 _ _ _ rfl).trans hql) (fun k hk => ⟨(f1.1 _ _ _ (by simp [tRdt])).trans (hqk k hk).1, (f1.1 _ _ _ (by simp [tRdt])).trans (hqk k hk).2⟩) hd1) (fun r S2 z => ⟨z.1, f1.tr z.2⟩)

set_option maxRecDepth 100000 in
theorem rm_dn_y {S : zS} (hs : Sd S) {bs : List Nat} (hb9 : bs.length ≤ 940) (hl : gI S 12 0 2 = nI bs.length) {n w : Nat} (hn7 : n ≤ 7) (hn0 : gI S 1306 0 1173 = nI n) (h1 : 1 ≤ w) (h3 : w ≤ 3) (hw : gI S 1306 0 3 = nI w) (hx : bs.length = n) {y : Nat} (hy : y < w) (hB : Bs S 1301 bs) {P : Nat} (hP2 : 2 ≤ P) (hP97 : P ≤ 97) {A : Nat} {e : Nat → Nat} (hE : Eok A e) {tb : Nat → Nat → Nat} {q : List zT} (hq : Ce A e P n q) (hq12 : q.length ≤ 1200) (hp0 : gI S 1306 0 0 = nI P) (he : ∀ a, a < A → gI S 1306 0 (4 + a) = nI (e a)) (hT : ∀ a, a < A → TbR S a P (tb a)) (hql : gI S 1306 0 1174 = nI q.length) (hqk : ∀ k, k < q.length → gI S 1306 0 (1175 + k) = nI (cd (q.getD k zd).1) ∧ gI S 1306 0 (2475 + k) = nI (q.getD k zd).2) (hal : ∀ i, i < bs.length → bs.getD i 0 < w) : Ok mX12_done 0 (ent 3 [zr 12 0, zi (nI y)]) [] S (fun r S1 => r = some (zi (nI (dsA (fun t => (dvS w P e tb (fun i => bs.getD i 0) n (t)).1 0 y) P q q.length))) ∧ Fr tRdn S S1 ∧ gI S1 12 0 2 = nI 0) := by
  show Ok mX12_done 0 [some (zr 12 0), some (zi (nI y)), none] [] S _
  refine r_aload_n (q := 1) dX12_done_0 rfl rfl rfl ?_
  refine r_iconst (q := 2) (nI 0) dX12_done_1 rfl (by decide) ?_
  refine r_puti (q := 5) ck12 dX12_done_2 rfl (k := 0) (by decide) wt1278 (Or.inl rfl) rfl (hs.e (by decide)) ?_
  refine r_aload_n (q := 6) dX12_done_5 rfl rfl rfl ?_
  refine r_sipush (q := 9) (nI 940) dX12_done_6 rfl (by decide) ?_
  refine r_callV (Mc := mX12_taken) (q := 12) (As := [zi (nI 940)]) (st := []) ck12 dX12_done_9 rfl rfl mkX12_taken wt1565 wt1567 wp68 rfl (Nat.le_of_ble_eq_true rfl) (Nat.le_of_ble_eq_true rfl) (by decide) (by decide) (by decide) (Or.inl rfl) (hs.e (by decide)) (ok_X12_taken (S := sI S 12 0 0 (nI 0)) hs (nI 940)) (fun r9 S9 hp9 => ?_)
  obtain ⟨rfl, hq9⟩ := hp9
  rw [hq9]
  have f9 : Fr tTk S (sI (sI (sI (sI (sI S 12 0 0 (nI 0)) 12 0 3 (gI (sI S 12 0 0 (nI 0)) 12 0 2)) 12 0 2 (nI 0)) 12 0 4 (nI 0)) 12 0 5 (nI 940)) := (((((Fr.rf).i rfl).i rfl).i rfl).i rfl).i rfl
  have h93 : gI (sI (sI (sI (sI (sI S 12 0 0 (nI 0)) 12 0 3 (gI (sI S 12 0 0 (nI 0)) 12 0 2)) 12 0 2 (nI 0)) 12 0 4 (nI 0)) 12 0 5 (nI 940)) 12 0 3 = nI bs.length := by
    rw [gI_sI, if_neg (by omega), gI_sI, if_neg (by omega), gI_sI, if_neg (by omega), gI_sI, if_pos ⟨rfl, rfl, rfl⟩, gI_sI, if_neg (by omega)]; exact hl
  have h92 : gI (sI (sI (sI (sI (sI S 12 0 0 (nI 0)) 12 0 3 (gI (sI S 12 0 0 (nI 0)) 12 0 2)) 12 0 2 (nI 0)) 12 0 4 (nI 0)) 12 0 5 (nI 940)) 12 0 2 = nI 0 := by rw [gI_sI, if_neg (by omega), gI_sI, if_neg (by omega), gI_sI, if_pos ⟨rfl, rfl, rfl⟩]
  obtain ⟨S9, hS9⟩ : ∃ S9, S9 = sI (sI (sI (sI (sI S 12 0 0 (nI 0)) 12 0 3 (gI (sI S 12 0 0 (nI 0)) 12 0 2)) 12 0 2 (nI 0)) 12 0 4 (nI 0)) 12 0 5 (nI 940) := ⟨_, rfl⟩
  rw [← hS9] at f9 h93 h92 ⊢
  have hs9 : Sd S9 := hs.fr f9
  have hn9 : gI S9 1306 0 1173 = nI n := (f9.1 _ _ _ rfl).trans hn0
  have hw9 : gI S9 1306 0 3 = nI w := (f9.1 _ _ _ rfl).trans hw
  show Ok _ _ _ [] _ _
  refine r_aload_n (q := 13) dX12_done_12 rfl rfl rfl ?_
  refine r_geti (q := 16) ck12 dX12_done_13 rfl (k := 3) (by decide) wt1281 (Or.inl rfl) (hs9.e (by decide)) ?_
  refine r_topi (y := nI bs.length) h93 ?_
  refine r_aload_n (q := 17) dX12_done_16 rfl rfl rfl ?_
  refine r_getr (q := 20) (some (1306, 0)) ck12 dX12_done_17 rfl (k := 6) (by decide) wt1284 rfl (hs9.e (by decide)) (hs9.r (by decide) (by decide)) ?_
  refine r_sipush (q := 23) (nI 1173) dX12_done_20 rfl (by decide) ?_
  refine r_ialdN (q := 24) 3775 (by decide) rfl dX12_done_23 rfl (hs9.e (by decide)) (hs9.n rfl (by decide)) (by omega) (by decide) ?_
  refine r_topi (y := nI n) hn9 ?_
  refine r_icmp_neN (q := 27) (t := 43) (by omega) (by omega) dX12_done_24 (by decide) rfl (fun h24 => absurd h24 (by omega)) (fun h24 => ?_)
  refine r_iload_n (q := 28) dX12_done_27 rfl rfl rfl ?_
  refine r_iconst (q := 29) (nI 0) dX12_done_28 rfl (by decide) ?_
  refine r_aload_n (q := 30) dX12_done_29 rfl rfl rfl ?_
  refine r_getr (q := 33) (some (1306, 0)) ck12 dX12_done_30 rfl (k := 6) (by decide) wt1284 rfl (hs9.e (by decide)) (hs9.r (by decide) (by decide)) ?_
  refine r_iconst (q := 34) (nI 3) dX12_done_33 rfl (by decide) ?_
  refine r_ialdN (q := 35) 3775 (by decide) rfl dX12_done_34 rfl (hs9.e (by decide)) (hs9.n rfl (by decide)) (by omega) (by decide) ?_
  refine r_topi (y := nI w) hw9 ?_
  refine r_iconst (q := 36) (nI 1) dX12_done_35 rfl (by decide) ?_
  refine r_isubN (q := 37) (by omega) dX12_done_36 rfl ?_
  refine r_callS (Mc := mX12_isIn) (q := 40) (As := [zi (nI y), zi (nI 0), zi (nI (w - 1))]) (st := []) dX12_done_37 rfl rfl mkX12_isIn wt1614 wt1615 rfl (Nat.le_of_ble_eq_true rfl) (Nat.le_of_ble_eq_true rfl) (by decide) (by decide) (by decide) (Or.inl rfl) hs9.some (ok_X12_isIn_in (Nat.zero_le _) (show y ≤ w - 1 by omega) (by omega)) (fun r37 S37 hp37 => ?_)
  obtain ⟨rfl, hq37⟩ := hp37
  rw [hq37]
  show Ok _ _ _ [zi (nI 1)] _ _
  refine r_if_neN (q := 43) (t := 45) (by omega) dX12_done_40 (by decide) rfl (fun h40 => ?_) (fun h40 => absurd h40 (by omega))
  refine r_iconst (q := 46) (nI 0) dX12_done_45 rfl (by decide) ?_
  refine r_istore_n (q := 47) (L' := [some (zr 12 0), some (zi (nI y)), some (zi (nI 0))]) dX12_done_46 rfl rfl (by decide) rfl ?_
  refine lp_rn47y (y := y) (by omega) h1 h3 hal bs.length 0 S9 (by omega) hs9 ⟨fun k hk => (f9.1 _ _ _ rfl).trans (hB.1 k hk), hB.2⟩ h93 hw9 (fun k hk => absurd hk (by omega)) (fun k hk => absurd hk (by omega)) (fun S2 g2 hwy => ?_)
  have hs2 : Sd S2 := hs9.fr g2
  refine r_iconst (q := 90) (nI 0) dX12_done_89 rfl (by decide) ?_
  refine r_istore_n (q := 91) (L' := [some (zr 12 0), some (zi (nI y)), some (zi (nI 0))]) dX12_done_90 rfl rfl (by decide) rfl ?_
  refine lp_rn91 3 0 S2 (by omega) hs2 (fun S3 g3 hz3 _ => ?_)
  have hs3 : Sd S3 := hs2.fr g3
  refine r_iconst (q := 110) (nI 0) dX12_done_109 rfl (by decide) ?_
  refine r_istore_n (q := 111) (L' := [some (zr 12 0), some (zi (nI y)), some (zi (nI 0))]) dX12_done_110 rfl rfl (by decide) rfl ?_
  have e1 : ∀ k, gI S3 1306 0 k = gI S 1306 0 k := fun k => ((g3.1 _ _ _ rfl).trans (g2.1 _ _ _ rfl)).trans (f9.1 _ _ _ rfl)
  have gA : Fr tRdn S S3 := ((f9.mono (fun x y k h => by simp [tRdn, h]) : Fr tRdn S S9).tr (g2.mono (fun x y k h => by simp [tWyo] at h; simp [tRdn, h]))).tr (g3.mono (fun x y k h => by simp [tRds] at h; simp [tRdn, tRdt, h]))
  exact Ok.mono (lp_rn111 hn7 h1 h3 hP2 hP97 hE (tb := tb) (bs := bs) hq hq12 hy q.length 0 S3 (by omega) hs3 ((e1 _).trans hp0) (fun a ha => (e1 _).trans (he a ha)) ((e1 _).trans hw) (fun a ha i hi => ⟨(e1 _).trans (hT a ha i hi).1, (hT a ha i hi).2⟩) (fun i hi => ⟨(g3.1 _ _ _ rfl).trans (hwy i (by omega)), by have := hal i (by omega); omega⟩) ((e1 _).trans hql) (fun k hk => ⟨(e1 _).trans (hqk k hk).1, (e1 _).trans (hqk k hk).2⟩) (fun j hj => hz3 j (Nat.zero_le _) (by omega))) (fun r S4 z => ⟨z.1, gA.tr (z.2.mono (fun x y k h => by simp [tRdn, h])), (z.2.1 12 0 2 rfl).trans ((g3.1 12 0 2 rfl).trans ((g2.1 12 0 2 rfl).trans h92))⟩)

