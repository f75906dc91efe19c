/-! done: the class -/

set_option maxRecDepth 100000 in
theorem cm_dn_l {S : zS} (hs : Sd S) {bs : List Nat} (hb9 : bs.length ≤ 940) (hl : gI S 11 0 1 = nI bs.length) {n w : Nat} (hn7 : n ≤ 7) (hn0 : gI S 8 0 0 = nI n) (h1 : 1 ≤ w) (h3 : w ≤ 3) (hw : gI S 7 0 0 = nI w) (hx : bs.length ≠ n) {a : Int32} : Ok mX11_done 0 (ent 4 [zr 11 0, zi a]) [] S (fun r S1 => r = some (zi (-1)) ∧ S1 = sI S 11 0 1 (nI 0)) := by
  show Ok mX11_done 0 [some (zr 11 0), some (zi a), none, none] [] S _
  refine r_aload_n (q := 1) dX11_done_0 rfl rfl rfl ?_
  refine r_callV (Mc := mX11_emptyTape) (q := 4) (As := []) (st := []) ck11 dX11_done_1 rfl rfl mkX11_emptyTape wt503 wt505 wp2 rfl (Nat.le_of_ble_eq_true rfl) (Nat.le_of_ble_eq_true rfl) (by decide) (by decide) (by decide) (Or.inl rfl) (hs.e (by decide)) (ok_X11_emptyTape hs) (fun r1 S1 hp1 => ?_)
  rw [hl] at hp1
  obtain ⟨rfl, hq1⟩ := hp1
  rw [hq1]
  show Ok _ _ _ [zi (nI bs.length)] _ _
  refine r_istore_n (q := 5) (L' := [some (zr 11 0), some (zi a), some (zi (nI bs.length)), none]) dX11_done_4 rfl rfl (by decide) rfl ?_
  refine r_iload_n (q := 6) dX11_done_5 rfl rfl rfl ?_
  refine r_aload_n (q := 7) dX11_done_6 rfl rfl rfl ?_
  refine r_getr (q := 10) (some (8, 0)) ck11 dX11_done_7 rfl (k := 7) (by decide) wt429 rfl (hs.e (by decide)) (hs.r (by decide) (by decide)) ?_
  refine r_geti (q := 13) ck8 dX11_done_10 rfl (k := 0) (by decide) wt60 (Or.inl rfl) (hs.e (by decide)) ?_
  refine r_topi (y := gI S 8 0 0) (by simp [gI_sI, gJ_sJ, gI_sJ, gJ_sI]) ?_
  refine r_topi (y := nI n) hn0 ?_
  refine r_icmp_neN (q := 16) (t := 31) (by omega) (by omega) dX11_done_13 (by decide) rfl (fun h13 => ?_) (fun h13 => absurd h13 (by omega))
  refine r_iconst (q := 32) ((-1 : Int32)) dX11_done_31 rfl (by decide) ?_
  refine r_ireturn dX11_done_32 rfl ?_
  exact ⟨rfl, rfl⟩

set_option maxRecDepth 100000 in
theorem cm_dn_a {S : zS} (hs : Sd S) {bs : List Nat} (hb9 : bs.length ≤ 940) (hl : gI S 11 0 1 = nI bs.length) {n w : Nat} (hn7 : n ≤ 7) (hn0 : gI S 8 0 0 = nI n) (h1 : 1 ≤ w) (h3 : w ≤ 3) (hw : gI S 7 0 0 = nI w) (hx : bs.length = n) {a : Int32} (ha : ¬ (0 ≤ a ∧ a < nI w)) : Ok mX11_done 0 (ent 4 [zr 11 0, zi a]) [] S (fun r S1 => r = some (zi (-1)) ∧ S1 = sI S 11 0 1 (nI 0)) := by
  show Ok mX11_done 0 [some (zr 11 0), some (zi a), none, none] [] S _
  refine r_aload_n (q := 1) dX11_done_0 rfl rfl rfl ?_
  refine r_callV (Mc := mX11_emptyTape) (q := 4) (As := []) (st := []) ck11 dX11_done_1 rfl rfl mkX11_emptyTape wt503 wt505 wp2 rfl (Nat.le_of_ble_eq_true rfl) (Nat.le_of_ble_eq_true rfl) (by decide) (by decide) (by decide) (Or.inl rfl) (hs.e (by decide)) (ok_X11_emptyTape hs) (fun r1 S1 hp1 => ?_)
  rw [hl] at hp1
  obtain ⟨rfl, hq1⟩ := hp1
  rw [hq1]
  show Ok _ _ _ [zi (nI bs.length)] _ _
  refine r_istore_n (q := 5) (L' := [some (zr 11 0), some (zi a), some (zi (nI bs.length)), none]) dX11_done_4 rfl rfl (by decide) rfl ?_
  refine r_iload_n (q := 6) dX11_done_5 rfl rfl rfl ?_
  refine r_aload_n (q := 7) dX11_done_6 rfl rfl rfl ?_
  refine r_getr (q := 10) (some (8, 0)) ck11 dX11_done_7 rfl (k := 7) (by decide) wt429 rfl (hs.e (by decide)) (hs.r (by decide) (by decide)) ?_
  refine r_geti (q := 13) ck8 dX11_done_10 rfl (k := 0) (by decide) wt60 (Or.inl rfl) (hs.e (by decide)) ?_
  refine r_topi (y := gI S 8 0 0) (by simp [gI_sI, gJ_sJ, gI_sJ, gJ_sI]) ?_
  refine r_topi (y := nI n) hn0 ?_
  refine r_icmp_neN (q := 16) (t := 31) (by omega) (by omega) dX11_done_13 (by decide) rfl (fun h13 => absurd h13 (by omega)) (fun h13 => ?_)
  refine r_iload_n (q := 17) dX11_done_16 rfl rfl rfl ?_
  refine r_if_lt (q := 20) (t := 31) dX11_done_17 (by decide) rfl (fun h17 => ?_) (fun h17 => ?_)
  · skip
    refine r_iconst (q := 32) ((-1 : Int32)) dX11_done_31 rfl (by decide) ?_
    refine r_ireturn dX11_done_32 rfl ?_
    exact ⟨rfl, rfl⟩
  · skip
    refine r_iload_n (q := 21) dX11_done_20 rfl rfl rfl ?_
    refine r_aload_n (q := 22) dX11_done_21 rfl rfl rfl ?_
    refine r_getr (q := 25) (some (7, 0)) ck11 dX11_done_22 rfl (k := 5) (by decide) wt427 rfl (hs.e (by decide)) (hs.r (by decide) (by decide)) ?_
    refine r_geti (q := 28) ck7 dX11_done_25 rfl (k := 0) (by decide) wt39 (Or.inl rfl) (hs.e (by decide)) ?_
    refine r_topi (y := gI S 7 0 0) (by simp [gI_sI, gJ_sJ, gI_sJ, gJ_sI]) ?_
    refine r_topi (y := nI w) hw ?_
    refine r_icmp_lt (q := 31) (t := 33) dX11_done_28 (by decide) rfl (fun h28 => ?_) (fun h28 => ?_)
    · skip
      exact absurd (show 0 ≤ a ∧ a < nI w from ⟨by first | exact h17 | (exact Int32.not_lt.mp h17), by first | exact h28 | (exact Int32.not_le.mp h28)⟩) ha
    · skip
      refine r_iconst (q := 32) ((-1 : Int32)) dX11_done_31 rfl (by decide) ?_
      refine r_ireturn dX11_done_32 rfl ?_
      exact ⟨rfl, rfl⟩

set_option maxRecDepth 100000 in
theorem lp_dn35y {S : zS} (hs : Sd S) {bs : List Nat} (hb9 : bs.length ≤ 940) (hB : Bs S 1200 bs) {w y : Nat} (h1 : 1 ≤ w) (h3 : w ≤ 3) (hw : gI S 7 0 0 = nI w) {Po : Option zV → zS → Prop} (hal : ∀ i, i < bs.length → bs.getD i 0 < w) : ∀ (d i : Nat), i + d = bs.length → (∀ k, k < i → bs.getD k 0 < w) → Ok mX11_done 68 [some (zr 11 0), some (zi (nI y)), some (zi (nI bs.length)), some (zi (nI bs.length))] [] S Po → Ok mX11_done 35 [some (zr 11 0), some (zi (nI y)), some (zi (nI bs.length)), some (zi (nI i))] [] S Po := by
  intro d
  induction d with
  | zero =>
    intro i hi hlo K
    have ei : i = bs.length := by omega
    subst ei
    refine r_iload_n (q := 36) dX11_done_35 rfl rfl rfl ?_
    refine r_iload_n (q := 37) dX11_done_36 rfl rfl rfl ?_
    refine r_icmp_geN (q := 40) (t := 68) (by omega) (by omega) dX11_done_37 (by decide) rfl (fun h37 => ?_) (fun h37 => absurd h37 (by omega))
    exact K
  | succ d ih =>
    intro i hi hlo K
    have h256 := hB.lt i
    have hby : (gI S 1200 0 i) &&& nI 255 = nI (bs.getD i 0) := by rw [hB.1 i (by omega)]; exact sbt_255 _ h256
    have hiw := hal i (by omega)
    refine r_iload_n (q := 36) dX11_done_35 rfl rfl rfl ?_
    refine r_iload_n (q := 37) dX11_done_36 rfl rfl rfl ?_
    refine r_icmp_geN (q := 40) (t := 68) (by omega) (by omega) dX11_done_37 (by decide) rfl (fun h37 => absurd h37 (by omega)) (fun h37 => ?_)
    refine r_aload_n (q := 41) dX11_done_40 rfl rfl rfl ?_
    refine r_getr (q := 44) (some (1200, 0)) ck11 dX11_done_41 rfl (k := 0) (by decide) wt422 rfl (hs.e (by decide)) (hs.r (by decide) (by decide)) ?_
    refine r_iload_n (q := 45) dX11_done_44 rfl rfl rfl ?_
    refine r_baldN (q := 46) 940 (by decide) rfl dX11_done_45 rfl (hs.e (by decide)) (hs.n rfl (by decide)) (by omega) (by decide) ?_
    refine r_sipush (q := 49) (nI 255) dX11_done_46 rfl (by decide) ?_
    refine r_iand (q := 50) dX11_done_49 rfl ?_
    refine r_topi (y := nI (bs.getD i 0)) hby ?_
    refine r_aload_n (q := 51) dX11_done_50 rfl rfl rfl ?_
    refine r_getr (q := 54) (some (7, 0)) ck11 dX11_done_51 rfl (k := 5) (by decide) wt427 rfl (hs.e (by decide)) (hs.r (by decide) (by decide)) ?_
    refine r_geti (q := 57) ck7 dX11_done_54 rfl (k := 0) (by decide) wt39 (Or.inl rfl) (hs.e (by decide)) ?_
    refine r_topi (y := nI w) hw ?_
    refine r_icmp_ltN (q := 60) (t := 62) (by omega) (by omega) dX11_done_57 (by decide) rfl (fun h57 => ?_) (fun h57 => absurd h57 (by omega))
    refine r_iincN (q := 65) (L' := [some (zr 11 0), some (zi (nI y)), some (zi (nI bs.length)), some (zi (nI (i + 1)))]) 1 rfl dX11_done_62 rfl rfl (by decide) rfl ?_
    refine r_goto (q := 35) dX11_done_65 (by decide) ?_
    exact ih (i + 1) (by omega) (fun k hk => (Nat.lt_succ_iff_lt_or_eq.mp hk).elim (hlo k) (fun z => by rw [z]; exact hiw)) K

set_option maxRecDepth 100000 in
theorem lp_dn35n {S : zS} (hs : Sd S) {bs : List Nat} (hb9 : bs.length ≤ 940) (hB : Bs S 1200 bs) {w y : Nat} (h1 : 1 ≤ w) (h3 : w ≤ 3) (hw : gI S 7 0 0 = nI w)  (hal : ¬ ∀ i, i < bs.length → bs.getD i 0 < w) : ∀ (d i : Nat), i + d = bs.length → (∀ k, k < i → bs.getD k 0 < w) → Ok mX11_done 35 [some (zr 11 0), some (zi (nI y)), some (zi (nI bs.length)), some (zi (nI i))] [] S (fun r S1 => r = some (zi (-1)) ∧ S1 = S) := by
  intro d
  induction d with
  | zero =>
    intro i hi hlo
    have ei : i = bs.length := by omega
    subst ei
    exact absurd hlo hal
  | succ d ih =>
    intro i hi hlo
    have h256 := hB.lt i
    have hby : (gI S 1200 0 i) &&& nI 255 = nI (bs.getD i 0) := by rw [hB.1 i (by omega)]; exact sbt_255 _ h256
    by_cases hiw : bs.getD i 0 < w
    · skip
      refine r_iload_n (q := 36) dX11_done_35 rfl rfl rfl ?_
      refine r_iload_n (q := 37) dX11_done_36 rfl rfl rfl ?_
      refine r_icmp_geN (q := 40) (t := 68) (by omega) (by omega) dX11_done_37 (by decide) rfl (fun h37 => absurd h37 (by omega)) (fun h37 => ?_)
      refine r_aload_n (q := 41) dX11_done_40 rfl rfl rfl ?_
      refine r_getr (q := 44) (some (1200, 0)) ck11 dX11_done_41 rfl (k := 0) (by decide) wt422 rfl (hs.e (by decide)) (hs.r (by decide) (by decide)) ?_
      refine r_iload_n (q := 45) dX11_done_44 rfl rfl rfl ?_
      refine r_baldN (q := 46) 940 (by decide) rfl dX11_done_45 rfl (hs.e (by decide)) (hs.n rfl (by decide)) (by omega) (by decide) ?_
      refine r_sipush (q := 49) (nI 255) dX11_done_46 rfl (by decide) ?_
      refine r_iand (q := 50) dX11_done_49 rfl ?_
      refine r_topi (y := nI (bs.getD i 0)) hby ?_
      refine r_aload_n (q := 51) dX11_done_50 rfl rfl rfl ?_
      refine r_getr (q := 54) (some (7, 0)) ck11 dX11_done_51 rfl (k := 5) (by decide) wt427 rfl (hs.e (by decide)) (hs.r (by decide) (by decide)) ?_
      refine r_geti (q := 57) ck7 dX11_done_54 rfl (k := 0) (by decide) wt39 (Or.inl rfl) (hs.e (by decide)) ?_
      refine r_topi (y := nI w) hw ?_
      refine r_icmp_ltN (q := 60) (t := 62) (by omega) (by omega) dX11_done_57 (by decide) rfl (fun h57 => ?_) (fun h57 => absurd h57 (by omega))
      refine r_iincN (q := 65) (L' := [some (zr 11 0), some (zi (nI y)), some (zi (nI bs.length)), some (zi (nI (i + 1)))]) 1 rfl dX11_done_62 rfl rfl (by decide) rfl ?_
      refine r_goto (q := 35) dX11_done_65 (by decide) ?_
      exact ih (i + 1) (by omega) (fun k hk => (Nat.lt_succ_iff_lt_or_eq.mp hk).elim (hlo k) (fun z => by rw [z]; exact hiw))
    · skip
      refine r_iload_n (q := 36) dX11_done_35 rfl rfl rfl ?_
      refine r_iload_n (q := 37) dX11_done_36 rfl rfl rfl ?_
      refine r_icmp_geN (q := 40) (t := 68) (by omega) (by omega) dX11_done_37 (by decide) rfl (fun h37 => absurd h37 (by omega)) (fun h37 => ?_)
      refine r_aload_n (q := 41) dX11_done_40 rfl rfl rfl ?_
      refine r_getr (q := 44) (some (1200, 0)) ck11 dX11_done_41 rfl (k := 0) (by decide) wt422 rfl (hs.e (by decide)) (hs.r (by decide) (by decide)) ?_
      refine r_iload_n (q := 45) dX11_done_44 rfl rfl rfl ?_
      refine r_baldN (q := 46) 940 (by decide) rfl dX11_done_45 rfl (hs.e (by decide)) (hs.n rfl (by decide)) (by omega) (by decide) ?_
      refine r_sipush (q := 49) (nI 255) dX11_done_46 rfl (by decide) ?_
      refine r_iand (q := 50) dX11_done_49 rfl ?_
      refine r_topi (y := nI (bs.getD i 0)) hby ?_
      refine r_aload_n (q := 51) dX11_done_50 rfl rfl rfl ?_
      refine r_getr (q := 54) (some (7, 0)) ck11 dX11_done_51 rfl (k := 5) (by decide) wt427 rfl (hs.e (by decide)) (hs.r (by decide) (by decide)) ?_
      refine r_geti (q := 57) ck7 dX11_done_54 rfl (k := 0) (by decide) wt39 (Or.inl rfl) (hs.e (by decide)) ?_
      refine r_topi (y := nI w) hw ?_
      refine r_icmp_ltN (q := 60) (t := 62) (by omega) (by omega) dX11_done_57 (by decide) rfl (fun h57 => absurd h57 (by omega)) (fun h57 => ?_)
      refine r_iconst (q := 61) ((-1 : Int32)) dX11_done_60 rfl (by decide) ?_
      refine r_ireturn dX11_done_61 rfl ?_
      exact ⟨rfl, rfl⟩

set_option maxRecDepth 100000 in
theorem cm_dn_n {S : zS} (hs : Sd S) {bs : List Nat} (hb9 : bs.length ≤ 940) (hl : gI S 11 0 1 = nI bs.length) {n w : Nat} (hx : bs.length = n) (hn7 : n ≤ 7) (hn0 : gI S 8 0 0 = nI n) (h1 : 1 ≤ w) (h3 : w ≤ 3) (hw : gI S 7 0 0 = nI w) {y : Nat} (hy : y < w) (hB : Bs S 1200 bs) (hal : ¬ ∀ i, i < bs.length → bs.getD i 0 < w) : Ok mX11_done 0 (ent 4 [zr 11 0, zi (nI y)]) [] S (fun r S1 => r = some (zi (-1)) ∧ S1 = sI S 11 0 1 (nI 0)) := by
  show Ok mX11_done 0 [some (zr 11 0), some (zi (nI y)), none, none] [] S _
  refine r_aload_n (q := 1) dX11_done_0 rfl rfl rfl ?_
  refine r_callV (Mc := mX11_emptyTape) (q := 4) (As := []) (st := []) ck11 dX11_done_1 rfl rfl mkX11_emptyTape wt503 wt505 wp2 rfl (Nat.le_of_ble_eq_true rfl) (Nat.le_of_ble_eq_true rfl) (by decide) (by decide) (by decide) (Or.inl rfl) (hs.e (by decide)) (ok_X11_emptyTape hs) (fun r1 S1 hp1 => ?_)
  rw [hl] at hp1
  obtain ⟨rfl, hq1⟩ := hp1
  rw [hq1]
  show Ok _ _ _ [zi (nI bs.length)] _ _
  refine r_istore_n (q := 5) (L' := [some (zr 11 0), some (zi (nI y)), some (zi (nI bs.length)), none]) dX11_done_4 rfl rfl (by decide) rfl ?_
  refine r_iload_n (q := 6) dX11_done_5 rfl rfl rfl ?_
  refine r_aload_n (q := 7) dX11_done_6 rfl rfl rfl ?_
  refine r_getr (q := 10) (some (8, 0)) ck11 dX11_done_7 rfl (k := 7) (by decide) wt429 rfl (hs.e (by decide)) (hs.r (by decide) (by decide)) ?_
  refine r_geti (q := 13) ck8 dX11_done_10 rfl (k := 0) (by decide) wt60 (Or.inl rfl) (hs.e (by decide)) ?_
  refine r_topi (y := gI S 8 0 0) (by simp [gI_sI, gJ_sJ, gI_sJ, gJ_sI]) ?_
  refine r_topi (y := nI n) hn0 ?_
  refine r_icmp_neN (q := 16) (t := 31) (by omega) (by omega) dX11_done_13 (by decide) rfl (fun h13 => absurd h13 (by omega)) (fun h13 => ?_)
  refine r_iload_n (q := 17) dX11_done_16 rfl rfl rfl ?_
  refine r_if_ltN (q := 20) (t := 31) (by omega) dX11_done_17 (by decide) rfl ?_
  refine r_iload_n (q := 21) dX11_done_20 rfl rfl rfl ?_
  refine r_aload_n (q := 22) dX11_done_21 rfl rfl rfl ?_
  refine r_getr (q := 25) (some (7, 0)) ck11 dX11_done_22 rfl (k := 5) (by decide) wt427 rfl (hs.e (by decide)) (hs.r (by decide) (by decide)) ?_
  refine r_geti (q := 28) ck7 dX11_done_25 rfl (k := 0) (by decide) wt39 (Or.inl rfl) (hs.e (by decide)) ?_
  refine r_topi (y := gI S 7 0 0) (by simp [gI_sI, gJ_sJ, gI_sJ, gJ_sI]) ?_
  refine r_topi (y := nI w) hw ?_
  refine r_icmp_ltN (q := 31) (t := 33) (by omega) (by omega) dX11_done_28 (by decide) rfl (fun h28 => ?_) (fun h28 => absurd h28 (by omega))
  refine r_iconst (q := 34) (nI 0) dX11_done_33 rfl (by decide) ?_
  refine r_istore_n (q := 35) (L' := [some (zr 11 0), some (zi (nI y)), some (zi (nI bs.length)), some (zi (nI 0))]) dX11_done_34 rfl rfl (by decide) rfl ?_
  exact lp_dn35n (S := sI S 11 0 1 (nI 0)) hs hb9 hB h1 h3 hw hal bs.length 0 (by omega) (fun k hk => absurd hk (by omega))

set_option maxRecDepth 100000 in
theorem cm_dn_y {S : zS} (hs : Sd S) {bs : List Nat} (hb9 : bs.length ≤ 940) (hl : gI S 11 0 1 = nI bs.length) {n w : Nat} (hx : bs.length = n) (hn7 : n ≤ 7) (hn0 : gI S 8 0 0 = nI n) (h1 : 1 ≤ w) (h3 : w ≤ 3) (hw : gI S 7 0 0 = nI w) {y : Nat} (hy : y < w) (hB : Bs S 1200 bs) {c P : Nat} (hcc : gI S 11 0 3 = nI c) (hc4 : c < 4) (hP2 : 2 ≤ P) (hP97 : P ≤ 97) {A : Nat} {e : Nat → Nat} (hE : Eok A e) {tb : Nat → Nat → Nat} {q : List zT} (hq : Ce A e P n q) (hp0 : gI S 9 c 0 = nI P) (hA : gI S 9 c 1 = nI A) (he : ∀ a, a < A → gI S 1003 c a = nI (e a)) (hT : ∀ a, a < A → TbC S a P (tb a)) (hty : Ty S 0 q) (hal : ∀ i, i < bs.length → bs.getD i 0 < w) : Ok mX11_done 0 (ent 4 [zr 11 0, zi (nI y)]) [] S (fun r S1 => r = some (zi (nI (dsA (fun t => (dvS w P e tb (fun i => bs.getD i 0) n (t)).1 0 y) P q q.length))) ∧ Fr (fun x y k => tDt x y k || x == 11 && y == 0 && k == 1) S S1 ∧ gI S1 11 0 1 = nI 0) := by
  have f0 : Fr (fun x y k => x == 11 && y == 0 && k == 1) S (sI S 11 0 1 (nI 0)) := (Fr.rf).i rfl
  show Ok mX11_done 0 [some (zr 11 0), some (zi (nI y)), none, none] [] S _
  refine r_aload_n (q := 1) dX11_done_0 rfl rfl rfl ?_
  refine r_callV (Mc := mX11_emptyTape) (q := 4) (As := []) (st := []) ck11 dX11_done_1 rfl rfl mkX11_emptyTape wt503 wt505 wp2 rfl (Nat.le_of_ble_eq_true rfl) (Nat.le_of_ble_eq_true rfl) (by decide) (by decide) (by decide) (Or.inl rfl) (hs.e (by decide)) (ok_X11_emptyTape hs) (fun r1 S1 hp1 => ?_)
  rw [hl] at hp1
  obtain ⟨rfl, hq1⟩ := hp1
  rw [hq1]
  show Ok _ _ _ [zi (nI bs.length)] _ _
  refine r_istore_n (q := 5) (L' := [some (zr 11 0), some (zi (nI y)), some (zi (nI bs.length)), none]) dX11_done_4 rfl rfl (by decide) rfl ?_
  refine r_iload_n (q := 6) dX11_done_5 rfl rfl rfl ?_
  refine r_aload_n (q := 7) dX11_done_6 rfl rfl rfl ?_
  refine r_getr (q := 10) (some (8, 0)) ck11 dX11_done_7 rfl (k := 7) (by decide) wt429 rfl (hs.e (by decide)) (hs.r (by decide) (by decide)) ?_
  refine r_geti (q := 13) ck8 dX11_done_10 rfl (k := 0) (by decide) wt60 (Or.inl rfl) (hs.e (by decide)) ?_
  refine r_topi (y := gI S 8 0 0) (by simp [gI_sI, gJ_sJ, gI_sJ, gJ_sI]) ?_
  refine r_topi (y := nI n) hn0 ?_
  refine r_icmp_neN (q := 16) (t := 31) (by omega) (by omega) dX11_done_13 (by decide) rfl (fun h13 => absurd h13 (by omega)) (fun h13 => ?_)
  refine r_iload_n (q := 17) dX11_done_16 rfl rfl rfl ?_
  refine r_if_ltN (q := 20) (t := 31) (by omega) dX11_done_17 (by decide) rfl ?_
  refine r_iload_n (q := 21) dX11_done_20 rfl rfl rfl ?_
  refine r_aload_n (q := 22) dX11_done_21 rfl rfl rfl ?_
  refine r_getr (q := 25) (some (7, 0)) ck11 dX11_done_22 rfl (k := 5) (by decide) wt427 rfl (hs.e (by decide)) (hs.r (by decide) (by decide)) ?_
  refine r_geti (q := 28) ck7 dX11_done_25 rfl (k := 0) (by decide) wt39 (Or.inl rfl) (hs.e (by decide)) ?_
  refine r_topi (y := gI S 7 0 0) (by simp [gI_sI, gJ_sJ, gI_sJ, gJ_sI]) ?_
  refine r_topi (y := nI w) hw ?_
  refine r_icmp_ltN (q := 31) (t := 33) (by omega) (by omega) dX11_done_28 (by decide) rfl (fun h28 => ?_) (fun h28 => absurd h28 (by omega))
  refine r_iconst (q := 34) (nI 0) dX11_done_33 rfl (by decide) ?_
  refine r_istore_n (q := 35) (L' := [some (zr 11 0), some (zi (nI y)), some (zi (nI bs.length)), some (zi (nI 0))]) dX11_done_34 rfl rfl (by decide) rfl ?_
  refine lp_dn35y (S := sI S 11 0 1 (nI 0)) hs hb9 hB h1 h3 hw hal bs.length 0 (by omega) (fun k hk => absurd hk (by omega)) ?_
  refine r_aload_n (q := 69) dX11_done_68 rfl rfl rfl ?_
  refine r_getr (q := 72) (some (1, 0)) ck11 dX11_done_69 rfl (k := 17) (by decide) wt439 rfl (hs.e (by decide)) (hs.r (by decide) (by decide)) ?_
  refine r_aload_n (q := 73) dX11_done_72 rfl rfl rfl ?_
  refine r_callV (Mc := mX11_worldHere) (q := 76) (As := []) (st := [zr 1 0]) ck11 dX11_done_73 rfl rfl mkX11_worldHere wt678 wt680 wp20 rfl (Nat.le_of_ble_eq_true rfl) (Nat.le_of_ble_eq_true rfl) (by decide) (by decide) (by decide) (Or.inl rfl) (hs.e (by decide)) (ok_X11_worldHere (S := sI S 11 0 1 (nI 0)) hs hcc hc4) (fun r73 S73 hp73 => ?_)
  obtain ⟨rfl, hq73⟩ := hp73
  rw [hq73]
  show Ok _ _ _ [zr 9 c, zr 1 0] _ _
  refine r_aload_n (q := 77) dX11_done_76 rfl rfl rfl ?_
  refine r_getr (q := 80) (some (8, 0)) ck11 dX11_done_77 rfl (k := 7) (by decide) wt429 rfl (hs.e (by decide)) (hs.r (by decide) (by decide)) ?_
  refine r_aload_n (q := 81) dX11_done_80 rfl rfl rfl ?_
  refine r_getr (q := 84) (some (7, 0)) ck11 dX11_done_81 rfl (k := 5) (by decide) wt427 rfl (hs.e (by decide)) (hs.r (by decide) (by decide)) ?_
  refine r_aload_n (q := 85) dX11_done_84 rfl rfl rfl ?_
  refine r_getr (q := 88) (some (1200, 0)) ck11 dX11_done_85 rfl (k := 0) (by decide) wt422 rfl (hs.e (by decide)) (hs.r (by decide) (by decide)) ?_
  refine r_iload_n (q := 89) dX11_done_88 rfl rfl rfl ?_
  refine r_callV (Mc := mX1_outcome) (q := 92) (As := [zr 9 c, zr 8 0, zr 7 0, zr 1200 0, zi (nI y)]) (st := []) ck1 dX11_done_89 rfl rfl mkX1_outcome wt1129 wt1130 wt1131 rfl (Nat.le_of_ble_eq_true rfl) (Nat.le_of_ble_eq_true rfl) (by decide) (by decide) (by decide) (Or.inl rfl) (hs.e (by decide)) (ok_outcome (S := sI S 11 0 1 (nI 0)) hs hc4 hn7 h1 h3 hP2 hP97 hE (tb := tb) (way := fun i => bs.getD i 0) hq hy hp0 hA he hw hT (fun i hi => ⟨(hB.1 i (by omega)).trans (sbt_lo _ (by have := hal i (by omega); omega)), by have := hal i (by omega); show bs.getD i 0 ≤ 3; omega⟩) hn0 hty) (fun r89 S89 hp89 => ?_)
  obtain ⟨rfl, f1⟩ := hp89
  show Ok _ _ _ [zi (nI (dsA (fun t => (dvS w P e tb (fun i => bs.getD i 0) n (t)).1 0 y) P q q.length))] _ _
  refine r_ireturn dX11_done_92 rfl ?_
  exact ⟨rfl, (f0.mono (fun x y k h => by simp only [Bool.or_eq_true]; exact Or.inr h)).tr (f1.mono (fun x y k h => by simp [h])), (f1.1 11 0 1 rfl).trans (by rw [gI_sI, if_pos ⟨rfl, rfl, rfl⟩])⟩

