/-! world: the class -/
def tFo (s a b k : Nat) : Bool := tCt s a b k || b == s && (a == 0 && (k == 2 || k == 12) || a == 109)

set_option maxRecDepth 100000 in
theorem ok_forget {S : zS} (hs : Sd S) {W : zWd} {s : Nat} (hs4 : s < 4) (hE : Eok (wA W) (we W)) (hA : gI S 9 s 1 = nI (wA W)) (he : ∀ a, a < wA W → gI S 1003 s a = nI (we W a)) : Ok mX0_forget 0 (ent 1 [zr 0 s]) [] S (fun r S1 => r = none ∧ Fr (tFo s) S S1 ∧ Cf S1 (tc W) s 11 ∧ gI S1 0 s 2 = nI 0 ∧ gI S1 0 s 12 = nI 0 ∧ ∀ k, k < 8 → gI S1 109 s k = -1) := by
  show Ok mX0_forget 0 [some (zr 0 s)] [] S _
  refine r_aload_n (q := 1) dX0_forget_0 rfl rfl rfl ?_
  refine r_getr (q := 4) (some (9, s)) ck0 dX0_forget_1 rfl (k := 0) (by decide) wt374 rfl (hs.e (show s < 4 by omega)) (hs.r (show s < 4 by omega) (by decide)) ?_
  refine r_callV (Mc := mX9_countTrees) (q := 7) (As := []) (st := []) ck9 dX0_forget_4 rfl rfl mkX9_countTrees wt660 wt661 wt662 rfl (Nat.le_of_ble_eq_true rfl) (Nat.le_of_ble_eq_true rfl) (by decide) (by decide) (by decide) (Or.inl rfl) (hs.e (show s < 4 by omega)) (ok_X9_countTrees (W := W) hs hs4 hE hA he) (fun r4 S4 hp4 => ?_)
  obtain ⟨rfl, f4, c4⟩ := hp4
  have h4 : Sd S4 := hs.fr f4
  show Ok _ _ _ [] _ _
  refine r_aload_n (q := 8) dX0_forget_7 rfl rfl rfl ?_
  refine r_iconst (q := 9) (nI 0) dX0_forget_8 rfl (by decide) ?_
  refine r_puti (q := 12) ck0 dX0_forget_9 rfl (k := 2) (by decide) wt379 (Or.inl rfl) rfl (h4.e (show s < 4 by omega)) ?_
  refine r_aload_n (q := 13) dX0_forget_12 rfl rfl rfl ?_
  refine r_iconst (q := 14) (nI 0) dX0_forget_13 rfl (by decide) ?_
  refine r_puti (q := 17) ck0 dX0_forget_14 rfl (k := 12) (by decide) wt392 (Or.inl rfl) rfl (h4.e (show s < 4 by omega)) ?_
  refine r_aload_n (q := 18) dX0_forget_17 rfl rfl rfl ?_
  refine r_getr (q := 21) (some (109, s)) ck0 dX0_forget_18 rfl (k := 9) (by decide) wt387 rfl (h4.e (show s < 4 by omega)) (h4.r (show s < 4 by omega) (by decide)) ?_
  refine r_iconst (q := 22) ((-1 : Int32)) dX0_forget_21 rfl (by decide) ?_
  refine r_callS (Mc := mJ7_fill_53178) (q := 25) (As := [zr 109 s, zi (-1 : Int32)]) (st := []) dX0_forget_22 rfl rfl mkJ7_fill_53178 wt371 wt372 rfl (Nat.le_of_ble_eq_true rfl) (Nat.le_of_ble_eq_true rfl) (by decide) (by decide) (by decide) (Or.inl rfl) h4.some (ok_fill2 (n := 8) (by decide) rfl (h4.e (show s < 4 by omega)) (h4.n rfl (show s < 4 by omega)) (by decide)) (fun r22 S22 hp22 => ?_)
  obtain ⟨rfl, hq22⟩ := hp22
  rw [hq22]
  show Ok _ _ _ [] _ _
  refine r_return dX0_forget_25 rfl ?_
  exact ⟨rfl, (f4.mono (fun a b k z => by simp [tFo, z])).tr ⟨fun a b k z => by rw [gI_flS, if_neg (fun y => by rw [y.1, y.2.1] at z; simp [tFo] at z), gI_sI, if_neg (fun y => by rw [y.1, y.2.1, y.2.2] at z; simp [tFo] at z), gI_sI, if_neg (fun y => by rw [y.1, y.2.1, y.2.2] at z; simp [tFo] at z)], fun _ _ _ _ => rfl, rfl⟩, fun i a b => ⟨(c4 i a b).1, fun o c d => (c4 i a b).2 o c d⟩, by rw [gI_flS, if_neg (by omega), gI_sI, if_neg (by omega), gI_sI, if_pos ⟨rfl, rfl, rfl⟩], by rw [gI_flS, if_neg (by omega), gI_sI, if_pos ⟨rfl, rfl, rfl⟩], fun k hk => by rw [gI_flS, if_pos ⟨rfl, rfl, by omega, hk⟩]⟩

def tWo (s a b k : Nat) : Prop := tLi s a b k ∨ tBg a b k = true ∨ a = 11 ∧ b = 0 ∧ k = 1
def tWs (s a b k : Nat) : Prop := tWo s a b k ∨ tFo s a b k = true ∨ a = 11 ∧ b = 0 ∧ (k = 3 ∨ k = 10) ∨ a = 7 ∧ b = 0 ∧ k = 0 ∨ a = 801 ∧ b = 0 ∨ a = 8 ∧ b = 0 ∧ k < 2
/-- what the class's world leaves: a fault, or the world in its slot, and all at hand plain -/
def WoC (S S1 : zS) (s : Nat) (r : Option zV) : zEr ⊕ (Nat × zWd) → Prop
  | Sum.inl x => r = some (zi ((-1 : Int32) - nI x.2)) ∧ Fg (tWo s) S S1 ∧ Fl S1 x ∧ gI S1 11 0 1 = nI 0 ∧ TL S1 12
  | Sum.inr (n, W) => r = some (zi (nI n)) ∧ Fg (tWs s) S S1 ∧ gI S1 4 0 14 = nI 0 ∧ WC S1 s W ∧ Tcs S1 s W ∧ (gI S1 0 s 2 = nI 0 ∧ gI S1 0 s 12 = nI 0 ∧ ∀ k, k < 8 → gI S1 109 s k = -1) ∧ gI S1 11 0 3 = nI s ∧ (gI S1 7 0 0 = nI 1 ∧ ∀ k, k < 729 → gI S1 801 0 k = nI 0) ∧ (gI S1 8 0 0 = nI 1 ∧ gI S1 8 0 1 = nI 0) ∧ gI S1 11 0 10 = nI 0 ∧ gI S1 11 0 1 = nI 0 ∧ TL S1 12

set_option maxRecDepth 100000 in
theorem cm_world_x {S : zS} (hs : Sd S) {cc : Nat} (hcc : gI S 11 0 3 = nI cc) (hc4 : cc < 4) {bs : List Nat} (hbl : bs.length ≤ 940) (h1 : gI S 11 0 1 = nI bs.length) (hb : Bs S 1200 bs) (hTL : TL S 12) (h6 : ∀ s, s < 4 → gI S 1006 s 0 = nI 0) {x : zEr} (q : linesP (lexA bs 900 0).length 0 false w0 (lexA bs 900 0) = Sum.inl x) : Ok mX11_world 0 (ent 4 [zr 11 0]) [] S (fun r S1 => ∃ s, s < 4 ∧ s ≠ cc ∧ nI s ≠ gI S 1204 0 0 ∧ nI s ≠ gI S 1204 0 1 ∧ WoC S S1 s r (linesP (lexA bs 900 0).length 0 false w0 (lexA bs 900 0))) := by
  rw [q]
  show Ok mX11_world 0 [some (zr 11 0), none, none, none] [] S _
  refine r_aload_n (q := 1) dX11_world_0 rfl rfl rfl ?_
  refine r_callV (Mc := mX11_freeSlot) (q := 4) (As := []) (st := []) ck11 dX11_world_1 rfl rfl mkX11_freeSlot wt499 wt501 wp1 rfl (Nat.le_of_ble_eq_true rfl) (Nat.le_of_ble_eq_true rfl) (by decide) (by decide) (by decide) (Or.inl rfl) (hs.e (by decide)) (ok_freeSlot hs hcc hc4) (fun r1 S1 hp1 => ?_)
  obtain ⟨⟨s, hs4, rfl, hsc, hk0, hk1⟩, rfl⟩ := hp1
  show Ok _ _ _ [zi (nI s)] _ _
  refine r_istore_n (q := 5) (L' := [some (zr 11 0), some (zi (nI s)), none, none]) dX11_world_4 rfl rfl (by decide) rfl ?_
  refine r_aload_n (q := 6) dX11_world_5 rfl rfl rfl ?_
  refine r_getr (q := 9) (some (1202, 0)) ck11 dX11_world_6 rfl (k := 2) (by decide) wt424 rfl (hs.e (by decide)) (hs.r (by decide) (by decide)) ?_
  refine r_iload_n (q := 10) dX11_world_9 rfl rfl rfl ?_
  refine r_aaldN (q := 11) (some (0, s)) 4 (by decide) (by decide) (by decide) dX11_world_10 rfl (hs.e (by decide)) (hs.n rfl (by decide)) (show s < 4 by omega) (by decide) ((hs.r (by decide) (show s < 4 by omega)).trans (if_pos (show s < 4 by omega))) ?_
  refine r_astore_n (q := 12) (L' := [some (zr 11 0), some (zi (nI s)), some (zr 0 s), none]) dX11_world_11 rfl rfl (by decide) rfl ?_
  refine r_aload_n (q := 13) dX11_world_12 rfl rfl rfl ?_
  refine r_getr (q := 16) (some (4, 0)) ck11 dX11_world_13 rfl (k := 14) (by decide) wt436 rfl (hs.e (by decide)) (hs.r (by decide) (by decide)) ?_
  refine r_aload_n (q := 17) dX11_world_16 rfl rfl rfl ?_
  refine r_getr (q := 20) (some (1200, 0)) ck11 dX11_world_17 rfl (k := 0) (by decide) wt422 rfl (hs.e (by decide)) (hs.r (by decide) (by decide)) ?_
  refine r_aload_n (q := 21) dX11_world_20 rfl rfl rfl ?_
  refine r_callV (Mc := mX11_emptyTape) (q := 24) (As := []) (st := [zr 1200 0, zr 4 0]) ck11 dX11_world_21 rfl rfl mkX11_emptyTape wt503 wt505 wp2 rfl (Nat.le_of_ble_eq_true rfl) (Nat.le_of_ble_eq_true rfl) (by decide) (by decide) (by decide) (Or.inl rfl) (hs.e (by decide)) (ok_X11_emptyTape hs) (fun r21 S21 hp21 => ?_)
  obtain ⟨rfl, rfl⟩ := hp21
  rw [h1]
  show Ok _ _ _ [zi (nI bs.length), zr 1200 0, zr 4 0] _ _
  refine r_sipush (q := 27) (nI 900) dX11_world_24 rfl (by decide) ?_
  refine r_callV (Mc := mX4_begin) (q := 30) (As := [zr 1200 0, zi (nI bs.length), zi (nI 900)]) (st := []) ck4 dX11_world_27 rfl rfl mkX4_begin wt507 wt508 wt509 rfl (Nat.le_of_ble_eq_true rfl) (Nat.le_of_ble_eq_true rfl) (by decide) (by decide) (by decide) (Or.inl rfl) (hs.e (by decide)) (ok_begin (S := sI S1 11 0 1 (nI 0)) hs ⟨fun k hk => by rw [gI_sI, if_neg (by omega)]; exact hb.1 k hk, hb.2⟩ hbl (by omega)) (fun r27 S27 hp27 => ?_)
  obtain ⟨rfl, f27, e27, rc27⟩ := hp27
  have h27 : Sd S27 := Sd.fr (S := sI S1 11 0 1 (nI 0)) hs f27
  have g27 : Fg (tWo s) S1 S27 := (Fg.of22 (S1 := sI S1 11 0 1 (nI 0)) hs rfl (fun a b k _ hz => by rw [gI_sI, if_neg (fun z => hz (Or.inr (Or.inr z)))]) (fun _ _ _ _ _ => rfl)).tr (f27.fg (S := sI S1 11 0 1 (nI 0)) hs (fun a b k z => Or.inr (Or.inl z)))
  have t27 : TL S27 12 := (hTL.cong (S1 := sI S1 11 0 1 (nI 0)) rfl rfl (by rw [gI_sI, if_neg (by omega)])).cong (gN_22 f27.2.2) (gN_22 f27.2.2) (f27.1 _ _ _ rfl)
  have h6' : gI S27 1006 s 0 = nI 0 := by rw [f27.1 _ _ _ rfl, gI_sI, if_neg (by omega)]; exact h6 s hs4
  have e1 : gI S27 11 0 1 = nI 0 := by rw [f27.1 _ _ _ rfl, gI_sI, if_pos ⟨rfl, rfl, rfl⟩]
  show Ok _ _ _ [] _ _
  refine r_aload_n (q := 31) dX11_world_30 rfl rfl rfl ?_
  refine r_getr (q := 34) (some (4, 0)) ck11 dX11_world_31 rfl (k := 14) (by decide) wt436 rfl (h27.e (by decide)) (h27.r (by decide) (by decide)) ?_
  refine r_aload_n (q := 35) dX11_world_34 rfl rfl rfl ?_
  refine r_getr (q := 38) (some (9, s)) ck0 dX11_world_35 rfl (k := 0) (by decide) wt377 rfl (h27.e (show s < 4 by omega)) (h27.r (show s < 4 by omega) (by decide)) ?_
  refine r_callV (Mc := mX4_readWorld) (q := 41) (As := [zr 9 s]) (st := []) ck4 dX11_world_38 rfl rfl mkX4_readWorld wt533 wt534 wt535 rfl (Nat.le_of_ble_eq_true rfl) (Nat.le_of_ble_eq_true rfl) (by decide) (by decide) (by decide) (Or.inr ⟨Nat.le_of_ble_eq_true rfl, rfl, rfl⟩) (h27.e (by decide)) (ok_readWorld h27 rc27 (lex_tks hb.2 hbl) (lex_lk _ _) hs4 h6' t27) (fun r38 S38 hp38 => ?_)
  rw [q] at hp38
  obtain ⟨rfl, f38, x38, t38⟩ := hp38
  have g38 : Fg (tWo s) S1 S38 := g27.tr (f38.mono fun _ _ _ z => Or.inl z)
  have e2 : gI S38 11 0 1 = nI 0 := (f38.I (by omega) (by unfold tLi tLw tTm tTy; simp [tTr, tCa, tSk, tPm, tAc])).trans e1
  show Ok _ _ _ [zi (-1 : Int32)] _ _
  refine r_istore_n (q := 42) (L' := [some (zr 11 0), some (zi (nI s)), some (zr 0 s), some (zi (-1 : Int32))]) dX11_world_41 rfl rfl (by decide) rfl ?_
  refine r_iload_n (q := 43) dX11_world_42 rfl rfl rfl ?_
  refine r_if_ge (q := 46) (t := 56) dX11_world_43 (by decide) rfl (fun h43 => absurd h43 (by decide)) (fun h43 => ?_)
  refine r_iconst (q := 47) ((-1 : Int32)) dX11_world_46 rfl (by decide) ?_
  refine r_aload_n (q := 48) dX11_world_47 rfl rfl rfl ?_
  refine r_getr (q := 51) (some (4, 0)) ck11 dX11_world_48 rfl (k := 14) (by decide) wt436 rfl (g38.sd.e (by decide)) (g38.sd.r (by decide) (by decide)) ?_
  refine r_geti (q := 54) ck4 dX11_world_51 rfl (k := 15) (by decide) wt139 (Or.inl rfl) (g38.sd.e (by decide)) ?_
  refine r_topi (y := nI x.2) x38.2 ?_
  refine r_isub (q := 55) dX11_world_54 rfl ?_
  refine r_ireturn dX11_world_55 rfl ?_
  exact ⟨s, hs4, hsc, hk0, hk1, rfl, g38, x38, e2, t38⟩

set_option maxRecDepth 100000 in
theorem cm_world_t {S : zS} (hs : Sd S) {cc : Nat} (hcc : gI S 11 0 3 = nI cc) (hc4 : cc < 4) {bs : List Nat} (hbl : bs.length ≤ 940) (h1 : gI S 11 0 1 = nI bs.length) (hb : Bs S 1200 bs) (hTL : TL S 12) (h6 : ∀ s, s < 4 → gI S 1006 s 0 = nI 0) {n : Nat} {W : zWd} (q : linesP (lexA bs 900 0).length 0 false w0 (lexA bs 900 0) = Sum.inr (n, W)) (hn : n ≤ 2000) (hE : Eok (wA W) (we W)) : Ok mX11_world 0 (ent 4 [zr 11 0]) [] S (fun r S1 => ∃ s, s < 4 ∧ s ≠ cc ∧ nI s ≠ gI S 1204 0 0 ∧ nI s ≠ gI S 1204 0 1 ∧ WoC S S1 s r (linesP (lexA bs 900 0).length 0 false w0 (lexA bs 900 0))) := by
  rw [q]
  show Ok mX11_world 0 [some (zr 11 0), none, none, none] [] S _
  refine r_aload_n (q := 1) dX11_world_0 rfl rfl rfl ?_
  refine r_callV (Mc := mX11_freeSlot) (q := 4) (As := []) (st := []) ck11 dX11_world_1 rfl rfl mkX11_freeSlot wt499 wt501 wp1 rfl (Nat.le_of_ble_eq_true rfl) (Nat.le_of_ble_eq_true rfl) (by decide) (by decide) (by decide) (Or.inl rfl) (hs.e (by decide)) (ok_freeSlot hs hcc hc4) (fun r1 S1 hp1 => ?_)
  obtain ⟨⟨s, hs4, rfl, hsc, hk0, hk1⟩, rfl⟩ := hp1
  show Ok _ _ _ [zi (nI s)] _ _
  refine r_istore_n (q := 5) (L' := [some (zr 11 0), some (zi (nI s)), none, none]) dX11_world_4 rfl rfl (by decide) rfl ?_
  refine r_aload_n (q := 6) dX11_world_5 rfl rfl rfl ?_
  refine r_getr (q := 9) (some (1202, 0)) ck11 dX11_world_6 rfl (k := 2) (by decide) wt424 rfl (hs.e (by decide)) (hs.r (by decide) (by decide)) ?_
  refine r_iload_n (q := 10) dX11_world_9 rfl rfl rfl ?_
  refine r_aaldN (q := 11) (some (0, s)) 4 (by decide) (by decide) (by decide) dX11_world_10 rfl (hs.e (by decide)) (hs.n rfl (by decide)) (show s < 4 by omega) (by decide) ((hs.r (by decide) (show s < 4 by omega)).trans (if_pos (show s < 4 by omega))) ?_
  refine r_astore_n (q := 12) (L' := [some (zr 11 0), some (zi (nI s)), some (zr 0 s), none]) dX11_world_11 rfl rfl (by decide) rfl ?_
  refine r_aload_n (q := 13) dX11_world_12 rfl rfl rfl ?_
  refine r_getr (q := 16) (some (4, 0)) ck11 dX11_world_13 rfl (k := 14) (by decide) wt436 rfl (hs.e (by decide)) (hs.r (by decide) (by decide)) ?_
  refine r_aload_n (q := 17) dX11_world_16 rfl rfl rfl ?_
  refine r_getr (q := 20) (some (1200, 0)) ck11 dX11_world_17 rfl (k := 0) (by decide) wt422 rfl (hs.e (by decide)) (hs.r (by decide) (by decide)) ?_
  refine r_aload_n (q := 21) dX11_world_20 rfl rfl rfl ?_
  refine r_callV (Mc := mX11_emptyTape) (q := 24) (As := []) (st := [zr 1200 0, zr 4 0]) ck11 dX11_world_21 rfl rfl mkX11_emptyTape wt503 wt505 wp2 rfl (Nat.le_of_ble_eq_true rfl) (Nat.le_of_ble_eq_true rfl) (by decide) (by decide) (by decide) (Or.inl rfl) (hs.e (by decide)) (ok_X11_emptyTape hs) (fun r21 S21 hp21 => ?_)
  obtain ⟨rfl, rfl⟩ := hp21
  rw [h1]
  show Ok _ _ _ [zi (nI bs.length), zr 1200 0, zr 4 0] _ _
  refine r_sipush (q := 27) (nI 900) dX11_world_24 rfl (by decide) ?_
  refine r_callV (Mc := mX4_begin) (q := 30) (As := [zr 1200 0, zi (nI bs.length), zi (nI 900)]) (st := []) ck4 dX11_world_27 rfl rfl mkX4_begin wt507 wt508 wt509 rfl (Nat.le_of_ble_eq_true rfl) (Nat.le_of_ble_eq_true rfl) (by decide) (by decide) (by decide) (Or.inl rfl) (hs.e (by decide)) (ok_begin (S := sI S1 11 0 1 (nI 0)) hs ⟨fun k hk => by rw [gI_sI, if_neg (by omega)]; exact hb.1 k hk, hb.2⟩ hbl (by omega)) (fun r27 S27 hp27 => ?_)
  obtain ⟨rfl, f27, e27, rc27⟩ := hp27
  have h27 : Sd S27 := Sd.fr (S := sI S1 11 0 1 (nI 0)) hs f27
  have g27 : Fg (tWo s) S1 S27 := (Fg.of22 (S1 := sI S1 11 0 1 (nI 0)) hs rfl (fun a b k _ hz => by rw [gI_sI, if_neg (fun z => hz (Or.inr (Or.inr z)))]) (fun _ _ _ _ _ => rfl)).tr (f27.fg (S := sI S1 11 0 1 (nI 0)) hs (fun a b k z => Or.inr (Or.inl z)))
  have t27 : TL S27 12 := (hTL.cong (S1 := sI S1 11 0 1 (nI 0)) rfl rfl (by rw [gI_sI, if_neg (by omega)])).cong (gN_22 f27.2.2) (gN_22 f27.2.2) (f27.1 _ _ _ rfl)
  have h6' : gI S27 1006 s 0 = nI 0 := by rw [f27.1 _ _ _ rfl, gI_sI, if_neg (by omega)]; exact h6 s hs4
  have e1 : gI S27 11 0 1 = nI 0 := by rw [f27.1 _ _ _ rfl, gI_sI, if_pos ⟨rfl, rfl, rfl⟩]
  show Ok _ _ _ [] _ _
  refine r_aload_n (q := 31) dX11_world_30 rfl rfl rfl ?_
  refine r_getr (q := 34) (some (4, 0)) ck11 dX11_world_31 rfl (k := 14) (by decide) wt436 rfl (h27.e (by decide)) (h27.r (by decide) (by decide)) ?_
  refine r_aload_n (q := 35) dX11_world_34 rfl rfl rfl ?_
  refine r_getr (q := 38) (some (9, s)) ck0 dX11_world_35 rfl (k := 0) (by decide) wt377 rfl (h27.e (show s < 4 by omega)) (h27.r (show s < 4 by omega) (by decide)) ?_
  refine r_callV (Mc := mX4_readWorld) (q := 41) (As := [zr 9 s]) (st := []) ck4 dX11_world_38 rfl rfl mkX4_readWorld wt533 wt534 wt535 rfl (Nat.le_of_ble_eq_true rfl) (Nat.le_of_ble_eq_true rfl) (by decide) (by decide) (by decide) (Or.inr ⟨Nat.le_of_ble_eq_true rfl, rfl, rfl⟩) (h27.e (by decide)) (ok_readWorld h27 rc27 (lex_tks hb.2 hbl) (lex_lk _ _) hs4 h6' t27) (fun r38 S38 hp38 => ?_)
  rw [q] at hp38
  obtain ⟨rfl, f38, e38, c38, t38⟩ := hp38
  have g38 : Fg (tWo s) S1 S38 := g27.tr (f38.mono fun _ _ _ z => Or.inl z)
  have e2 : gI S38 11 0 1 = nI 0 := (f38.I (by omega) (by unfold tLi tLw tTm tTy; simp [tTr, tCa, tSk, tPm, tAc])).trans e1
  show Ok _ _ _ [zi (nI n)] _ _
  refine r_istore_n (q := 42) (L' := [some (zr 11 0), some (zi (nI s)), some (zr 0 s), some (zi (nI n))]) dX11_world_41 rfl rfl (by decide) rfl ?_
  refine r_iload_n (q := 43) dX11_world_42 rfl rfl rfl ?_
  refine r_if_geN (q := 46) (t := 56) (by omega) dX11_world_43 (by decide) rfl ?_
  refine r_aload_n (q := 57) dX11_world_56 rfl rfl rfl ?_
  refine r_callV (Mc := mX0_forget) (q := 60) (As := []) (st := []) ck0 dX11_world_57 rfl rfl mkX0_forget wt656 wt657 wt658 rfl (Nat.le_of_ble_eq_true rfl) (Nat.le_of_ble_eq_true rfl) (by decide) (by decide) (by decide) (Or.inl rfl) (g38.sd.e (show s < 4 by omega)) (ok_forget (W := W) g38.sd hs4 hE c38.2.1 (fun a ha => (c38.2.2.2.1 a ha).1)) (fun r57 S57 hp57 => ?_)
  obtain ⟨rfl, f57, cf57, b57, d57, u57⟩ := hp57
  have h57 : Sd S57 := g38.sd.fr f57
  show Ok _ _ _ [] _ _
  refine r_aload_n (q := 61) dX11_world_60 rfl rfl rfl ?_
  refine r_iload_n (q := 62) dX11_world_61 rfl rfl rfl ?_
  refine r_puti (q := 65) ck11 dX11_world_62 rfl (k := 3) (by decide) wt425 (Or.inl rfl) rfl (h57.e (by decide)) ?_
  refine r_aload_n (q := 66) dX11_world_65 rfl rfl rfl ?_
  refine r_getr (q := 69) (some (7, 0)) ck11 dX11_world_66 rfl (k := 5) (by decide) wt427 rfl (h57.e (by decide)) (h57.r (by decide) (by decide)) ?_
  refine r_iconst (q := 70) (nI 1) dX11_world_69 rfl (by decide) ?_
  refine r_callV (Mc := mX7_clear) (q := 73) (As := [zi (nI 1)]) (st := []) ck7 dX11_world_70 rfl rfl mkX7_clear wt664 wt665 wt666 rfl (Nat.le_of_ble_eq_true rfl) (Nat.le_of_ble_eq_true rfl) (by decide) (by decide) (by decide) (Or.inl rfl) (h57.e (by decide)) (ok_X7_clear (S := sI S57 11 0 3 (nI s)) h57 (by omega) (nI 1)) (fun r70 S70 hp70 => ?_)
  obtain ⟨rfl, hq70⟩ := hp70
  rw [hq70]
  show Ok _ _ _ [] _ _
  refine r_aload_n (q := 74) dX11_world_73 rfl rfl rfl ?_
  refine r_getr (q := 77) (some (8, 0)) ck11 dX11_world_74 rfl (k := 7) (by decide) wt429 rfl (h57.e (by decide)) (h57.r (by decide) (by decide)) ?_
  refine r_iconst (q := 78) (nI 1) dX11_world_77 rfl (by decide) ?_
  refine r_callV (Mc := mX8_clear) (q := 81) (As := [zi (nI 1)]) (st := []) ck8 dX11_world_78 rfl rfl mkX8_clear wt669 wt603 wt604 rfl (Nat.le_of_ble_eq_true rfl) (Nat.le_of_ble_eq_true rfl) (by decide) (by decide) (by decide) (Or.inl rfl) (h57.e (by decide)) (ok_X8_clear (S := flS (sI (sI S57 11 0 3 (nI s)) 7 0 0 (nI 1)) 801 0 0 729 (nI 0)) h57 (by omega) (nI 1)) (fun r78 S78 hp78 => ?_)
  obtain ⟨rfl, hq78⟩ := hp78
  rw [hq78]
  show Ok _ _ _ [] _ _
  refine r_aload_n (q := 82) dX11_world_81 rfl rfl rfl ?_
  refine r_iconst (q := 83) (nI 0) dX11_world_82 rfl (by decide) ?_
  refine r_puti (q := 86) ck11 dX11_world_83 rfl (k := 10) (by decide) wt432 (Or.inl rfl) rfl (h57.e (by decide)) ?_
  refine r_iload_n (q := 87) dX11_world_86 rfl rfl rfl ?_
  refine r_ireturn dX11_world_87 rfl ?_
  have gx : ∀ a b k, ¬ (a = 11 ∧ b = 0 ∧ (k = 3 ∨ k = 10)) → ¬ (a = 7 ∧ b = 0 ∧ k = 0) → ¬ (a = 801 ∧ b = 0) → ¬ (a = 8 ∧ b = 0 ∧ k < 2) → gI (sI (sI (sI (flS (sI (sI S57 11 0 3 (nI s)) 7 0 0 (nI 1)) 801 0 0 729 (nI 0)) 8 0 0 (nI 1)) 8 0 1 (nI 0)) 11 0 10 (nI 0)) a b k = gI S57 a b k := fun a b k a1 a2 a3 a4 => by rw [gI_sI, if_neg (by omega), gI_sI, if_neg (by omega), gI_sI, if_neg (by omega), gI_flS, if_neg (by omega), gI_sI, if_neg (by omega), gI_sI, if_neg (by omega)]
  have g0 : Fg (tWs s) S1 (sI (sI (sI (flS (sI (sI S57 11 0 3 (nI s)) 7 0 0 (nI 1)) 801 0 0 729 (nI 0)) 8 0 0 (nI 1)) 8 0 1 (nI 0)) 11 0 10 (nI 0)) := ((g38.mono fun _ _ _ z => Or.inl z).tr (f57.fg g38.sd fun a b k z => Or.inr (Or.inl z))).tr (Fg.of22 (S1 := sI (sI (sI (flS (sI (sI S57 11 0 3 (nI s)) 7 0 0 (nI 1)) 801 0 0 729 (nI 0)) 8 0 0 (nI 1)) 8 0 1 (nI 0)) 11 0 10 (nI 0)) h57 rfl (fun a b k _ hz => gx a b k (fun z => hz (Or.inr (Or.inr (by omega)))) (fun z => hz (Or.inr (Or.inr (by omega)))) (fun z => hz (Or.inr (Or.inr (by omega)))) (fun z => hz (Or.inr (Or.inr (by omega))))) (fun _ _ _ _ _ => rfl))
  have c57 : WC S57 s W := c38.fr f57 (fun a k ha => by simp [tFo, tCt]; omega)
  refine ⟨s, hs4, hsc, hk0, hk1, rfl, g0, (gx _ _ _ (by omega) (by omega) (by omega) (by omega)).trans ((f57.1 _ _ _ (by simp [tFo, tCt])).trans (e38.trans e27)), c57.fg (T := fun a b k => a ≠ 9 ∧ (a < 1002 ∨ 1008 < a)) (Fg.of22 (S1 := sI (sI (sI (flS (sI (sI S57 11 0 3 (nI s)) 7 0 0 (nI 1)) 801 0 0 729 (nI 0)) 8 0 0 (nI 1)) 8 0 1 (nI 0)) 11 0 10 (nI 0)) h57 rfl (fun a b k _ hz => gx a b k (by omega) (by omega) (by omega) (by omega)) (fun _ _ _ _ _ => rfl)) (fun a k ha => by omega), fun m a b => (cf57 m a (by omega)).1, ⟨(gx _ _ _ (by omega) (by omega) (by omega) (by omega)).trans b57, (gx _ _ _ (by omega) (by omega) (by omega) (by omega)).trans d57, fun k hk => (gx _ _ _ (by omega) (by omega) (by omega) (by omega)).trans (u57 k hk)⟩, ?_, ⟨?_, fun k hk => ?_⟩, ⟨?_, ?_⟩, ?_, (gx _ _ _ (by omega) (by omega) (by omega) (by omega)).trans ((f57.1 _ _ _ (by simp [tFo, tCt])).trans e2), (t38.cong (gN_22 f57.2.2) (gN_22 f57.2.2) (f57.1 _ _ _ (by simp [tFo, tCt]))).cong (S1 := sI (sI (sI (flS (sI (sI S57 11 0 3 (nI s)) 7 0 0 (nI 1)) 801 0 0 729 (nI 0)) 8 0 0 (nI 1)) 8 0 1 (nI 0)) 11 0 10 (nI 0)) rfl rfl (gx _ _ _ (by omega) (by omega) (by omega) (by omega))⟩
  · rw [gI_sI, if_neg (by omega), gI_sI, if_neg (by omega), gI_sI, if_neg (by omega), gI_flS, if_neg (by omega), gI_sI, if_neg (by omega), gI_sI, if_pos ⟨rfl, rfl, rfl⟩]
  · rw [gI_sI, if_neg (by omega), gI_sI, if_neg (by omega), gI_sI, if_neg (by omega), gI_flS, if_neg (by omega), gI_sI, if_pos ⟨rfl, rfl, rfl⟩]
  · rw [gI_sI, if_neg (by omega), gI_sI, if_neg (by omega), gI_sI, if_neg (by omega), gI_flS, if_pos ⟨rfl, rfl, by omega, hk⟩]
  · rw [gI_sI, if_neg (by omega), gI_sI, if_neg (by omega), gI_sI, if_pos ⟨rfl, rfl, rfl⟩]
  · rw [gI_sI, if_neg (by omega), gI_sI, if_pos ⟨rfl, rfl, rfl⟩]
  · rw [gI_sI, if_pos ⟨rfl, rfl, rfl⟩]

