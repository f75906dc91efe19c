def tTr (a b k : Nat) : Bool := tCa a b k || a == 510 && b == 0 || a == 4 && b == 0 && (k == 11 || k == 12)
theorem tTr_ca (a b k : Nat) (h : tCa a b k = true) : tTr a b k = true := by simp [tTr, h]
/-- acts and names of a world that is being read -/
def Wn (S : zS) (s A : Nat) (nm e : Nat → Nat) : Prop := gI S 9 s 1 = nI A ∧ ∀ a, a < A → gI S 1003 s a = nI (e a) ∧ gJ S 1002 s a = lN (nm a)
theorem Wn.fr {S S1 : zS} {s A : Nat} {nm e : Nat → Nat} {T : Nat → Nat → Nat → Bool} (h : Wn S s A nm e) (f : Fr T S S1) (ht : ∀ b k, T 9 b k = false ∧ T 1003 b k = false ∧ T 1002 b k = false) : Wn S1 s A nm e := ⟨(f.1 _ _ _ (ht _ _).1).trans h.1, fun a ha => ⟨(f.1 _ _ _ (ht _ _).2.1).trans (h.2 a ha).1, (f.2.1 _ _ _ (ht _ _).2.2).trans (h.2 a ha).2⟩⟩
def Nd (S : zS) (t : List Nat) : Prop := ∀ i, i < t.length → gI S 510 0 i = nI (nd (t.getD i 0))
theorem Nd.snoc {S S1 : zS} {t : List Nat} {k : Nat} (h : Nd S t) (hx : ∀ i, i < t.length → gI S1 510 0 i = gI S 510 0 i) (hk : gI S1 510 0 t.length = nI (nd k)) : Nd S1 (t ++ [k]) := fun i hi => by
  rw [List.length_append, List.length_singleton] at hi
  rw [getD_appN]
  by_cases h' : i < t.length
  · rw [if_pos h', hx i h']; exact h i h'
  · obtain rfl : i = t.length := by omega
    rw [if_neg h', Nat.sub_self]; exact hk
def TrR (S S1 : zS) (r : Option zV) : zEr ⊕ (List Nat × List zTk) → Prop
  | Sum.inl x => r = some (zi (nI 0)) ∧ Fr tTr S S1 ∧ Fl S1 x
  | Sum.inr (t, ts) => r = some (zi (nI 1)) ∧ Fr tTr S S1 ∧ gI S1 4 0 14 = gI S 4 0 14 ∧ Rc S1 ts ∧ gI S1 4 0 11 = nI t.length ∧ gI S1 4 0 12 = nI (lvs t) ∧ Nd S1 t
theorem TrR.pre {S S1 S2 : zS} {r : Option zV} {x : zEr ⊕ (List Nat × List zTk)} (h : TrR S1 S2 r x) (f : Fr tTr S S1) (h14 : gI S1 4 0 14 = gI S 4 0 14) : TrR S S2 r x := by
  cases x with
  | inl x => exact ⟨h.1, f.tr h.2.1, h.2.2⟩
  | inr x => obtain ⟨t, ts⟩ := x; exact ⟨h.1, f.tr h.2.1, h.2.2.1.trans h14, h.2.2.2⟩

set_option maxRecDepth 100000 in
theorem lp_readTree {nm e : Nat → Nat} {A s : Nat} (hs4 : s < 4) (hE : Eok A e) (hnb : ∀ a, a < A → nm a < 2 ^ 48) (hd : ∀ a b, a < A → b < A → nm a = nm b → a = b) : ∀ (f : Nat) (S : zS) (st acc : List Nat) (lv : Nat) (ts : List zTk), acc.length + f = 480 → Sd S → Wn S s A nm e → st.length ≤ acc.length → lv = lvs acc → lv ≤ 7 → gI S 4 0 12 = nI lv → Nd S acc → M9 S st → Rc S ts → Tks ts → Ok mX4_readTree 14 [some (zr 4 0), some (zr 9 s), some (zi (nI st.length)), some (zi (nI acc.length)), none] [] S (fun r S1 => TrR S S1 r (treeP nm e A f st acc lv ts)) := by
  intro f
  have hA3 := hE.1
  induction f with
  | zero =>
    intro S st acc lv ts hf hs hw hso hla hl7 hlv hnd hm hr hk
    obtain ⟨f5, f6, f7⟩ := hr.f
    obtain ⟨t1, t2, t3, t4⟩ := hk.hd
    rw [treeP]
    refine r_iload_n (q := 15) dX4_readTree_14 rfl rfl rfl ?_
    refine r_sipush (q := 18) (nI 480) dX4_readTree_15 rfl (by decide) ?_
    refine r_icmp_geN (q := 21) (t := 154) (by omega) (by omega) dX4_readTree_18 (by decide) rfl (fun h18 => ?_) (fun h18 => absurd h18 (by omega))
    refine r_aload_n (q := 155) dX4_readTree_154 rfl rfl rfl ?_
    refine r_iconst (q := 156) (nI 1) dX4_readTree_155 rfl (by decide) ?_
    refine r_aload_n (q := 157) dX4_readTree_156 rfl rfl rfl ?_
    refine r_geti (q := 160) ck4 dX4_readTree_157 rfl (k := 6) (by decide) wt127 (Or.inl rfl) (hs.e (by decide)) ?_
    refine r_topi (y := nI ((hdT ts).2.1)) f6 ?_
    refine r_callV (Mc := mX4_fail) (q := 163) (As := [zi (nI 1), zi (nI ((hdT ts).2.1))]) (st := []) ck4 dX4_readTree_160 rfl rfl mkX4_fail wt550 wt552 wp7 rfl (Nat.le_of_ble_eq_true rfl) (Nat.le_of_ble_eq_true rfl) (by decide) (by decide) (by decide) (Or.inl rfl) (hs.e (by decide)) (ok_fail hs 1 ((hdT ts).2.1)) (fun r160 S160 hp160 => ?_)
    obtain ⟨rfl, w160, x160⟩ := hp160
    show Ok _ _ _ [zi (nI 0)] _ _
    refine r_zreturn (by decide) dX4_readTree_163 rfl ?_
    exact ⟨rfl, ((w160.mono tSk_fl).mono tCa_sk).mono tTr_ca, x160⟩
  | succ f ih =>
    intro S st acc lv ts hf hs hw hso hla hl7 hlv hnd hm hr hk
    obtain ⟨f5, f6, f7⟩ := hr.f
    obtain ⟨t1, t2, t3, t4⟩ := hk.hd
    rw [treeP]
    by_cases hx : isWb ts 120 = true
    · rw [if_pos hx]
      by_cases h7 : 7 ≤ lv
      · rw [if_pos h7]
        refine r_iload_n (q := 15) dX4_readTree_14 rfl rfl rfl ?_
        refine r_sipush (q := 18) (nI 480) dX4_readTree_15 rfl (by decide) ?_
        refine r_icmp_geN (q := 21) (t := 154) (by omega) (by omega) dX4_readTree_18 (by decide) rfl (fun h18 => absurd h18 (by omega)) (fun h18 => ?_)
        refine r_aload_n (q := 22) dX4_readTree_21 rfl rfl rfl ?_
        refine r_ldc2 (q := 25) (120 : Int64) dX4_readTree_22 rfl wt566 ?_
        refine r_topl (y := lN 120) rfl ?_
        refine r_callV (Mc := mX4_isWord) (q := 28) (As := [zl (lN 120)]) (st := []) ck4 dX4_readTree_25 rfl rfl mkX4_isWord wt542 wt544 wp5 rfl (Nat.le_of_ble_eq_true rfl) (Nat.le_of_ble_eq_true rfl) (by decide) (by decide) (by decide) (Or.inl rfl) (hs.e (by decide)) (ok_isWord hs hr hk (by omega)) (fun r25 S25 hp25 => ?_)
        obtain ⟨rfl, hq25⟩ := hp25
        rw [hq25]
        rw [if_pos hx]
        show Ok _ _ _ [zi (nI 1)] _ _
        refine r_if_neN (q := 31) (t := 81) (by omega) dX4_readTree_28 (by decide) rfl (fun h28 => ?_) (fun h28 => absurd h28 (by omega))
        refine r_aload_n (q := 82) dX4_readTree_81 rfl rfl rfl ?_
        refine r_geti (q := 85) ck4 dX4_readTree_82 rfl (k := 12) (by decide) wt133 (Or.inl rfl) (hs.e (by decide)) ?_
        refine r_topi (y := nI lv) hlv ?_
        refine r_bipush (q := 87) (nI 7) dX4_readTree_85 rfl (by decide) ?_
        refine r_icmp_ltN (q := 90) (t := 100) (by omega) (by omega) dX4_readTree_87 (by decide) rfl (fun h87 => absurd h87 (by omega)) (fun h87 => ?_)
        refine r_aload_n (q := 91) dX4_readTree_90 rfl rfl rfl ?_
        refine r_iconst (q := 92) (nI 4) dX4_readTree_91 rfl (by decide) ?_
        refine r_aload_n (q := 93) dX4_readTree_92 rfl rfl rfl ?_
        refine r_geti (q := 96) ck4 dX4_readTree_93 rfl (k := 6) (by decide) wt127 (Or.inl rfl) (hs.e (by decide)) ?_
        refine r_topi (y := nI ((hdT ts).2.1)) f6 ?_
        refine r_callV (Mc := mX4_fail) (q := 99) (As := [zi (nI 4), zi (nI ((hdT ts).2.1))]) (st := []) ck4 dX4_readTree_96 rfl rfl mkX4_fail wt550 wt552 wp7 rfl (Nat.le_of_ble_eq_true rfl) (Nat.le_of_ble_eq_true rfl) (by decide) (by decide) (by decide) (Or.inl rfl) (hs.e (by decide)) (ok_fail hs 4 ((hdT ts).2.1)) (fun r96 S96 hp96 => ?_)
        obtain ⟨rfl, w96, x96⟩ := hp96
        show Ok _ _ _ [zi (nI 0)] _ _
        refine r_zreturn (by decide) dX4_readTree_99 rfl ?_
        exact ⟨rfl, ((w96.mono tSk_fl).mono tCa_sk).mono tTr_ca, x96⟩
      · rw [if_neg h7]
        have hr' : Rc (sI (sI S 4 0 12 (nI (lv + 1))) 510 0 acc.length (nI 3)) ts := hr.cong (fun i => ⟨by rw [gI_sI, if_neg (by omega), gI_sI, if_neg (by omega)], by rw [gI_sI, if_neg (by omega), gI_sI, if_neg (by omega)], rfl⟩) (fun k hk => by rw [gI_sI, if_neg (by omega), gI_sI, if_neg (by omega)]) rfl
        have hm' : M9 (sI (sI S 4 0 12 (nI (lv + 1))) 510 0 acc.length (nI 3)) st := hm.cong fun i hi => by rw [gI_sI, if_neg (by omega), gI_sI, if_neg (by omega)]
        have hf' : Fr tTr S (sI (sI S 4 0 12 (nI (lv + 1))) 510 0 acc.length (nI 3)) := (Fr.rf.i rfl).i rfl
        have h14 : gI (sI (sI S 4 0 12 (nI (lv + 1))) 510 0 acc.length (nI 3)) 4 0 14 = gI S 4 0 14 := by rw [gI_sI, if_neg (by omega), gI_sI, if_neg (by omega)]
        have h12 : gI (sI (sI S 4 0 12 (nI (lv + 1))) 510 0 acc.length (nI 3)) 4 0 12 = nI (lv + 1) := by rw [gI_sI, if_neg (by omega), gI_sI, if_pos ⟨rfl, rfl, rfl⟩]
        have hn' : Nd (sI (sI S 4 0 12 (nI (lv + 1))) 510 0 acc.length (nI 3)) (acc ++ [0]) := hnd.snoc (fun i hi => by rw [gI_sI, if_neg (by omega), gI_sI, if_neg (by omega)]) (by rw [gI_sI, if_pos ⟨rfl, rfl, rfl⟩]; rfl)
        have hlv' : lv + 1 = lvs (acc ++ [0]) := by rw [lvs_app, ← hla]; rfl
        have hal : (acc ++ [0]).length = acc.length + 1 := by rw [List.length_append, List.length_singleton]
        cases q : clsP st (adv ts) with
        | inl x =>
          skip
          refine r_iload_n (q := 15) dX4_readTree_14 rfl rfl rfl ?_
          refine r_sipush (q := 18) (nI 480) dX4_readTree_15 rfl (by decide) ?_
          refine r_icmp_geN (q := 21) (t := 154) (by omega) (by omega) dX4_readTree_18 (by decide) rfl (fun h18 => absurd h18 (by omega)) (fun h18 => ?_)
          refine r_aload_n (q := 22) dX4_readTree_21 rfl rfl rfl ?_
          refine r_ldc2 (q := 25) (120 : Int64) dX4_readTree_22 rfl wt566 ?_
          refine r_topl (y := lN 120) rfl ?_
          refine r_callV (Mc := mX4_isWord) (q := 28) (As := [zl (lN 120)]) (st := []) ck4 dX4_readTree_25 rfl rfl mkX4_isWord wt542 wt544 wp5 rfl (Nat.le_of_ble_eq_true rfl) (Nat.le_of_ble_eq_true rfl) (by decide) (by decide) (by decide) (Or.inl rfl) (hs.e (by decide)) (ok_isWord hs hr hk (by omega)) (fun r25 S25 hp25 => ?_)
          obtain ⟨rfl, hq25⟩ := hp25
          rw [hq25]
          rw [if_pos hx]
          show Ok _ _ _ [zi (nI 1)] _ _
          refine r_if_neN (q := 31) (t := 81) (by omega) dX4_readTree_28 (by decide) rfl (fun h28 => ?_) (fun h28 => absurd h28 (by omega))
          refine r_aload_n (q := 82) dX4_readTree_81 rfl rfl rfl ?_
          refine r_geti (q := 85) ck4 dX4_readTree_82 rfl (k := 12) (by decide) wt133 (Or.inl rfl) (hs.e (by decide)) ?_
          refine r_topi (y := nI lv) hlv ?_
          refine r_bipush (q := 87) (nI 7) dX4_readTree_85 rfl (by decide) ?_
          refine r_icmp_ltN (q := 90) (t := 100) (by omega) (by omega) dX4_readTree_87 (by decide) rfl (fun h87 => ?_) (fun h87 => absurd h87 (by omega))
          refine r_aload_n (q := 101) dX4_readTree_100 rfl rfl rfl ?_
          refine r_dup (q := 102) dX4_readTree_101 rfl rfl ?_
          refine r_geti (q := 105) ck4 dX4_readTree_102 rfl (k := 12) (by decide) wt133 (Or.inl rfl) (hs.e (by decide)) ?_
          refine r_topi (y := nI lv) hlv ?_
          refine r_iconst (q := 106) (nI 1) dX4_readTree_105 rfl (by decide) ?_
          refine r_iaddN (q := 107) dX4_readTree_106 rfl ?_
          refine r_puti (q := 110) ck4 dX4_readTree_107 rfl (k := 12) (by decide) wt133 (Or.inl rfl) rfl (hs.e (by decide)) ?_
          refine r_aload_n (q := 111) dX4_readTree_110 rfl rfl rfl ?_
          refine r_getr (q := 114) (some (510, 0)) ck4 dX4_readTree_111 rfl (k := 10) (by decide) wt131 rfl (hs.e (by decide)) (hs.r (by decide) (by decide)) ?_
          refine r_iload_n (q := 115) dX4_readTree_114 rfl rfl rfl ?_
          refine r_iconst (q := 116) (nI 3) dX4_readTree_115 rfl (by decide) ?_
          refine r_iastN (q := 117) 480 (by decide) rfl dX4_readTree_116 rfl (hs.e (by decide)) (hs.n rfl (by decide)) (by omega) (by decide) ?_
          refine r_aload_n (q := 118) dX4_readTree_117 rfl rfl rfl ?_
          refine r_callV (Mc := mX4_advance) (q := 121) (As := []) (st := []) ck4 dX4_readTree_118 rfl rfl mkX4_advance wt529 wt531 wp4 rfl (Nat.le_of_ble_eq_true rfl) (Nat.le_of_ble_eq_true rfl) (by decide) (by decide) (by decide) (Or.inl rfl) (hs.e (by decide)) (ok_advance (S := sI (sI S 4 0 12 (nI (lv + 1))) 510 0 acc.length (nI 3)) hs hr') (fun r118 S118 hp118 => ?_)
          obtain ⟨rfl, w118, x118⟩ := hp118
          have gS : Sd S118 := Sd.fr (S := sI (sI S 4 0 12 (nI (lv + 1))) 510 0 acc.length (nI 3)) hs w118
          have gM : M9 S118 st := hm'.cong fun i _ => w118.1 _ _ _ rfl
          have gF : Fr tTr S S118 := hf'.tr (((w118.mono tSk_av).mono tCa_sk).mono tTr_ca)
          have g14 : gI S118 4 0 14 = gI S 4 0 14 := (w118.1 _ _ _ rfl).trans h14
          show Ok _ _ _ [] _ _
          refine r_aload_n (q := 122) dX4_readTree_121 rfl rfl rfl ?_
          refine r_iload_n (q := 123) dX4_readTree_122 rfl rfl rfl ?_
          refine r_callV (Mc := mX4_closeActs) (q := 126) (As := [zi (nI st.length)]) (st := []) ck4 dX4_readTree_123 rfl rfl mkX4_closeActs wt598 wt600 wp15 rfl (Nat.le_of_ble_eq_true rfl) (Nat.le_of_ble_eq_true rfl) (by decide) (by decide) (by decide) (Or.inl rfl) (gS.e (by decide)) (ok_closeActs gS x118 hk.adv (by omega) gM) (fun r123 S123 hp123 => ?_)
          rw [q] at hp123
          obtain ⟨rfl, y1, y2⟩ := hp123
          show Ok _ _ _ [zi (-1 : Int32)] _ _
          refine r_istore_n (q := 127) (L' := [some (zr 4 0), some (zr 9 s), some (zi (-1 : Int32)), some (zi (nI acc.length)), none]) dX4_readTree_126 rfl rfl (by decide) rfl ?_
          refine r_iload_n (q := 128) dX4_readTree_127 rfl rfl rfl ?_
          refine r_if_gt (q := 131) (t := 148) dX4_readTree_128 (by decide) rfl (fun h128 => absurd h128 (by decide)) (fun h128 => ?_)
          refine r_aload_n (q := 132) dX4_readTree_131 rfl rfl rfl ?_
          refine r_iload_n (q := 133) dX4_readTree_132 rfl rfl rfl ?_
          refine r_iconst (q := 134) (nI 1) dX4_readTree_133 rfl (by decide) ?_
          refine r_iaddN (q := 135) dX4_readTree_134 rfl ?_
          refine r_puti (q := 138) ck4 dX4_readTree_135 rfl (k := 11) (by decide) wt132 (Or.inl rfl) rfl ((gS.fr y1).e (by decide)) ?_
          refine r_iload_n (q := 139) dX4_readTree_138 rfl rfl rfl ?_
          refine r_if_ne (q := 142) (t := 146) dX4_readTree_139 (by decide) rfl (fun h139 => ?_) (fun h139 => absurd h139 (by decide))
          refine r_iconst (q := 147) (nI 0) dX4_readTree_146 rfl (by decide) ?_
          refine r_zreturn (by decide) dX4_readTree_147 rfl ?_
          exact ⟨rfl, (gF.tr (y1.mono tTr_ca)).i rfl, by rw [gI_sI, if_neg (by omega)]; exact y2.1, by rw [gI_sI, if_neg (by omega)]; exact y2.2⟩
        | inr x =>
          obtain ⟨st', ts'⟩ := x
          have hk' := clsP_tks hk.adv q
          cases st' with
          | nil =>
            skip
            refine r_iload_n (q := 15) dX4_readTree_14 rfl rfl rfl ?_
            refine r_sipush (q := 18) (nI 480) dX4_readTree_15 rfl (by decide) ?_
            refine r_icmp_geN (q := 21) (t := 154) (by omega) (by omega) dX4_readTree_18 (by decide) rfl (fun h18 => absurd h18 (by omega)) (fun h18 => ?_)
            refine r_aload_n (q := 22) dX4_readTree_21 rfl rfl rfl ?_
            refine r_ldc2 (q := 25) (120 : Int64) dX4_readTree_22 rfl wt566 ?_
            refine r_topl (y := lN 120) rfl ?_
            refine r_callV (Mc := mX4_isWord) (q := 28) (As := [zl (lN 120)]) (st := []) ck4 dX4_readTree_25 rfl rfl mkX4_isWord wt542 wt544 wp5 rfl (Nat.le_of_ble_eq_true rfl) (Nat.le_of_ble_eq_true rfl) (by decide) (by decide) (by decide) (Or.inl rfl) (hs.e (by decide)) (ok_isWord hs hr hk (by omega)) (fun r25 S25 hp25 => ?_)
            obtain ⟨rfl, hq25⟩ := hp25
            rw [hq25]
            rw [if_pos hx]
            show Ok _ _ _ [zi (nI 1)] _ _
            refine r_if_neN (q := 31) (t := 81) (by omega) dX4_readTree_28 (by decide) rfl (fun h28 => ?_) (fun h28 => absurd h28 (by omega))
            refine r_aload_n (q := 82) dX4_readTree_81 rfl rfl rfl ?_
            refine r_geti (q := 85) ck4 dX4_readTree_82 rfl (k := 12) (by decide) wt133 (Or.inl rfl) (hs.e (by decide)) ?_
            refine r_topi (y := nI lv) hlv ?_
            refine r_bipush (q := 87) (nI 7) dX4_readTree_85 rfl (by decide) ?_
            refine r_icmp_ltN (q := 90) (t := 100) (by omega) (by omega) dX4_readTree_87 (by decide) rfl (fun h87 => ?_) (fun h87 => absurd h87 (by omega))
            refine r_aload_n (q := 101) dX4_readTree_100 rfl rfl rfl ?_
            refine r_dup (q := 102) dX4_readTree_101 rfl rfl ?_
            refine r_geti (q := 105) ck4 dX4_readTree_102 rfl (k := 12) (by decide) wt133 (Or.inl rfl) (hs.e (by decide)) ?_
            refine r_topi (y := nI lv) hlv ?_
            refine r_iconst (q := 106) (nI 1) dX4_readTree_105 rfl (by decide) ?_
            refine r_iaddN (q := 107) dX4_readTree_106 rfl ?_
            refine r_puti (q := 110) ck4 dX4_readTree_107 rfl (k := 12) (by decide) wt133 (Or.inl rfl) rfl (hs.e (by decide)) ?_
            refine r_aload_n (q := 111) dX4_readTree_110 rfl rfl rfl ?_
            refine r_getr (q := 114) (some (510, 0)) ck4 dX4_readTree_111 rfl (k := 10) (by decide) wt131 rfl (hs.e (by decide)) (hs.r (by decide) (by decide)) ?_
            refine r_iload_n (q := 115) dX4_readTree_114 rfl rfl rfl ?_
            refine r_iconst (q := 116) (nI 3) dX4_readTree_115 rfl (by decide) ?_
            refine r_iastN (q := 117) 480 (by decide) rfl dX4_readTree_116 rfl (hs.e (by decide)) (hs.n rfl (by decide)) (by omega) (by decide) ?_
            refine r_aload_n (q := 118) dX4_readTree_117 rfl rfl rfl ?_
            refine r_callV (Mc := mX4_advance) (q := 121) (As := []) (st := []) ck4 dX4_readTree_118 rfl rfl mkX4_advance wt529 wt531 wp4 rfl (Nat.le_of_ble_eq_true rfl) (Nat.le_of_ble_eq_true rfl) (by decide) (by decide) (by decide) (Or.inl rfl) (hs.e (by decide)) (ok_advance (S := sI (sI S 4 0 12 (nI (lv + 1))) 510 0 acc.length (nI 3)) hs hr') (fun r118 S118 hp118 => ?_)
            obtain ⟨rfl, w118, x118⟩ := hp118
            have gS : Sd S118 := Sd.fr (S := sI (sI S 4 0 12 (nI (lv + 1))) 510 0 acc.length (nI 3)) hs w118
            have gM : M9 S118 st := hm'.cong fun i _ => w118.1 _ _ _ rfl
            have gF : Fr tTr S S118 := hf'.tr (((w118.mono tSk_av).mono tCa_sk).mono tTr_ca)
            have g14 : gI S118 4 0 14 = gI S 4 0 14 := (w118.1 _ _ _ rfl).trans h14
            show Ok _ _ _ [] _ _
            refine r_aload_n (q := 122) dX4_readTree_121 rfl rfl rfl ?_
            refine r_iload_n (q := 123) dX4_readTree_122 rfl rfl rfl ?_
            refine r_callV (Mc := mX4_closeActs) (q := 126) (As := [zi (nI st.length)]) (st := []) ck4 dX4_readTree_123 rfl rfl mkX4_closeActs wt598 wt600 wp15 rfl (Nat.le_of_ble_eq_true rfl) (Nat.le_of_ble_eq_true rfl) (by decide) (by decide) (by decide) (Or.inl rfl) (gS.e (by decide)) (ok_closeActs gS x118 hk.adv (by omega) gM) (fun r123 S123 hp123 => ?_)
            rw [q] at hp123
            obtain ⟨rfl, y1, y2, y3, y4⟩ := hp123
            show Ok _ _ _ [zi (nI 0)] _ _
            refine r_istore_n (q := 127) (L' := [some (zr 4 0), some (zr 9 s), some (zi (nI 0)), some (zi (nI acc.length)), none]) dX4_readTree_126 rfl rfl (by decide) rfl ?_
            refine r_iload_n (q := 128) dX4_readTree_127 rfl rfl rfl ?_
            refine r_if_gtN (q := 131) (t := 148) (by omega) dX4_readTree_128 (by decide) rfl (fun h128 => absurd h128 (by omega)) (fun h128 => ?_)
            refine r_aload_n (q := 132) dX4_readTree_131 rfl rfl rfl ?_
            refine r_iload_n (q := 133) dX4_readTree_132 rfl rfl rfl ?_
            refine r_iconst (q := 134) (nI 1) dX4_readTree_133 rfl (by decide) ?_
            refine r_iaddN (q := 135) dX4_readTree_134 rfl ?_
            refine r_puti (q := 138) ck4 dX4_readTree_135 rfl (k := 11) (by decide) wt132 (Or.inl rfl) rfl ((gS.fr y1).e (by decide)) ?_
            refine r_iload_n (q := 139) dX4_readTree_138 rfl rfl rfl ?_
            refine r_if_neN (q := 142) (t := 146) (by omega) dX4_readTree_139 (by decide) rfl (fun h139 => absurd h139 (by omega)) (fun h139 => ?_)
            refine r_iconst (q := 143) (nI 1) dX4_readTree_142 rfl (by decide) ?_
            refine r_goto (q := 147) dX4_readTree_143 (by decide) ?_
            refine r_zreturn (by decide) dX4_readTree_147 rfl ?_
            have nF : ∀ i, gI S123 510 0 i = gI (sI (sI S 4 0 12 (nI (lv + 1))) 510 0 acc.length (nI 3)) 510 0 i := fun i => (y1.1 _ _ _ rfl).trans (w118.1 _ _ _ rfl)
            exact ⟨rfl, (gF.tr (y1.mono tTr_ca)).i rfl, by rw [gI_sI, if_neg (by omega)]; exact y2.trans g14, y3.cong (fun i => ⟨by rw [gI_sI, if_neg (by omega)], by rw [gI_sI, if_neg (by omega)], rfl⟩) (fun k hk => by rw [gI_sI, if_neg (by omega)]) rfl, by rw [gI_sI, if_pos ⟨rfl, rfl, rfl⟩, hal], by rw [gI_sI, if_neg (by omega), ← hlv']; exact (y1.1 _ _ _ rfl).trans ((w118.1 _ _ _ rfl).trans h12), fun i hi => by rw [gI_sI, if_neg (by omega), nF]; exact hn' i hi⟩
          | cons l st' =>
            have hk2 := hk'.2
            rw [List.length_cons] at hk2
            refine r_iload_n (q := 15) dX4_readTree_14 rfl rfl rfl ?_
            refine r_sipush (q := 18) (nI 480) dX4_readTree_15 rfl (by decide) ?_
            refine r_icmp_geN (q := 21) (t := 154) (by omega) (by omega) dX4_readTree_18 (by decide) rfl (fun h18 => absurd h18 (by omega)) (fun h18 => ?_)
            refine r_aload_n (q := 22) dX4_readTree_21 rfl rfl rfl ?_
            refine r_ldc2 (q := 25) (120 : Int64) dX4_readTree_22 rfl wt566 ?_
            refine r_topl (y := lN 120) rfl ?_
            refine r_callV (Mc := mX4_isWord) (q := 28) (As := [zl (lN 120)]) (st := []) ck4 dX4_readTree_25 rfl rfl mkX4_isWord wt542 wt544 wp5 rfl (Nat.le_of_ble_eq_true rfl) (Nat.le_of_ble_eq_true rfl) (by decide) (by decide) (by decide) (Or.inl rfl) (hs.e (by decide)) (ok_isWord hs hr hk (by omega)) (fun r25 S25 hp25 => ?_)
            obtain ⟨rfl, hq25⟩ := hp25
            rw [hq25]
            rw [if_pos hx]
            show Ok _ _ _ [zi (nI 1)] _ _
            refine r_if_neN (q := 31) (t := 81) (by omega) dX4_readTree_28 (by decide) rfl (fun h28 => ?_) (fun h28 => absurd h28 (by omega))
            refine r_aload_n (q := 82) dX4_readTree_81 rfl rfl rfl ?_
            refine r_geti (q := 85) ck4 dX4_readTree_82 rfl (k := 12) (by decide) wt133 (Or.inl rfl) (hs.e (by decide)) ?_
            refine r_topi (y := nI lv) hlv ?_
            refine r_bipush (q := 87) (nI 7) dX4_readTree_85 rfl (by decide) ?_
            refine r_icmp_ltN (q := 90) (t := 100) (by omega) (by omega) dX4_readTree_87 (by decide) rfl (fun h87 => ?_) (fun h87 => absurd h87 (by omega))
            refine r_aload_n (q := 101) dX4_readTree_100 rfl rfl rfl ?_
            refine r_dup (q := 102) dX4_readTree_101 rfl rfl ?_
            refine r_geti (q := 105) ck4 dX4_readTree_102 rfl (k := 12) (by decide) wt133 (Or.inl rfl) (hs.e (by decide)) ?_
            refine r_topi (y := nI lv) hlv ?_
            refine r_iconst (q := 106) (nI 1) dX4_readTree_105 rfl (by decide) ?_
            refine r_iaddN (q := 107) dX4_readTree_106 rfl ?_
            refine r_puti (q := 110) ck4 dX4_readTree_107 rfl (k := 12) (by decide) wt133 (Or.inl rfl) rfl (hs.e (by decide)) ?_
            refine r_aload_n (q := 111) dX4_readTree_110 rfl rfl rfl ?_
            refine r_getr (q := 114) (some (510, 0)) ck4 dX4_readTree_111 rfl (k := 10) (by decide) wt131 rfl (hs.e (by decide)) (hs.r (by decide) (by decide)) ?_
            refine r_iload_n (q := 115) dX4_readTree_114 rfl rfl rfl ?_
            refine r_iconst (q := 116) (nI 3) dX4_readTree_115 rfl (by decide) ?_
            refine r_iastN (q := 117) 480 (by decide) rfl dX4_readTree_116 rfl (hs.e (by decide)) (hs.n rfl (by decide)) (by omega) (by decide) ?_
            refine r_aload_n (q := 118) dX4_readTree_117 rfl rfl rfl ?_
            refine r_callV (Mc := mX4_advance) (q := 121) (As := []) (st := []) ck4 dX4_readTree_118 rfl rfl mkX4_advance wt529 wt531 wp4 rfl (Nat.le_of_ble_eq_true rfl) (Nat.le_of_ble_eq_true rfl) (by decide) (by decide) (by decide) (Or.inl rfl) (hs.e (by decide)) (ok_advance (S := sI (sI S 4 0 12 (nI (lv + 1))) 510 0 acc.length (nI 3)) hs hr') (fun r118 S118 hp118 => ?_)
            obtain ⟨rfl, w118, x118⟩ := hp118
            have gS : Sd S118 := Sd.fr (S := sI (sI S 4 0 12 (nI (lv + 1))) 510 0 acc.length (nI 3)) hs w118
            have gM : M9 S118 st := hm'.cong fun i _ => w118.1 _ _ _ rfl
            have gF : Fr tTr S S118 := hf'.tr (((w118.mono tSk_av).mono tCa_sk).mono tTr_ca)
            have g14 : gI S118 4 0 14 = gI S 4 0 14 := (w118.1 _ _ _ rfl).trans h14
            show Ok _ _ _ [] _ _
            refine r_aload_n (q := 122) dX4_readTree_121 rfl rfl rfl ?_
            refine r_iload_n (q := 123) dX4_readTree_122 rfl rfl rfl ?_
            refine r_callV (Mc := mX4_closeActs) (q := 126) (As := [zi (nI st.length)]) (st := []) ck4 dX4_readTree_123 rfl rfl mkX4_closeActs wt598 wt600 wp15 rfl (Nat.le_of_ble_eq_true rfl) (Nat.le_of_ble_eq_true rfl) (by decide) (by decide) (by decide) (Or.inl rfl) (gS.e (by decide)) (ok_closeActs gS x118 hk.adv (by omega) gM) (fun r123 S123 hp123 => ?_)
            rw [q] at hp123
            obtain ⟨rfl, y1, y2, y3, y4⟩ := hp123
            show Ok _ _ _ [zi (nI (st'.length + 1))] _ _
            refine r_istore_n (q := 127) (L' := [some (zr 4 0), some (zr 9 s), some (zi (nI (st'.length + 1))), some (zi (nI acc.length)), none]) dX4_readTree_126 rfl rfl (by decide) rfl ?_
            refine r_iload_n (q := 128) dX4_readTree_127 rfl rfl rfl ?_
            refine r_if_gtN (q := 131) (t := 148) (by omega) dX4_readTree_128 (by decide) rfl (fun h128 => ?_) (fun h128 => absurd h128 (by omega))
            refine r_iincN (q := 151) (L' := [some (zr 4 0), some (zr 9 s), some (zi (nI (st'.length + 1))), some (zi (nI (acc.length + 1))), none]) 1 rfl dX4_readTree_148 rfl rfl (by decide) rfl ?_
            refine r_goto (q := 14) dX4_readTree_151 (by decide) ?_
            have nF : ∀ i, gI S123 510 0 i = gI (sI (sI S 4 0 12 (nI (lv + 1))) 510 0 acc.length (nI 3)) 510 0 i := fun i => (y1.1 _ _ _ rfl).trans (w118.1 _ _ _ rfl)
            have fF : Fr tTr S S123 := gF.tr (y1.mono tTr_ca)
            have q2 := ih S123 (l :: st') (acc ++ [0]) (lv + 1) ts' (by omega) (gS.fr y1) (hw.fr fF (fun _ _ => ⟨rfl, rfl, rfl⟩)) (by rw [List.length_cons]; omega) hlv' (by omega) ((y1.1 _ _ _ rfl).trans ((w118.1 _ _ _ rfl).trans h12)) (fun i hi => (nF i).trans (hn' i hi)) y4 y3 hk'.1
            rw [hal] at q2
            exact Ok.mono q2 (fun r S1 z => TrR.pre z fF (y2.trans g14))
    · rw [if_neg hx]
      by_cases hnm : isNmb ts = true
      · rw [if_pos hnm]
        cases q : fAct nm (hdT ts).2.2 A with
        | none =>
          skip
          refine r_iload_n (q := 15) dX4_readTree_14 rfl rfl rfl ?_
          refine r_sipush (q := 18) (nI 480) dX4_readTree_15 rfl (by decide) ?_
          refine r_icmp_geN (q := 21) (t := 154) (by omega) (by omega) dX4_readTree_18 (by decide) rfl (fun h18 => absurd h18 (by omega)) (fun h18 => ?_)
          refine r_aload_n (q := 22) dX4_readTree_21 rfl rfl rfl ?_
          refine r_ldc2 (q := 25) (120 : Int64) dX4_readTree_22 rfl wt566 ?_
          refine r_topl (y := lN 120) rfl ?_
          refine r_callV (Mc := mX4_isWord) (q := 28) (As := [zl (lN 120)]) (st := []) ck4 dX4_readTree_25 rfl rfl mkX4_isWord wt542 wt544 wp5 rfl (Nat.le_of_ble_eq_true rfl) (Nat.le_of_ble_eq_true rfl) (by decide) (by decide) (by decide) (Or.inl rfl) (hs.e (by decide)) (ok_isWord hs hr hk (by omega)) (fun r25 S25 hp25 => ?_)
          obtain ⟨rfl, hq25⟩ := hp25
          rw [hq25]
          rw [if_neg hx]
          show Ok _ _ _ [zi (nI 0)] _ _
          refine r_if_neN (q := 31) (t := 81) (by omega) dX4_readTree_28 (by decide) rfl (fun h28 => absurd h28 (by omega)) (fun h28 => ?_)
          refine r_aload_n (q := 32) dX4_readTree_31 rfl rfl rfl ?_
          refine r_aload_n (q := 33) dX4_readTree_32 rfl rfl rfl ?_
          refine r_callV (Mc := mX4_readActName) (q := 36) (As := [zr 9 s]) (st := []) ck4 dX4_readTree_33 rfl rfl mkX4_readActName wt590 wt592 wp13 rfl (Nat.le_of_ble_eq_true rfl) (Nat.le_of_ble_eq_true rfl) (by decide) (by decide) (by decide) (Or.inl rfl) (hs.e (by decide)) (ok_readActName_3 hs hr hk hs4 hA3 hw.1 hw.2 hnb hd hnm q) (fun r33 S33 hp33 => ?_)
          obtain ⟨rfl, w33, x33⟩ := hp33
          show Ok _ _ _ [zi (-1 : Int32)] _ _
          refine r_istore (q := 38) (L' := [some (zr 4 0), some (zr 9 s), some (zi (nI st.length)), some (zi (nI acc.length)), some (zi (-1 : Int32))]) dX4_readTree_36 rfl (by decide) rfl ?_
          refine r_iload (q := 40) dX4_readTree_38 rfl rfl ?_
          refine r_if_lt (q := 43) (t := 52) dX4_readTree_40 (by decide) rfl (fun h40 => ?_) (fun h40 => absurd h40 (by decide))
          refine r_iconst (q := 53) (nI 0) dX4_readTree_52 rfl (by decide) ?_
          refine r_zreturn (by decide) dX4_readTree_53 rfl ?_
          exact ⟨rfl, ((w33.mono tSk_fl).mono tCa_sk).mono tTr_ca, x33⟩
        | some a =>
          have ha := (fAct_some q).1
          have hea := hE.2 a ha
          show Ok _ _ _ _ _ (fun r S1 => TrR S S1 r (if (hdT (adv ts)).1 = 40 then treeP nm e A f (e a :: st) (acc ++ [a + 1]) lv (adv (adv ts)) else Sum.inl (1, (hdT (adv ts)).2.1)))
          by_cases hp : (hdT (adv ts)).1 = 40
          · rw [if_pos hp]
            refine r_iload_n (q := 15) dX4_readTree_14 rfl rfl rfl ?_
            refine r_sipush (q := 18) (nI 480) dX4_readTree_15 rfl (by decide) ?_
            refine r_icmp_geN (q := 21) (t := 154) (by omega) (by omega) dX4_readTree_18 (by decide) rfl (fun h18 => absurd h18 (by omega)) (fun h18 => ?_)
            refine r_aload_n (q := 22) dX4_readTree_21 rfl rfl rfl ?_
            refine r_ldc2 (q := 25) (120 : Int64) dX4_readTree_22 rfl wt566 ?_
            refine r_topl (y := lN 120) rfl ?_
            refine r_callV (Mc := mX4_isWord) (q := 28) (As := [zl (lN 120)]) (st := []) ck4 dX4_readTree_25 rfl rfl mkX4_isWord wt542 wt544 wp5 rfl (Nat.le_of_ble_eq_true rfl) (Nat.le_of_ble_eq_true rfl) (by decide) (by decide) (by decide) (Or.inl rfl) (hs.e (by decide)) (ok_isWord hs hr hk (by omega)) (fun r25 S25 hp25 => ?_)
            obtain ⟨rfl, hq25⟩ := hp25
            rw [hq25]
            rw [if_neg hx]
            show Ok _ _ _ [zi (nI 0)] _ _
            refine r_if_neN (q := 31) (t := 81) (by omega) dX4_readTree_28 (by decide) rfl (fun h28 => absurd h28 (by omega)) (fun h28 => ?_)
            refine r_aload_n (q := 32) dX4_readTree_31 rfl rfl rfl ?_
            refine r_aload_n (q := 33) dX4_readTree_32 rfl rfl rfl ?_
            refine r_callV (Mc := mX4_readActName) (q := 36) (As := [zr 9 s]) (st := []) ck4 dX4_readTree_33 rfl rfl mkX4_readActName wt590 wt592 wp13 rfl (Nat.le_of_ble_eq_true rfl) (Nat.le_of_ble_eq_true rfl) (by decide) (by decide) (by decide) (Or.inl rfl) (hs.e (by decide)) (ok_readActName_y hs hr hk hs4 hA3 hw.1 hw.2 hnb hd hnm q) (fun r33 S33 hp33 => ?_)
            obtain ⟨rfl, w33, x33⟩ := hp33
            have gS := hs.fr w33
            have gW := hw.fr w33 (fun _ _ => ⟨rfl, rfl, rfl⟩)
            have gF : Fr tTr S S33 := ((w33.mono tSk_av).mono tCa_sk).mono tTr_ca
            show Ok _ _ _ [zi (nI a)] _ _
            refine r_istore (q := 38) (L' := [some (zr 4 0), some (zr 9 s), some (zi (nI st.length)), some (zi (nI acc.length)), some (zi (nI a))]) dX4_readTree_36 rfl (by decide) rfl ?_
            refine r_iload (q := 40) dX4_readTree_38 rfl rfl ?_
            refine r_if_ltN (q := 43) (t := 52) (by omega) dX4_readTree_40 (by decide) rfl ?_
            refine r_aload_n (q := 44) dX4_readTree_43 rfl rfl rfl ?_
            refine r_bipush (q := 46) (nI 40) dX4_readTree_44 rfl (by decide) ?_
            refine r_callV (Mc := mX4_skip) (q := 49) (As := [zi (nI 40)]) (st := []) ck4 dX4_readTree_46 rfl rfl mkX4_skip wt594 wt596 wp14 rfl (Nat.le_of_ble_eq_true rfl) (Nat.le_of_ble_eq_true rfl) (by decide) (by decide) (by decide) (Or.inl rfl) (gS.e (by decide)) (ok_skip_y gS x33 hk.adv hp) (fun r46 S46 hp46 => ?_)
            obtain ⟨rfl, w46, x46⟩ := hp46
            have gS2 := gS.fr w46
            have gW2 := gW.fr w46 (fun _ _ => ⟨rfl, rfl, rfl⟩)
            have gF2 : Fr tTr S S46 := gF.tr (((w46.mono tSk_av).mono tCa_sk).mono tTr_ca)
            show Ok _ _ _ [zi (nI 1)] _ _
            refine r_if_neN (q := 52) (t := 54) (by omega) dX4_readTree_49 (by decide) rfl (fun h49 => ?_) (fun h49 => absurd h49 (by omega))
            refine r_aload_n (q := 55) dX4_readTree_54 rfl rfl rfl ?_
            refine r_getr (q := 58) (some (510, 0)) ck4 dX4_readTree_55 rfl (k := 10) (by decide) wt131 rfl (gS2.e (by decide)) (gS2.r (by decide) (by decide)) ?_
            refine r_iload_n (q := 59) dX4_readTree_58 rfl rfl rfl ?_
            refine r_iload (q := 61) dX4_readTree_59 rfl rfl ?_
            refine r_iastN (q := 62) 480 (by decide) rfl dX4_readTree_61 rfl (gS2.e (by decide)) (gS2.n rfl (by decide)) (by omega) (by decide) ?_
            refine r_aload_n (q := 63) dX4_readTree_62 rfl rfl rfl ?_
            refine r_getr (q := 66) (some (509, 0)) ck4 dX4_readTree_63 rfl (k := 9) (by decide) wt130 rfl (gS2.e (by decide)) (gS2.r (by decide) (by decide)) ?_
            refine r_iload_n (q := 67) dX4_readTree_66 rfl rfl rfl ?_
            refine r_aload_n (q := 68) dX4_readTree_67 rfl rfl rfl ?_
            refine r_getr (q := 71) (some (1003, s)) ck9 dX4_readTree_68 rfl (k := 3) (by decide) wt310 rfl (gS2.e (show s < 4 by omega)) (gS2.r (show s < 4 by omega) (by decide)) ?_
            refine r_iload (q := 73) dX4_readTree_71 rfl rfl ?_
            refine r_ialdN (q := 74) 3 (by decide) rfl dX4_readTree_73 rfl (gS2.e (show s < 4 by omega)) (gS2.n rfl (show s < 4 by omega)) (by omega) (by decide) ?_
            refine r_topi (y := gI S46 1003 s a) (by simp [gI_sI, gJ_sJ, gI_sJ, gJ_sI]) ?_
            refine r_topi (y := nI (e a)) (gW2.2 a ha).1 ?_
            refine r_iastN (q := 75) 480 (by decide) rfl dX4_readTree_74 rfl (gS2.e (by decide)) (gS2.n rfl (by decide)) (by omega) (by decide) ?_
            refine r_iincN (q := 78) (L' := [some (zr 4 0), some (zr 9 s), some (zi (nI (st.length + 1))), some (zi (nI acc.length)), some (zi (nI a))]) 1 rfl dX4_readTree_75 rfl rfl (by decide) rfl ?_
            refine r_goto (q := 148) dX4_readTree_78 (by decide) ?_
            refine r_iincN (q := 151) (L' := [some (zr 4 0), some (zr 9 s), some (zi (nI (st.length + 1))), some (zi (nI (acc.length + 1))), some (zi (nI a))]) 1 rfl dX4_readTree_148 rfl rfl (by decide) rfl ?_
            refine r_goto (q := 14) dX4_readTree_151 (by decide) ?_
            refine r_mask [true, true, true, true, false] rfl ?_
            have fF : Fr tTr S (sI (sI S46 510 0 acc.length (nI a)) 509 0 st.length (nI (e a))) := (gF2.i rfl).i rfl
            have y14 : gI (sI (sI S46 510 0 acc.length (nI a)) 509 0 st.length (nI (e a))) 4 0 14 = gI S 4 0 14 := by rw [gI_sI, if_neg (by omega), gI_sI, if_neg (by omega)]; exact (w46.1 _ _ _ rfl).trans (w33.1 _ _ _ rfl)
            have gx : ∀ x z k, ¬ (x = 510 ∧ z = 0 ∧ k = acc.length) → ¬ (x = 509 ∧ z = 0 ∧ k = st.length) → gI (sI (sI S46 510 0 acc.length (nI a)) 509 0 st.length (nI (e a))) x z k = gI S46 x z k := fun x z k q1 q2 => by rw [gI_sI, if_neg q2, gI_sI, if_neg q1]
            have q2 := ih (sI (sI S46 510 0 acc.length (nI a)) 509 0 st.length (nI (e a))) (e a :: st) (acc ++ [a + 1]) lv (adv (adv ts)) (by rw [List.length_append, List.length_singleton]; omega) gS2 (hw.fr fF (fun _ _ => ⟨rfl, rfl, rfl⟩)) (by rw [List.length_cons, List.length_append, List.length_singleton]; omega) (by rw [lvs_app, ← hla]; simp [lvs]) hl7 ((gx _ _ _ (by omega) (by omega)).trans ((w46.1 _ _ _ rfl).trans ((w33.1 _ _ _ rfl).trans hlv))) (hnd.snoc (fun i hi => (gx _ _ _ (by omega) (by omega)).trans ((w46.1 _ _ _ rfl).trans (w33.1 _ _ _ rfl))) (by rw [gI_sI, if_neg (by omega), gI_sI, if_pos ⟨rfl, rfl, rfl⟩]; show nI a = nI (nd (a + 1)); unfold nd; rw [if_neg (by omega), Nat.add_sub_cancel])) ⟨by rw [gI_sI, if_pos ⟨rfl, rfl, rfl⟩], by omega, by omega, hm.cong fun i hi => (gx _ _ _ (by omega) (by omega)).trans ((w46.1 _ _ _ rfl).trans (w33.1 _ _ _ rfl))⟩ (x46.cong (fun i => ⟨gx _ _ _ (by omega) (by omega), gx _ _ _ (by omega) (by omega), rfl⟩) (fun k hk => gx _ _ _ (by omega) (by omega)) rfl) hk.adv.adv
            rw [List.length_append, List.length_singleton, List.length_cons] at q2
            exact Ok.mono q2 (fun r S1 z => TrR.pre z fF y14)
          · rw [if_neg hp]
            refine r_iload_n (q := 15) dX4_readTree_14 rfl rfl rfl ?_
            refine r_sipush (q := 18) (nI 480) dX4_readTree_15 rfl (by decide) ?_
            refine r_icmp_geN (q := 21) (t := 154) (by omega) (by omega) dX4_readTree_18 (by decide) rfl (fun h18 => absurd h18 (by omega)) (fun h18 => ?_)
            refine r_aload_n (q := 22) dX4_readTree_21 rfl rfl rfl ?_
            refine r_ldc2 (q := 25) (120 : Int64) dX4_readTree_22 rfl wt566 ?_
            refine r_topl (y := lN 120) rfl ?_
            refine r_callV (Mc := mX4_isWord) (q := 28) (As := [zl (lN 120)]) (st := []) ck4 dX4_readTree_25 rfl rfl mkX4_isWord wt542 wt544 wp5 rfl (Nat.le_of_ble_eq_true rfl) (Nat.le_of_ble_eq_true rfl) (by decide) (by decide) (by decide) (Or.inl rfl) (hs.e (by decide)) (ok_isWord hs hr hk (by omega)) (fun r25 S25 hp25 => ?_)
            obtain ⟨rfl, hq25⟩ := hp25
            rw [hq25]
            rw [if_neg hx]
            show Ok _ _ _ [zi (nI 0)] _ _
            refine r_if_neN (q := 31) (t := 81) (by omega) dX4_readTree_28 (by decide) rfl (fun h28 => absurd h28 (by omega)) (fun h28 => ?_)
            refine r_aload_n (q := 32) dX4_readTree_31 rfl rfl rfl ?_
            refine r_aload_n (q := 33) dX4_readTree_32 rfl rfl rfl ?_
            refine r_callV (Mc := mX4_readActName) (q := 36) (As := [zr 9 s]) (st := []) ck4 dX4_readTree_33 rfl rfl mkX4_readActName wt590 wt592 wp13 rfl (Nat.le_of_ble_eq_true rfl) (Nat.le_of_ble_eq_true rfl) (by decide) (by decide) (by decide) (Or.inl rfl) (hs.e (by decide)) (ok_readActName_y hs hr hk hs4 hA3 hw.1 hw.2 hnb hd hnm q) (fun r33 S33 hp33 => ?_)
            obtain ⟨rfl, w33, x33⟩ := hp33
            have gS := hs.fr w33
            have gW := hw.fr w33 (fun _ _ => ⟨rfl, rfl, rfl⟩)
            have gF : Fr tTr S S33 := ((w33.mono tSk_av).mono tCa_sk).mono tTr_ca
            show Ok _ _ _ [zi (nI a)] _ _
            refine r_istore (q := 38) (L' := [some (zr 4 0), some (zr 9 s), some (zi (nI st.length)), some (zi (nI acc.length)), some (zi (nI a))]) dX4_readTree_36 rfl (by decide) rfl ?_
            refine r_iload (q := 40) dX4_readTree_38 rfl rfl ?_
            refine r_if_ltN (q := 43) (t := 52) (by omega) dX4_readTree_40 (by decide) rfl ?_
            refine r_aload_n (q := 44) dX4_readTree_43 rfl rfl rfl ?_
            refine r_bipush (q := 46) (nI 40) dX4_readTree_44 rfl (by decide) ?_
            refine r_callV (Mc := mX4_skip) (q := 49) (As := [zi (nI 40)]) (st := []) ck4 dX4_readTree_46 rfl rfl mkX4_skip wt594 wt596 wp14 rfl (Nat.le_of_ble_eq_true rfl) (Nat.le_of_ble_eq_true rfl) (by decide) (by decide) (by decide) (Or.inl rfl) (gS.e (by decide)) (ok_skip_n gS x33 hk.adv hp (by omega)) (fun r46 S46 hp46 => ?_)
            obtain ⟨rfl, w46, x46⟩ := hp46
            show Ok _ _ _ [zi (nI 0)] _ _
            refine r_if_neN (q := 52) (t := 54) (by omega) dX4_readTree_49 (by decide) rfl (fun h49 => absurd h49 (by omega)) (fun h49 => ?_)
            refine r_iconst (q := 53) (nI 0) dX4_readTree_52 rfl (by decide) ?_
            refine r_zreturn (by decide) dX4_readTree_53 rfl ?_
            exact ⟨rfl, gF.tr (((w46.mono tSk_fl).mono tCa_sk).mono tTr_ca), x46⟩
      · rw [if_neg hnm]
        refine r_iload_n (q := 15) dX4_readTree_14 rfl rfl rfl ?_
        refine r_sipush (q := 18) (nI 480) dX4_readTree_15 rfl (by decide) ?_
        refine r_icmp_geN (q := 21) (t := 154) (by omega) (by omega) dX4_readTree_18 (by decide) rfl (fun h18 => absurd h18 (by omega)) (fun h18 => ?_)
        refine r_aload_n (q := 22) dX4_readTree_21 rfl rfl rfl ?_
        refine r_ldc2 (q := 25) (120 : Int64) dX4_readTree_22 rfl wt566 ?_
        refine r_topl (y := lN 120) rfl ?_
        refine r_callV (Mc := mX4_isWord) (q := 28) (As := [zl (lN 120)]) (st := []) ck4 dX4_readTree_25 rfl rfl mkX4_isWord wt542 wt544 wp5 rfl (Nat.le_of_ble_eq_true rfl) (Nat.le_of_ble_eq_true rfl) (by decide) (by decide) (by decide) (Or.inl rfl) (hs.e (by decide)) (ok_isWord hs hr hk (by omega)) (fun r25 S25 hp25 => ?_)
        obtain ⟨rfl, hq25⟩ := hp25
        rw [hq25]
        rw [if_neg hx]
        show Ok _ _ _ [zi (nI 0)] _ _
        refine r_if_neN (q := 31) (t := 81) (by omega) dX4_readTree_28 (by decide) rfl (fun h28 => absurd h28 (by omega)) (fun h28 => ?_)
        refine r_aload_n (q := 32) dX4_readTree_31 rfl rfl rfl ?_
        refine r_aload_n (q := 33) dX4_readTree_32 rfl rfl rfl ?_
        refine r_callV (Mc := mX4_readActName) (q := 36) (As := [zr 9 s]) (st := []) ck4 dX4_readTree_33 rfl rfl mkX4_readActName wt590 wt592 wp13 rfl (Nat.le_of_ble_eq_true rfl) (Nat.le_of_ble_eq_true rfl) (by decide) (by decide) (by decide) (Or.inl rfl) (hs.e (by decide)) (ok_readActName_1 hs hr hk s hnm) (fun r33 S33 hp33 => ?_)
        obtain ⟨rfl, w33, x33⟩ := hp33
        show Ok _ _ _ [zi (-1 : Int32)] _ _
        refine r_istore (q := 38) (L' := [some (zr 4 0), some (zr 9 s), some (zi (nI st.length)), some (zi (nI acc.length)), some (zi (-1 : Int32))]) dX4_readTree_36 rfl (by decide) rfl ?_
        refine r_iload (q := 40) dX4_readTree_38 rfl rfl ?_
        refine r_if_lt (q := 43) (t := 52) dX4_readTree_40 (by decide) rfl (fun h40 => ?_) (fun h40 => absurd h40 (by decide))
        refine r_iconst (q := 53) (nI 0) dX4_readTree_52 rfl (by decide) ?_
        refine r_zreturn (by decide) dX4_readTree_53 rfl ?_
        exact ⟨rfl, ((w33.mono tSk_fl).mono tCa_sk).mono tTr_ca, x33⟩

set_option maxRecDepth 100000 in
theorem ok_readTree {S : zS} (hs : Sd S) {nm e : Nat → Nat} {A s : Nat} (hs4 : s < 4) (hE : Eok A e) (hnb : ∀ a, a < A → nm a < 2 ^ 48) (hd : ∀ a b, a < A → b < A → nm a = nm b → a = b) (hw : Wn S s A nm e) {ts : List zTk} (hr : Rc S ts) (hk : Tks ts) : Ok mX4_readTree 0 (ent 5 [zr 4 0, zr 9 s]) [] S (fun r S1 => TrR S S1 r (treeP nm e A 480 [] [] 0 ts)) := by
  show Ok mX4_readTree 0 [some (zr 4 0), some (zr 9 s), none, none, none] [] S _
  refine r_aload_n (q := 1) dX4_readTree_0 rfl rfl rfl ?_
  refine r_iconst (q := 2) (nI 0) dX4_readTree_1 rfl (by decide) ?_
  refine r_puti (q := 5) ck4 dX4_readTree_2 rfl (k := 11) (by decide) wt132 (Or.inl rfl) rfl (hs.e (by decide)) ?_
  refine r_aload_n (q := 6) dX4_readTree_5 rfl rfl rfl ?_
  refine r_iconst (q := 7) (nI 0) dX4_readTree_6 rfl (by decide) ?_
  refine r_puti (q := 10) ck4 dX4_readTree_7 rfl (k := 12) (by decide) wt133 (Or.inl rfl) rfl (hs.e (by decide)) ?_
  refine r_iconst (q := 11) (nI 0) dX4_readTree_10 rfl (by decide) ?_
  refine r_istore_n (q := 12) (L' := [some (zr 4 0), some (zr 9 s), some (zi (nI 0)), none, none]) dX4_readTree_11 rfl rfl (by decide) rfl ?_
  refine r_iconst (q := 13) (nI 0) dX4_readTree_12 rfl (by decide) ?_
  refine r_istore_n (q := 14) (L' := [some (zr 4 0), some (zr 9 s), some (zi (nI 0)), some (zi (nI 0)), none]) dX4_readTree_13 rfl rfl (by decide) rfl ?_
  have q := lp_readTree hs4 hE hnb hd 480 (sI (sI S 4 0 11 (nI 0)) 4 0 12 (nI 0)) [] [] 0 ts (by simp) hs (hw.fr ((Fr.rf.i rfl).i rfl : Fr tTr S (sI (sI S 4 0 11 (nI 0)) 4 0 12 (nI 0))) (fun _ _ => ⟨rfl, rfl, rfl⟩)) (Nat.le_refl _) rfl (by omega) (by rw [gI_sI, if_pos ⟨rfl, rfl, rfl⟩]) (fun i hi => absurd hi (by simp)) trivial (hr.cong (fun i => ⟨by rw [gI_sI, if_neg (by omega), gI_sI, if_neg (by omega)], by rw [gI_sI, if_neg (by omega), gI_sI, if_neg (by omega)], rfl⟩) (fun k hk => by rw [gI_sI, if_neg (by omega), gI_sI, if_neg (by omega)]) rfl) hk
  exact Ok.mono q (fun r S1 z => TrR.pre z ((Fr.rf.i rfl).i rfl) (by rw [gI_sI, if_neg (by omega), gI_sI, if_neg (by omega)]))

