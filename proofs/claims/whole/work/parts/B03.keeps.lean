/-! is a law kept: the reference -/
theorem tr_one1 {A : Nat} {e : Nat → Nat} (hE : Eok A e) {t : List Nat} (h : Tr A e 1 t) : t = [0] := by
  have h1 := h.len hE
  match t, h with
  | [], h => exact absurd h.1 (by simp [Fs])
  | [k], h =>
    have h2 := h.2
    by_cases h0 : k = 0
    · rw [h0]
    · simp [lvs, h0] at h2
  | k :: l :: r, h => simp at h1
theorem tl_le1 {W : zWd} (hE : Eok (wA W) (we W)) : (tl W 1).length ≤ 1 := by
  apply Classical.byContradiction
  intro z
  have e0 := tr_one1 hE (tl_tr hE (n := 1) (j := 0) (by omega))
  have e1 := tr_one1 hE (tl_tr hE (n := 1) (j := 1) (by omega))
  have := getD_inj tl_nodup (show 0 < (tl W 1).length by omega) (show 1 < (tl W 1).length by omega) (e0.trans e1.symm)
  omega
theorem acc_one {W : zWd} (hE : Eok (wA W) (we W)) {P : Nat} : AccV P (tl W 1) (fun _ => 1) [([0], 1)] := fun j hj => by
  rw [tr_one1 hE (tl_tr hE hj), co_cons, co_nil, if_pos rfl]
  exact dvd_rf
def tKe (a b k : Nat) : Bool := tAm a b k || b == 0 && (a == 1378 || a == 1384 || a == 1341)
theorem tKe_a (a b k : Nat) (h : tAm a b k = true) : tKe a b k = true := by simp [tKe, h]
theorem id_td {W Wk : zWd} (hK : Wok Wk) {im : Nat → List zT} (him : ImW W Wk im) {n : Nat} {c : List zT} (hc : ∀ p, p ∈ c → Tr (wA W) (we W) n p.1) : Id Wk n (bd (tdT (lzi im)) (lz c)) ↔ Id Wk n (bd (buT (we W) (we Wk) (lzi im)) (lz c)) := by
  have hli : Li (wP Wk) (bd (tdT (lzi im)) (lz c)) (bd (buT (we W) (we Wk) (lzi im)) (lz c)) := li_of_ev fun g => by
    rw [ev_bd, ev_bd]
    exact ev_cong _ fun p hp => by
      obtain ⟨q, hq, e⟩ := lz_mem hp
      rw [e]
      exact td_bu1 him.ok (hc q hq).1 g
  exact ⟨fun h => h.li hli, fun h => h.li hli.sy⟩

set_option maxRecDepth 100000 in
theorem lp_kp142 {W Wk : zWd} (hW : Wok W) (hK : Wok Wk) {im : Nat → List zT} (him : ImW W Wk im) (h57 : ∀ a, a < wA W → (im a).length ≤ 64) {n N : Nat} (hn1 : 1 ≤ n) (hn7 : n ≤ 7) (hN7 : N ≤ 7) (hnN : n ≤ N) {l q5 : Nat} {t : List Nat} (ht : Tr (wA W) (we W) n t) {Po : Option zV → zS → Prop} : ∀ (i : Nat) (x7 : Int32) (S : zS) (Lo : List zV2), x7 = nI i - 1 → i ≤ t.length → Sd S → WS S Wk 1 → LVS S Wk N → (∀ a, a < wA W → gI S 1372 0 a = nI (im a).length ∧ ∀ k, k < (im a).length → gI S 1370 0 (64 * a + k) = nI (cd ((im a).getD k zd).1) ∧ gI S 1371 0 (64 * a + k) = nI ((im a).getD k zd).2) → (∀ a, a < wA W → gI S 1306 0 (4 + a) = nI (we W a)) → (∀ j, j < t.length → gI S 1378 0 j = nI (t.getD j 0)) → Stk S Wk 1373 1374 Lo → gI S 12 0 80 = nI Lo.length → SvR Wk Lo (bu (we W) (we Wk) (lzi im) (t.drop i)) → (lvl Lo).sum = lvs (t.drop i) → (∀ S1 Lo1, Fr tAm S S1 → Stk S1 Wk 1373 1374 Lo1 → SvR Wk Lo1 (bu (we W) (we Wk) (lzi im) t) → (lvl Lo1).sum = n → Ok mX12_keeps 213 [some (zr 12 0), some (zi (nI l)), some (zi (nI n)), some (zi (nI (wP Wk))), some (zr 1384 0), some (zi (nI q5)), some (zi (nI t.length)), none] [] S1 Po) → Ok mX12_keeps 142 [some (zr 12 0), some (zi (nI l)), some (zi (nI n)), some (zi (nI (wP Wk))), some (zr 1384 0), some (zi (nI q5)), some (zi (nI t.length)), some (zi x7)] [] S Po := by
  intro i
  have hEK := hK.2.1
  have hE := hW.2.1
  have hA3 := hE.1
  have hP2 := hK.1.1
  have htl := ht.len hE
  induction i with
  | zero =>
    intro x7 S Lo hx7 hi hs hws hlv hI hew htt hst h80 hsv hsm K
    have hx2 : x7 = -1 := by rw [hx7]; decide
    subst hx2
    rw [List.drop_zero] at hsv hsm
    refine r_iload (q := 144) dX12_keeps_142 rfl rfl ?_
    refine r_if_lt (q := 147) (t := 213) dX12_keeps_144 (by decide) rfl (fun h144 => ?_) (fun h144 => absurd h144 (by decide))
    refine r_mask [true, true, true, true, true, true, true, false] rfl ?_
    exact K S Lo Fr.rf hst hsv (by rw [hsm, ht.2])
  | succ i ih =>
    intro x7 S Lo hx7 hi hs hws hlv hI hew htt hst h80 hsv hsm K
    have hx2 : x7 = nI i := hx7.trans (nI_pred _)
    subst hx2
    have hdr : t.drop i = t.getD i 0 :: t.drop (i + 1) := by
      rw [List.drop_eq_getElem_cons (by omega), List.getD_eq_getElem?_getD, List.getElem?_eq_getElem (by omega)]; rfl
    obtain ⟨kk, -, hcut⟩ := Fs.cut (p := t.take i) (r := t.drop i) (by rw [List.take_append_drop]; exact ht.1)
    rw [hdr] at hcut
    have hc1 := hcut.1
    have hc2 := hcut.2
    have hlvd : lvs (t.drop i) ≤ n := by
      have := lvs_app (t.take i) (t.drop i)
      rw [List.take_append_drop, ht.2] at this; omega
    have hlvx : lvs (t.drop i) = (if t.getD i 0 = 0 then 1 else 0) + lvs (t.drop (i + 1)) := by rw [hdr, lvs]
    have htok := ht.tok hE (t.getD i 0) (by rw [List.getD_eq_getElem?_getD, List.getElem?_eq_getElem (by omega)]; exact List.getElem_mem _)
    have x1 := htt i (by omega)
    have hLo7 := stk_len hst (m := Lo.length) (Nat.le_refl _)
    rw [List.take_of_length_le (by rw [lvl_len]; exact Nat.le_refl _)] at hLo7
    by_cases h0 : t.getD i 0 = 0
    · rw [if_pos h0] at hc2 hlvx
      have x1 : gI S 1378 0 i = nI 0 := by rw [x1, h0]
      refine r_iload (q := 144) dX12_keeps_142 rfl rfl ?_
      refine r_if_ltN (q := 147) (t := 213) (by omega) dX12_keeps_144 (by decide) rfl ?_
      refine r_aload_n (q := 148) dX12_keeps_147 rfl rfl rfl ?_
      refine r_getr (q := 151) (some (1378, 0)) ck12 dX12_keeps_148 rfl (k := 78) (by decide) wt1356 rfl (hs.e (by decide)) (hs.r (by decide) (by decide)) ?_
      refine r_iload (q := 153) dX12_keeps_151 rfl rfl ?_
      refine r_ialdN (q := 154) 16 (by decide) rfl dX12_keeps_153 rfl (hs.e (by decide)) (hs.n rfl (by decide)) (by omega) (by decide) ?_
      refine r_topi (y := nI 0) x1 ?_
      refine r_if_leN (q := 157) (t := 173) (by omega) dX12_keeps_154 (by decide) rfl (fun h154 => ?_) (fun h154 => absurd h154 (by omega))
      refine r_aload_n (q := 174) dX12_keeps_173 rfl rfl rfl ?_
      refine r_getr (q := 177) (some (1373, 0)) ck12 dX12_keeps_174 rfl (k := 73) (by decide) wt1351 rfl (hs.e (by decide)) (hs.r (by decide) (by decide)) ?_
      refine r_sipush (q := 180) (nI 300) dX12_keeps_177 rfl (by decide) ?_
      refine r_aload_n (q := 181) dX12_keeps_180 rfl rfl rfl ?_
      refine r_geti (q := 184) ck12 dX12_keeps_181 rfl (k := 80) (by decide) wt1358 (Or.inl rfl) (hs.e (by decide)) ?_
      refine r_topi (y := nI Lo.length) h80 ?_
      refine r_imulN (q := 185) dX12_keeps_184 rfl ?_
      refine r_iconst (q := 186) (nI 1) dX12_keeps_185 rfl (by decide) ?_
      refine r_iastN (q := 187) 2400 (by decide) rfl dX12_keeps_186 rfl (hs.e (by decide)) (hs.n rfl (by decide)) (by omega) (by decide) ?_
      refine r_aload_n (q := 188) dX12_keeps_187 rfl rfl rfl ?_
      refine r_getr (q := 191) (some (1374, 0)) ck12 dX12_keeps_188 rfl (k := 74) (by decide) wt1352 rfl (hs.e (by decide)) (hs.r (by decide) (by decide)) ?_
      refine r_aload_n (q := 192) dX12_keeps_191 rfl rfl rfl ?_
      refine r_geti (q := 195) ck12 dX12_keeps_192 rfl (k := 80) (by decide) wt1358 (Or.inl rfl) (hs.e (by decide)) ?_
      refine r_topi (y := gI S 12 0 80) (by simp [gI_sI, gJ_sJ, gI_sJ, gJ_sI]) ?_
      refine r_topi (y := nI Lo.length) h80 ?_
      refine r_iconst (q := 196) (nI 1) dX12_keeps_195 rfl (by decide) ?_
      refine r_iastN (q := 197) 8 (by decide) rfl dX12_keeps_196 rfl (hs.e (by decide)) (hs.n rfl (by decide)) (by omega) (by decide) ?_
      refine r_aload_n (q := 198) dX12_keeps_197 rfl rfl rfl ?_
      refine r_dup (q := 199) dX12_keeps_198 rfl rfl ?_
      refine r_geti (q := 202) ck12 dX12_keeps_199 rfl (k := 80) (by decide) wt1358 (Or.inl rfl) (hs.e (by decide)) ?_
      refine r_topi (y := gI S 12 0 80) (by simp [gI_sI, gJ_sJ, gI_sJ, gJ_sI]) ?_
      refine r_topi (y := nI Lo.length) h80 ?_
      refine r_iconst (q := 203) (nI 1) dX12_keeps_202 rfl (by decide) ?_
      refine r_iaddN (q := 204) dX12_keeps_203 rfl ?_
      refine r_puti (q := 207) ck12 dX12_keeps_204 rfl (k := 80) (by decide) wt1358 (Or.inl rfl) rfl (hs.e (by decide)) ?_
      skip
      refine r_iinc (q := 210) (L' := [some (zr 12 0), some (zi (nI l)), some (zi (nI n)), some (zi (nI (wP Wk))), some (zr 1384 0), some (zi (nI q5)), some (zi (nI t.length)), some (zi ((nI i) + (-1)))]) ((nI i) + (-1)) dX12_keeps_207 rfl rfl (by decide) rfl rfl ?_
      refine r_goto (q := 142) dX12_keeps_210 (by decide) ?_
      have f1 : Fr tAm S (sI (sI (sI S 1373 0 (300 * Lo.length) (nI 1)) 1374 0 Lo.length (nI 1)) 12 0 80 (nI (Lo.length + 1))) := ((Fr.rf.i rfl).i rfl).i rfl
      have hput : Stk (sI (sI (sI S 1373 0 (300 * Lo.length) (nI 1)) 1374 0 Lo.length (nI 1)) 12 0 80 (nI (Lo.length + 1))) Wk 1373 1374 ((1, fun _ => 1) :: Lo.drop 0) := by
        refine hst.put (Nat.zero_le _) (Nat.le_refl _) (by rw [gI_sI, if_neg (by omega), gI_sI, if_pos ⟨rfl, rfl, by omega⟩]) (fun k hk => by rw [gI_sI, if_neg (by omega), gI_sI, if_neg (by omega), gI_sI, if_neg (by omega)]) (fun j hj => ⟨?_, by show 1 < wP Wk; omega⟩) (fun k hk => by rw [gI_sI, if_neg (by omega), gI_sI, if_neg (by omega), gI_sI, if_neg (by omega)]) (fun k hk => (hlv _ (hst k hk).1 (Nat.le_trans (Nat.le_trans (lvl_le hk) (by omega)) hnN)).2.1)
        have := tl_le1 hEK
        rw [gI_sI, if_neg (by omega), gI_sI, if_neg (by omega), gI_sI, if_pos ⟨rfl, rfl, by omega⟩]
      refine ih _ (sI (sI (sI S 1373 0 (300 * Lo.length) (nI 1)) 1374 0 Lo.length (nI 1)) 12 0 80 (nI (Lo.length + 1))) ((1, fun _ => 1) :: Lo.drop 0) (Int32.sub_eq_add_neg _ _).symm (by omega) (hs.fr f1) (hws.fr f1 (fun _ => rfl)) (hlv.fr f1 (fun _ => ⟨rfl, rfl, rfl, rfl⟩)) (fun a ha => ⟨(f1.1 _ _ _ rfl).trans (hI a ha).1, fun k hk => ⟨(f1.1 _ _ _ rfl).trans ((hI a ha).2 k hk).1, (f1.1 _ _ _ rfl).trans ((hI a ha).2 k hk).2⟩⟩) (fun a ha => (f1.1 _ _ _ rfl).trans (hew a ha)) (fun j hj => (f1.1 _ _ _ rfl).trans (htt j hj)) hput (by rw [gI_sI, if_pos ⟨rfl, rfl, rfl⟩]; rfl) ?_ ?_ (fun S1 Lo1 f a1 a2 a3 => K S1 Lo1 (f1.tr f) a1 a2 a3)
      · rw [hdr, bu, if_pos h0]
        exact ⟨_, _, rfl, acc_one hEK, fun p hp => by rw [List.mem_singleton.mp hp]; exact ⟨⟨by omega, by rw [if_pos rfl]; rfl⟩, rfl⟩, hsv⟩
      · rw [hlvx, ← hsm]
        show 1 + (lvl (Lo.drop 0)).sum = _
        rw [List.drop_zero]
    · rw [if_neg h0] at hc2 hlvx
      obtain ⟨a, ha⟩ : ∃ a, t.getD i 0 = a + 1 := ⟨t.getD i 0 - 1, by omega⟩
      rw [ha, Nat.add_sub_cancel] at hc2
      have x1 : gI S 1378 0 i = nI (a + 1) := by rw [x1, ha]
      have haA : a < wA W := by omega
      have hea := hE.2 a haA
      have hlvq : lvs (t.drop i) = lvs (t.drop (i + 1)) := by omega
      have hbl := bu_len (eK := we Wk) (im := lzi im) hc2.2
      have hLl := hsv.len
      rw [hbl] at hLl
      have hsb : ((lvl Lo).take (we W a)).sum ≤ (lvl Lo).sum := by
        have := sum_td (l := lvl Lo) (k := we W a)
        omega
      have hlo7 : ∀ k, k < Lo.length → (Lo.getD k zv0).1 ≤ N := fun k hk => Nat.le_trans (Nat.le_trans (lvl_le hk) (by omega)) hnN
      refine r_iload (q := 144) dX12_keeps_142 rfl rfl ?_
      refine r_if_ltN (q := 147) (t := 213) (by omega) dX12_keeps_144 (by decide) rfl ?_
      refine r_aload_n (q := 148) dX12_keeps_147 rfl rfl rfl ?_
      refine r_getr (q := 151) (some (1378, 0)) ck12 dX12_keeps_148 rfl (k := 78) (by decide) wt1356 rfl (hs.e (by decide)) (hs.r (by decide) (by decide)) ?_
      refine r_iload (q := 153) dX12_keeps_151 rfl rfl ?_
      refine r_ialdN (q := 154) 16 (by decide) rfl dX12_keeps_153 rfl (hs.e (by decide)) (hs.n rfl (by decide)) (by omega) (by decide) ?_
      refine r_topi (y := nI (a + 1)) x1 ?_
      refine r_if_leN (q := 157) (t := 173) (by omega) dX12_keeps_154 (by decide) rfl (fun h154 => absurd h154 (by omega)) (fun h154 => ?_)
      refine r_aload_n (q := 158) dX12_keeps_157 rfl rfl rfl ?_
      refine r_aload_n (q := 159) dX12_keeps_158 rfl rfl rfl ?_
      refine r_getr (q := 162) (some (1378, 0)) ck12 dX12_keeps_159 rfl (k := 78) (by decide) wt1356 rfl (hs.e (by decide)) (hs.r (by decide) (by decide)) ?_
      refine r_iload (q := 164) dX12_keeps_162 rfl rfl ?_
      refine r_ialdN (q := 165) 16 (by decide) rfl dX12_keeps_164 rfl (hs.e (by decide)) (hs.n rfl (by decide)) (by omega) (by decide) ?_
      refine r_topi (y := nI (a + 1)) x1 ?_
      refine r_iconst (q := 166) (nI 1) dX12_keeps_165 rfl (by decide) ?_
      refine r_isubN (q := 167) (by omega) dX12_keeps_166 rfl ?_
      refine r_topi (y := nI a) rfl ?_
      refine r_callV (Mc := mX12_actMapped) (q := 170) (As := [zi (nI a)]) (st := []) ck12 dX12_keeps_167 rfl rfl mkX12_actMapped wt1960 wt1962 wp138 rfl (Nat.le_of_ble_eq_true rfl) (Nat.le_of_ble_eq_true rfl) (by decide) (by decide) (by decide) (Or.inl rfl) (hs.e (by decide)) (ok_actMapped hK (show Lo.length ≤ 7 by omega) hea.1 hea.2 (show we W a ≤ Lo.length by omega) (show a < 3 by omega) rfl (by omega) hN7 (by omega) hlo7 hsv (fun p hp => (him a haA).1.2 p hp) (h57 a haA) hs hws hlv hst h80 (hI a haA).1 (hI a haA).2 (hew a haA)) (fun r167 S167 hp167 => ?_)
      obtain ⟨rfl, f1, v, ga, gst, g80⟩ := hp167
      have hs1 := hs.fr f1
      show Ok _ _ _ [] _ _
      refine r_goto (q := 207) dX12_keeps_170 (by decide) ?_
      skip
      refine r_iinc (q := 210) (L' := [some (zr 12 0), some (zi (nI l)), some (zi (nI n)), some (zi (nI (wP Wk))), some (zr 1384 0), some (zi (nI q5)), some (zi (nI t.length)), some (zi ((nI i) + (-1)))]) ((nI i) + (-1)) dX12_keeps_207 rfl rfl (by decide) rfl rfl ?_
      refine r_goto (q := 142) dX12_keeps_210 (by decide) ?_
      refine ih _ S167 ((((lvl Lo).take (we W a)).sum, v) :: Lo.drop (we W a)) (Int32.sub_eq_add_neg _ _).symm (by omega) hs1 (hws.fr f1 (fun _ => rfl)) (hlv.fr f1 (fun _ => ⟨rfl, rfl, rfl, rfl⟩)) (fun b hb => ⟨(f1.1 _ _ _ rfl).trans (hI b hb).1, fun k hk => ⟨(f1.1 _ _ _ rfl).trans ((hI b hb).2 k hk).1, (f1.1 _ _ _ rfl).trans ((hI b hb).2 k hk).2⟩⟩) (fun b hb => (f1.1 _ _ _ rfl).trans (hew b hb)) (fun j hj => (f1.1 _ _ _ rfl).trans (htt j hj)) gst (by rw [g80, List.length_cons, List.length_drop]) ?_ ?_ (fun S1 Lo1 f a1 a2 a3 => K S1 Lo1 (f1.tr f) a1 a2 a3)
      · rw [hdr, bu, if_neg h0, ha, Nat.add_sub_cancel]
        refine ⟨_, _, rfl, ga, fun p hp => ?_, hsv.drop _⟩
        obtain ⟨v', hv', r', hr, e1⟩ := mem_bd hp
        rw [e1]
        have hT := him.ok a haA v' hv'
        have := ins_hd (ns := lvl (Lo.take (we W a))) hT.1 (by rw [hT.2, List.length_take, hbl]; omega) (hsv.take (we W a)).sst r' hr
        rw [show lvl (Lo.take (we W a)) = (lvl Lo).take (we W a) from List.map_take] at this
        exact this
      · rw [hlvq, ← hsm]
        show ((lvl Lo).take (we W a)).sum + (lvl (Lo.drop (we W a))).sum = _
        rw [show lvl (Lo.drop (we W a)) = (lvl Lo).drop (we W a) from List.map_drop, sum_td]

set_option maxRecDepth 100000 in
theorem lp_kp28 {Wk : zWd} {l n m : Nat} (hn7 : n ≤ 7) (hm : m ≤ 300) {Po : Option zV → zS → Prop} : ∀ (d k : Nat) (S : zS), k + d = m → Sd S → gI S 1324 0 (8 + n) = nI m → (∀ j, j < k → gI S 1384 0 j = nI 0) → (∀ S2, Fr (fun a b k => a == 1384 && b == 0) S S2 → (∀ j, j < m → gI S2 1384 0 j = nI 0) → Ok mX12_keeps 54 [some (zr 12 0), some (zi (nI l)), some (zi (nI n)), some (zi (nI (wP Wk))), some (zr 1384 0), some (zi (nI m)), none, none] [] S2 Po) → Ok mX12_keeps 28 [some (zr 12 0), some (zi (nI l)), some (zi (nI n)), some (zi (nI (wP Wk))), some (zr 1384 0), some (zi (nI k)), none, none] [] S Po := by
  intro d
  induction d with
  | zero =>
    intro k S hk hs h24 hz K
    obtain rfl : k = m := by omega
    refine r_iload (q := 30) dX12_keeps_28 rfl rfl ?_
    refine r_aload_n (q := 31) dX12_keeps_30 rfl rfl rfl ?_
    refine r_getr (q := 34) (some (1324, 0)) ck12 dX12_keeps_31 rfl (k := 24) (by decide) wt1302 rfl (hs.e (by decide)) (hs.r (by decide) (by decide)) ?_
    refine r_bipush (q := 36) (nI 8) dX12_keeps_34 rfl (by decide) ?_
    refine r_iload_n (q := 37) dX12_keeps_36 rfl rfl rfl ?_
    refine r_iaddN (q := 38) dX12_keeps_37 rfl ?_
    refine r_ialdN (q := 39) 16 (by decide) rfl dX12_keeps_38 rfl (hs.e (by decide)) (hs.n rfl (by decide)) (by omega) (by decide) ?_
    refine r_topi (y := nI k) h24 ?_
    refine r_icmp_geN (q := 42) (t := 54) (by omega) (by omega) dX12_keeps_39 (by decide) rfl (fun h39 => ?_) (fun h39 => absurd h39 (by omega))
    exact K S Fr.rf hz
  | succ d ih =>
    intro k S hk hs h24 hz K
    refine r_iload (q := 30) dX12_keeps_28 rfl rfl ?_
    refine r_aload_n (q := 31) dX12_keeps_30 rfl rfl rfl ?_
    refine r_getr (q := 34) (some (1324, 0)) ck12 dX12_keeps_31 rfl (k := 24) (by decide) wt1302 rfl (hs.e (by decide)) (hs.r (by decide) (by decide)) ?_
    refine r_bipush (q := 36) (nI 8) dX12_keeps_34 rfl (by decide) ?_
    refine r_iload_n (q := 37) dX12_keeps_36 rfl rfl rfl ?_
    refine r_iaddN (q := 38) dX12_keeps_37 rfl ?_
    refine r_ialdN (q := 39) 16 (by decide) rfl dX12_keeps_38 rfl (hs.e (by decide)) (hs.n rfl (by decide)) (by omega) (by decide) ?_
    refine r_topi (y := nI m) h24 ?_
    refine r_icmp_geN (q := 42) (t := 54) (by omega) (by omega) dX12_keeps_39 (by decide) rfl (fun h39 => absurd h39 (by omega)) (fun h39 => ?_)
    refine r_aload (q := 44) dX12_keeps_42 rfl rfl ?_
    refine r_iload (q := 46) dX12_keeps_44 rfl rfl ?_
    refine r_iconst (q := 47) (nI 0) dX12_keeps_46 rfl (by decide) ?_
    refine r_iastN (q := 48) 300 (by decide) rfl dX12_keeps_47 rfl (hs.e (by decide)) (hs.n rfl (by decide)) (by omega) (by decide) ?_
    refine r_iincN (q := 51) (L' := [some (zr 12 0), some (zi (nI l)), some (zi (nI n)), some (zi (nI (wP Wk))), some (zr 1384 0), some (zi (nI (k + 1))), none, none]) 1 rfl dX12_keeps_48 rfl rfl (by decide) rfl ?_
    refine r_goto (q := 28) dX12_keeps_51 (by decide) ?_
    have f0 : Fr (fun a b k => a == 1384 && b == 0) S (sI S 1384 0 k (nI 0)) := Fr.rf.i rfl
    refine ih (k + 1) (sI S 1384 0 k (nI 0)) (by omega) hs ((f0.1 1324 0 (8 + n) rfl).trans h24) (fun j hj => ?_) (fun S2 f h => K S2 (f0.tr f) h)
    rw [gI_sI]
    by_cases e1 : j = k
    · rw [if_pos ⟨rfl, rfl, e1⟩]
    · rw [if_neg (fun z => e1 z.2.2)]; exact hz j (by omega)

set_option maxRecDepth 100000 in
theorem lp_kp104 {Wk : zWd} {l n q5 : Nat} {t : List Nat} (htl : t.length ≤ 14) {Po : Option zV → zS → Prop} : ∀ (d k : Nat) (S : zS), k + d = t.length → Sd S → (∀ j, j < t.length → gI S 1316 0 j = nI (t.getD j 0)) → (∀ j, j < k → gI S 1378 0 j = nI (t.getD j 0)) → (∀ S2, Fr (fun a b k => a == 1378 && b == 0) S S2 → (∀ j, j < t.length → gI S2 1378 0 j = nI (t.getD j 0)) → Ok mX12_keeps 131 [some (zr 12 0), some (zi (nI l)), some (zi (nI n)), some (zi (nI (wP Wk))), some (zr 1384 0), some (zi (nI q5)), some (zi (nI t.length)), some (zi (nI t.length))] [] S2 Po) → Ok mX12_keeps 104 [some (zr 12 0), some (zi (nI l)), some (zi (nI n)), some (zi (nI (wP Wk))), some (zr 1384 0), some (zi (nI q5)), some (zi (nI t.length)), some (zi (nI k))] [] S Po := by
  intro d
  induction d with
  | zero =>
    intro k S hk hs htk hz K
    have ek : k = t.length := by omega
    subst ek
    refine r_iload (q := 106) dX12_keeps_104 rfl rfl ?_
    refine r_iload (q := 108) dX12_keeps_106 rfl rfl ?_
    refine r_icmp_geN (q := 111) (t := 131) (by omega) (by omega) dX12_keeps_108 (by decide) rfl (fun h108 => ?_) (fun h108 => absurd h108 (by omega))
    exact K S Fr.rf hz
  | succ d ih =>
    intro k S hk hs htk hz K
    have y1 := htk k (by omega)
    refine r_iload (q := 106) dX12_keeps_104 rfl rfl ?_
    refine r_iload (q := 108) dX12_keeps_106 rfl rfl ?_
    refine r_icmp_geN (q := 111) (t := 131) (by omega) (by omega) dX12_keeps_108 (by decide) rfl (fun h108 => absurd h108 (by omega)) (fun h108 => ?_)
    refine r_aload_n (q := 112) dX12_keeps_111 rfl rfl rfl ?_
    refine r_getr (q := 115) (some (1378, 0)) ck12 dX12_keeps_112 rfl (k := 78) (by decide) wt1356 rfl (hs.e (by decide)) (hs.r (by decide) (by decide)) ?_
    refine r_iload (q := 117) dX12_keeps_115 rfl rfl ?_
    refine r_aload_n (q := 118) dX12_keeps_117 rfl rfl rfl ?_
    refine r_getr (q := 121) (some (1316, 0)) ck12 dX12_keeps_118 rfl (k := 16) (by decide) wt1294 rfl (hs.e (by decide)) (hs.r (by decide) (by decide)) ?_
    refine r_iload (q := 123) dX12_keeps_121 rfl rfl ?_
    refine r_ialdN (q := 124) 16 (by decide) rfl dX12_keeps_123 rfl (hs.e (by decide)) (hs.n rfl (by decide)) (by omega) (by decide) ?_
    refine r_topi (y := nI (t.getD k 0)) y1 ?_
    refine r_iastN (q := 125) 16 (by decide) rfl dX12_keeps_124 rfl (hs.e (by decide)) (hs.n rfl (by decide)) (by omega) (by decide) ?_
    refine r_iincN (q := 128) (L' := [some (zr 12 0), some (zi (nI l)), some (zi (nI n)), some (zi (nI (wP Wk))), some (zr 1384 0), some (zi (nI q5)), some (zi (nI t.length)), some (zi (nI (k + 1)))]) 1 rfl dX12_keeps_125 rfl rfl (by decide) rfl ?_
    refine r_goto (q := 104) dX12_keeps_128 (by decide) ?_
    have f0 : Fr (fun a b k => a == 1378 && b == 0) S (sI S 1378 0 k (nI (t.getD k 0))) := Fr.rf.i rfl
    refine ih (k + 1) (sI S 1378 0 k (nI (t.getD k 0))) (by omega) hs (fun j hj => (f0.1 1316 0 j rfl).trans (htk j hj)) (fun j hj => ?_) (fun S2 f h => K S2 (f0.tr f) h)
    rw [gI_sI]
    by_cases e1 : j = k
    · rw [if_pos ⟨rfl, rfl, e1⟩, e1]
    · rw [if_neg (fun z => e1 z.2.2)]; exact hz j (by omega)

set_option maxRecDepth 100000 in
theorem lp_kp216 {Wk : zWd} {l n m q5 x : Nat} (hn7 : n ≤ 7) (hm : m ≤ 300) (hq : q5 < 200) (hP2 : 2 ≤ wP Wk) (hP : wP Wk ≤ 97) (hx : x < wP Wk) {mv w : Nat → Nat} (hw : ∀ j, j < m → w j < wP Wk) (hmv : ∀ j, j < m → mv j < wP Wk) {Po : Option zV → zS → Prop} : ∀ (d k : Nat) (S : zS), k + d = m → Sd S → gI S 1324 0 (8 + n) = nI m → gI S 1306 0 (244 + q5) = nI x → (∀ j, j < m → gI S 1373 0 j = nI (w j)) → (∀ j, j < k → gI S 1384 0 j = nI ((mv j + x * w j) % wP Wk)) → (∀ j, k ≤ j → j < m → gI S 1384 0 j = nI (mv j)) → (∀ S2, Fr (fun a b k => a == 1384 && b == 0) S S2 → (∀ j, j < m → gI S2 1384 0 j = nI ((mv j + x * w j) % wP Wk)) → Ok mX12_keeps 268 [some (zr 12 0), some (zi (nI l)), some (zi (nI n)), some (zi (nI (wP Wk))), some (zr 1384 0), some (zi (nI q5)), none, some (zi (nI m))] [] S2 Po) → Ok mX12_keeps 216 [some (zr 12 0), some (zi (nI l)), some (zi (nI n)), some (zi (nI (wP Wk))), some (zr 1384 0), some (zi (nI q5)), none, some (zi (nI k))] [] S Po := by
  intro d
  induction d with
  | zero =>
    intro k S hk hs h24 hnum hin hlo hhi K
    obtain rfl : k = m := by omega
    refine r_iload (q := 218) dX12_keeps_216 rfl rfl ?_
    refine r_aload_n (q := 219) dX12_keeps_218 rfl rfl rfl ?_
    refine r_getr (q := 222) (some (1324, 0)) ck12 dX12_keeps_219 rfl (k := 24) (by decide) wt1302 rfl (hs.e (by decide)) (hs.r (by decide) (by decide)) ?_
    refine r_bipush (q := 224) (nI 8) dX12_keeps_222 rfl (by decide) ?_
    refine r_iload_n (q := 225) dX12_keeps_224 rfl rfl rfl ?_
    refine r_iaddN (q := 226) dX12_keeps_225 rfl ?_
    refine r_ialdN (q := 227) 16 (by decide) rfl dX12_keeps_226 rfl (hs.e (by decide)) (hs.n rfl (by decide)) (by omega) (by decide) ?_
    refine r_topi (y := nI k) h24 ?_
    refine r_icmp_geN (q := 230) (t := 268) (by omega) (by omega) dX12_keeps_227 (by decide) rfl (fun h227 => ?_) (fun h227 => absurd h227 (by omega))
    exact K S Fr.rf hlo
  | succ d ih =>
    intro k S hk hs h24 hnum hin hlo hhi K
    have y1 := hhi k (Nat.le_refl _) (by omega)
    have y2 := hin k (by omega)
    have y3 := hw k (by omega)
    have y4 := hmv k (by omega)
    have y5 : x * w k < 97 * 97 := Nat.mul_lt_mul'' (by omega) (by omega)
    refine r_iload (q := 218) dX12_keeps_216 rfl rfl ?_
    refine r_aload_n (q := 219) dX12_keeps_218 rfl rfl rfl ?_
    refine r_getr (q := 222) (some (1324, 0)) ck12 dX12_keeps_219 rfl (k := 24) (by decide) wt1302 rfl (hs.e (by decide)) (hs.r (by decide) (by decide)) ?_
    refine r_bipush (q := 224) (nI 8) dX12_keeps_222 rfl (by decide) ?_
    refine r_iload_n (q := 225) dX12_keeps_224 rfl rfl rfl ?_
    refine r_iaddN (q := 226) dX12_keeps_225 rfl ?_
    refine r_ialdN (q := 227) 16 (by decide) rfl dX12_keeps_226 rfl (hs.e (by decide)) (hs.n rfl (by decide)) (by omega) (by decide) ?_
    refine r_topi (y := nI m) h24 ?_
    refine r_icmp_geN (q := 230) (t := 268) (by omega) (by omega) dX12_keeps_227 (by decide) rfl (fun h227 => absurd h227 (by omega)) (fun h227 => ?_)
    refine r_aload (q := 232) dX12_keeps_230 rfl rfl ?_
    refine r_iload (q := 234) dX12_keeps_232 rfl rfl ?_
    refine r_aload (q := 236) dX12_keeps_234 rfl rfl ?_
    refine r_iload (q := 238) dX12_keeps_236 rfl rfl ?_
    refine r_ialdN (q := 239) 300 (by decide) rfl dX12_keeps_238 rfl (hs.e (by decide)) (hs.n rfl (by decide)) (by omega) (by decide) ?_
    refine r_topi (y := nI (mv k)) y1 ?_
    refine r_aload_n (q := 240) dX12_keeps_239 rfl rfl rfl ?_
    refine r_getr (q := 243) (some (1306, 0)) ck12 dX12_keeps_240 rfl (k := 6) (by decide) wt1284 rfl (hs.e (by decide)) (hs.r (by decide) (by decide)) ?_
    refine r_sipush (q := 246) (nI 244) dX12_keeps_243 rfl (by decide) ?_
    refine r_iload (q := 248) dX12_keeps_246 rfl rfl ?_
    refine r_iaddN (q := 249) dX12_keeps_248 rfl ?_
    refine r_ialdN (q := 250) 3775 (by decide) rfl dX12_keeps_249 rfl (hs.e (by decide)) (hs.n rfl (by decide)) (by omega) (by decide) ?_
    refine r_topi (y := nI x) hnum ?_
    refine r_aload_n (q := 251) dX12_keeps_250 rfl rfl rfl ?_
    refine r_getr (q := 254) (some (1373, 0)) ck12 dX12_keeps_251 rfl (k := 73) (by decide) wt1351 rfl (hs.e (by decide)) (hs.r (by decide) (by decide)) ?_
    refine r_iload (q := 256) dX12_keeps_254 rfl rfl ?_
    refine r_ialdN (q := 257) 2400 (by decide) rfl dX12_keeps_256 rfl (hs.e (by decide)) (hs.n rfl (by decide)) (by omega) (by decide) ?_
    refine r_topi (y := nI (w k)) y2 ?_
    refine r_imulN (q := 258) dX12_keeps_257 rfl ?_
    refine r_iaddN (q := 259) dX12_keeps_258 rfl ?_
    refine r_iload_n (q := 260) dX12_keeps_259 rfl rfl rfl ?_
    refine r_iremN (q := 261) (by omega) (by omega) (by omega) dX12_keeps_260 rfl ?_
    refine r_iastN (q := 262) 300 (by decide) rfl dX12_keeps_261 rfl (hs.e (by decide)) (hs.n rfl (by decide)) (by omega) (by decide) ?_
    refine r_iincN (q := 265) (L' := [some (zr 12 0), some (zi (nI l)), some (zi (nI n)), some (zi (nI (wP Wk))), some (zr 1384 0), some (zi (nI q5)), none, some (zi (nI (k + 1)))]) 1 rfl dX12_keeps_262 rfl rfl (by decide) rfl ?_
    refine r_goto (q := 216) dX12_keeps_265 (by decide) ?_
    have f0 : Fr (fun a b k => a == 1384 && b == 0) S (sI S 1384 0 k (nI (((mv k) + (x * (w k))) % (wP Wk)))) := Fr.rf.i rfl
    refine ih (k + 1) (sI S 1384 0 k (nI (((mv k) + (x * (w k))) % (wP Wk)))) (by omega) hs ((f0.1 1324 0 (8 + n) rfl).trans h24) ((f0.1 1306 0 _ rfl).trans hnum) (fun j hj => (f0.1 1373 0 _ rfl).trans (hin j hj)) (fun j hj => ?_) (fun j j1 j2 => ?_) (fun S2 f h => K S2 (f0.tr f) h)
    · rw [gI_sI]
      by_cases e1 : j = k
      · rw [if_pos ⟨rfl, rfl, e1⟩, e1]
      · rw [if_neg (fun z => e1 z.2.2)]; exact hlo j (by omega)
    · rw [gI_sI, if_neg (by omega)]; exact hhi j (by omega) j2

set_option maxRecDepth 100000 in
theorem lp_kp277 {Wk : zWd} {l n m : Nat} (hn7 : n ≤ 7) (hm : m ≤ 300) {v : Nat → Nat} {Po : Option zV → zS → Prop} : ∀ (d k : Nat) (S : zS), k + d = m → Sd S → gI S 1324 0 (8 + n) = nI m → (∀ j, j < m → gI S 1384 0 j = nI (v j)) → (∀ j, j < k → gI S 1341 0 j = nI (v j)) → (∀ S2, Fr tRv S S2 → (∀ j, j < m → gI S2 1341 0 j = nI (v j)) → Ok mX12_keeps 309 [some (zr 12 0), some (zi (nI l)), some (zi (nI n)), some (zi (nI (wP Wk))), some (zr 1384 0), some (zi (nI m)), none, none] [] S2 Po) → Ok mX12_keeps 277 [some (zr 12 0), some (zi (nI l)), some (zi (nI n)), some (zi (nI (wP Wk))), some (zr 1384 0), some (zi (nI k)), none, none] [] S Po := by
  intro d
  induction d with
  | zero =>
    intro k S hk hs h24 hv hz K
    obtain rfl : k = m := by omega
    refine r_iload (q := 279) dX12_keeps_277 rfl rfl ?_
    refine r_aload_n (q := 280) dX12_keeps_279 rfl rfl rfl ?_
    refine r_getr (q := 283) (some (1324, 0)) ck12 dX12_keeps_280 rfl (k := 24) (by decide) wt1302 rfl (hs.e (by decide)) (hs.r (by decide) (by decide)) ?_
    refine r_bipush (q := 285) (nI 8) dX12_keeps_283 rfl (by decide) ?_
    refine r_iload_n (q := 286) dX12_keeps_285 rfl rfl rfl ?_
    refine r_iaddN (q := 287) dX12_keeps_286 rfl ?_
    refine r_ialdN (q := 288) 16 (by decide) rfl dX12_keeps_287 rfl (hs.e (by decide)) (hs.n rfl (by decide)) (by omega) (by decide) ?_
    refine r_topi (y := nI k) h24 ?_
    refine r_icmp_geN (q := 291) (t := 309) (by omega) (by omega) dX12_keeps_288 (by decide) rfl (fun h288 => ?_) (fun h288 => absurd h288 (by omega))
    exact K S Fr.rf hz
  | succ d ih =>
    intro k S hk hs h24 hv hz K
    have y1 := hv k (by omega)
    refine r_iload (q := 279) dX12_keeps_277 rfl rfl ?_
    refine r_aload_n (q := 280) dX12_keeps_279 rfl rfl rfl ?_
    refine r_getr (q := 283) (some (1324, 0)) ck12 dX12_keeps_280 rfl (k := 24) (by decide) wt1302 rfl (hs.e (by decide)) (hs.r (by decide) (by decide)) ?_
    refine r_bipush (q := 285) (nI 8) dX12_keeps_283 rfl (by decide) ?_
    refine r_iload_n (q := 286) dX12_keeps_285 rfl rfl rfl ?_
    refine r_iaddN (q := 287) dX12_keeps_286 rfl ?_
    refine r_ialdN (q := 288) 16 (by decide) rfl dX12_keeps_287 rfl (hs.e (by decide)) (hs.n rfl (by decide)) (by omega) (by decide) ?_
    refine r_topi (y := nI m) h24 ?_
    refine r_icmp_geN (q := 291) (t := 309) (by omega) (by omega) dX12_keeps_288 (by decide) rfl (fun h288 => absurd h288 (by omega)) (fun h288 => ?_)
    refine r_aload_n (q := 292) dX12_keeps_291 rfl rfl rfl ?_
    refine r_getr (q := 295) (some (1341, 0)) ck12 dX12_keeps_292 rfl (k := 41) (by decide) wt1319 rfl (hs.e (by decide)) (hs.r (by decide) (by decide)) ?_
    refine r_iload (q := 297) dX12_keeps_295 rfl rfl ?_
    refine r_aload (q := 299) dX12_keeps_297 rfl rfl ?_
    refine r_iload (q := 301) dX12_keeps_299 rfl rfl ?_
    refine r_ialdN (q := 302) 300 (by decide) rfl dX12_keeps_301 rfl (hs.e (by decide)) (hs.n rfl (by decide)) (by omega) (by decide) ?_
    refine r_topi (y := nI (v k)) y1 ?_
    refine r_iastN (q := 303) 300 (by decide) rfl dX12_keeps_302 rfl (hs.e (by decide)) (hs.n rfl (by decide)) (by omega) (by decide) ?_
    refine r_iincN (q := 306) (L' := [some (zr 12 0), some (zi (nI l)), some (zi (nI n)), some (zi (nI (wP Wk))), some (zr 1384 0), some (zi (nI (k + 1))), none, none]) 1 rfl dX12_keeps_303 rfl rfl (by decide) rfl ?_
    refine r_goto (q := 277) dX12_keeps_306 (by decide) ?_
    have f0 : Fr tRv S (sI S 1341 0 k (nI (v k))) := Fr.rf.i rfl
    refine ih (k + 1) (sI S 1341 0 k (nI (v k))) (by omega) hs ((f0.1 1324 0 (8 + n) rfl).trans h24) (fun j hj => (f0.1 1384 0 j rfl).trans (hv j hj)) (fun j hj => ?_) (fun S2 f h => K S2 (f0.tr f) h)
    rw [gI_sI]
    by_cases e1 : j = k
    · rw [if_pos ⟨rfl, rfl, e1⟩, e1]
    · rw [if_neg (fun z => e1 z.2.2)]; exact hz j (by omega)

set_option maxRecDepth 100000 in
theorem lp_kp318 {Wk : zWd} {l n m : Nat} (hn7 : n ≤ 7) (hm : m ≤ 300) (hP97 : wP Wk ≤ 97) {v : Nat → Nat} {S : zS} (hs : Sd S) (h24 : gI S 1324 0 (8 + n) = nI m) (hv : ∀ j, j < m → gI S 1341 0 j = nI (v j) ∧ v j < wP Wk) : ∀ (d k : Nat), k + d = m → (∀ j, j < k → v j = 0) → Ok mX12_keeps 318 [some (zr 12 0), some (zi (nI l)), some (zi (nI n)), some (zi (nI (wP Wk))), some (zr 1384 0), some (zi (nI k)), none, none] [] S (fun r S1 => S1 = S ∧ ((∀ j, j < m → v j = 0) ∧ r = some (zi (nI 1)) ∨ (¬ ∀ j, j < m → v j = 0) ∧ r = some (zi (nI 0)))) := by
  intro d
  induction d with
  | zero =>
    intro k hk hz
    obtain rfl : k = m := by omega
    refine r_iload (q := 320) dX12_keeps_318 rfl rfl ?_
    refine r_aload_n (q := 321) dX12_keeps_320 rfl rfl rfl ?_
    refine r_getr (q := 324) (some (1324, 0)) ck12 dX12_keeps_321 rfl (k := 24) (by decide) wt1302 rfl (hs.e (by decide)) (hs.r (by decide) (by decide)) ?_
    refine r_bipush (q := 326) (nI 8) dX12_keeps_324 rfl (by decide) ?_
    refine r_iload_n (q := 327) dX12_keeps_326 rfl rfl rfl ?_
    refine r_iaddN (q := 328) dX12_keeps_327 rfl ?_
    refine r_ialdN (q := 329) 16 (by decide) rfl dX12_keeps_328 rfl (hs.e (by decide)) (hs.n rfl (by decide)) (by omega) (by decide) ?_
    refine r_topi (y := nI k) h24 ?_
    refine r_icmp_geN (q := 332) (t := 350) (by omega) (by omega) dX12_keeps_329 (by decide) rfl (fun h329 => ?_) (fun h329 => absurd h329 (by omega))
    refine r_iconst (q := 351) (nI 1) dX12_keeps_350 rfl (by decide) ?_
    refine r_zreturn (by decide) dX12_keeps_351 rfl ?_
    exact ⟨rfl, Or.inl ⟨hz, rfl⟩⟩
  | succ d ih =>
    intro k hk hz
    obtain ⟨y1, y2⟩ := hv k (by omega)
    refine r_iload (q := 320) dX12_keeps_318 rfl rfl ?_
    refine r_aload_n (q := 321) dX12_keeps_320 rfl rfl rfl ?_
    refine r_getr (q := 324) (some (1324, 0)) ck12 dX12_keeps_321 rfl (k := 24) (by decide) wt1302 rfl (hs.e (by decide)) (hs.r (by decide) (by decide)) ?_
    refine r_bipush (q := 326) (nI 8) dX12_keeps_324 rfl (by decide) ?_
    refine r_iload_n (q := 327) dX12_keeps_326 rfl rfl rfl ?_
    refine r_iaddN (q := 328) dX12_keeps_327 rfl ?_
    refine r_ialdN (q := 329) 16 (by decide) rfl dX12_keeps_328 rfl (hs.e (by decide)) (hs.n rfl (by decide)) (by omega) (by decide) ?_
    refine r_topi (y := nI m) h24 ?_
    refine r_icmp_geN (q := 332) (t := 350) (by omega) (by omega) dX12_keeps_329 (by decide) rfl (fun h329 => absurd h329 (by omega)) (fun h329 => ?_)
    refine r_aload_n (q := 333) dX12_keeps_332 rfl rfl rfl ?_
    refine r_getr (q := 336) (some (1341, 0)) ck12 dX12_keeps_333 rfl (k := 41) (by decide) wt1319 rfl (hs.e (by decide)) (hs.r (by decide) (by decide)) ?_
    refine r_iload (q := 338) dX12_keeps_336 rfl rfl ?_
    refine r_ialdN (q := 339) 300 (by decide) rfl dX12_keeps_338 rfl (hs.e (by decide)) (hs.n rfl (by decide)) (by omega) (by decide) ?_
    refine r_topi (y := nI (v k)) y1 ?_
    refine r_if_eqN (q := 342) (t := 344) (by omega) dX12_keeps_339 (by decide) rfl (fun h339 => ?_) (fun h339 => ?_)
    · skip
      refine r_iincN (q := 347) (L' := [some (zr 12 0), some (zi (nI l)), some (zi (nI n)), some (zi (nI (wP Wk))), some (zr 1384 0), some (zi (nI (k + 1))), none, none]) 1 rfl dX12_keeps_344 rfl rfl (by decide) rfl ?_
      refine r_goto (q := 318) dX12_keeps_347 (by decide) ?_
      refine ih (k + 1) (by omega) (fun j hj => ?_)
      by_cases e1 : j = k
      · rw [e1]; omega
      · exact hz j (by omega)
    · skip
      refine r_iconst (q := 343) (nI 0) dX12_keeps_342 rfl (by decide) ?_
      refine r_zreturn (by decide) dX12_keeps_343 rfl ?_
      exact ⟨rfl, Or.inr ⟨fun z => by have := z k (by omega); omega, rfl⟩⟩

