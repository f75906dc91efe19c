def tPl (a b k : Nat) : Bool := (a == 1362 || a == 1363) && b == 0
/-- the first k terms of a sum in the arrays of plug -/
def Pc (S : zS) (l : List zT) (k : Nat) : Prop := ∀ x, x < k → gI S 1362 0 x = nI (cd (l.getD x zd).1) ∧ gI S 1363 0 x = nI (l.getD x zd).2
def Pl (S : zS) (A P : Nat) (e : Nat → Nat) (o l : List zT) : Prop := gI S 1306 0 0 = nI P ∧ gI S 1306 0 1174 = nI o.length ∧ (∀ k, k < o.length → gI S 1306 0 (1175 + k) = nI (cd (o.getD k zd).1) ∧ gI S 1306 0 (2475 + k) = nI (o.getD k zd).2) ∧ Pc S l l.length ∧ ∀ a, a < A → gI S 1322 0 (4 + a) = nI (e a)
theorem Pl.fr {S S1 : zS} {A P : Nat} {e : Nat → Nat} {o l : List zT} (h : Pl S A P e o l) (f : Fr tAT S S1) : Pl S1 A P e o l :=
  ⟨(f.1 _ _ _ rfl).trans h.1, (f.1 _ _ _ rfl).trans h.2.1, fun k hk => ⟨(f.1 _ _ _ rfl).trans (h.2.2.1 k hk).1, (f.1 _ _ _ rfl).trans (h.2.2.1 k hk).2⟩, fun k hk => ⟨(f.1 _ _ _ rfl).trans (h.2.2.2.1 k hk).1, (f.1 _ _ _ rfl).trans (h.2.2.2.1 k hk).2⟩, fun a ha => (f.1 _ _ _ rfl).trans (h.2.2.2.2 a ha)⟩

set_option maxRecDepth 100000 in
theorem lp_plug0 {y : Int32} {l : List zT} (hl : l.length ≤ 1200) {Po : Option zV → zS → Prop} : ∀ (d k : Nat) (S : zS), k + d = l.length → Sd S → Rz S l → Pc S l k → (∀ S1, Fr tPl S S1 → Pc S1 l l.length → Ok mX12_plug 126 [some (zr 12 0), some (zi y), some (zi (nI l.length)), some (zi (nI l.length)), none] [] S1 Po) → Ok mX12_plug 91 [some (zr 12 0), some (zi y), some (zi (nI l.length)), some (zi (nI k)), none] [] S Po := by
  intro d
  induction d with
  | zero =>
    intro k S hk hs hz hp K
    obtain rfl : l.length = k := by omega
    refine r_iload_n (q := 92) dX12_plug_91 rfl rfl rfl ?_
    refine r_iload_n (q := 93) dX12_plug_92 rfl rfl rfl ?_
    refine r_icmp_geN (q := 96) (t := 126) (by omega) (by omega) dX12_plug_93 (by decide) rfl (fun h93 => ?_) (fun h93 => absurd h93 (by omega))
    exact K S Fr.rf hp
  | succ d ih =>
    intro k S hk hs hz hp K
    have r := hz.2 k (by omega)
    refine r_iload_n (q := 92) dX12_plug_91 rfl rfl rfl ?_
    refine r_iload_n (q := 93) dX12_plug_92 rfl rfl rfl ?_
    refine r_icmp_geN (q := 96) (t := 126) (by omega) (by omega) dX12_plug_93 (by decide) rfl (fun h93 => absurd h93 (by omega)) (fun h93 => ?_)
    refine r_aload_n (q := 97) dX12_plug_96 rfl rfl rfl ?_
    refine r_getr (q := 100) (some (1362, 0)) ck12 dX12_plug_97 rfl (k := 62) (by decide) wt1340 rfl (hs.e (by decide)) (hs.r (by decide) (by decide)) ?_
    refine r_iload_n (q := 101) dX12_plug_100 rfl rfl rfl ?_
    refine r_aload_n (q := 102) dX12_plug_101 rfl rfl rfl ?_
    refine r_getr (q := 105) (some (1344, 0)) ck12 dX12_plug_102 rfl (k := 44) (by decide) wt1322 rfl (hs.e (by decide)) (hs.r (by decide) (by decide)) ?_
    refine r_iload_n (q := 106) dX12_plug_105 rfl rfl rfl ?_
    refine r_ialdN (q := 107) 1400 (by decide) rfl dX12_plug_106 rfl (hs.e (by decide)) (hs.n rfl (by decide)) (by omega) (by decide) ?_
    refine r_topi (y := nI (cd (l.getD k zd).1)) r.1 ?_
    refine r_iastN (q := 108) 1400 (by decide) rfl dX12_plug_107 rfl (hs.e (by decide)) (hs.n rfl (by decide)) (by omega) (by decide) ?_
    refine r_aload_n (q := 109) dX12_plug_108 rfl rfl rfl ?_
    refine r_getr (q := 112) (some (1363, 0)) ck12 dX12_plug_109 rfl (k := 63) (by decide) wt1341 rfl (hs.e (by decide)) (hs.r (by decide) (by decide)) ?_
    refine r_iload_n (q := 113) dX12_plug_112 rfl rfl rfl ?_
    refine r_aload_n (q := 114) dX12_plug_113 rfl rfl rfl ?_
    refine r_getr (q := 117) (some (1345, 0)) ck12 dX12_plug_114 rfl (k := 45) (by decide) wt1323 rfl (hs.e (by decide)) (hs.r (by decide) (by decide)) ?_
    refine r_iload_n (q := 118) dX12_plug_117 rfl rfl rfl ?_
    refine r_ialdN (q := 119) 1400 (by decide) rfl dX12_plug_118 rfl (hs.e (by decide)) (hs.n rfl (by decide)) (by omega) (by decide) ?_
    refine r_topi (y := gI S 1345 0 k) (by simp [gI_sI, gJ_sJ, gI_sJ, gJ_sI]) ?_
    refine r_topi (y := nI ((l.getD k zd).2)) r.2 ?_
    refine r_iastN (q := 120) 1400 (by decide) rfl dX12_plug_119 rfl (hs.e (by decide)) (hs.n rfl (by decide)) (by omega) (by decide) ?_
    refine r_iincN (q := 123) (L' := [some (zr 12 0), some (zi y), some (zi (nI l.length)), some (zi (nI (k + 1))), none]) 1 rfl dX12_plug_120 rfl rfl (by decide) rfl ?_
    refine r_goto (q := 91) dX12_plug_123 (by decide) ?_
    have f : Fr tPl S (sI (sI S 1362 0 k (nI (cd (l.getD k zd).1))) 1363 0 k (nI (l.getD k zd).2)) := Fr.i (Fr.i Fr.rf rfl) rfl
    refine ih (k + 1) (sI (sI S 1362 0 k (nI (cd (l.getD k zd).1))) 1363 0 k (nI (l.getD k zd).2)) (by omega) (hs.fr f) ⟨(f.1 _ _ _ rfl).trans hz.1, fun x hx => ⟨(f.1 _ _ _ rfl).trans (hz.2 x hx).1, (f.1 _ _ _ rfl).trans (hz.2 x hx).2⟩⟩ (fun x hx => ?_) (fun S1 f1 p1 => K S1 (f.tr f1) p1)
    by_cases hxk : x = k
    · subst hxk; exact ⟨by rw [gI_sI, if_neg (by omega), gI_sI, if_pos ⟨rfl, rfl, rfl⟩], by rw [gI_sI, if_pos ⟨rfl, rfl, rfl⟩]⟩
    · exact ⟨by rw [gI_sI, if_neg (by omega), gI_sI, if_neg (by omega)]; exact (hp x (by omega)).1, by rw [gI_sI, if_neg (by omega), gI_sI, if_neg (by omega)]; exact (hp x (by omega)).2⟩

set_option maxRecDepth 100000 in
theorem lp_plug2 {A n m P i : Nat} {e : Nat → Nat} (hE : Eok A e) (hn : n + m - 1 ≤ 7) (hi : i < n) (h2 : 2 ≤ P) (hP : P ≤ 97) {o l : List zT} (hol : o.length ≤ 1200) (hll : l.length ≤ 1200) (ho : ∀ p, p ∈ o → Tr A e n p.1 ∧ p.2 < P) (hl : ∀ p, p ∈ l → Tr A e m p.1 ∧ p.2 < P) {U : List (List Nat)} (hU : U.length ≤ 1200) (hpU : ∀ p, p ∈ prds i o l → p.1 ∈ U) {a : Nat} (ha : a < o.length) {Po : Option zV → zS → Prop} : ∀ (d k : Nat) (S : zS) (c : List zT), k + d = l.length → Sd S → Pl S A P e o l → Rs e S c → Re A e P (n + m - 1) c → (∀ p, p ∈ c → p.1 ∈ U) → (∀ S1, Fr tAT S S1 → Rs e S1 (adds P 1 c ((prd i (o.getD a zd) l).drop k)) → Ok mX12_plug 232 [some (zr 12 0), some (zi (nI i)), some (zi (nI l.length)), some (zi (nI a)), some (zi (nI l.length))] [] S1 Po) → Ok mX12_plug 162 [some (zr 12 0), some (zi (nI i)), some (zi (nI l.length)), some (zi (nI a)), some (zi (nI k))] [] S Po := by
  intro d
  induction d with
  | zero =>
    intro k S c hk hs hp hc hC hcU K
    obtain rfl : l.length = k := by omega
    have K := K S Fr.rf (by rw [List.drop_eq_nil_of_le (by unfold prd; rw [List.length_map]; exact Nat.le_refl _)]; exact hc)
    refine r_iload (q := 164) dX12_plug_162 rfl rfl ?_
    refine r_iload_n (q := 165) dX12_plug_164 rfl rfl rfl ?_
    refine r_icmp_geN (q := 168) (t := 232) (by omega) (by omega) dX12_plug_165 (by decide) rfl (fun h165 => ?_) (fun h165 => absurd h165 (by omega))
    exact K
  | succ d ih =>
    intro k S c hk hs hp hc hC hcU K
    have hkl : k < l.length := by omega
    have hpo := ho _ (mem_getD ha)
    have hpl := hl _ (mem_getD hkl)
    have ht := hpo.1.gr hpl.1 hi
    have r1 := hp.2.2.1 a ha
    have r2 := hp.2.2.2.1 k hkl
    have hmem : (gr (o.getD a zd).1 i (l.getD k zd).1, (o.getD a zd).2 * (l.getD k zd).2) ∈ prds i o l := List.mem_flatMap.mpr ⟨_, mem_getD ha, List.mem_map.mpr ⟨_, mem_getD hkl, rfl⟩⟩
    have hmul : (o.getD a zd).2 * (l.getD k zd).2 ≤ 96 * 96 := Nat.mul_le_mul (by omega) (by omega)
    have hmod := Nat.mod_lt ((o.getD a zd).2 * (l.getD k zd).2) (show 0 < P by omega)
    have hlc := len_U hC hcU
    rw [prd_get hkl, adds_cons] at K
    refine r_iload (q := 164) dX12_plug_162 rfl rfl ?_
    refine r_iload_n (q := 165) dX12_plug_164 rfl rfl rfl ?_
    refine r_icmp_geN (q := 168) (t := 232) (by omega) (by omega) dX12_plug_165 (by decide) rfl (fun h165 => absurd h165 (by omega)) (fun h165 => ?_)
    refine r_aload_n (q := 169) dX12_plug_168 rfl rfl rfl ?_
    refine r_aload_n (q := 170) dX12_plug_169 rfl rfl rfl ?_
    refine r_aload_n (q := 171) dX12_plug_170 rfl rfl rfl ?_
    refine r_getr (q := 174) (some (1306, 0)) ck12 dX12_plug_171 rfl (k := 6) (by decide) wt1284 rfl (hs.e (by decide)) (hs.r (by decide) (by decide)) ?_
    refine r_sipush (q := 177) (nI 1175) dX12_plug_174 rfl (by decide) ?_
    refine r_iload_n (q := 178) dX12_plug_177 rfl rfl rfl ?_
    refine r_iaddN (q := 179) dX12_plug_178 rfl ?_
    refine r_ialdN (q := 180) 3775 (by decide) rfl dX12_plug_179 rfl (hs.e (by decide)) (hs.n rfl (by decide)) (by omega) (by decide) ?_
    refine r_topi (y := nI (cd (o.getD a zd).1)) r1.1 ?_
    refine r_iload_n (q := 181) dX12_plug_180 rfl rfl rfl ?_
    refine r_aload_n (q := 182) dX12_plug_181 rfl rfl rfl ?_
    refine r_getr (q := 185) (some (1362, 0)) ck12 dX12_plug_182 rfl (k := 62) (by decide) wt1340 rfl (hs.e (by decide)) (hs.r (by decide) (by decide)) ?_
    refine r_iload (q := 187) dX12_plug_185 rfl rfl ?_
    refine r_ialdN (q := 188) 1400 (by decide) rfl dX12_plug_187 rfl (hs.e (by decide)) (hs.n rfl (by decide)) (by omega) (by decide) ?_
    refine r_topi (y := nI (cd (l.getD k zd).1)) r2.1 ?_
    refine r_callV (Mc := mX12_plugged) (q := 191) (As := [zi (nI (cd (o.getD a zd).1)), zi (nI i), zi (nI (cd (l.getD k zd).1))]) (st := [zr 12 0]) ck12 dX12_plug_188 rfl rfl mkX12_plugged wt1876 wt1878 wp124 rfl (Nat.le_of_ble_eq_true rfl) (Nat.le_of_ble_eq_true rfl) (by decide) (by decide) (by decide) (Or.inl rfl) (hs.e (by decide)) (ok_plugged hs hE hpo.1 hpl.1 hi hn) (fun r188 S188 hp188 => ?_)
    obtain ⟨rfl, g1⟩ := hp188
    have gS := hs.fr g1
    show Ok _ _ _ [zi (nI (cd (gr (o.getD a zd).1 i (l.getD k zd).1))), zr 12 0] _ _
    refine r_aload_n (q := 192) dX12_plug_191 rfl rfl rfl ?_
    refine r_getr (q := 195) (some (1306, 0)) ck12 dX12_plug_192 rfl (k := 6) (by decide) wt1284 rfl (gS.e (by decide)) (gS.r (by decide) (by decide)) ?_
    refine r_sipush (q := 198) (nI 2475) dX12_plug_195 rfl (by decide) ?_
    refine r_iload_n (q := 199) dX12_plug_198 rfl rfl rfl ?_
    refine r_iaddN (q := 200) dX12_plug_199 rfl ?_
    refine r_ialdN (q := 201) 3775 (by decide) rfl dX12_plug_200 rfl (gS.e (by decide)) (gS.n rfl (by decide)) (by omega) (by decide) ?_
    refine r_topi (y := nI ((o.getD a zd).2)) ((g1.1 _ _ _ rfl).trans r1.2) ?_
    refine r_aload_n (q := 202) dX12_plug_201 rfl rfl rfl ?_
    refine r_getr (q := 205) (some (1363, 0)) ck12 dX12_plug_202 rfl (k := 63) (by decide) wt1341 rfl (gS.e (by decide)) (gS.r (by decide) (by decide)) ?_
    refine r_iload (q := 207) dX12_plug_205 rfl rfl ?_
    refine r_ialdN (q := 208) 1400 (by decide) rfl dX12_plug_207 rfl (gS.e (by decide)) (gS.n rfl (by decide)) (by omega) (by decide) ?_
    refine r_topi (y := nI ((l.getD k zd).2)) ((g1.1 _ _ _ rfl).trans r2.2) ?_
    refine r_imulN (q := 209) dX12_plug_208 rfl ?_
    refine r_aload_n (q := 210) dX12_plug_209 rfl rfl rfl ?_
    refine r_getr (q := 213) (some (1306, 0)) ck12 dX12_plug_210 rfl (k := 6) (by decide) wt1284 rfl (gS.e (by decide)) (gS.r (by decide) (by decide)) ?_
    refine r_iconst (q := 214) (nI 0) dX12_plug_213 rfl (by decide) ?_
    refine r_ialdN (q := 215) 3775 (by decide) rfl dX12_plug_214 rfl (gS.e (by decide)) (gS.n rfl (by decide)) (by omega) (by decide) ?_
    refine r_topi (y := nI P) ((g1.1 _ _ _ rfl).trans hp.1) ?_
    refine r_iremN (q := 216) (by omega) (by omega) (by omega) dX12_plug_215 rfl ?_
    refine r_iconst (q := 217) (nI 0) dX12_plug_216 rfl (by decide) ?_
    refine r_aload_n (q := 218) dX12_plug_217 rfl rfl rfl ?_
    refine r_getr (q := 221) (some (1306, 0)) ck12 dX12_plug_218 rfl (k := 6) (by decide) wt1284 rfl (gS.e (by decide)) (gS.r (by decide) (by decide)) ?_
    refine r_iconst (q := 222) (nI 0) dX12_plug_221 rfl (by decide) ?_
    refine r_ialdN (q := 223) 3775 (by decide) rfl dX12_plug_222 rfl (gS.e (by decide)) (gS.n rfl (by decide)) (by omega) (by decide) ?_
    refine r_topi (y := nI P) ((g1.1 _ _ _ rfl).trans hp.1) ?_
    refine r_callV (Mc := mX12_addTerm) (q := 226) (As := [zi (nI (cd (gr (o.getD a zd).1 i (l.getD k zd).1))), zi (nI ((((o.getD a zd).2) * ((l.getD k zd).2)) % P)), zi (nI 0), zi (nI P)]) (st := []) ck12 dX12_plug_223 rfl rfl mkX12_addTerm wt1641 wt1643 wp83 rfl (Nat.le_of_ble_eq_true rfl) (Nat.le_of_ble_eq_true rfl) (by decide) (by decide) (by decide) (Or.inl rfl) (gS.e (by decide)) (ok_X12_addTerm (q := 0) gS hE ht hn (hc.fr g1) hC.2 h2 hP (by omega) (by omega) (by omega) (fun x hx => by rw [show 1173 * 0 + 4 + x = 4 + x by omega]; exact (g1.1 _ _ _ rfl).trans (hp.2.2.2.2 x hx))) (fun r223 S223 hp223 => ?_)
    obtain ⟨rfl, g2, g3⟩ := hp223
    have gF : Fr tAT S S223 := (g1.mono fun a b k z => by unfold tAT; rw [z]; rfl).tr g2
    show Ok _ _ _ [] _ _
    refine r_iincN (q := 229) (L' := [some (zr 12 0), some (zi (nI i)), some (zi (nI l.length)), some (zi (nI a)), some (zi (nI (k + 1)))]) 1 rfl dX12_plug_226 rfl rfl (by decide) rfl ?_
    refine r_goto (q := 162) dX12_plug_229 (by decide) ?_
    have e1 : addT P (gr (o.getD a zd).1 i (l.getD k zd).1) ((o.getD a zd).2 * (l.getD k zd).2 % P) c = addT P (gr (o.getD a zd).1 i (l.getD k zd).1) ((o.getD a zd).2 * (l.getD k zd).2 * 1 % P) c := by rw [Nat.mul_one]
    rw [e1] at g3
    exact ih (k + 1) S223 _ (by omega) (hs.fr gF) (hp.fr gF) g3 (hC.add hE (by omega) hn ht) (fun p hp' => by rcases mem_addT hp' with z | z; exact hcU p z; rw [z.1]; exact hpU _ hmem) (fun S1 f1 f2 => K S1 (gF.tr f1) f2)

theorem adds_app {P b : Nat} {c l1 l2 : List zT} : adds P b c (l1 ++ l2) = adds P b (adds P b c l1) l2 := by unfold adds; rw [List.foldl_append]

set_option maxRecDepth 100000 in
theorem lp_plug1 {A n m P i : Nat} {e : Nat → Nat} (hE : Eok A e) (hn : n + m - 1 ≤ 7) (hi : i < n) (h2 : 2 ≤ P) (hP : P ≤ 97) {o l : List zT} (hol : o.length ≤ 1200) (hll : l.length ≤ 1200) (ho : ∀ p, p ∈ o → Tr A e n p.1 ∧ p.2 < P) (hl : ∀ p, p ∈ l → Tr A e m p.1 ∧ p.2 < P) {U : List (List Nat)} (hU : U.length ≤ 1200) (hpU : ∀ p, p ∈ prds i o l → p.1 ∈ U) {Po : Option zV → zS → Prop} : ∀ (d a : Nat) (S : zS) (c : List zT), a + d = o.length → Sd S → Pl S A P e o l → Rs e S c → Re A e P (n + m - 1) c → (∀ p, p ∈ c → p.1 ∈ U) → (∀ S1, Fr tAT S S1 → Rs e S1 (adds P 1 c (prds i (o.drop a) l)) → Ok mX12_plug 238 [some (zr 12 0), some (zi (nI i)), some (zi (nI l.length)), some (zi (nI o.length)), none] [] S1 Po) → Ok mX12_plug 147 [some (zr 12 0), some (zi (nI i)), some (zi (nI l.length)), some (zi (nI a)), none] [] S Po := by
  intro d
  induction d with
  | zero =>
    intro a S c hk hs hp hc hC hcU K
    obtain rfl : o.length = a := by omega
    rw [List.drop_length] at K
    refine r_iload_n (q := 148) dX12_plug_147 rfl rfl rfl ?_
    refine r_aload_n (q := 149) dX12_plug_148 rfl rfl rfl ?_
    refine r_getr (q := 152) (some (1306, 0)) ck12 dX12_plug_149 rfl (k := 6) (by decide) wt1284 rfl (hs.e (by decide)) (hs.r (by decide) (by decide)) ?_
    refine r_sipush (q := 155) (nI 1174) dX12_plug_152 rfl (by decide) ?_
    refine r_ialdN (q := 156) 3775 (by decide) rfl dX12_plug_155 rfl (hs.e (by decide)) (hs.n rfl (by decide)) (by omega) (by decide) ?_
    refine r_topi (y := nI o.length) hp.2.1 ?_
    refine r_icmp_geN (q := 159) (t := 238) (by omega) (by omega) dX12_plug_156 (by decide) rfl (fun h156 => ?_) (fun h156 => absurd h156 (by omega))
    exact K S Fr.rf hc
  | succ d ih =>
    intro a S c hk hs hp hc hC hcU K
    have hao : a < o.length := by omega
    have hpo := ho _ (mem_getD hao)
    rw [prds_drop hao, adds_app] at K
    refine r_iload_n (q := 148) dX12_plug_147 rfl rfl rfl ?_
    refine r_aload_n (q := 149) dX12_plug_148 rfl rfl rfl ?_
    refine r_getr (q := 152) (some (1306, 0)) ck12 dX12_plug_149 rfl (k := 6) (by decide) wt1284 rfl (hs.e (by decide)) (hs.r (by decide) (by decide)) ?_
    refine r_sipush (q := 155) (nI 1174) dX12_plug_152 rfl (by decide) ?_
    refine r_ialdN (q := 156) 3775 (by decide) rfl dX12_plug_155 rfl (hs.e (by decide)) (hs.n rfl (by decide)) (by omega) (by decide) ?_
    refine r_topi (y := nI o.length) hp.2.1 ?_
    refine r_icmp_geN (q := 159) (t := 238) (by omega) (by omega) dX12_plug_156 (by decide) rfl (fun h156 => absurd h156 (by omega)) (fun h156 => ?_)
    refine r_iconst (q := 160) (nI 0) dX12_plug_159 rfl (by decide) ?_
    refine r_istore (q := 162) (L' := [some (zr 12 0), some (zi (nI i)), some (zi (nI l.length)), some (zi (nI a)), some (zi (nI 0))]) dX12_plug_160 rfl (by decide) rfl ?_
    refine lp_plug2 hE hn hi h2 hP hol hll ho hl hU hpU hao l.length 0 S c (by omega) hs hp hc hC hcU (fun S1 f1 y1 => ?_)
    rw [List.drop_zero] at y1
    refine r_iincN (q := 235) (L' := [some (zr 12 0), some (zi (nI i)), some (zi (nI l.length)), some (zi (nI (a + 1))), some (zi (nI l.length))]) 1 rfl dX12_plug_232 rfl rfl (by decide) rfl ?_
    refine r_goto (q := 147) dX12_plug_235 (by decide) ?_
    refine r_mask [true, true, true, true, false] rfl ?_
    exact ih (a + 1) S1 _ (by omega) (hs.fr f1) (hp.fr f1) y1 (hC.adds hE (by omega) hn (prd_tr hi hpo.1 (fun q hq => (hl q hq).1))) (mem_adds hcU (fun p hp => hpU p (prd_sub (mem_getD hao) p hp))) (fun S2 f2 y2 => K S2 (f1.tr f2) y2)

def tPr (a b k : Nat) : Prop := tPl a b k = true ∨ tAT a b k = true ∨ (a = 12 ∧ b = 0 ∧ k = 48)

set_option maxRecDepth 100000 in
theorem lp_plugA {S : zS} (hs : Sd S) {A n m P i : Nat} {e : Nat → Nat} (hE : Eok A e) (hn : n + m - 1 ≤ 7) (hi : i < n) (h2 : 2 ≤ P) (hP : P ≤ 97) {o l : List zT} (hol : o.length ≤ 1200) (hll : l.length ≤ 1200) (ho : ∀ p, p ∈ o → Tr A e n p.1 ∧ p.2 < P) (hl : ∀ p, p ∈ l → Tr A e m p.1 ∧ p.2 < P) {U : List (List Nat)} (hU : U.length ≤ 1200) (hpU : ∀ p, p ∈ prds i o l → p.1 ∈ U) (hm1 : 1 ≤ m) (hpl : gI S 1306 0 0 = nI P) (hol2 : gI S 1306 0 1174 = nI o.length) (hor : ∀ k, k < o.length → gI S 1306 0 (1175 + k) = nI (cd (o.getD k zd).1) ∧ gI S 1306 0 (2475 + k) = nI (o.getD k zd).2) (hz : Rz S l) (hwe : ∀ a, a < A → gI S 1322 0 (4 + a) = nI (e a)) (hsn : gI S 1306 0 1173 = nI n) (hsm : gI S 12 0 48 = nI m) {Po : Option zV → zS → Prop} (K : ∀ S1, Fg tPr S S1 → Rz S1 (cl (adds P 1 [] (prds i o l))) → gI S1 12 0 48 = nI (n + m - 1) → Ok mX12_plug 242 [some (zr 12 0), some (zi (nI i)), some (zi (nI l.length)), some (zi (nI o.length)), none] [] S1 Po) : Ok mX12_plug 84 [some (zr 12 0), some (zi (nI i)), none, none, none] [] S Po := by
  refine r_aload_n (q := 85) dX12_plug_84 rfl rfl rfl ?_
  refine r_geti (q := 88) ck12 dX12_plug_85 rfl (k := 47) (by decide) wt1325 (Or.inl rfl) (hs.e (by decide)) ?_
  refine r_topi (y := nI l.length) hz.1 ?_
  refine r_istore_n (q := 89) (L' := [some (zr 12 0), some (zi (nI i)), some (zi (nI l.length)), none, none]) dX12_plug_88 rfl rfl (by decide) rfl ?_
  refine r_iconst (q := 90) (nI 0) dX12_plug_89 rfl (by decide) ?_
  refine r_istore_n (q := 91) (L' := [some (zr 12 0), some (zi (nI i)), some (zi (nI l.length)), some (zi (nI 0)), none]) dX12_plug_90 rfl rfl (by decide) rfl ?_
  refine lp_plug0 (y := nI i) hll l.length 0 S (by omega) hs hz (fun x hx => absurd hx (by omega)) (fun S1 f1 p1 => ?_)
  have hs1 := hs.fr f1
  refine r_aload_n (q := 127) dX12_plug_126 rfl rfl rfl ?_
  refine r_aload_n (q := 128) dX12_plug_127 rfl rfl rfl ?_
  refine r_getr (q := 131) (some (1306, 0)) ck12 dX12_plug_128 rfl (k := 6) (by decide) wt1284 rfl (hs1.e (by decide)) (hs1.r (by decide) (by decide)) ?_
  refine r_sipush (q := 134) (nI 1173) dX12_plug_131 rfl (by decide) ?_
  refine r_ialdN (q := 135) 3775 (by decide) rfl dX12_plug_134 rfl (hs1.e (by decide)) (hs1.n rfl (by decide)) (by omega) (by decide) ?_
  refine r_topi (y := nI n) ((f1.1 1306 0 1173 rfl).trans hsn) ?_
  refine r_aload_n (q := 136) dX12_plug_135 rfl rfl rfl ?_
  refine r_geti (q := 139) ck12 dX12_plug_136 rfl (k := 48) (by decide) wt1326 (Or.inl rfl) (hs1.e (by decide)) ?_
  refine r_topi (y := nI m) ((f1.1 12 0 48 rfl).trans hsm) ?_
  refine r_iaddN (q := 140) dX12_plug_139 rfl ?_
  refine r_iconst (q := 141) (nI 1) dX12_plug_140 rfl (by decide) ?_
  refine r_isubN (q := 142) (by omega) dX12_plug_141 rfl ?_
  refine r_callV (Mc := mX12_noSum) (q := 145) (As := [zi (nI ((n + m) - 1))]) (st := []) ck12 dX12_plug_142 rfl rfl mkX12_noSum wt1625 wt1627 wp79 rfl (Nat.le_of_ble_eq_true rfl) (Nat.le_of_ble_eq_true rfl) (by decide) (by decide) (by decide) (Or.inl rfl) (hs1.e (by decide)) (ok_X12_noSum hs1 (nI (n + m - 1))) (fun r142 S142 hp142 => ?_)
  obtain ⟨rfl, hq142⟩ := hp142
  rw [hq142]
  show Ok _ _ _ [] _ _
  refine r_iconst (q := 146) (nI 0) dX12_plug_145 rfl (by decide) ?_
  refine r_istore_n (q := 147) (L' := [some (zr 12 0), some (zi (nI i)), some (zi (nI l.length)), some (zi (nI 0)), none]) dX12_plug_146 rfl rfl (by decide) rfl ?_
  have hs2 : Sd (sI (sI S1 12 0 47 (nI 0)) 12 0 48 (nI (n + m - 1))) := hs1
  have f2 : Fg tPr S (sI (sI S1 12 0 47 (nI 0)) 12 0 48 (nI (n + m - 1))) := (f1.fg hs (fun a x k z => by unfold tPr; exact Or.inl z)).tr (Fg.of22 (S1 := sI (sI S1 12 0 47 (nI 0)) 12 0 48 (nI (n + m - 1))) hs1 rfl (fun a b k _ hz => by rw [gI_sI, if_neg (fun z => hz (Or.inr (Or.inr z))), gI_sI, if_neg (fun z => hz (Or.inr (Or.inl (by unfold tAT; simp [z.1, z.2.1, z.2.2]))))]) (fun _ _ _ _ _ => rfl))
  have hP2 : Pl (sI (sI S1 12 0 47 (nI 0)) 12 0 48 (nI (n + m - 1))) A P e o l := ⟨(f1.1 1306 0 0 rfl).trans hpl, (f1.1 1306 0 1174 rfl).trans hol2, fun k hk => ⟨(f1.1 1306 0 _ rfl).trans (hor k hk).1, (f1.1 1306 0 _ rfl).trans (hor k hk).2⟩, p1, fun a ha => (f1.1 1322 0 _ rfl).trans (hwe a ha)⟩
  have hR2 : Rs e (sI (sI S1 12 0 47 (nI 0)) 12 0 48 (nI (n + m - 1))) [] := ⟨rfl, fun k hk => absurd hk (by simp)⟩
  refine lp_plug1 hE hn hi h2 hP hol hll ho hl hU hpU o.length 0 (sI (sI S1 12 0 47 (nI 0)) 12 0 48 (nI (n + m - 1))) [] (by omega) hs2 hP2 hR2 ce_nil.1 (fun p hp => absurd hp List.not_mem_nil) (fun S2 f3 y3 => ?_)
  rw [List.drop_zero] at y3
  have hs3 := hs2.fr f3
  have hRe : Re A e P (n + m - 1) (adds P 1 [] (prds i o l)) := Re.adds hE (by omega) hn ce_nil.1 (prds_tr hi (fun q hq => (ho q hq).1) (fun q hq => (hl q hq).1))
  have hlen := len_U hRe (mem_adds (fun p hp => absurd hp List.not_mem_nil) hpU)
  refine r_aload_n (q := 239) dX12_plug_238 rfl rfl rfl ?_
  refine r_callV (Mc := mX12_noZeros) (q := 242) (As := []) (st := []) ck12 dX12_plug_239 rfl rfl mkX12_noZeros wt1657 wt1659 wp87 rfl (Nat.le_of_ble_eq_true rfl) (Nat.le_of_ble_eq_true rfl) (by decide) (by decide) (by decide) (Or.inl rfl) (hs3.e (by decide)) (ok_X12_noZeros hs3 y3.rz (by omega) hP (fun p hp => (hRe.2 p hp).2)) (fun r239 S239 hp239 => ?_)
  obtain ⟨rfl, g1, g2⟩ := hp239
  show Ok _ _ _ [] _ _
  have f4 := f2.tr ((f3.tr g1).fg hs2 (U := tPr) (fun a x k z => by unfold tPr; exact Or.inr (Or.inl z)))
  exact K S239 f4 g2 (((f3.tr g1).1 12 0 48 rfl).trans (by rw [gI_sI, if_pos ⟨rfl, rfl, rfl⟩]))

