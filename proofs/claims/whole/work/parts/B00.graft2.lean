/-! graft, whole -/

set_option maxRecDepth 100000 in
theorem lp_gf307 {W : zWd} (hW : Wok W) {b e n : Nat} (hb : b < wA W) (he : we W b = e) {L : List zV2} (hL7 : L.length ≤ 7) (heL : e ≤ L.length) (hn : ((lvl L).take e).sum = n) (hn7 : n ≤ 7) {N : Nat} (hN7 : N ≤ 7) (hlN : ∀ k, k < L.length → (L.getD k zv0).1 ≤ N) (hnN : n ≤ N) {ks : List Nat} (hks : ks.length = e) (hkb : ∀ i, i < e → ks.getD i 0 < (tl W (L.getD i zv0).1).length) {S : zS} (hs : Sd S) (hlv : LVS S W N) (hst : Stk S W 1375 1376 L) (h81 : gI S 12 0 81 = nI L.length) (hch : ∀ i, i < e → gI S 1379 0 i = nI (ks.getD i 0)) (hall : ∀ i, i < e → 0 < (tl W (L.getD i zv0).1).length) {Po : Option zV → zS → Prop} (K1 : ∀ S1 ks', Fr (fun a b k => a == 1379 && b == 0) S S1 → ks'.length = e → (∀ i, i < e → ks'.getD i 0 < (tl W (L.getD i zv0).1).length) → (∀ i, i < e → gI S1 1379 0 i = nI (ks'.getD i 0)) → pst (bnL W (L.take e)) ks = ks' :: pst (bnL W (L.take e)) ks' → Ok mX12_graft 164 [some (zr 12 0), some (zi (nI b)), some (zi (nI e)), some (zi (nI n)), some (zi (nI (wP W))), some (zi (nI 1)), none, none, none, none] [] S1 Po) (K0 : ∀ S1, Fr (fun a b k => a == 1379 && b == 0) S S1 → pst (bnL W (L.take e)) ks = [] → Ok mX12_graft 164 [some (zr 12 0), some (zi (nI b)), some (zi (nI e)), some (zi (nI n)), some (zi (nI (wP W))), some (zi (nI 0)), none, none, none, none] [] S1 Po) : Ok mX12_graft 307 [some (zr 12 0), some (zi (nI b)), some (zi (nI e)), some (zi (nI n)), some (zi (nI (wP W))), some (zi (nI 1)), none, none, none, none] [] S Po := by
  have hE := hW.2.1
  have hA3 := hE.1
  have he4 := hE.2 b hb
  rw [he] at he4
  refine r_iload_n (q := 308) dX12_graft_307 rfl rfl rfl ?_
  refine r_iconst (q := 309) (nI 1) dX12_graft_308 rfl (by decide) ?_
  refine r_isub (q := 310) dX12_graft_309 rfl ?_
  refine r_istore (q := 312) (L' := [some (zr 12 0), some (zi (nI b)), some (zi (nI e)), some (zi (nI n)), some (zi (nI (wP W))), some (zi (nI 1)), none, none, some (zi ((nI e) - (nI 1))), none]) dX12_graft_310 rfl (by decide) rfl ?_
  have hbl : (bnL W (L.take e)).length = e := by unfold bnL; rw [List.length_map, List.length_take]; omega
  have hbg : ∀ i, i < e → (bnL W (L.take e)).getD i 0 = (tl W (L.getD i zv0).1).length := fun i hi => by
    rw [bnL_get (by rw [List.length_take]; omega), List.getD_eq_getElem?_getD (l := L.take e), List.getElem?_take_of_lt hi, ← List.getD_eq_getElem?_getD]
  have hbz : ∀ x, x ∈ (bnL W (L.take e)) → x ≠ 0 := fun x hx => by
    obtain ⟨i, hi, rfl⟩ := List.getElem_of_mem hx
    have h1 := hbg i (by omega)
    rw [List.getD_eq_getElem?_getD, List.getElem?_eq_getElem hi] at h1
    have h2 := hall i (by omega)
    have h1 : (bnL W (L.take e))[i] = _ := h1
    omega
  refine lp_gf312 hW hb he hL7 heL hn hn7 hN7 hlN hnN hks hkb e _ S rfl (Nat.le_refl _) hs hlv hst h81 hch (fun j j1 j2 => absurd j1 (by omega)) (fun S1 x1 f x0 hk => ?_) (fun S1 f hk => ?_)
  · obtain ⟨k, k1, k2, k3, k4⟩ := hk
    have hp := pst_some (bs := (bnL W (L.take e))) (ks := ks) (k := k) hbz (by omega) (by omega) (by rw [hbg k k1]; exact k2) (fun i i1 i2 => by rw [hbg i (by omega)]; exact k3 i i1 (by omega))
    rw [hbl] at hp
    refine r_iload (q := 379) dX12_graft_377 rfl rfl ?_
    refine r_if_lt (q := 382) (t := 386) dX12_graft_379 (by decide) rfl (fun h379 => absurd h379 (Int32.not_lt.mpr x0)) (fun h379 => ?_)
    refine r_iconst (q := 383) (nI 1) dX12_graft_382 rfl (by decide) ?_
    refine r_goto (q := 387) dX12_graft_383 (by decide) ?_
    refine r_istore (q := 389) (L' := [some (zr 12 0), some (zi (nI b)), some (zi (nI e)), some (zi (nI n)), some (zi (nI (wP W))), some (zi (nI 1)), none, none, some (zi x1), none]) dX12_graft_387 rfl (by decide) rfl ?_
    refine r_goto (q := 164) dX12_graft_389 (by decide) ?_
    refine r_mask [true, true, true, true, true, true, false, false, false, false] rfl ?_
    refine K1 S1 (ks.take k ++ (ks.getD k 0 + 1) :: List.replicate (e - 1 - k) 0) f (by rw [List.length_append, List.length_cons, List.length_take, List.length_replicate]; omega) (fun i hi => ?_) k4 hp
    by_cases e1 : i = k
    · rw [e1, nx_at (by omega)]; exact k2
    · by_cases e2 : i < k
      · rw [nx_lo (by omega) e2]; exact hkb i hi
      · rw [nx_hi (by omega) (by omega) (by omega)]; exact hall _ hi
  · skip
    refine r_iload (q := 379) dX12_graft_377 rfl rfl ?_
    refine r_if_lt (q := 382) (t := 386) dX12_graft_379 (by decide) rfl (fun h379 => ?_) (fun h379 => absurd h379 (by decide))
    refine r_iconst (q := 387) (nI 0) dX12_graft_386 rfl (by decide) ?_
    refine r_istore (q := 389) (L' := [some (zr 12 0), some (zi (nI b)), some (zi (nI e)), some (zi (nI n)), some (zi (nI (wP W))), some (zi (nI 0)), none, none, some (zi (-1 : Int32)), none]) dX12_graft_387 rfl (by decide) rfl ?_
    refine r_goto (q := 164) dX12_graft_389 (by decide) ?_
    refine r_mask [true, true, true, true, true, true, false, false, false, false] rfl ?_
    exact K0 S1 f (pst_none (by omega) (fun i hi => by rw [hbg i (by omega)]; exact hk i (by omega)))

set_option maxRecDepth 100000 in
theorem lp_gfterm {W : zWd} (hW : Wok W) {b e n : Nat} (hb : b < wA W) (he : we W b = e) {L : List zV2} (hL7 : L.length ≤ 7) (heL : e ≤ L.length) (hn : ((lvl L).take e).sum = n) (hn7 : n ≤ 7) {N : Nat} (hN7 : N ≤ 7) (hlN : ∀ k, k < L.length → (L.getD k zv0).1 ≤ N) (hnN : n ≤ N) {ks : List Nat} (hks : ks.length = e) (hkb : ∀ i, i < e → ks.getD i 0 < (tl W (L.getD i zv0).1).length) {S : zS} (hs : Sd S) (hlv : LVS S W N) (hst : Stk S W 1375 1376 L) (h81 : gI S 12 0 81 = nI L.length) (hch : ∀ i, i < e → gI S 1379 0 i = nI (ks.getD i 0)) {mv : Nat → Nat} {acc : zL} (hmv : ∀ j, j < (tl W n).length → gI S 1377 0 j = nI (mv j) ∧ mv j < wP W) (hacc : AccV (wP W) (tl W n) mv acc) {Po : Option zV → zS → Prop} (K : ∀ S1 mv1, Fr (fun a b k => a == 1377 && b == 0) S S1 → (∀ j, j < (tl W n).length → gI S1 1377 0 j = nI (mv1 j) ∧ mv1 j < wP W) → AccV (wP W) (tl W n) mv1 (acc ++ [gtm W b (L.take e) ks]) → Ok mX12_graft 307 [some (zr 12 0), some (zi (nI b)), some (zi (nI e)), some (zi (nI n)), some (zi (nI (wP W))), some (zi (nI 1)), none, none, none, none] [] S1 Po) : Ok mX12_graft 164 [some (zr 12 0), some (zi (nI b)), some (zi (nI e)), some (zi (nI n)), some (zi (nI (wP W))), some (zi (nI 1)), none, none, none, none] [] S Po := by
  have hP2 := hW.1.1
  have hP97 := hW.1.2.1
  have hE := hW.2.1
  have hA3 := hE.1
  have he4 := hE.2 b hb
  rw [he] at he4
  refine r_iload (q := 166) dX12_graft_164 rfl rfl ?_
  refine r_if_eqN (q := 169) (t := 392) (by omega) dX12_graft_166 (by decide) rfl (fun h166 => absurd h166 (by omega)) (fun h166 => ?_)
  refine r_iconst (q := 170) (nI 1) dX12_graft_169 rfl (by decide) ?_
  refine r_istore (q := 172) (L' := [some (zr 12 0), some (zi (nI b)), some (zi (nI e)), some (zi (nI n)), some (zi (nI (wP W))), some (zi (nI 1)), some (zi (nI 1)), none, none, none]) dX12_graft_170 rfl (by decide) rfl ?_
  refine r_iconst (q := 173) (nI 4) dX12_graft_172 rfl (by decide) ?_
  refine r_iload_n (q := 174) dX12_graft_173 rfl rfl rfl ?_
  refine r_iconst (q := 175) (nI 1) dX12_graft_174 rfl (by decide) ?_
  refine r_iaddN (q := 176) dX12_graft_175 rfl ?_
  refine r_ior (q := 177) dX12_graft_176 rfl ?_
  refine r_topi (y := nI (cd [b + 1])) (cd_dot (by omega)) ?_
  refine r_istore (q := 179) (L' := [some (zr 12 0), some (zi (nI b)), some (zi (nI e)), some (zi (nI n)), some (zi (nI (wP W))), some (zi (nI 1)), some (zi (nI 1)), some (zi (nI (cd [b + 1]))), none, none]) dX12_graft_177 rfl (by decide) rfl ?_
  refine r_iconst (q := 180) (nI 0) dX12_graft_179 rfl (by decide) ?_
  refine r_istore (q := 182) (L' := [some (zr 12 0), some (zi (nI b)), some (zi (nI e)), some (zi (nI n)), some (zi (nI (wP W))), some (zi (nI 1)), some (zi (nI 1)), some (zi (nI (cd [b + 1]))), some (zi (nI 0)), none]) dX12_graft_180 rfl (by decide) rfl ?_
  refine lp_gf182 hW hb he hL7 heL hn hn7 hN7 hlN hnN hs hlv hst h81 hks hkb hch (fun c w9 w8 hz => ?_) (fun v w9 v0 v1 hd => ?_) e 0 1 none (by omega) (by omega) (by rw [List.take_zero, List.take_zero]; exact dvd_rf)
  · have hA := acc_skip hacc (t := (gtm W b (L.take e) ks).1) (c := (pvv (L.take e) ks : Int)) hz
    refine r_mask [true, true, true, true, true, true, true, true, false, false] rfl ?_
    refine r_iload (q := 274) dX12_graft_272 rfl rfl ?_
    refine r_if_leN (q := 277) (t := 307) (by omega) dX12_graft_274 (by decide) rfl (fun h274 => ?_) (fun h274 => absurd h274 (by omega))
    refine r_mask [true, true, true, true, true, true, false, false, false, false] rfl ?_
    exact K S mv Fr.rf hmv hA
  · have htr := pk_tr hE (L := L.take e) (ks := ks) (by rw [List.length_take]; omega) (fun i hi => by
      rw [List.length_take] at hi
      rw [List.getD_eq_getElem?_getD (l := L.take e), List.getElem?_take_of_lt (by omega), ← List.getD_eq_getElem?_getD]; exact hkb i (by omega))
    have htn : lvl (L.take e) = (lvl L).take e := List.map_take
    have hT : Tr (wA W) (we W) n ((b + 1) :: (pk W (L.take e) ks).flatten) := ⟨Tr.cat hb (by rw [htr.1, List.length_take, he]; omega) htr.2.1, by rw [lvs, if_neg (by omega), Nat.zero_add, htr.2.2, htn]; exact hn⟩
    obtain ⟨j, hj, ej⟩ := mem_idx ((tl_mem hE).mpr hT)
    have hn1 : 1 ≤ n := (hT.len hE).2
    obtain ⟨⟨l1, l2, l3, rr, l4, l7⟩, l5, l6⟩ := hlv n hn1 hnN
    have hA := acc_put (show 0 < wP W by omega) tl_nodup hacc hj hd
    have x1 := (hmv j hj).1
    have x2 := (hmv j hj).2
    rw [← ej]
    refine r_mask [true, true, true, true, true, true, true, true, true, false] rfl ?_
    refine r_iload (q := 274) dX12_graft_272 rfl rfl ?_
    refine r_if_leN (q := 277) (t := 307) (by omega) dX12_graft_274 (by decide) rfl (fun h274 => absurd h274 (by omega)) (fun h274 => ?_)
    refine r_aload_n (q := 278) dX12_graft_277 rfl rfl rfl ?_
    refine r_iconst (q := 279) (nI 1) dX12_graft_278 rfl (by decide) ?_
    refine r_iload_n (q := 280) dX12_graft_279 rfl rfl rfl ?_
    refine r_iload (q := 282) dX12_graft_280 rfl rfl ?_
    refine r_callV (Mc := mX12_place) (q := 285) (As := [zi (nI 1), zi (nI n), zi (nI (cd ((tl W n).getD j [])))]) (st := []) ck12 dX12_graft_282 rfl rfl mkX12_place wt1816 wt1818 wp114 rfl (Nat.le_of_ble_eq_true rfl) (Nat.le_of_ble_eq_true rfl) (by decide) (by decide) (by decide) (Or.inl rfl) (hs.e (by decide)) (ok_place (q := 1) (n := n) (T := tl W n) (by decide) hn7 l5 l6 hs l1 l2 l3 l4 l7 hj) (fun r282 S282 hp282 => ?_)
    obtain ⟨rfl, hq282⟩ := hp282
    rw [hq282]
    show Ok _ _ _ [zi (nI j)] _ _
    refine r_istore (q := 287) (L' := [some (zr 12 0), some (zi (nI b)), some (zi (nI e)), some (zi (nI n)), some (zi (nI (wP W))), some (zi (nI 1)), some (zi (nI v)), some (zi (nI (cd ((tl W n).getD j [])))), some (zi (nI j)), none]) dX12_graft_285 rfl (by decide) rfl ?_
    refine r_aload_n (q := 288) dX12_graft_287 rfl rfl rfl ?_
    refine r_getr (q := 291) (some (1377, 0)) ck12 dX12_graft_288 rfl (k := 77) (by decide) wt1355 rfl (hs.e (by decide)) (hs.r (by decide) (by decide)) ?_
    refine r_iload (q := 293) dX12_graft_291 rfl rfl ?_
    refine r_aload_n (q := 294) dX12_graft_293 rfl rfl rfl ?_
    refine r_getr (q := 297) (some (1377, 0)) ck12 dX12_graft_294 rfl (k := 77) (by decide) wt1355 rfl (hs.e (by decide)) (hs.r (by decide) (by decide)) ?_
    refine r_iload (q := 299) dX12_graft_297 rfl rfl ?_
    refine r_ialdN (q := 300) 300 (by decide) rfl dX12_graft_299 rfl (hs.e (by decide)) (hs.n rfl (by decide)) (by omega) (by decide) ?_
    refine r_topi (y := nI (mv j)) x1 ?_
    refine r_iload (q := 302) dX12_graft_300 rfl rfl ?_
    refine r_iaddN (q := 303) dX12_graft_302 rfl ?_
    refine r_iload (q := 305) dX12_graft_303 rfl rfl ?_
    refine r_iremN (q := 306) (by omega) (by omega) (by omega) dX12_graft_305 rfl ?_
    refine r_iastN (q := 307) 300 (by decide) rfl dX12_graft_306 rfl (hs.e (by decide)) (hs.n rfl (by decide)) (by omega) (by decide) ?_
    refine r_mask [true, true, true, true, true, true, false, false, false, false] rfl ?_
    refine K _ _ (Fr.rf.i rfl) (fun i hi => ?_) (by rw [ej] at hA; exact hA)
    rw [gI_sI]
    by_cases e1 : i = j
    · rw [if_pos ⟨rfl, rfl, e1⟩, if_pos e1, e1]; exact ⟨rfl, Nat.mod_lt _ (by omega)⟩
    · rw [if_neg (fun z => e1 z.2.2), if_neg e1]; exact hmv i hi

set_option maxRecDepth 100000 in
theorem lp_gf164 {W : zWd} (hW : Wok W) {b e n : Nat} (hb : b < wA W) (he : we W b = e) {L : List zV2} (hL7 : L.length ≤ 7) (heL : e ≤ L.length) (hn : ((lvl L).take e).sum = n) (hn7 : n ≤ 7) {N : Nat} (hN7 : N ≤ 7) (hlN : ∀ k, k < L.length → (L.getD k zv0).1 ≤ N) (hnN : n ≤ N) (hall : ∀ i, i < e → 0 < (tl W (L.getD i zv0).1).length) {Po : Option zV → zS → Prop} : ∀ (rem : List (List Nat)) (ks : List Nat) (S : zS) (mv : Nat → Nat) (acc : zL), rem = pst (bnL W (L.take e)) ks → ks.length = e → (∀ i, i < e → ks.getD i 0 < (tl W (L.getD i zv0).1).length) → Sd S → LVS S W N → Stk S W 1375 1376 L → gI S 12 0 81 = nI L.length → (∀ i, i < e → gI S 1379 0 i = nI (ks.getD i 0)) → (∀ j, j < (tl W n).length → gI S 1377 0 j = nI (mv j) ∧ mv j < wP W) → AccV (wP W) (tl W n) mv acc → (∀ S1 mv1, Fr (fun a b k => (a == 1377 || a == 1379) && b == 0) S S1 → (∀ j, j < (tl W n).length → gI S1 1377 0 j = nI (mv1 j) ∧ mv1 j < wP W) → AccV (wP W) (tl W n) mv1 (acc ++ (ks :: rem).map (gtm W b (L.take e))) → Ok mX12_graft 164 [some (zr 12 0), some (zi (nI b)), some (zi (nI e)), some (zi (nI n)), some (zi (nI (wP W))), some (zi (nI 0)), none, none, none, none] [] S1 Po) → Ok mX12_graft 164 [some (zr 12 0), some (zi (nI b)), some (zi (nI e)), some (zi (nI n)), some (zi (nI (wP W))), some (zi (nI 1)), none, none, none, none] [] S Po := by
  intro rem
  have hP2 := hW.1.1
  have hP97 := hW.1.2.1
  have hE := hW.2.1
  have hA3 := hE.1
  have he4 := hE.2 b hb
  rw [he] at he4
  induction rem with
  | nil =>
    intro ks S mv acc hrem hks hkb hs hlv hst h81 hch hmv hacc K
    refine lp_gfterm hW hb he hL7 heL hn hn7 hN7 hlN hnN hks hkb hs hlv hst h81 hch hmv hacc (fun S1 mv1 f hm ha => ?_)
    refine lp_gf307 hW hb he hL7 heL hn hn7 hN7 hlN hnN hks hkb (hs.fr f) (hlv.fr f (fun _ => ⟨rfl, rfl, rfl, rfl⟩)) (hst.fr f (fun _ => ⟨rfl, rfl⟩)) ((f.1 _ _ _ rfl).trans h81) (fun i hi => (f.1 _ _ _ rfl).trans (hch i hi)) hall (fun S2 ks' f2 g1 g2 g3 g4 => ?_) (fun S2 f2 g4 => ?_)
    · rw [← hrem] at g4; cases g4
    · refine K S2 mv1 ((f.mono fun a b k z => by simp at z; simp [z]).tr (f2.mono fun a b k z => by simp at z; simp [z])) (fun j hj => ⟨(f2.1 _ _ _ rfl).trans (hm j hj).1, (hm j hj).2⟩) ha
  | cons q rem ih =>
    intro ks S mv acc hrem hks hkb hs hlv hst h81 hch hmv hacc K
    refine lp_gfterm hW hb he hL7 heL hn hn7 hN7 hlN hnN hks hkb hs hlv hst h81 hch hmv hacc (fun S1 mv1 f hm ha => ?_)
    refine lp_gf307 hW hb he hL7 heL hn hn7 hN7 hlN hnN hks hkb (hs.fr f) (hlv.fr f (fun _ => ⟨rfl, rfl, rfl, rfl⟩)) (hst.fr f (fun _ => ⟨rfl, rfl⟩)) ((f.1 _ _ _ rfl).trans h81) (fun i hi => (f.1 _ _ _ rfl).trans (hch i hi)) hall (fun S2 ks' f2 g1 g2 g3 g4 => ?_) (fun S2 f2 g4 => ?_)
    · rw [← hrem] at g4
      obtain ⟨e1, e2⟩ := List.cons.inj g4
      subst e1
      refine ih q S2 mv1 (acc ++ [gtm W b (L.take e) ks]) e2 g1 g2 ((hs.fr f).fr f2) ((hlv.fr f (fun _ => ⟨rfl, rfl, rfl, rfl⟩)).fr f2 (fun _ => ⟨rfl, rfl, rfl, rfl⟩)) ((hst.fr f (fun _ => ⟨rfl, rfl⟩)).fr f2 (fun _ => ⟨rfl, rfl⟩)) ((f2.1 _ _ _ rfl).trans ((f.1 _ _ _ rfl).trans h81)) g3 (fun j hj => ⟨(f2.1 _ _ _ rfl).trans (hm j hj).1, (hm j hj).2⟩) ha (fun S3 mv3 f3 h1 h2 => K S3 mv3 (((f.mono fun a b k z => by simp at z; simp [z]).tr (f2.mono fun a b k z => by simp at z; simp [z])).tr f3) h1 (by rw [List.append_assoc] at h2; exact h2))
    · rw [← hrem] at g4; cases g4

set_option maxRecDepth 100000 in
theorem lp_gf405 {W : zWd} {b e n m to : Nat} (hn7 : n ≤ 7) (hm : m ≤ 300) (hto : to ≤ 7) {Po : Option zV → zS → Prop} : ∀ (d k : Nat) (S : zS), k + d = m → Sd S → gI S 1324 0 (8 + n) = nI m → gI S 12 0 81 = nI to → (∀ S2, Fr (fun a b k => a == 1375 && b == 0) S S2 → (∀ j, k ≤ j → j < m → gI S2 1375 0 (300 * to + j) = gI S 1377 0 j) → (∀ j, (j < 300 * to + k ∨ 300 * to + m ≤ j) → gI S2 1375 0 j = gI S 1375 0 j) → Ok mX12_graft 448 [some (zr 12 0), some (zi (nI b)), some (zi (nI e)), some (zi (nI n)), some (zi (nI (wP W))), some (zi (nI 0)), some (zi (nI m)), none, none, none] [] S2 Po) → Ok mX12_graft 405 [some (zr 12 0), some (zi (nI b)), some (zi (nI e)), some (zi (nI n)), some (zi (nI (wP W))), some (zi (nI 0)), some (zi (nI k)), none, none, none] [] S Po := by
  intro d
  induction d with
  | zero =>
    intro k S hk hs h24 h81 K
    obtain rfl : k = m := by omega
    refine r_iload (q := 407) dX12_graft_405 rfl rfl ?_
    refine r_aload_n (q := 408) dX12_graft_407 rfl rfl rfl ?_
    refine r_getr (q := 411) (some (1324, 0)) ck12 dX12_graft_408 rfl (k := 24) (by decide) wt1302 rfl (hs.e (by decide)) (hs.r (by decide) (by decide)) ?_
    refine r_bipush (q := 413) (nI 8) dX12_graft_411 rfl (by decide) ?_
    refine r_iload_n (q := 414) dX12_graft_413 rfl rfl rfl ?_
    refine r_iaddN (q := 415) dX12_graft_414 rfl ?_
    refine r_ialdN (q := 416) 16 (by decide) rfl dX12_graft_415 rfl (hs.e (by decide)) (hs.n rfl (by decide)) (by omega) (by decide) ?_
    refine r_topi (y := nI k) h24 ?_
    refine r_icmp_geN (q := 419) (t := 448) (by omega) (by omega) dX12_graft_416 (by decide) rfl (fun h416 => ?_) (fun h416 => absurd h416 (by omega))
    exact K S Fr.rf (fun j a b => absurd a (by omega)) (fun j _ => rfl)
  | succ d ih =>
    intro k S hk hs h24 h81 K
    refine r_iload (q := 407) dX12_graft_405 rfl rfl ?_
    refine r_aload_n (q := 408) dX12_graft_407 rfl rfl rfl ?_
    refine r_getr (q := 411) (some (1324, 0)) ck12 dX12_graft_408 rfl (k := 24) (by decide) wt1302 rfl (hs.e (by decide)) (hs.r (by decide) (by decide)) ?_
    refine r_bipush (q := 413) (nI 8) dX12_graft_411 rfl (by decide) ?_
    refine r_iload_n (q := 414) dX12_graft_413 rfl rfl rfl ?_
    refine r_iaddN (q := 415) dX12_graft_414 rfl ?_
    refine r_ialdN (q := 416) 16 (by decide) rfl dX12_graft_415 rfl (hs.e (by decide)) (hs.n rfl (by decide)) (by omega) (by decide) ?_
    refine r_topi (y := nI m) h24 ?_
    refine r_icmp_geN (q := 419) (t := 448) (by omega) (by omega) dX12_graft_416 (by decide) rfl (fun h416 => absurd h416 (by omega)) (fun h416 => ?_)
    refine r_aload_n (q := 420) dX12_graft_419 rfl rfl rfl ?_
    refine r_getr (q := 423) (some (1375, 0)) ck12 dX12_graft_420 rfl (k := 75) (by decide) wt1353 rfl (hs.e (by decide)) (hs.r (by decide) (by decide)) ?_
    refine r_sipush (q := 426) (nI 300) dX12_graft_423 rfl (by decide) ?_
    refine r_aload_n (q := 427) dX12_graft_426 rfl rfl rfl ?_
    refine r_geti (q := 430) ck12 dX12_graft_427 rfl (k := 81) (by decide) wt1359 (Or.inl rfl) (hs.e (by decide)) ?_
    refine r_topi (y := nI to) h81 ?_
    refine r_imulN (q := 431) dX12_graft_430 rfl ?_
    refine r_iload (q := 433) dX12_graft_431 rfl rfl ?_
    refine r_iaddN (q := 434) dX12_graft_433 rfl ?_
    refine r_aload_n (q := 435) dX12_graft_434 rfl rfl rfl ?_
    refine r_getr (q := 438) (some (1377, 0)) ck12 dX12_graft_435 rfl (k := 77) (by decide) wt1355 rfl (hs.e (by decide)) (hs.r (by decide) (by decide)) ?_
    refine r_iload (q := 440) dX12_graft_438 rfl rfl ?_
    refine r_ialdN (q := 441) 300 (by decide) rfl dX12_graft_440 rfl (hs.e (by decide)) (hs.n rfl (by decide)) (by omega) (by decide) ?_
    refine r_iastN (q := 442) 2400 (by decide) rfl dX12_graft_441 rfl (hs.e (by decide)) (hs.n rfl (by decide)) (by omega) (by decide) ?_
    refine r_iincN (q := 445) (L' := [some (zr 12 0), some (zi (nI b)), some (zi (nI e)), some (zi (nI n)), some (zi (nI (wP W))), some (zi (nI 0)), some (zi (nI (k + 1))), none, none, none]) 1 rfl dX12_graft_442 rfl rfl (by decide) rfl ?_
    refine r_goto (q := 405) dX12_graft_445 (by decide) ?_
    have f0 : Fr (fun a b k => a == 1375 && b == 0) S (sI S 1375 0 ((300 * to) + k) (gI S 1377 0 k)) := Fr.rf.i rfl
    refine ih (k + 1) (sI S 1375 0 ((300 * to) + k) (gI S 1377 0 k)) (by omega) hs ((f0.1 1324 0 (8 + n) rfl).trans h24) ((f0.1 12 0 81 rfl).trans h81) (fun S2 f h1 h2 => K S2 (f0.tr f) (fun j a b => ?_) (fun j a => ?_))
    · by_cases e1 : j = k
      · subst e1
        rw [h2 _ (by omega), gI_sI, if_pos ⟨rfl, rfl, rfl⟩]
      · rw [h1 j (by omega) b, gI_sI, if_neg (by omega)]
    · rw [h2 j (by omega), gI_sI, if_neg (by omega)]

set_option maxRecDepth 100000 in
theorem lp_gfend {W : zWd} (hW : Wok W) {b e n : Nat} (hb : b < wA W) (he : we W b = e) {L : List zV2} (hL7 : L.length ≤ 7) (heL : e ≤ L.length) (hn : ((lvl L).take e).sum = n) (hn7 : n ≤ 7) {N : Nat} (hN7 : N ≤ 7) (hlN : ∀ k, k < L.length → (L.getD k zv0).1 ≤ N) (hnN : n ≤ N) (hn1 : 1 ≤ n) {S : zS} (hs : Sd S) (hst : Stk S W 1375 1376 L) (h81 : gI S 12 0 81 = nI L.length) (l2 : gI S 1324 0 (8 + n) = nI (tl W n).length) (l5 : (tl W n).length ≤ 300) (h300 : ∀ k, k < L.length → (tl W (L.getD k zv0).1).length ≤ 300) {S4 : zS} {mv : Nat → Nat} (fA : Fr tGf S S4) (e75 : ∀ k, gI S4 1375 0 k = gI S 1375 0 k) (e76 : ∀ k, gI S4 1376 0 k = gI S 1376 0 k) (g81 : gI S4 12 0 81 = nI L.length) (hm : ∀ j, j < (tl W n).length → gI S4 1377 0 j = nI (mv j) ∧ mv j < wP W) (ha : AccV (wP W) (tl W n) mv (grS b (VnL W (L.take e)))) : Ok mX12_graft 164 [some (zr 12 0), some (zi (nI b)), some (zi (nI e)), some (zi (nI n)), some (zi (nI (wP W))), some (zi (nI 0)), none, none, none, none] [] S4 (fun r S1 => r = none ∧ Fr tGf S S1 ∧ ∃ v, AccV (wP W) (tl W n) v (grS b (VnL W (L.take e))) ∧ Stk S1 W 1375 1376 ((n, v) :: L.drop e) ∧ gI S1 12 0 81 = nI (L.length - e + 1)) := by
  have hs4 := hs.fr fA
  have l24 : gI S4 1324 0 (8 + n) = nI (tl W n).length := (fA.1 1324 0 (8 + n) rfl).trans l2
  have hE := hW.2.1
  have hA3 := hE.1
  have he4 := hE.2 b hb
  rw [he] at he4
  refine r_iload (q := 166) dX12_graft_164 rfl rfl ?_
  refine r_if_eqN (q := 169) (t := 392) (by omega) dX12_graft_166 (by decide) rfl (fun h166 => ?_) (fun h166 => absurd h166 (by omega))
  refine r_aload_n (q := 393) dX12_graft_392 rfl rfl rfl ?_
  refine r_dup (q := 394) dX12_graft_393 rfl rfl ?_
  refine r_geti (q := 397) ck12 dX12_graft_394 rfl (k := 81) (by decide) wt1359 (Or.inl rfl) (hs4.e (by decide)) ?_
  refine r_topi (y := nI L.length) g81 ?_
  refine r_iload_n (q := 398) dX12_graft_397 rfl rfl rfl ?_
  refine r_isubN (q := 399) (by omega) dX12_graft_398 rfl ?_
  refine r_puti (q := 402) ck12 dX12_graft_399 rfl (k := 81) (by decide) wt1359 (Or.inl rfl) rfl (hs4.e (by decide)) ?_
  refine r_iconst (q := 403) (nI 0) dX12_graft_402 rfl (by decide) ?_
  refine r_istore (q := 405) (L' := [some (zr 12 0), some (zi (nI b)), some (zi (nI e)), some (zi (nI n)), some (zi (nI (wP W))), some (zi (nI 0)), some (zi (nI 0)), none, none, none]) dX12_graft_403 rfl (by decide) rfl ?_
  have f5 : Fr tGf S4 (sI S4 12 0 81 (nI (L.length - e))) := Fr.rf.i rfl
  have hs5 : Sd (sI S4 12 0 81 (nI (L.length - e))) := Sd.fr (S := S4) hs4 f5
  refine lp_gf405 (W := W) (b := b) (e := e) hn7 l5 (to := L.length - e) (by omega) (tl W n).length 0 (sI S4 12 0 81 (nI (L.length - e))) (by omega) hs5 (by rw [gI_sI, if_neg (by omega)]; exact l24) (by rw [gI_sI, if_pos ⟨rfl, rfl, rfl⟩]) (fun S6 f6 h1 h2 => ?_)
  have hs6 := hs5.fr f6
  have k81 : gI S6 12 0 81 = nI (L.length - e) := by rw [f6.1 12 0 81 rfl, gI_sI, if_pos ⟨rfl, rfl, rfl⟩]
  refine r_aload_n (q := 449) dX12_graft_448 rfl rfl rfl ?_
  refine r_getr (q := 452) (some (1376, 0)) ck12 dX12_graft_449 rfl (k := 76) (by decide) wt1354 rfl (hs6.e (by decide)) (hs6.r (by decide) (by decide)) ?_
  refine r_aload_n (q := 453) dX12_graft_452 rfl rfl rfl ?_
  refine r_geti (q := 456) ck12 dX12_graft_453 rfl (k := 81) (by decide) wt1359 (Or.inl rfl) (hs6.e (by decide)) ?_
  refine r_topi (y := nI (L.length - e)) k81 ?_
  refine r_iload_n (q := 457) dX12_graft_456 rfl rfl rfl ?_
  refine r_iastN (q := 458) 8 (by decide) rfl dX12_graft_457 rfl (hs6.e (by decide)) (hs6.n rfl (by decide)) (by omega) (by decide) ?_
  refine r_aload_n (q := 459) dX12_graft_458 rfl rfl rfl ?_
  refine r_dup (q := 460) dX12_graft_459 rfl rfl ?_
  refine r_geti (q := 463) ck12 dX12_graft_460 rfl (k := 81) (by decide) wt1359 (Or.inl rfl) (hs6.e (by decide)) ?_
  refine r_topi (y := gI S6 12 0 81) (by simp [gI_sI, gJ_sJ, gI_sJ, gJ_sI]) ?_
  refine r_topi (y := nI (L.length - e)) k81 ?_
  refine r_iconst (q := 464) (nI 1) dX12_graft_463 rfl (by decide) ?_
  refine r_iaddN (q := 465) dX12_graft_464 rfl ?_
  refine r_puti (q := 468) ck12 dX12_graft_465 rfl (k := 81) (by decide) wt1359 (Or.inl rfl) rfl (hs6.e (by decide)) ?_
  refine r_return dX12_graft_468 rfl ?_
  have f7 : Fr tGf S6 (sI (sI S6 1376 0 (L.length - e) (nI n)) 12 0 81 (nI ((L.length - e) + 1))) := (Fr.rf.i rfl).i rfl
  refine ⟨rfl, ((fA.tr f5).tr (f6.mono fun a b k z => by simp at z; simp [tGf, z])).tr f7, mv, ha, ?_, by rw [gI_sI, if_pos ⟨rfl, rfl, rfl⟩]⟩
  refine hst.put heL hn1 (by rw [gI_sI, if_neg (by omega), gI_sI, if_pos ⟨rfl, rfl, rfl⟩]) (fun k hk => by rw [gI_sI, if_neg (by omega), gI_sI, if_neg (by omega), f6.1 1376 0 k rfl, gI_sI, if_neg (by omega)]; exact e76 k) (fun j hj => ⟨by rw [gI_sI, if_neg (by omega), gI_sI, if_neg (by omega), h1 j (by omega) hj, gI_sI, if_neg (by omega)]; exact (hm j hj).1, (hm j hj).2⟩) (fun k hk => by rw [gI_sI, if_neg (by omega), gI_sI, if_neg (by omega), h2 k (by omega), gI_sI, if_neg (by omega)]; exact e75 k) h300

set_option maxRecDepth 100000 in
theorem ok_graft {W : zWd} (hW : Wok W) {b e n : Nat} (hb : b < wA W) (he : we W b = e) {L : List zV2} (hL7 : L.length ≤ 7) (heL : e ≤ L.length) (hn : ((lvl L).take e).sum = n) (hn7 : n ≤ 7) {N : Nat} (hN7 : N ≤ 7) (hlN : ∀ k, k < L.length → (L.getD k zv0).1 ≤ N) (hnN : n ≤ N) (h300 : ∀ k, k < L.length → (tl W (L.getD k zv0).1).length ≤ 300) {S : zS} (hs : Sd S) (hws : WS S W 1) (hlv : LVS S W N) (hst : Stk S W 1375 1376 L) (h81 : gI S 12 0 81 = nI L.length) : Ok mX12_graft 0 (ent 10 [zr 12 0, zi (nI b)]) [] S (fun r S1 => r = none ∧ Fr tGf S S1 ∧ ∃ v, AccV (wP W) (tl W n) v (grS b (VnL W (L.take e))) ∧ Stk S1 W 1375 1376 ((n, v) :: L.drop e) ∧ gI S1 12 0 81 = nI (L.length - e + 1)) := by
  have hE := hW.2.1
  have hA3 := hE.1
  have he4 := hE.2 b hb
  rw [he] at he4
  have hP2 := hW.1.1
  have hP97 := hW.1.2.1
  have he0 : gI S 1322 0 (1177 + b) = nI e := by rw [← he]; exact hws.1.2 b hb
  have hlen3 := h300
  have hn1 : 1 ≤ n := by
    have h0 := (hst 0 (by omega)).1
    have h1 := sum_take_s (l := lvl L) (k := 0) (by unfold lvl; rw [List.length_map]; omega)
    rw [lvl_get (by omega)] at h1
    have h2 : ((lvl L).take (0 + 1)).sum ≤ ((lvl L).take e).sum := sum_take_le (by omega)
    omega
  obtain ⟨⟨l1, l2, l3, l4⟩, l5, l6⟩ := hlv n hn1 hnN
  have l2 : gI S 1324 0 (8 + n) = nI (tl W n).length := l2
  show Ok mX12_graft 0 [some (zr 12 0), some (zi (nI b)), none, none, none, none, none, none, none, none] [] S _
  refine r_aload_n (q := 1) dX12_graft_0 rfl rfl rfl ?_
  refine r_getr (q := 4) (some (1322, 0)) ck12 dX12_graft_1 rfl (k := 22) (by decide) wt1300 rfl (hs.e (by decide)) (hs.r (by decide) (by decide)) ?_
  refine r_sipush (q := 7) (nI 1177) dX12_graft_4 rfl (by decide) ?_
  refine r_iload_n (q := 8) dX12_graft_7 rfl rfl rfl ?_
  refine r_iaddN (q := 9) dX12_graft_8 rfl ?_
  refine r_ialdN (q := 10) 2346 (by decide) rfl dX12_graft_9 rfl (hs.e (by decide)) (hs.n rfl (by decide)) (by omega) (by decide) ?_
  refine r_topi (y := nI e) he0 ?_
  refine r_istore_n (q := 11) (L' := [some (zr 12 0), some (zi (nI b)), some (zi (nI e)), none, none, none, none, none, none, none]) dX12_graft_10 rfl rfl (by decide) rfl ?_
  refine r_iconst (q := 12) (nI 0) dX12_graft_11 rfl (by decide) ?_
  refine r_istore_n (q := 13) (L' := [some (zr 12 0), some (zi (nI b)), some (zi (nI e)), some (zi (nI 0)), none, none, none, none, none, none]) dX12_graft_12 rfl rfl (by decide) rfl ?_
  refine r_iconst (q := 14) (nI 0) dX12_graft_13 rfl (by decide) ?_
  refine r_istore (q := 16) (L' := [some (zr 12 0), some (zi (nI b)), some (zi (nI e)), some (zi (nI 0)), some (zi (nI 0)), none, none, none, none, none]) dX12_graft_14 rfl (by decide) rfl ?_
  refine lp_gf16 hW hb he hL7 heL hn hn7 hN7 hlN hnN hs hst h81 ?_ e 0 (by omega)
  refine r_iconst (q := 46) (nI 0) dX12_graft_45 rfl (by decide) ?_
  refine r_istore (q := 48) (L' := [some (zr 12 0), some (zi (nI b)), some (zi (nI e)), some (zi (nI n)), some (zi (nI 0)), none, none, none, none, none]) dX12_graft_46 rfl (by decide) rfl ?_
  refine lp_gf48 hn7 l5 (tl W n).length 0 S (by omega) hs l2 (fun j hj => absurd hj (by omega)) (fun S2 f2 hz => ?_)
  have hs2 := hs.fr f2
  have p2 : gI S2 1322 0 1173 = nI (wP W) := (f2.1 _ _ _ rfl).trans hws.2.2
  refine r_aload_n (q := 77) dX12_graft_76 rfl rfl rfl ?_
  refine r_getr (q := 80) (some (1322, 0)) ck12 dX12_graft_77 rfl (k := 22) (by decide) wt1300 rfl (hs2.e (by decide)) (hs2.r (by decide) (by decide)) ?_
  refine r_sipush (q := 83) (nI 1173) dX12_graft_80 rfl (by decide) ?_
  refine r_ialdN (q := 84) 2346 (by decide) rfl dX12_graft_83 rfl (hs2.e (by decide)) (hs2.n rfl (by decide)) (by omega) (by decide) ?_
  refine r_topi (y := nI (wP W)) p2 ?_
  refine r_istore (q := 86) (L' := [some (zr 12 0), some (zi (nI b)), some (zi (nI e)), some (zi (nI n)), some (zi (nI (wP W))), none, none, none, none, none]) dX12_graft_84 rfl (by decide) rfl ?_
  refine r_iconst (q := 87) (nI 0) dX12_graft_86 rfl (by decide) ?_
  refine r_istore (q := 89) (L' := [some (zr 12 0), some (zi (nI b)), some (zi (nI e)), some (zi (nI n)), some (zi (nI (wP W))), some (zi (nI 0)), none, none, none, none]) dX12_graft_87 rfl (by decide) rfl ?_
  refine r_iload (q := 91) dX12_graft_89 rfl rfl ?_
  refine r_iconst (q := 92) (nI 4) dX12_graft_91 rfl (by decide) ?_
  refine r_icmp_geN (q := 95) (t := 109) (by omega) (by omega) dX12_graft_92 (by decide) rfl (fun h92 => absurd h92 (by omega)) (fun h92 => ?_)
  refine r_aload_n (q := 96) dX12_graft_95 rfl rfl rfl ?_
  refine r_getr (q := 99) (some (1379, 0)) ck12 dX12_graft_96 rfl (k := 79) (by decide) wt1357 rfl (hs2.e (by decide)) (hs2.r (by decide) (by decide)) ?_
  refine r_iload (q := 101) dX12_graft_99 rfl rfl ?_
  refine r_iconst (q := 102) (nI 0) dX12_graft_101 rfl (by decide) ?_
  refine r_iastN (q := 103) 4 (by decide) rfl dX12_graft_102 rfl (hs2.e (by decide)) (hs2.n rfl (by decide)) (by omega) (by decide) ?_
  refine r_iincN (q := 106) (L' := [some (zr 12 0), some (zi (nI b)), some (zi (nI e)), some (zi (nI n)), some (zi (nI (wP W))), some (zi (nI 1)), none, none, none, none]) 1 rfl dX12_graft_103 rfl rfl (by decide) rfl ?_
  refine r_goto (q := 89) dX12_graft_106 (by decide) ?_
  refine r_iload (q := 91) dX12_graft_89 rfl rfl ?_
  refine r_iconst (q := 92) (nI 4) dX12_graft_91 rfl (by decide) ?_
  refine r_icmp_geN (q := 95) (t := 109) (by omega) (by omega) dX12_graft_92 (by decide) rfl (fun h92 => absurd h92 (by omega)) (fun h92 => ?_)
  refine r_aload_n (q := 96) dX12_graft_95 rfl rfl rfl ?_
  refine r_getr (q := 99) (some (1379, 0)) ck12 dX12_graft_96 rfl (k := 79) (by decide) wt1357 rfl (hs2.e (by decide)) (hs2.r (by decide) (by decide)) ?_
  refine r_iload (q := 101) dX12_graft_99 rfl rfl ?_
  refine r_iconst (q := 102) (nI 0) dX12_graft_101 rfl (by decide) ?_
  refine r_iastN (q := 103) 4 (by decide) rfl dX12_graft_102 rfl (hs2.e (by decide)) (hs2.n rfl (by decide)) (by omega) (by decide) ?_
  refine r_iincN (q := 106) (L' := [some (zr 12 0), some (zi (nI b)), some (zi (nI e)), some (zi (nI n)), some (zi (nI (wP W))), some (zi (nI 2)), none, none, none, none]) 1 rfl dX12_graft_103 rfl rfl (by decide) rfl ?_
  refine r_goto (q := 89) dX12_graft_106 (by decide) ?_
  refine r_iload (q := 91) dX12_graft_89 rfl rfl ?_
  refine r_iconst (q := 92) (nI 4) dX12_graft_91 rfl (by decide) ?_
  refine r_icmp_geN (q := 95) (t := 109) (by omega) (by omega) dX12_graft_92 (by decide) rfl (fun h92 => absurd h92 (by omega)) (fun h92 => ?_)
  refine r_aload_n (q := 96) dX12_graft_95 rfl rfl rfl ?_
  refine r_getr (q := 99) (some (1379, 0)) ck12 dX12_graft_96 rfl (k := 79) (by decide) wt1357 rfl (hs2.e (by decide)) (hs2.r (by decide) (by decide)) ?_
  refine r_iload (q := 101) dX12_graft_99 rfl rfl ?_
  refine r_iconst (q := 102) (nI 0) dX12_graft_101 rfl (by decide) ?_
  refine r_iastN (q := 103) 4 (by decide) rfl dX12_graft_102 rfl (hs2.e (by decide)) (hs2.n rfl (by decide)) (by omega) (by decide) ?_
  refine r_iincN (q := 106) (L' := [some (zr 12 0), some (zi (nI b)), some (zi (nI e)), some (zi (nI n)), some (zi (nI (wP W))), some (zi (nI 3)), none, none, none, none]) 1 rfl dX12_graft_103 rfl rfl (by decide) rfl ?_
  refine r_goto (q := 89) dX12_graft_106 (by decide) ?_
  refine r_iload (q := 91) dX12_graft_89 rfl rfl ?_
  refine r_iconst (q := 92) (nI 4) dX12_graft_91 rfl (by decide) ?_
  refine r_icmp_geN (q := 95) (t := 109) (by omega) (by omega) dX12_graft_92 (by decide) rfl (fun h92 => absurd h92 (by omega)) (fun h92 => ?_)
  refine r_aload_n (q := 96) dX12_graft_95 rfl rfl rfl ?_
  refine r_getr (q := 99) (some (1379, 0)) ck12 dX12_graft_96 rfl (k := 79) (by decide) wt1357 rfl (hs2.e (by decide)) (hs2.r (by decide) (by decide)) ?_
  refine r_iload (q := 101) dX12_graft_99 rfl rfl ?_
  refine r_iconst (q := 102) (nI 0) dX12_graft_101 rfl (by decide) ?_
  refine r_iastN (q := 103) 4 (by decide) rfl dX12_graft_102 rfl (hs2.e (by decide)) (hs2.n rfl (by decide)) (by omega) (by decide) ?_
  refine r_iincN (q := 106) (L' := [some (zr 12 0), some (zi (nI b)), some (zi (nI e)), some (zi (nI n)), some (zi (nI (wP W))), some (zi (nI 4)), none, none, none, none]) 1 rfl dX12_graft_103 rfl rfl (by decide) rfl ?_
  refine r_goto (q := 89) dX12_graft_106 (by decide) ?_
  refine r_iload (q := 91) dX12_graft_89 rfl rfl ?_
  refine r_iconst (q := 92) (nI 4) dX12_graft_91 rfl (by decide) ?_
  refine r_icmp_geN (q := 95) (t := 109) (by omega) (by omega) dX12_graft_92 (by decide) rfl (fun h92 => ?_) (fun h92 => absurd h92 (by omega))
  refine r_iconst (q := 110) (nI 1) dX12_graft_109 rfl (by decide) ?_
  refine r_istore (q := 112) (L' := [some (zr 12 0), some (zi (nI b)), some (zi (nI e)), some (zi (nI n)), some (zi (nI (wP W))), some (zi (nI 1)), none, none, none, none]) dX12_graft_110 rfl (by decide) rfl ?_
  refine r_iconst (q := 113) (nI 0) dX12_graft_112 rfl (by decide) ?_
  refine r_istore (q := 115) (L' := [some (zr 12 0), some (zi (nI b)), some (zi (nI e)), some (zi (nI n)), some (zi (nI (wP W))), some (zi (nI 1)), some (zi (nI 0)), none, none, none]) dX12_graft_113 rfl (by decide) rfl ?_
  have f3 : Fr (fun a b k => a == 1379 && b == 0) S2 (sI (sI (sI (sI S2 1379 0 0 (nI 0)) 1379 0 1 (nI 0)) 1379 0 2 (nI 0)) 1379 0 3 (nI 0)) := (((Fr.rf.i rfl).i rfl).i rfl).i rfl
  have hs3 : Sd (sI (sI (sI (sI S2 1379 0 0 (nI 0)) 1379 0 1 (nI 0)) 1379 0 2 (nI 0)) 1379 0 3 (nI 0)) := Sd.fr (S := S2) hs2 f3
  have hlv3 : LVS (sI (sI (sI (sI S2 1379 0 0 (nI 0)) 1379 0 1 (nI 0)) 1379 0 2 (nI 0)) 1379 0 3 (nI 0)) W N := (hlv.fr f2 (fun _ => ⟨rfl, rfl, rfl, rfl⟩)).fr f3 (fun _ => ⟨rfl, rfl, rfl, rfl⟩)
  have hst3 : Stk (sI (sI (sI (sI S2 1379 0 0 (nI 0)) 1379 0 1 (nI 0)) 1379 0 2 (nI 0)) 1379 0 3 (nI 0)) W 1375 1376 L := (hst.fr f2 (fun _ => ⟨rfl, rfl⟩)).fr f3 (fun _ => ⟨rfl, rfl⟩)
  have g81 : gI (sI (sI (sI (sI S2 1379 0 0 (nI 0)) 1379 0 1 (nI 0)) 1379 0 2 (nI 0)) 1379 0 3 (nI 0)) 12 0 81 = nI L.length := (f3.1 _ _ _ rfl).trans ((f2.1 _ _ _ rfl).trans h81)
  have hmz : ∀ j, j < (tl W n).length → gI (sI (sI (sI (sI S2 1379 0 0 (nI 0)) 1379 0 1 (nI 0)) 1379 0 2 (nI 0)) 1379 0 3 (nI 0)) 1377 0 j = nI ((fun _ => 0 : Nat → Nat) j) ∧ (fun _ => 0 : Nat → Nat) j < wP W := fun j hj => ⟨(f3.1 _ _ _ rfl).trans (hz j hj), by show 0 < wP W; omega⟩
  have hfin : ∀ (S4 : zS) (mv : Nat → Nat), Fr (fun a b k => (a == 1377 || a == 1379) && b == 0) (sI (sI (sI (sI S2 1379 0 0 (nI 0)) 1379 0 1 (nI 0)) 1379 0 2 (nI 0)) 1379 0 3 (nI 0)) S4 → (∀ j, j < (tl W n).length → gI S4 1377 0 j = nI (mv j) ∧ mv j < wP W) → AccV (wP W) (tl W n) mv (grS b (VnL W (L.take e))) → Ok mX12_graft 164 [some (zr 12 0), some (zi (nI b)), some (zi (nI e)), some (zi (nI n)), some (zi (nI (wP W))), some (zi (nI 0)), none, none, none, none] [] S4 (fun r S1 => r = none ∧ Fr tGf S S1 ∧ ∃ v, AccV (wP W) (tl W n) v (grS b (VnL W (L.take e))) ∧ Stk S1 W 1375 1376 ((n, v) :: L.drop e) ∧ gI S1 12 0 81 = nI (L.length - e + 1)) := fun S4 mv f4 hm ha => by
    exact lp_gfend hW hb he hL7 heL hn hn7 hN7 hlN hnN hn1 hs hst h81 l2 l5 hlen3 (((f2.mono fun a b k z => by simp at z; simp [tGf, z]).tr (f3.mono fun a b k z => by simp at z; simp [tGf, z])).tr (f4.mono fun a b k z => by simp at z; simp [tGf]; omega)) (fun k => by rw [f4.1 1375 0 k rfl, f3.1 1375 0 k rfl, f2.1 1375 0 k rfl]) (fun k => by rw [f4.1 1376 0 k rfl, f3.1 1376 0 k rfl, f2.1 1376 0 k rfl]) ((f4.1 _ _ _ rfl).trans g81) hm ha
  refine lp_gf115 hW hb he hL7 heL hn hn7 hN7 hlN hnN hs3 hlv3 hst3 g81 (fun hall => ?_) (fun hz0 => ?_) e 0 (by omega) (fun i hi => absurd hi (by omega))
  · have hbz : ∀ x, x ∈ (bnL W (L.take e)) → x ≠ 0 := fun x hx => by
      obtain ⟨y, hy, rfl⟩ := List.mem_map.mp hx
      obtain ⟨i, hi, ey⟩ := List.getElem_of_mem hy
      have h2 := hall i (by rw [List.length_take] at hi; omega)
      rw [List.getElem_take] at ey
      rw [List.getD_eq_getElem?_getD, List.getElem?_eq_getElem (by rw [List.length_take] at hi; omega), Option.getD_some, ey] at h2
      omega
    have hbl : (bnL W (L.take e)).length = e := by unfold bnL; rw [List.length_map, List.length_take]; omega
    have hod := odo_hd hbz
    rw [hbl] at hod
    refine r_mask [true, true, true, true, true, true, false, false, false, false] rfl ?_
    refine lp_gf164 hW hb he hL7 heL hn hn7 hN7 hlN hnN hall _ (List.replicate e 0) _ (fun _ => 0) [] rfl List.length_replicate (fun i hi => ?_) hs3 hlv3 hst3 g81 (fun i hi => ?_) hmz acc_nil (fun S4 mv f4 hm ha => hfin S4 mv f4 hm ?_)
    · rw [List.getD_eq_getElem?_getD, List.getElem?_replicate, if_pos hi]; exact hall i hi
    · rw [List.getD_eq_getElem?_getD, List.getElem?_replicate, if_pos hi]
      show gI _ 1379 0 i = nI 0
      obtain rfl | rfl | rfl | rfl : i = 0 ∨ i = 1 ∨ i = 2 ∨ i = 3 := by omega
      all_goals simp [gI_sI]
    · rw [List.nil_append, ← hod, ← grS_odo] at ha; exact ha
  · obtain ⟨i, i1, i2⟩ := hz0
    refine r_mask [true, true, true, true, true, true, false, false, false, false] rfl ?_
    refine hfin _ (fun _ => 0) Fr.rf hmz ?_
    rw [grS_odo, odo_nil ⟨0, ?_, rfl⟩]
    · exact acc_nil
    · refine List.mem_map.mpr ⟨L.getD i zv0, ?_, i2⟩
      rw [List.getD_eq_getElem?_getD, List.getElem?_eq_getElem (by omega), Option.getD_some]
      exact List.mem_take_iff_getElem.mpr ⟨i, by omega, rfl⟩

