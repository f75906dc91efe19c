set_option maxRecDepth 100000 in
theorem lp_in1 {q n F RF P : Nat} (hq : q ≤ 1) (hn7 : n ≤ 7) {T : List (List Nat)} (hT : T.Nodup) (h2 : 2 ≤ P) (hP : P ≤ 97) {pv : Nat → Bool} {bs : Nat → Nat → Nat} (hok : RwOk T.length P pv bs) {S : zS} (hs : Sd S) (hB : Bx S q n F RF T.length P pv bs) {v v1 : Nat → Nat} (hV : Vr S T.length P v1) (hR : RedR T P pv bs v v1) (hI : Iv S P) (hrk : gI S 1326 0 (8 * q + n) = nI (cntp pv T.length)) : ∀ (d : Nat) (x : Int32), x = nI d - 1 → d ≤ T.length → (∀ t, d ≤ t → t < T.length → v1 t = 0) → Ok mX12_insert 51 [some (zr 12 0), some (zi (nI q)), some (zi (nI n)), some (zi (nI P)), some (zi (nI T.length)), some (zi (nI F)), some (zi x), none, none, none, none, none, none] [] S (fun r S1 => r = none ∧ InsR S S1 q n F RF P T pv bs v) := by
  obtain ⟨b1, b2, b3, b4, b5, b6, b7, b8, b9⟩ := hB
  have hB : Bx S q n F RF T.length P pv bs := ⟨b1, b2, b3, b4, b5, b6, b7, b8, b9⟩
  have hcl := cntp_le (pv := pv) T.length
  intro d
  induction d with
  | zero =>
    intro x hx hd hz
    obtain rfl : x = -1 := hx.trans (by decide)
    refine r_iload (q := 53) dX12_insert_51 rfl rfl ?_
    refine r_if_lt (q := 56) (t := 72) dX12_insert_53 (by decide) rfl (fun h53 => ?_) (fun h53 => absurd h53 (by decide))
    refine r_iload (q := 74) dX12_insert_72 rfl rfl ?_
    refine r_if_ge (q := 77) (t := 78) dX12_insert_74 (by decide) rfl (fun h74 => absurd h74 (by decide)) (fun h74 => ?_)
    refine r_return dX12_insert_77 rfl ?_
    have hc := (hR.2 T.length (fun t a b => absurd a (by omega))).2
    have hv0 : Sp P (Rw T pv (RR bs)) (Vn T v1) := Sp.nil.li (li_T (T := T) (fun p hp => absurd hp List.not_mem_nil) V_mem fun k hk => by
      unfold Vn
      rw [co_nil, co_V hT hk, hz k (by omega) hk]; exact dvd_rf)
    exact ⟨rfl, Fr.rf, pv, bs, hB, hok, Cg.sp (hc.mono fun u hu => by obtain ⟨s, _, s1, s2, rfl⟩ := hu; exact ⟨s, s1, s2, rfl⟩) hv0, fun u hu => Sp.gen hu, fun G _ h => h, hrk⟩
  | succ t ih =>
    intro x hx hd hz
    obtain rfl : x = nI t := hx.trans (nI_prd t)
    obtain ⟨w1, w2⟩ := hV t (by omega)
    by_cases hv0 : v1 t = 0
    · skip
      refine r_iload (q := 53) dX12_insert_51 rfl rfl ?_
      refine r_if_ltN (q := 56) (t := 72) (by omega) dX12_insert_53 (by decide) rfl ?_
      refine r_aload_n (q := 57) dX12_insert_56 rfl rfl rfl ?_
      refine r_getr (q := 60) (some (1341, 0)) ck12 dX12_insert_57 rfl (k := 41) (by decide) wt1319 rfl (hs.e (by decide)) (hs.r (by decide) (by decide)) ?_
      refine r_iload (q := 62) dX12_insert_60 rfl rfl ?_
      refine r_ialdN (q := 63) 300 (by decide) rfl dX12_insert_62 rfl (hs.e (by decide)) (hs.n rfl (by decide)) (by omega) (by decide) ?_
      refine r_topi (y := nI (v1 t)) w1 ?_
      refine r_if_neN (q := 66) (t := 72) (by omega) dX12_insert_63 (by decide) rfl (fun h63 => absurd h63 (by omega)) (fun h63 => ?_)
      refine r_iinc (q := 69) (L' := [some (zr 12 0), some (zi (nI q)), some (zi (nI n)), some (zi (nI P)), some (zi (nI T.length)), some (zi (nI F)), some (zi ((nI t) + (-1))), none, none, none, none, none, none]) ((nI t) + (-1)) dX12_insert_66 rfl rfl (by decide) rfl rfl ?_
      refine r_goto (q := 51) dX12_insert_69 (by decide) ?_
      exact ih _ (Int32.sub_eq_add_neg _ _).symm (by omega) (fun s h1 h3 => if e : s = t then by rw [e]; exact hv0 else hz s (by omega) h3)
    · obtain ⟨bb, i1, i2, i3⟩ := hI (v1 t) (by omega) w2
      have htm : t < T.length := by omega
      have hml := mulle htm
      have hgt : ∀ j, t < j → j < T.length → v1 j = 0 := fun j a b => hz j (by omega) b
      have hp0 : pv t = false := by
        cases q : pv t with
        | false => rfl
        | true => exact absurd (hR.1 t htm q) hv0
      refine r_iload (q := 53) dX12_insert_51 rfl rfl ?_
      refine r_if_ltN (q := 56) (t := 72) (by omega) dX12_insert_53 (by decide) rfl ?_
      refine r_aload_n (q := 57) dX12_insert_56 rfl rfl rfl ?_
      refine r_getr (q := 60) (some (1341, 0)) ck12 dX12_insert_57 rfl (k := 41) (by decide) wt1319 rfl (hs.e (by decide)) (hs.r (by decide) (by decide)) ?_
      refine r_iload (q := 62) dX12_insert_60 rfl rfl ?_
      refine r_ialdN (q := 63) 300 (by decide) rfl dX12_insert_62 rfl (hs.e (by decide)) (hs.n rfl (by decide)) (by omega) (by decide) ?_
      refine r_topi (y := nI (v1 t)) w1 ?_
      refine r_if_neN (q := 66) (t := 72) (by omega) dX12_insert_63 (by decide) rfl (fun h63 => ?_) (fun h63 => absurd h63 (by omega))
      refine r_iload (q := 74) dX12_insert_72 rfl rfl ?_
      refine r_if_geN (q := 77) (t := 78) (by omega) dX12_insert_74 (by decide) rfl ?_
      refine r_aload_n (q := 79) dX12_insert_78 rfl rfl rfl ?_
      refine r_getr (q := 82) (some (1342, 0)) ck12 dX12_insert_79 rfl (k := 42) (by decide) wt1320 rfl (hs.e (by decide)) (hs.r (by decide) (by decide)) ?_
      refine r_aload_n (q := 83) dX12_insert_82 rfl rfl rfl ?_
      refine r_getr (q := 86) (some (1341, 0)) ck12 dX12_insert_83 rfl (k := 41) (by decide) wt1319 rfl (hs.e (by decide)) (hs.r (by decide) (by decide)) ?_
      refine r_iload (q := 88) dX12_insert_86 rfl rfl ?_
      refine r_ialdN (q := 89) 300 (by decide) rfl dX12_insert_88 rfl (hs.e (by decide)) (hs.n rfl (by decide)) (by omega) (by decide) ?_
      refine r_topi (y := nI (v1 t)) w1 ?_
      refine r_ialdN (q := 90) 98 (by decide) rfl dX12_insert_89 rfl (hs.e (by decide)) (hs.n rfl (by decide)) (by omega) (by decide) ?_
      refine r_topi (y := nI bb) i1 ?_
      refine r_istore (q := 92) (L' := [some (zr 12 0), some (zi (nI q)), some (zi (nI n)), some (zi (nI P)), some (zi (nI T.length)), some (zi (nI F)), some (zi (nI t)), some (zi (nI bb)), none, none, none, none, none]) dX12_insert_90 rfl (by decide) rfl ?_
      refine r_aload_n (q := 93) dX12_insert_92 rfl rfl rfl ?_
      refine r_iload_n (q := 94) dX12_insert_93 rfl rfl rfl ?_
      refine r_iload_n (q := 95) dX12_insert_94 rfl rfl rfl ?_
      refine r_iload (q := 97) dX12_insert_95 rfl rfl ?_
      refine r_callV (Mc := mX12_rowAt) (q := 100) (As := [zi (nI q), zi (nI n), zi (nI t)]) (st := []) ck12 dX12_insert_97 rfl rfl mkX12_rowAt wt1808 wt1810 wp112 rfl (Nat.le_of_ble_eq_true rfl) (Nat.le_of_ble_eq_true rfl) (by decide) (by decide) (by decide) (Or.inl rfl) (hs.e (by decide)) (ok_rowAt hs hq hn7 b2 b4) (fun r97 S97 hp97 => ?_)
      obtain ⟨rfl, hq97⟩ := hp97
      rw [hq97]
      show Ok _ _ _ [zi (nI (RF + t * T.length))] _ _
      refine r_istore (q := 102) (L' := [some (zr 12 0), some (zi (nI q)), some (zi (nI n)), some (zi (nI P)), some (zi (nI T.length)), some (zi (nI F)), some (zi (nI t)), some (zi (nI bb)), some (zi (nI (RF + t * T.length))), none, none, none, none]) dX12_insert_100 rfl (by decide) rfl ?_
      refine r_iconst (q := 103) (nI 0) dX12_insert_102 rfl (by decide) ?_
      refine r_istore (q := 105) (L' := [some (zr 12 0), some (zi (nI q)), some (zi (nI n)), some (zi (nI P)), some (zi (nI T.length)), some (zi (nI F)), some (zi (nI t)), some (zi (nI bb)), some (zi (nI (RF + t * T.length))), some (zi (nI 0)), none, none, none]) dX12_insert_103 rfl (by decide) rfl ?_
      refine lp_in2 h2 hP b5 htm b7 i2 (v := v1) T.length 0 S (by omega) hs hV (fun S2 f2 g9 g2 => ?_)
      have fI : ∀ x y k, x ≠ 1331 → gI S2 x y k = gI S x y k := fun x y k hx => f2.1 x y k (by simp [tBs]; omega)
      have hBas : Bas S2 RF T.length P (npv pv t) (cbs P bs t (fun j => v1 j * bb % P) (t + 1)) := fun s hs' hps j hj => by
        unfold cbs nbs
        rw [g2]
        by_cases e : s = t
        · subst e
          rw [if_pos (show RF + s * T.length + 0 ≤ RF + s * T.length + j ∧ RF + s * T.length + j < RF + s * T.length + T.length by omega), if_pos (show s < s + 1 by omega), if_pos rfl, show RF + s * T.length + j - (RF + s * T.length) = j by omega]
          exact ⟨rfl, Nat.mod_lt _ (by omega)⟩
        · have hout : ¬ (RF + t * T.length + 0 ≤ RF + s * T.length + j ∧ RF + s * T.length + j < RF + t * T.length + T.length) := fun z => by
            rcases Nat.lt_or_gt_of_ne e with q | q
            · have := row_apart (i := 0) q hj; omega
            · have : (t + 1) * T.length ≤ s * T.length := Nat.mul_le_mul_right _ q
              rw [Nat.add_mul, Nat.one_mul] at this; omega
          have hps : pv s = true := by unfold npv at hps; rw [if_neg e] at hps; exact hps
          have hb := (b9 s hs' hps).1 j hj
          rw [if_neg hout]
          by_cases q : s < t + 1
          · rw [if_pos q, if_neg e, if_neg (by omega)]; exact hb
          · rw [if_neg q]; exact hb
      have f22 : Fr (tIn q n F RF T.length) S S2 := ⟨fun x y k hz => by
        by_cases e : x = 1331 ∧ y = 0
        · obtain ⟨rfl, rfl⟩ := e
          rw [g2 k, if_neg (fun z => by simp [tIn] at hz; omega)]
        · exact f2.1 x y k (by simp [tBs]; omega), fun x y k _ => g9 x y k, f2.2.2⟩
      refine r_iload (q := 142) dX12_insert_140 rfl rfl ?_
      refine r_iconst (q := 143) (nI 1) dX12_insert_142 rfl (by decide) ?_
      refine r_iaddN (q := 144) dX12_insert_143 rfl ?_
      refine r_istore (q := 146) (L' := [some (zr 12 0), some (zi (nI q)), some (zi (nI n)), some (zi (nI P)), some (zi (nI T.length)), some (zi (nI F)), some (zi (nI t)), some (zi (nI bb)), some (zi (nI (RF + t * T.length))), some (zi (nI (t + 1))), none, none, none]) dX12_insert_144 rfl (by decide) rfl ?_
      refine lp_in4 hq hn7 h2 hP b5 htm b7 b6 hok (r := fun j => v1 j * bb % P) (fun j _ => Nat.mod_lt _ (by omega)) (T.length - (t + 1)) (t + 1) S2 none none none (by omega) (by omega) (hs.fr f2) (fun s hs' => (fI _ _ _ (by omega)).trans (b8 s hs')) ((fI _ _ _ (by omega)).trans b2) ((fI _ _ _ (by omega)).trans b4) hBas (fun S3 w10 w11 w12 f3 g3 hB3 => ?_)
      refine r_mask [true, true, true, true, true, true, true, true, true, true, false, false, false] rfl ?_
      have rk3 : gI S3 1326 0 (8 * q + n) = nI (cntp pv T.length) := (g3 _ _ _ (by omega)).trans ((fI _ _ _ (by omega)).trans hrk)
      refine r_aload_n (q := 257) dX12_insert_256 rfl rfl rfl ?_
      refine r_getr (q := 260) (some (1332, 0)) ck12 dX12_insert_257 rfl (k := 32) (by decide) wt1310 rfl (((hs.fr f2).fr f3).e (by decide)) (((hs.fr f2).fr f3).r (by decide) (by decide)) ?_
      refine r_iload (q := 262) dX12_insert_260 rfl rfl ?_
      refine r_iload (q := 264) dX12_insert_262 rfl rfl ?_
      refine r_iaddN (q := 265) dX12_insert_264 rfl ?_
      refine r_iconst (q := 266) (nI 1) dX12_insert_265 rfl (by decide) ?_
      refine r_zastN (q := 267) (by decide) 4400 (by decide) rfl dX12_insert_266 rfl (((hs.fr f2).fr f3).e (by decide)) (((hs.fr f2).fr f3).n rfl (by decide)) (by omega) (by decide) ?_
      refine r_aload_n (q := 268) dX12_insert_267 rfl rfl rfl ?_
      refine r_getr (q := 271) (some (1326, 0)) ck12 dX12_insert_268 rfl (k := 26) (by decide) wt1304 rfl (((hs.fr f2).fr f3).e (by decide)) (((hs.fr f2).fr f3).r (by decide) (by decide)) ?_
      refine r_bipush (q := 273) (nI 8) dX12_insert_271 rfl (by decide) ?_
      refine r_iload_n (q := 274) dX12_insert_273 rfl rfl rfl ?_
      refine r_imulN (q := 275) dX12_insert_274 rfl ?_
      refine r_iload_n (q := 276) dX12_insert_275 rfl rfl rfl ?_
      refine r_iaddN (q := 277) dX12_insert_276 rfl ?_
      refine r_dup2 (q := 278) dX12_insert_277 rfl rfl rfl ?_
      refine r_ialdN (q := 279) 16 (by decide) rfl dX12_insert_278 rfl (((hs.fr f2).fr f3).e (by decide)) (((hs.fr f2).fr f3).n rfl (by decide)) (by omega) (by decide) ?_
      refine r_topi (y := gI S3 1326 0 ((8 * q) + n)) (by simp [gI_sI, gJ_sJ, gI_sJ, gJ_sI]) ?_
      refine r_topi (y := nI (cntp pv T.length)) rk3 ?_
      refine r_iconst (q := 280) (nI 1) dX12_insert_279 rfl (by decide) ?_
      refine r_iaddN (q := 281) dX12_insert_280 rfl ?_
      refine r_iastN (q := 282) 16 (by decide) rfl dX12_insert_281 rfl (((hs.fr f2).fr f3).e (by decide)) (((hs.fr f2).fr f3).n rfl (by decide)) (by omega) (by decide) ?_
      refine r_return dX12_insert_282 rfl ?_
      have hS3 : Sd S3 := (hs.fr f2).fr f3
      have f4 : Fr (tIn q n F RF T.length) S3 (sI (sI S3 1332 0 (F + t) (nI 1)) 1326 0 ((8 * q) + n) (nI ((cntp pv T.length) + 1))) := ((Fr.rf).i (by simp [tIn]; omega)).i (by simp [tIn])
      have gI4 : ∀ x y k, x ≠ 1332 → x ≠ 1326 → x ≠ 1331 → gI (sI (sI S3 1332 0 (F + t) (nI 1)) 1326 0 ((8 * q) + n) (nI ((cntp pv T.length) + 1))) x y k = gI S x y k := fun x y k h1 h2 h3 => by
        rw [gI_sI, if_neg (by omega), gI_sI, if_neg (by omega), g3 x y k h3, fI x y k h3]
      have hpure := fun G => ins_top hT h2 hok hR (fun j hj => (hV j hj).2) htm hv0 hgt i3 G
      obtain ⟨u1, u2, u3, _⟩ := hpure (fun _ => True) (Sp.gen trivial) (fun _ _ _ => Sp.gen trivial)
      refine ⟨rfl, (f22.tr f3).tr f4, npv pv t, nbs P bs t (fun j => v1 j * bb % P), ⟨(gI4 _ _ _ (by omega) (by omega) (by omega)).trans b1, (gI4 _ _ _ (by omega) (by omega) (by omega)).trans b2, (gI4 _ _ _ (by omega) (by omega) (by omega)).trans b3, (gI4 _ _ _ (by omega) (by omega) (by omega)).trans b4, b5, b6, b7, fun s hs' => ?_, fun s hs' hps => ⟨fun j hj => ?_, (u1 s hs' hps).2.1, (u1 s hs' hps).2.2.1⟩⟩, u1, u2, u3, fun G a b => (hpure G a b).2.2.2, ?_⟩
      · rw [gI_sI, if_neg (by omega), gI_sI]
        by_cases e : s = t
        · rw [if_pos ⟨rfl, rfl, by omega⟩]
          unfold npv
          rw [if_pos e]; rfl
        · rw [if_neg (by omega), g3 _ _ _ (by omega), fI _ _ _ (by omega), b8 s hs']
          unfold npv
          rw [if_neg e]
      · rw [gI_sI, if_neg (by omega), gI_sI, if_neg (by omega)]
        exact hB3 s hs' hps j hj
      · rw [gI_sI, if_pos ⟨rfl, rfl, rfl⟩, cntp_new htm hp0]

