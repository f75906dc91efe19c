set_option maxRecDepth 100000 in
theorem ok_insert {S : zS} (hs : Sd S) {q n F RF P : Nat} (hq : q ≤ 1) (hn7 : n ≤ 7) {T : List (List Nat)} (hT : T.Nodup) (h2 : 2 ≤ P) (hP : P ≤ 97) {pv : Nat → Bool} {bs : Nat → Nat → Nat} (hok : RwOk T.length P pv bs) (hB : Bx S q n F RF T.length P pv bs) {v : Nat → Nat} (hV : Vr S T.length P v) (hI : Iv S P) (hrk : gI S 1326 0 (8 * q + n) = nI (cntp pv T.length)) : Ok mX12_insert 0 (ent 13 [zr 12 0, zi (nI q), zi (nI n)]) [] S (fun r S1 => r = none ∧ InsR S S1 q n F RF P T pv bs v) := by
  show Ok mX12_insert 0 [some (zr 12 0), some (zi (nI q)), some (zi (nI n)), none, none, none, none, none, none, none, none, none, none] [] S _
  refine r_aload_n (q := 1) dX12_insert_0 rfl rfl rfl ?_
  refine r_iload_n (q := 2) dX12_insert_1 rfl rfl rfl ?_
  refine r_iload_n (q := 3) dX12_insert_2 rfl rfl rfl ?_
  refine r_callV (Mc := mX12_lessen) (q := 6) (As := [zi (nI q), zi (nI n)]) (st := []) ck12 dX12_insert_3 rfl rfl mkX12_lessen wt1824 wt1826 wp116 rfl (Nat.le_of_ble_eq_true rfl) (Nat.le_of_ble_eq_true rfl) (by decide) (by decide) (by decide) (Or.inl rfl) (hs.e (by decide)) (ok_lessen hs hq hn7 hT h2 hP hB hV) (fun r3 S3 hp3 => ?_)
  obtain ⟨rfl, f1, v1, hV1, hR⟩ := hp3
  have hB1 := hB.fr f1
  show Ok _ _ _ [] _ _
  refine r_aload_n (q := 7) dX12_insert_6 rfl rfl rfl ?_
  refine r_getr (q := 10) (some (1322, 0)) ck12 dX12_insert_7 rfl (k := 22) (by decide) wt1300 rfl ((hs.fr f1).e (by decide)) ((hs.fr f1).r (by decide) (by decide)) ?_
  refine r_iconst (q := 11) (nI 0) dX12_insert_10 rfl (by decide) ?_
  refine r_sipush (q := 14) (nI 1173) dX12_insert_11 rfl (by decide) ?_
  refine r_iload_n (q := 15) dX12_insert_14 rfl rfl rfl ?_
  refine r_imulN (q := 16) dX12_insert_15 rfl ?_
  refine r_iaddN (q := 17) dX12_insert_16 rfl ?_
  refine r_ialdN (q := 18) 2346 (by decide) rfl dX12_insert_17 rfl ((hs.fr f1).e (by decide)) ((hs.fr f1).n rfl (by decide)) (by omega) (by decide) ?_
  refine r_topi (y := nI P) ((by rw [Nat.zero_add]; exact hB1.1) : gI S3 1322 0 (0 + (1173 * q)) = nI P) ?_
  refine r_istore_n (q := 19) (L' := [some (zr 12 0), some (zi (nI q)), some (zi (nI n)), some (zi (nI P)), none, none, none, none, none, none, none, none, none]) dX12_insert_18 rfl rfl (by decide) rfl ?_
  refine r_aload_n (q := 20) dX12_insert_19 rfl rfl rfl ?_
  refine r_getr (q := 23) (some (1324, 0)) ck12 dX12_insert_20 rfl (k := 24) (by decide) wt1302 rfl ((hs.fr f1).e (by decide)) ((hs.fr f1).r (by decide) (by decide)) ?_
  refine r_bipush (q := 25) (nI 8) dX12_insert_23 rfl (by decide) ?_
  refine r_iload_n (q := 26) dX12_insert_25 rfl rfl rfl ?_
  refine r_imulN (q := 27) dX12_insert_26 rfl ?_
  refine r_iload_n (q := 28) dX12_insert_27 rfl rfl rfl ?_
  refine r_iaddN (q := 29) dX12_insert_28 rfl ?_
  refine r_ialdN (q := 30) 16 (by decide) rfl dX12_insert_29 rfl ((hs.fr f1).e (by decide)) ((hs.fr f1).n rfl (by decide)) (by omega) (by decide) ?_
  refine r_topi (y := nI T.length) hB1.2.1 ?_
  refine r_istore (q := 32) (L' := [some (zr 12 0), some (zi (nI q)), some (zi (nI n)), some (zi (nI P)), some (zi (nI T.length)), none, none, none, none, none, none, none, none]) dX12_insert_30 rfl (by decide) rfl ?_
  refine r_aload_n (q := 33) dX12_insert_32 rfl rfl rfl ?_
  refine r_getr (q := 36) (some (1325, 0)) ck12 dX12_insert_33 rfl (k := 25) (by decide) wt1303 rfl ((hs.fr f1).e (by decide)) ((hs.fr f1).r (by decide) (by decide)) ?_
  refine r_bipush (q := 38) (nI 8) dX12_insert_36 rfl (by decide) ?_
  refine r_iload_n (q := 39) dX12_insert_38 rfl rfl rfl ?_
  refine r_imulN (q := 40) dX12_insert_39 rfl ?_
  refine r_iload_n (q := 41) dX12_insert_40 rfl rfl rfl ?_
  refine r_iaddN (q := 42) dX12_insert_41 rfl ?_
  refine r_ialdN (q := 43) 16 (by decide) rfl dX12_insert_42 rfl ((hs.fr f1).e (by decide)) ((hs.fr f1).n rfl (by decide)) (by omega) (by decide) ?_
  refine r_topi (y := nI F) hB1.2.2.1 ?_
  refine r_istore (q := 45) (L' := [some (zr 12 0), some (zi (nI q)), some (zi (nI n)), some (zi (nI P)), some (zi (nI T.length)), some (zi (nI F)), none, none, none, none, none, none, none]) dX12_insert_43 rfl (by decide) rfl ?_
  refine r_iload (q := 47) dX12_insert_45 rfl rfl ?_
  refine r_iconst (q := 48) (nI 1) dX12_insert_47 rfl (by decide) ?_
  refine r_isub (q := 49) dX12_insert_48 rfl ?_
  refine r_istore (q := 51) (L' := [some (zr 12 0), some (zi (nI q)), some (zi (nI n)), some (zi (nI P)), some (zi (nI T.length)), some (zi (nI F)), some (zi ((nI T.length) - (nI 1))), none, none, none, none, none, none]) dX12_insert_49 rfl (by decide) rfl ?_
  exact Ok.mono (lp_in1 hq hn7 hT h2 hP hok (hs.fr f1) hB1 hV1 hR (fun a a1 a2 => by obtain ⟨b, c1, c2, c3⟩ := hI a a1 a2; exact ⟨b, (f1.1 _ _ _ rfl).trans c1, c2, c3⟩) ((f1.1 _ _ _ rfl).trans hrk) T.length _ rfl (Nat.le_refl _) (fun t a b => absurd a (by omega))) fun r S1 z => ⟨z.1, (f1.mono tIn_rv).tr z.2.1, z.2.2⟩

