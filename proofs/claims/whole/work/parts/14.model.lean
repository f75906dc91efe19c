/-! for k from lo up to hi: the row (a1, b1) at do + k becomes the row (a0, b0) at so + k -/
def cpR (S : zS) (a0 b0 a1 b1 so to lo hi : Nat) : zS := (fun x y k => if x = a1 ∧ y = b1 ∧ to + lo ≤ k ∧ k < to + hi then gI S a0 b0 (so + (k - to)) else S.1 x y k, S.2)
section
variable {S : zS} {a0 b0 a1 b1 so to lo hi x y z : Nat}
theorem gI_cpR : gI (cpR S a0 b0 a1 b1 so to lo hi) x y z = if x = a1 ∧ y = b1 ∧ to + lo ≤ z ∧ z < to + hi then gI S a0 b0 (so + (z - to)) else gI S x y z := rfl
theorem gJ_cpR : gJ (cpR S a0 b0 a1 b1 so to lo hi) x y z = gJ S x y z := rfl
theorem gE_cpR : gE (cpR S a0 b0 a1 b1 so to lo hi) x y = gE S x y := rfl
theorem gN_cpR : gN (cpR S a0 b0 a1 b1 so to lo hi) x y = gN S x y := rfl
theorem gR_cpR : gR (cpR S a0 b0 a1 b1 so to lo hi) x y z = gR S x y z := rfl
end
theorem cpR_none {S : zS} {a0 b0 a1 b1 so to lo hi : Nat} (h : hi ≤ lo) : cpR S a0 b0 a1 b1 so to lo hi = S := by
  refine Prod.ext ?_ rfl
  funext x y k
  exact if_neg fun z => by omega
theorem cpR_step {S : zS} {a0 b0 a1 b1 so to i hi : Nat} (h : i < hi) (hd : ¬ (a0 = a1 ∧ b0 = b1)) : cpR (sI S a1 b1 (to + i) (gI S a0 b0 (so + i))) a0 b0 a1 b1 so to (i + 1) hi = cpR S a0 b0 a1 b1 so to i hi := by
  refine Prod.ext ?_ rfl
  funext x y k
  show (if _ then gI (sI S a1 b1 (to + i) (gI S a0 b0 (so + i))) a0 b0 _ else (if _ then gI S a0 b0 (so + i) else _)) = if _ then gI S a0 b0 _ else _
  have h0 : ∀ q, gI (sI S a1 b1 (to + i) (gI S a0 b0 (so + i))) a0 b0 q = gI S a0 b0 q := fun q => if_neg fun z => hd ⟨z.1, z.2.1⟩
  rw [h0]
  by_cases e : x = a1 ∧ y = b1
  · by_cases hk : to + i ≤ k ∧ k < to + hi
    · rw [if_pos (show x = a1 ∧ y = b1 ∧ to + i ≤ k ∧ k < to + hi from ⟨e.1, e.2, hk.1, hk.2⟩)]
      by_cases h2 : k = to + i
      · rw [if_neg (fun z => by omega), if_pos ⟨e.1, e.2, h2⟩, show k - to = i by omega]
      · rw [if_pos ⟨e.1, e.2, by omega, hk.2⟩]
    · rw [if_neg (fun z => hk ⟨by omega, z.2.2.2⟩), if_neg (fun z => hk ⟨by omega, by omega⟩), if_neg (fun z => hk z.2.2)]
  · rw [if_neg (fun z => e ⟨z.1, z.2.1⟩), if_neg (fun z => e ⟨z.1, z.2.1⟩), if_neg (fun z => e ⟨z.1, z.2.1⟩)]
theorem Sd.fl {S : zS} (h : Sd S) {a b lo hi : Nat} {v : Int32} : Sd (flS S a b lo hi v) := h
theorem Sd.cp {S : zS} (h : Sd S) {a0 b0 a1 b1 so to lo hi : Nat} : Sd (cpR S a0 b0 a1 b1 so to lo hi) := h
def kinds : List Nat := [0, 1, 2, 3, 4, 5, 6, 7, 8, 9, 10, 11, 12, 103, 104, 105, 106, 107, 108, 109, 110, 111, 200, 201, 202, 203, 204, 205, 300, 301, 302, 400, 405, 500, 501, 502, 509, 510, 600, 601, 700, 701, 702, 703, 801, 902, 903, 1002, 1003, 1005, 1006, 1007, 1008, 1009, 1010, 1100, 1101, 1102, 1200, 1202, 1204, 1206, 1208, 1209, 1301, 1306, 1307, 1308, 1316, 1317, 1318, 1319, 1322, 1323, 1324, 1325, 1326, 1327, 1328, 1329, 1330, 1331, 1332, 1334, 1335, 1336, 1337, 1341, 1342, 1344, 1345, 1346, 1349, 1357, 1359, 1360, 1361, 1362, 1363, 1364, 1365, 1366, 1367, 1368, 1369, 1370, 1371, 1372, 1373, 1374, 1375, 1376, 1377, 1378, 1379, 1383, 1384, 1385, 1386, 1387, 1388, 1389, 1391, 1392, 1393, 10300, 10600, 11010]
set_option maxRecDepth 100000 in
set_option maxHeartbeats 4000000 in
theorem cnt_in {a b : Nat} (h : b < cnt a) : a ∈ kinds := by
  unfold cnt at h
  split at h <;> first | (exact List.mem_of_elem_eq_true rfl) | omega
set_option maxRecDepth 100000 in
theorem lp_plainWorld {Po : Option zV → zS → Prop}  : ∀ (d i : Nat) (S : zS), i + d = 1173 → Sd S → (∀ S2, S2 = flS S 1307 0 i 1173 (nI 0) → Ok mX12_plainWorld 22 [some (zr 12 0), some (zi (nI 1173))] [] S2 Po) → Ok mX12_plainWorld 2 [some (zr 12 0), some (zi (nI i))] [] S Po := by
  intro d
  induction d with
  | zero =>
    intro i S hi hs  K
    obtain rfl : i = 1173 := by omega
    refine r_iload_n (q := 3) dX12_plainWorld_2 rfl rfl rfl ?_
    refine r_sipush (q := 6) (nI 1173) dX12_plainWorld_3 rfl (by decide) ?_
    refine r_icmp_geN (q := 9) (t := 22) (by omega) (by omega) dX12_plainWorld_6 (by decide) rfl (fun h6 => ?_) (fun h6 => absurd h6 (by omega))
    exact K _ ((fl_none (Nat.le_refl _)).symm)
  | succ d ih =>
    intro i S hi hs  K
    refine r_iload_n (q := 3) dX12_plainWorld_2 rfl rfl rfl ?_
    refine r_sipush (q := 6) (nI 1173) dX12_plainWorld_3 rfl (by decide) ?_
    refine r_icmp_geN (q := 9) (t := 22) (by omega) (by omega) dX12_plainWorld_6 (by decide) rfl (fun h6 => absurd h6 (by omega)) (fun h6 => ?_)
    refine r_aload_n (q := 10) dX12_plainWorld_9 rfl rfl rfl ?_
    refine r_getr (q := 13) (some (1307, 0)) ck12 dX12_plainWorld_10 rfl (k := 7) (by decide) wt1285 rfl (hs.e (by decide)) (hs.r (by decide) (by decide)) ?_
    refine r_iload_n (q := 14) dX12_plainWorld_13 rfl rfl rfl ?_
    refine r_iconst (q := 15) (nI 0) dX12_plainWorld_14 rfl (by decide) ?_
    refine r_iastN (q := 16) 1173 (by decide) rfl dX12_plainWorld_15 rfl (hs.e (by decide)) (hs.n rfl (by decide)) (by omega) (by decide) ?_
    refine r_iincN (q := 19) (L' := [some (zr 12 0), some (zi (nI (i + 1)))]) 1 rfl dX12_plainWorld_16 rfl rfl (by decide) rfl ?_
    refine r_goto (q := 2) dX12_plainWorld_19 (by decide) ?_
    exact ih (i + 1) _ (by omega) hs  (fun S2 h => K S2 (h.trans (fl_step (by omega))))

set_option maxRecDepth 100000 in
theorem ok_X12_plainWorld {S : zS} (hs : Sd S) : Ok mX12_plainWorld 0 (ent 2 [zr 12 0]) [] S (fun r S1 => r = none ∧ S1 = sI (sI (flS S 1307 0 0 1173 (nI 0)) 1307 0 0 (nI 97)) 1307 0 3 (nI 1)) := by
  show Ok mX12_plainWorld 0 [some (zr 12 0), none] [] S _
  refine r_iconst (q := 1) (nI 0) dX12_plainWorld_0 rfl (by decide) ?_
  refine r_istore_n (q := 2) (L' := [some (zr 12 0), some (zi (nI 0))]) dX12_plainWorld_1 rfl rfl (by decide) rfl ?_
  refine lp_plainWorld 1173 0 S rfl hs (fun S2 h2 => ?_)
  subst h2
  refine r_aload_n (q := 23) dX12_plainWorld_22 rfl rfl rfl ?_
  refine r_getr (q := 26) (some (1307, 0)) ck12 dX12_plainWorld_23 rfl (k := 7) (by decide) wt1285 rfl (hs.e (by decide)) (hs.r (by decide) (by decide)) ?_
  refine r_iconst (q := 27) (nI 0) dX12_plainWorld_26 rfl (by decide) ?_
  refine r_bipush (q := 29) (nI 97) dX12_plainWorld_27 rfl (by decide) ?_
  refine r_iastN (q := 30) 1173 (by decide) rfl dX12_plainWorld_29 rfl (hs.e (by decide)) (hs.n rfl (by decide)) (by omega) (by decide) ?_
  refine r_aload_n (q := 31) dX12_plainWorld_30 rfl rfl rfl ?_
  refine r_getr (q := 34) (some (1307, 0)) ck12 dX12_plainWorld_31 rfl (k := 7) (by decide) wt1285 rfl (hs.e (by decide)) (hs.r (by decide) (by decide)) ?_
  refine r_iconst (q := 35) (nI 3) dX12_plainWorld_34 rfl (by decide) ?_
  refine r_iconst (q := 36) (nI 1) dX12_plainWorld_35 rfl (by decide) ?_
  refine r_iastN (q := 37) 1173 (by decide) rfl dX12_plainWorld_36 rfl (hs.e (by decide)) (hs.n rfl (by decide)) (by omega) (by decide) ?_
  refine r_return dX12_plainWorld_37 rfl ?_
  exact ⟨rfl, rfl⟩

set_option maxRecDepth 100000 in
theorem ok_X12_plainSum {S : zS} (hs : Sd S) : Ok mX12_plainSum 0 (ent 1 [zr 12 0]) [] S (fun r S1 => r = none ∧ S1 = sI (sI (sI S 1306 0 1173 (nI 1)) 1306 0 1174 (nI 0)) 12 0 58 (nI 0)) := by
  show Ok mX12_plainSum 0 [some (zr 12 0)] [] S _
  refine r_aload_n (q := 1) dX12_plainSum_0 rfl rfl rfl ?_
  refine r_getr (q := 4) (some (1306, 0)) ck12 dX12_plainSum_1 rfl (k := 6) (by decide) wt1284 rfl (hs.e (by decide)) (hs.r (by decide) (by decide)) ?_
  refine r_sipush (q := 7) (nI 1173) dX12_plainSum_4 rfl (by decide) ?_
  refine r_iconst (q := 8) (nI 1) dX12_plainSum_7 rfl (by decide) ?_
  refine r_iastN (q := 9) 3775 (by decide) rfl dX12_plainSum_8 rfl (hs.e (by decide)) (hs.n rfl (by decide)) (by omega) (by decide) ?_
  refine r_aload_n (q := 10) dX12_plainSum_9 rfl rfl rfl ?_
  refine r_getr (q := 13) (some (1306, 0)) ck12 dX12_plainSum_10 rfl (k := 6) (by decide) wt1284 rfl (hs.e (by decide)) (hs.r (by decide) (by decide)) ?_
  refine r_sipush (q := 16) (nI 1174) dX12_plainSum_13 rfl (by decide) ?_
  refine r_iconst (q := 17) (nI 0) dX12_plainSum_16 rfl (by decide) ?_
  refine r_iastN (q := 18) 3775 (by decide) rfl dX12_plainSum_17 rfl (hs.e (by decide)) (hs.n rfl (by decide)) (by omega) (by decide) ?_
  refine r_aload_n (q := 19) dX12_plainSum_18 rfl rfl rfl ?_
  refine r_iconst (q := 20) (nI 0) dX12_plainSum_19 rfl (by decide) ?_
  refine r_puti (q := 23) ck12 dX12_plainSum_20 rfl (k := 58) (by decide) wt1336 (Or.inl rfl) rfl (hs.e (by decide)) ?_
  refine r_return dX12_plainSum_23 rfl ?_
  exact ⟨rfl, rfl⟩

set_option maxRecDepth 100000 in
theorem lp_modelInit {Po : Option zV → zS → Prop}  : ∀ (d i : Nat) (S : zS), i + d = 1173 → Sd S → (∀ S2, S2 = cpR S 1307 0 1306 0 0 0 i 1173 → Ok mX12_init 551 [some (zr 12 0), some (zi (nI 1173))] [] S2 Po) → Ok mX12_init 526 [some (zr 12 0), some (zi (nI i))] [] S Po := by
  intro d
  induction d with
  | zero =>
    intro i S hi hs  K
    obtain rfl : i = 1173 := by omega
    refine r_iload_n (q := 527) dX12_init_526 rfl rfl rfl ?_
    refine r_sipush (q := 530) (nI 1173) dX12_init_527 rfl (by decide) ?_
    refine r_icmp_geN (q := 533) (t := 551) (by omega) (by omega) dX12_init_530 (by decide) rfl (fun h530 => ?_) (fun h530 => absurd h530 (by omega))
    exact K _ ((cpR_none (Nat.le_refl _)).symm)
  | succ d ih =>
    intro i S hi hs  K
    refine r_iload_n (q := 527) dX12_init_526 rfl rfl rfl ?_
    refine r_sipush (q := 530) (nI 1173) dX12_init_527 rfl (by decide) ?_
    refine r_icmp_geN (q := 533) (t := 551) (by omega) (by omega) dX12_init_530 (by decide) rfl (fun h530 => absurd h530 (by omega)) (fun h530 => ?_)
    refine r_aload_n (q := 534) dX12_init_533 rfl rfl rfl ?_
    refine r_getr (q := 537) (some (1306, 0)) ck12 dX12_init_534 rfl (k := 6) (by decide) wt1284 rfl (hs.e (by decide)) (hs.r (by decide) (by decide)) ?_
    refine r_iload_n (q := 538) dX12_init_537 rfl rfl rfl ?_
    refine r_aload_n (q := 539) dX12_init_538 rfl rfl rfl ?_
    refine r_getr (q := 542) (some (1307, 0)) ck12 dX12_init_539 rfl (k := 7) (by decide) wt1285 rfl (hs.e (by decide)) (hs.r (by decide) (by decide)) ?_
    refine r_iload_n (q := 543) dX12_init_542 rfl rfl rfl ?_
    refine r_ialdN (q := 544) 1173 (by decide) rfl dX12_init_543 rfl (hs.e (by decide)) (hs.n rfl (by decide)) (by omega) (by decide) ?_
    refine r_iastN (q := 545) 3775 (by decide) rfl dX12_init_544 rfl (hs.e (by decide)) (hs.n rfl (by decide)) (by omega) (by decide) ?_
    refine r_iincN (q := 548) (L' := [some (zr 12 0), some (zi (nI (i + 1)))]) 1 rfl dX12_init_545 rfl rfl (by decide) rfl ?_
    refine r_goto (q := 526) dX12_init_548 (by decide) ?_
    exact ih (i + 1) _ (by omega) hs  (fun S2 h => K S2 (h.trans (by have h9 := cpR_step (S := S) (a0 := 1307) (b0 := 0) (a1 := 1306) (b1 := 0) (so := 0) (to := 0) (i := i) (hi := 1173) (by omega) (by decide); rw [Nat.zero_add] at h9; exact h9)))

def iMt (S : zS) : zS := sI (sI (sI (cpR (sI (sI (flS S 1307 0 0 1173 (nI 0)) 1307 0 0 (nI 97)) 1307 0 3 (nI 1)) 1307 0 1306 0 0 0 0 1173) 1306 0 1173 (nI 1)) 1306 0 1174 (nI 0)) 12 0 58 (nI 0)
theorem ok_X12_tail {S : zS} (hs : Sd S) : Ok mX12_init 520 [some (zr 12 0), none] [] S (fun r S1 => r = none ∧ S1 = iMt S) := by
  skip
  refine r_aload_n (q := 521) dX12_init_520 rfl rfl rfl ?_
  refine r_callV (Mc := mX12_plainWorld) (q := 524) (As := []) (st := []) ck12 dX12_init_521 rfl rfl mkX12_plainWorld wt1270 wt1272 wp66 rfl (Nat.le_of_ble_eq_true rfl) (Nat.le_of_ble_eq_true rfl) (by decide) (by decide) (by decide) (Or.inl rfl) (hs.e (by decide)) (ok_X12_plainWorld hs) (fun r521 S521 hp521 => ?_)
  obtain ⟨rfl, hq521⟩ := hp521
  rw [hq521]
  show Ok _ _ _ [] _ _
  refine r_iconst (q := 525) (nI 0) dX12_init_524 rfl (by decide) ?_
  refine r_istore_n (q := 526) (L' := [some (zr 12 0), some (zi (nI 0))]) dX12_init_525 rfl rfl (by decide) rfl ?_
  refine lp_modelInit 1173 0 _ rfl hs (fun S2 h2 => ?_)
  subst h2
  refine r_aload_n (q := 552) dX12_init_551 rfl rfl rfl ?_
  refine r_callV (Mc := mX12_plainSum) (q := 555) (As := []) (st := []) ck12 dX12_init_552 rfl rfl mkX12_plainSum wt1274 wt1276 wp67 rfl (Nat.le_of_ble_eq_true rfl) (Nat.le_of_ble_eq_true rfl) (by decide) (by decide) (by decide) (Or.inl rfl) (hs.e (by decide)) (ok_X12_plainSum hs) (fun r552 S552 hp552 => ?_)
  obtain ⟨rfl, hq552⟩ := hp552
  rw [hq552]
  show Ok _ _ _ [] _ _
  refine r_return dX12_init_555 rfl ?_
  exact ⟨rfl, rfl⟩

def sM1 : zS := sR (al (sR (al (sR (al (sR (al (sR (al (sR (al (sR (al (sR (al (sR (al (sR (al (sI (sR (al (sR (al (sR (al (sR (al (sR (al (sR (al (sR (al (sR (al (sR (al (sR (al (sR (al (sR (al (sR (al (sR (al (sR (al (sR (al (sR (al (sR (al (sR (al (sR (al (sR (al (sR (al (sR (al (sR (al (sR (al (sR (al (sR (al (sR (al (sR (al (sR (al (sR (al (sR (al (sI (sR (al (sR (al (sR (al (sR (al (sR (al (sR (al (sR (al (sR (al (sR (al (sR (al (sR (al (sR (al (sR (al (sR (al (sR (al (sR (al (sR (al (sR (al (sR (al (al sLW 12 0 0 94) 1301 0 940 940) 12 0 1 (some (1301, 0))) 1306 0 3775 3775) 12 0 6 (some (1306, 0))) 1307 0 1173 1173) 12 0 7 (some (1307, 0))) 1308 0 6 6) 12 0 8 (some (1308, 0))) 1316 0 16 16) 12 0 16 (some (1316, 0))) 1317 0 8 8) 12 0 17 (some (1317, 0))) 1318 0 8 8) 12 0 18 (some (1318, 0))) 1319 0 8 8) 12 0 19 (some (1319, 0))) 1322 0 2346 2346) 12 0 22 (some (1322, 0))) 1323 0 2 2) 12 0 23 (some (1323, 0))) 1324 0 16 16) 12 0 24 (some (1324, 0))) 1325 0 16 16) 12 0 25 (some (1325, 0))) 1326 0 16 16) 12 0 26 (some (1326, 0))) 1327 0 16 16) 12 0 27 (some (1327, 0))) 1328 0 4400 4400) 12 0 28 (some (1328, 0))) 1329 0 30800 30800) 12 0 29 (some (1329, 0))) 1330 0 4400 4400) 12 0 30 (some (1330, 0))) 1331 0 400000 400000) 12 0 31 (some (1331, 0))) 1332 0 4400 4400) 12 0 32 (some (1332, 0))) 12 0 33 (-1 : Int32)) 1334 0 22 22) 12 0 34 (some (1334, 0))) 1335 0 55 55) 12 0 35 (some (1335, 0))) 1336 0 8 8) 12 0 36 (some (1336, 0))) 1337 0 8 8) 12 0 37 (some (1337, 0))) 1341 0 300 300) 12 0 41 (some (1341, 0))) 1342 0 98 98) 12 0 42 (some (1342, 0))) 1344 0 1400 1400) 12 0 44 (some (1344, 0))) 1345 0 1400 1400) 12 0 45 (some (1345, 0))) 1346 0 9800 9800) 12 0 46 (some (1346, 0))) 1349 0 460 460) 12 0 49 (some (1349, 0))) 1357 0 20816 20816) 12 0 57 (some (1357, 0))) 1359 0 120 120) 12 0 59 (some (1359, 0))) 1360 0 8 8) 12 0 60 (some (1360, 0))) 1361 0 16 16) 12 0 61 (some (1361, 0))) 1362 0 1400 1400) 12 0 62 (some (1362, 0))) 1363 0 1400 1400) 12 0 63 (some (1363, 0))) 1364 0 324 324) 12 0 64 (some (1364, 0))) 1365 0 18 18) 12 0 65 (some (1365, 0))) 1366 0 18 18) 12 0 66 (some (1366, 0))) 1367 0 8 8) 12 0 67 (some (1367, 0))) 1368 0 8 8) 12 0 68 (some (1368, 0))) 1369 0 8 8) 12 0 69 (some (1369, 0))) 1370 0 192 192) 12 0 70 (some (1370, 0))) 1371 0 192 192) 12 0 71 (some (1371, 0))) 1372 0 3 3) 12 0 72 (some (1372, 0))) 1373 0 2400 2400) 12 0 73 (some (1373, 0))) 1374 0 8 8) 12 0 74 (some (1374, 0))) 1375 0 2400 2400) 12 0 75 (some (1375, 0))) 1376 0 8 8) 12 0 76 (some (1376, 0))) 1377 0 300 300) 12 0 77 (some (1377, 0))) 1378 0 16 16) 12 0 78 (some (1378, 0))) 1379 0 4 4) 12 0 79 (some (1379, 0))) 12 0 82 (-1 : Int32)) 1383 0 300 300) 12 0 83 (some (1383, 0))) 1384 0 300 300) 12 0 84 (some (1384, 0))) 1385 0 24 24) 12 0 85 (some (1385, 0))) 1386 0 3 3) 12 0 86 (some (1386, 0))) 1387 0 8 8) 12 0 87 (some (1387, 0))) 1388 0 4 4) 12 0 88 (some (1388, 0))) 1389 0 3 3) 12 0 89 (some (1389, 0))) 1391 0 7550 7550) 12 0 91 (some (1391, 0))) 1392 0 6 6) 12 0 92 (some (1392, 0))) 1393 0 2 2) 12 0 93 (some (1393, 0))
/-! no reference but its own goes to a growing row; none is on its way -/
def Wq (S : zS) : Prop := Wg S ∧ ∀ m, gE S 99999 m = false
theorem wq_z0 : Wq z0 := ⟨fun _ _ _ _ h => (by cases h), fun _ => rfl⟩
section
variable {S : zS} {a b k n c ar f m lo hi : Nat}
theorem wq_sI {v : Int32} (h : Wq S) : Wq (sI S a b k v) := h
theorem wq_sJ {v : Int64} (h : Wq S) : Wq (sJ S a b k v) := h
theorem wq_fl {v : Int32} (h : Wq S) : Wq (flS S a b lo hi v) := h
theorem wq_sR {v : Option (Nat × Nat)} (hv : ∀ p, v = some p → gw p.1 = true → p.1 ≠ 99999 ∧ (a, k) = gO p.1 ∧ b = p.2) (h : Wq S) : Wq (sR S a b k v) := by
  refine ⟨fun x y z p hp hg => ?_, h.2⟩
  rw [gR_sR] at hp
  by_cases e : x = a ∧ y = b ∧ z = k
  · rw [if_pos e] at hp
    obtain ⟨rfl, rfl, rfl⟩ := e
    exact hv p hp hg
  · rw [if_neg e] at hp
    exact h.1 x y z p hp hg
theorem wq_al (ha : a ≠ 99999) (h : Wq S) : Wq (al S a b n c) := by
  refine ⟨fun x y z p hp hg => ?_, fun m => ?_⟩
  · rw [gR_al] at hp
    by_cases e : x = a ∧ y = b
    · rw [if_pos e] at hp; cases hp
    · rw [if_neg e] at hp; exact h.1 x y z p hp hg
  · rw [gE_al, if_neg (fun z => ha z.1.symm)]; exact h.2 m
theorem wq_alM (ha : a ≠ 99999) (har : ar ≠ 99999) (hg : gw ar = false) (h : Wq S) : Wq (alM S a b n ar f m) := by
  refine ⟨fun x y z p hp hg2 => ?_, fun m => ?_⟩
  · rw [gR_alM] at hp
    by_cases e : x = a ∧ y = b
    · rw [if_pos e] at hp
      by_cases e2 : z < n
      · rw [if_pos e2] at hp; cases hp; rw [hg] at hg2; cases hg2
      · rw [if_neg e2] at hp; cases hp
    · rw [if_neg e] at hp
      by_cases e2 : x = ar ∧ f ≤ y ∧ y < f + n
      · rw [if_pos e2] at hp; cases hp
      · rw [if_neg e2] at hp; exact h.1 x y z p hp hg2
  · rw [gE_alM, if_neg (fun z => z.elim (fun q => ha q.1.symm) (fun q => har q.1.symm))]; exact h.2 m
end
theorem wq_iX7_init {S : zS} {j : Nat} (h : Wq S) : Wq (iX7_init S j) := by
  unfold iX7_init
  repeat (first | exact wq_z0 | exact h | refine wq_al (by decide) ?_ | refine wq_alM (by decide) (by decide) (by decide) ?_ | refine wq_sI ?_ | refine wq_sJ ?_ | refine wq_fl ?_ | refine wq_sR (fun p h g => by cases h; first | exact ⟨Nat.ne_of_beq_eq_false rfl, rfl, rfl⟩ | cases g) ?_)
theorem wq_iX8_init {S : zS} {j : Nat} (h : Wq S) : Wq (iX8_init S j) := by
  unfold iX8_init
  repeat (first | exact wq_z0 | exact h | refine wq_al (by decide) ?_ | refine wq_alM (by decide) (by decide) (by decide) ?_ | refine wq_sI ?_ | refine wq_sJ ?_ | refine wq_fl ?_ | refine wq_sR (fun p h g => by cases h; first | exact ⟨Nat.ne_of_beq_eq_false rfl, rfl, rfl⟩ | cases g) ?_ | refine wq_iX7_init ?_)
theorem wq_iX6_init {S : zS} {j : Nat} (h : Wq S) : Wq (iX6_init S j) := by
  unfold iX6_init
  repeat (first | exact wq_z0 | exact h | refine wq_al (by decide) ?_ | refine wq_alM (by decide) (by decide) (by decide) ?_ | refine wq_sI ?_ | refine wq_sJ ?_ | refine wq_fl ?_ | refine wq_sR (fun p h g => by cases h; first | exact ⟨Nat.ne_of_beq_eq_false rfl, rfl, rfl⟩ | cases g) ?_ | refine wq_iX7_init ?_ | refine wq_iX8_init ?_)
theorem wq_iX9_init {S : zS} {j : Nat} (h : Wq S) : Wq (iX9_init S j) := by
  unfold iX9_init
  repeat (first | exact wq_z0 | exact h | refine wq_al (by decide) ?_ | refine wq_alM (by decide) (by decide) (by decide) ?_ | refine wq_sI ?_ | refine wq_sJ ?_ | refine wq_fl ?_ | refine wq_sR (fun p h g => by cases h; first | exact ⟨Nat.ne_of_beq_eq_false rfl, rfl, rfl⟩ | cases g) ?_ | refine wq_iX7_init ?_ | refine wq_iX8_init ?_ | refine wq_iX6_init ?_)
theorem wq_iX10_init {S : zS} (h : Wq S) : Wq (iX10_init S) := by
  unfold iX10_init
  repeat (first | exact wq_z0 | exact h | refine wq_al (by decide) ?_ | refine wq_alM (by decide) (by decide) (by decide) ?_ | refine wq_sI ?_ | refine wq_sJ ?_ | refine wq_fl ?_ | refine wq_sR (fun p h g => by cases h; first | exact ⟨Nat.ne_of_beq_eq_false rfl, rfl, rfl⟩ | cases g) ?_ | refine wq_iX7_init ?_ | refine wq_iX8_init ?_ | refine wq_iX6_init ?_ | refine wq_iX9_init ?_)
theorem wq_iX1_init {S : zS} (h : Wq S) : Wq (iX1_init S) := by
  unfold iX1_init
  repeat (first | exact wq_z0 | exact h | refine wq_al (by decide) ?_ | refine wq_alM (by decide) (by decide) (by decide) ?_ | refine wq_sI ?_ | refine wq_sJ ?_ | refine wq_fl ?_ | refine wq_sR (fun p h g => by cases h; first | exact ⟨Nat.ne_of_beq_eq_false rfl, rfl, rfl⟩ | cases g) ?_ | refine wq_iX7_init ?_ | refine wq_iX8_init ?_ | refine wq_iX6_init ?_ | refine wq_iX9_init ?_ | refine wq_iX10_init ?_)
theorem wq_iX5_init {S : zS} (h : Wq S) : Wq (iX5_init S) := by
  unfold iX5_init
  repeat (first | exact wq_z0 | exact h | refine wq_al (by decide) ?_ | refine wq_alM (by decide) (by decide) (by decide) ?_ | refine wq_sI ?_ | refine wq_sJ ?_ | refine wq_fl ?_ | refine wq_sR (fun p h g => by cases h; first | exact ⟨Nat.ne_of_beq_eq_false rfl, rfl, rfl⟩ | cases g) ?_ | refine wq_iX7_init ?_ | refine wq_iX8_init ?_ | refine wq_iX6_init ?_ | refine wq_iX9_init ?_ | refine wq_iX10_init ?_ | refine wq_iX1_init ?_)
theorem wq_iX2_init {S : zS} (h : Wq S) : Wq (iX2_init S) := by
  unfold iX2_init
  repeat (first | exact wq_z0 | exact h | refine wq_al (by decide) ?_ | refine wq_alM (by decide) (by decide) (by decide) ?_ | refine wq_sI ?_ | refine wq_sJ ?_ | refine wq_fl ?_ | refine wq_sR (fun p h g => by cases h; first | exact ⟨Nat.ne_of_beq_eq_false rfl, rfl, rfl⟩ | cases g) ?_ | refine wq_iX7_init ?_ | refine wq_iX8_init ?_ | refine wq_iX6_init ?_ | refine wq_iX9_init ?_ | refine wq_iX10_init ?_ | refine wq_iX1_init ?_ | refine wq_iX5_init ?_)
theorem wq_iX4_init {S : zS} (h : Wq S) : Wq (iX4_init S) := by
  unfold iX4_init
  repeat (first | exact wq_z0 | exact h | refine wq_al (by decide) ?_ | refine wq_alM (by decide) (by decide) (by decide) ?_ | refine wq_sI ?_ | refine wq_sJ ?_ | refine wq_fl ?_ | refine wq_sR (fun p h g => by cases h; first | exact ⟨Nat.ne_of_beq_eq_false rfl, rfl, rfl⟩ | cases g) ?_ | refine wq_iX7_init ?_ | refine wq_iX8_init ?_ | refine wq_iX6_init ?_ | refine wq_iX9_init ?_ | refine wq_iX10_init ?_ | refine wq_iX1_init ?_ | refine wq_iX5_init ?_ | refine wq_iX2_init ?_)
theorem wq_iX3_init {S : zS} (h : Wq S) : Wq (iX3_init S) := by
  unfold iX3_init
  repeat (first | exact wq_z0 | exact h | refine wq_al (by decide) ?_ | refine wq_alM (by decide) (by decide) (by decide) ?_ | refine wq_sI ?_ | refine wq_sJ ?_ | refine wq_fl ?_ | refine wq_sR (fun p h g => by cases h; first | exact ⟨Nat.ne_of_beq_eq_false rfl, rfl, rfl⟩ | cases g) ?_ | refine wq_iX7_init ?_ | refine wq_iX8_init ?_ | refine wq_iX6_init ?_ | refine wq_iX9_init ?_ | refine wq_iX10_init ?_ | refine wq_iX1_init ?_ | refine wq_iX5_init ?_ | refine wq_iX2_init ?_ | refine wq_iX4_init ?_)
theorem wq_iX0_init {S : zS} {j : Nat} (h : Wq S) : Wq (iX0_init S j) := by
  unfold iX0_init
  repeat (first | exact wq_z0 | exact h | refine wq_al (by decide) ?_ | refine wq_alM (by decide) (by decide) (by decide) ?_ | refine wq_sI ?_ | refine wq_sJ ?_ | refine wq_fl ?_ | refine wq_sR (fun p h g => by cases h; first | exact ⟨Nat.ne_of_beq_eq_false rfl, rfl, rfl⟩ | cases g) ?_ | refine wq_iX7_init ?_ | refine wq_iX8_init ?_ | refine wq_iX6_init ?_ | refine wq_iX9_init ?_ | refine wq_iX10_init ?_ | refine wq_iX1_init ?_ | refine wq_iX5_init ?_ | refine wq_iX2_init ?_ | refine wq_iX4_init ?_ | refine wq_iX3_init ?_)
set_option maxRecDepth 100000 in
theorem wq_LW : Wq sLW := by
  unfold sLW
  repeat (first | exact wq_z0 | refine wq_al (by decide) ?_ | refine wq_alM (by decide) (by decide) (by decide) ?_ | refine wq_sI ?_ | refine wq_sJ ?_ | refine wq_fl ?_ | refine wq_sR (fun p h g => by cases h; first | exact ⟨Nat.ne_of_beq_eq_false rfl, rfl, rfl⟩ | cases g) ?_ | refine wq_iX7_init ?_ | refine wq_iX8_init ?_ | refine wq_iX6_init ?_ | refine wq_iX9_init ?_ | refine wq_iX10_init ?_ | refine wq_iX1_init ?_ | refine wq_iX5_init ?_ | refine wq_iX2_init ?_ | refine wq_iX4_init ?_ | refine wq_iX3_init ?_ | refine wq_iX0_init ?_)
set_option maxRecDepth 100000 in
theorem wq_M1 : Wq sM1 := by
  unfold sM1
  repeat (first | exact wq_z0 | refine wq_al (by decide) ?_ | refine wq_alM (by decide) (by decide) (by decide) ?_ | refine wq_sI ?_ | refine wq_sJ ?_ | refine wq_fl ?_ | refine wq_sR (fun p h g => by cases h; first | exact ⟨Nat.ne_of_beq_eq_false rfl, rfl, rfl⟩ | cases g) ?_ | exact wq_LW)
set_option maxRecDepth 100000 in
theorem sd_M1_e : ∀ a ∈ kinds, ∀ b, b < cnt a → gE sM1 a b = true := by decide +kernel
set_option maxRecDepth 100000 in
theorem sd_M1_r : ∀ a ∈ kinds, ∀ b, b < cnt a → ∀ k, k < rk a → gR sM1 a b k = rS a b k := by decide +kernel
set_option maxRecDepth 100000 in
theorem sd_M1_n : ∀ a ∈ kinds, gw a = false → ∀ b, b < cnt a → gN sM1 a b = nS a := by decide +kernel
theorem sd_M1 : Sd sM1 := ⟨fun a b h => sd_M1_e a (cnt_in h) b h, fun a b k h hk => sd_M1_r a (cnt_in h) b h k hk, fun a b hg h => sd_M1_n a (cnt_in h) hg b h, wq_M1.1, fun m _ => wq_M1.2 m⟩
set_option maxRecDepth 100000 in
set_option maxHeartbeats 4000000 in
theorem ok_X12_init : Ok mX12_init 0 (ent 2 [zr 12 0]) [] (al sLW 12 0 0 94) (fun r S1 => r = none ∧ S1 = iMt sM1) := by
  show Ok mX12_init 0 [some (zr 12 0), none] [] (al sLW 12 0 0 94) _
  refine r_aload_n (q := 1) dX12_init_0 rfl rfl rfl ?_
  refine r_objInit (q := 4) dX12_init_1 rfl wt1268 wt27 wt28 (Nat.le_of_ble_eq_true rfl) (by decide) (by decide) ?_
  refine r_aload_n (q := 5) dX12_init_4 rfl rfl rfl ?_
  refine r_sipush (q := 8) (nI 940) dX12_init_5 rfl (by decide) ?_
  refine r_newa (q := 10) (a := 1301) (b := 0) (n := 940) (Or.inl (by decide)) (by decide) (by decide) (by decide) rfl dX12_init_8 rfl wt46 (by decide) (by decide +kernel) rfl rfl ?_
  refine r_putr (q := 13) (fun p hp => by cases hp; exact (by decide +kernel)) ck12 dX12_init_10 rfl (k := 1) (by decide) wt1279 (Or.inr ⟨rfl, rfl, rfl⟩) rfl (by decide +kernel) ?_
  refine r_aload_n (q := 14) dX12_init_13 rfl rfl rfl ?_
  refine r_sipush (q := 17) (nI 3775) dX12_init_14 rfl (by decide) ?_
  refine r_newa (q := 19) (a := 1306) (b := 0) (n := 3775) (Or.inl (by decide)) (by decide) (by decide) (by decide) rfl dX12_init_17 rfl wt47 (by decide) (by decide +kernel) rfl rfl ?_
  refine r_putr (q := 22) (fun p hp => by cases hp; exact (by decide +kernel)) ck12 dX12_init_19 rfl (k := 6) (by decide) wt1284 (Or.inr ⟨rfl, rfl, rfl⟩) rfl (by decide +kernel) ?_
  refine r_aload_n (q := 23) dX12_init_22 rfl rfl rfl ?_
  refine r_sipush (q := 26) (nI 1173) dX12_init_23 rfl (by decide) ?_
  refine r_newa (q := 28) (a := 1307) (b := 0) (n := 1173) (Or.inl (by decide)) (by decide) (by decide) (by decide) rfl dX12_init_26 rfl wt47 (by decide) (by decide +kernel) rfl rfl ?_
  refine r_putr (q := 31) (fun p hp => by cases hp; exact (by decide +kernel)) ck12 dX12_init_28 rfl (k := 7) (by decide) wt1285 (Or.inr ⟨rfl, rfl, rfl⟩) rfl (by decide +kernel) ?_
  refine r_aload_n (q := 32) dX12_init_31 rfl rfl rfl ?_
  refine r_bipush (q := 34) (nI 6) dX12_init_32 rfl (by decide) ?_
  refine r_newa (q := 36) (a := 1308) (b := 0) (n := 6) (Or.inl (by decide)) (by decide) (by decide) (by decide) rfl dX12_init_34 rfl wt173 (by decide) (by decide +kernel) rfl rfl ?_
  refine r_putr (q := 39) (fun p hp => by cases hp; exact (by decide +kernel)) ck12 dX12_init_36 rfl (k := 8) (by decide) wt1286 (Or.inr ⟨rfl, rfl, rfl⟩) rfl (by decide +kernel) ?_
  refine r_aload_n (q := 40) dX12_init_39 rfl rfl rfl ?_
  refine r_bipush (q := 42) (nI 16) dX12_init_40 rfl (by decide) ?_
  refine r_newa (q := 44) (a := 1316) (b := 0) (n := 16) (Or.inl (by decide)) (by decide) (by decide) (by decide) rfl dX12_init_42 rfl wt47 (by decide) (by decide +kernel) rfl rfl ?_
  refine r_putr (q := 47) (fun p hp => by cases hp; exact (by decide +kernel)) ck12 dX12_init_44 rfl (k := 16) (by decide) wt1294 (Or.inr ⟨rfl, rfl, rfl⟩) rfl (by decide +kernel) ?_
  refine r_aload_n (q := 48) dX12_init_47 rfl rfl rfl ?_
  refine r_bipush (q := 50) (nI 8) dX12_init_48 rfl (by decide) ?_
  refine r_newa (q := 52) (a := 1317) (b := 0) (n := 8) (Or.inl (by decide)) (by decide) (by decide) (by decide) rfl dX12_init_50 rfl wt47 (by decide) (by decide +kernel) rfl rfl ?_
  refine r_putr (q := 55) (fun p hp => by cases hp; exact (by decide +kernel)) ck12 dX12_init_52 rfl (k := 17) (by decide) wt1295 (Or.inr ⟨rfl, rfl, rfl⟩) rfl (by decide +kernel) ?_
  refine r_aload_n (q := 56) dX12_init_55 rfl rfl rfl ?_
  refine r_bipush (q := 58) (nI 8) dX12_init_56 rfl (by decide) ?_
  refine r_newa (q := 60) (a := 1318) (b := 0) (n := 8) (Or.inl (by decide)) (by decide) (by decide) (by decide) rfl dX12_init_58 rfl wt47 (by decide) (by decide +kernel) rfl rfl ?_
  refine r_putr (q := 63) (fun p hp => by cases hp; exact (by decide +kernel)) ck12 dX12_init_60 rfl (k := 18) (by decide) wt1296 (Or.inr ⟨rfl, rfl, rfl⟩) rfl (by decide +kernel) ?_
  refine r_aload_n (q := 64) dX12_init_63 rfl rfl rfl ?_
  refine r_bipush (q := 66) (nI 8) dX12_init_64 rfl (by decide) ?_
  refine r_newa (q := 68) (a := 1319) (b := 0) (n := 8) (Or.inl (by decide)) (by decide) (by decide) (by decide) rfl dX12_init_66 rfl wt47 (by decide) (by decide +kernel) rfl rfl ?_
  refine r_putr (q := 71) (fun p hp => by cases hp; exact (by decide +kernel)) ck12 dX12_init_68 rfl (k := 19) (by decide) wt1297 (Or.inr ⟨rfl, rfl, rfl⟩) rfl (by decide +kernel) ?_
  refine r_aload_n (q := 72) dX12_init_71 rfl rfl rfl ?_
  refine r_sipush (q := 75) (nI 2346) dX12_init_72 rfl (by decide) ?_
  refine r_newa (q := 77) (a := 1322) (b := 0) (n := 2346) (Or.inl (by decide)) (by decide) (by decide) (by decide) rfl dX12_init_75 rfl wt47 (by decide) (by decide +kernel) rfl rfl ?_
  refine r_putr (q := 80) (fun p hp => by cases hp; exact (by decide +kernel)) ck12 dX12_init_77 rfl (k := 22) (by decide) wt1300 (Or.inr ⟨rfl, rfl, rfl⟩) rfl (by decide +kernel) ?_
  refine r_aload_n (q := 81) dX12_init_80 rfl rfl rfl ?_
  refine r_iconst (q := 82) (nI 2) dX12_init_81 rfl (by decide) ?_
  refine r_newa (q := 84) (a := 1323) (b := 0) (n := 2) (Or.inl (by decide)) (by decide) (by decide) (by decide) rfl dX12_init_82 rfl wt47 (by decide) (by decide +kernel) rfl rfl ?_
  refine r_putr (q := 87) (fun p hp => by cases hp; exact (by decide +kernel)) ck12 dX12_init_84 rfl (k := 23) (by decide) wt1301 (Or.inr ⟨rfl, rfl, rfl⟩) rfl (by decide +kernel) ?_
  refine r_aload_n (q := 88) dX12_init_87 rfl rfl rfl ?_
  refine r_bipush (q := 90) (nI 16) dX12_init_88 rfl (by decide) ?_
  refine r_newa (q := 92) (a := 1324) (b := 0) (n := 16) (Or.inl (by decide)) (by decide) (by decide) (by decide) rfl dX12_init_90 rfl wt47 (by decide) (by decide +kernel) rfl rfl ?_
  refine r_putr (q := 95) (fun p hp => by cases hp; exact (by decide +kernel)) ck12 dX12_init_92 rfl (k := 24) (by decide) wt1302 (Or.inr ⟨rfl, rfl, rfl⟩) rfl (by decide +kernel) ?_
  refine r_aload_n (q := 96) dX12_init_95 rfl rfl rfl ?_
  refine r_bipush (q := 98) (nI 16) dX12_init_96 rfl (by decide) ?_
  refine r_newa (q := 100) (a := 1325) (b := 0) (n := 16) (Or.inl (by decide)) (by decide) (by decide) (by decide) rfl dX12_init_98 rfl wt47 (by decide) (by decide +kernel) rfl rfl ?_
  refine r_putr (q := 103) (fun p hp => by cases hp; exact (by decide +kernel)) ck12 dX12_init_100 rfl (k := 25) (by decide) wt1303 (Or.inr ⟨rfl, rfl, rfl⟩) rfl (by decide +kernel) ?_
  refine r_aload_n (q := 104) dX12_init_103 rfl rfl rfl ?_
  refine r_bipush (q := 106) (nI 16) dX12_init_104 rfl (by decide) ?_
  refine r_newa (q := 108) (a := 1326) (b := 0) (n := 16) (Or.inl (by decide)) (by decide) (by decide) (by decide) rfl dX12_init_106 rfl wt47 (by decide) (by decide +kernel) rfl rfl ?_
  refine r_putr (q := 111) (fun p hp => by cases hp; exact (by decide +kernel)) ck12 dX12_init_108 rfl (k := 26) (by decide) wt1304 (Or.inr ⟨rfl, rfl, rfl⟩) rfl (by decide +kernel) ?_
  refine r_aload_n (q := 112) dX12_init_111 rfl rfl rfl ?_
  refine r_bipush (q := 114) (nI 16) dX12_init_112 rfl (by decide) ?_
  refine r_newa (q := 116) (a := 1327) (b := 0) (n := 16) (Or.inl (by decide)) (by decide) (by decide) (by decide) rfl dX12_init_114 rfl wt47 (by decide) (by decide +kernel) rfl rfl ?_
  refine r_putr (q := 119) (fun p hp => by cases hp; exact (by decide +kernel)) ck12 dX12_init_116 rfl (k := 27) (by decide) wt1305 (Or.inr ⟨rfl, rfl, rfl⟩) rfl (by decide +kernel) ?_
  refine r_aload_n (q := 120) dX12_init_119 rfl rfl rfl ?_
  refine r_sipush (q := 123) (nI 4400) dX12_init_120 rfl (by decide) ?_
  refine r_newa (q := 125) (a := 1328) (b := 0) (n := 4400) (Or.inl (by decide)) (by decide) (by decide) (by decide) rfl dX12_init_123 rfl wt47 (by decide) (by decide +kernel) rfl rfl ?_
  refine r_putr (q := 128) (fun p hp => by cases hp; exact (by decide +kernel)) ck12 dX12_init_125 rfl (k := 28) (by decide) wt1306 (Or.inr ⟨rfl, rfl, rfl⟩) rfl (by decide +kernel) ?_
  refine r_aload_n (q := 129) dX12_init_128 rfl rfl rfl ?_
  refine r_sipush (q := 132) (nI 30800) dX12_init_129 rfl (by decide) ?_
  refine r_newa (q := 134) (a := 1329) (b := 0) (n := 30800) (Or.inl (by decide)) (by decide) (by decide) (by decide) rfl dX12_init_132 rfl wt47 (by decide) (by decide +kernel) rfl rfl ?_
  refine r_putr (q := 137) (fun p hp => by cases hp; exact (by decide +kernel)) ck12 dX12_init_134 rfl (k := 29) (by decide) wt1307 (Or.inr ⟨rfl, rfl, rfl⟩) rfl (by decide +kernel) ?_
  refine r_aload_n (q := 138) dX12_init_137 rfl rfl rfl ?_
  refine r_sipush (q := 141) (nI 4400) dX12_init_138 rfl (by decide) ?_
  refine r_newa (q := 143) (a := 1330) (b := 0) (n := 4400) (Or.inl (by decide)) (by decide) (by decide) (by decide) rfl dX12_init_141 rfl wt47 (by decide) (by decide +kernel) rfl rfl ?_
  refine r_putr (q := 146) (fun p hp => by cases hp; exact (by decide +kernel)) ck12 dX12_init_143 rfl (k := 30) (by decide) wt1308 (Or.inr ⟨rfl, rfl, rfl⟩) rfl (by decide +kernel) ?_
  refine r_aload_n (q := 147) dX12_init_146 rfl rfl rfl ?_
  refine r_ldc (q := 149) (nI 400000) dX12_init_147 rfl wt1269 ?_
  refine r_newa (q := 151) (a := 1331) (b := 0) (n := 400000) (Or.inl (by decide)) (by decide) (by decide) (by decide) rfl dX12_init_149 rfl wt47 (by decide) (by decide +kernel) rfl rfl ?_
  refine r_putr (q := 154) (fun p hp => by cases hp; exact (by decide +kernel)) ck12 dX12_init_151 rfl (k := 31) (by decide) wt1309 (Or.inr ⟨rfl, rfl, rfl⟩) rfl (by decide +kernel) ?_
  refine r_aload_n (q := 155) dX12_init_154 rfl rfl rfl ?_
  refine r_sipush (q := 158) (nI 4400) dX12_init_155 rfl (by decide) ?_
  refine r_newa (q := 160) (a := 1332) (b := 0) (n := 4400) (Or.inl (by decide)) (by decide) (by decide) (by decide) rfl dX12_init_158 rfl wt421 (by decide) (by decide +kernel) rfl rfl ?_
  refine r_putr (q := 163) (fun p hp => by cases hp; exact (by decide +kernel)) ck12 dX12_init_160 rfl (k := 32) (by decide) wt1310 (Or.inr ⟨rfl, rfl, rfl⟩) rfl (by decide +kernel) ?_
  refine r_aload_n (q := 164) dX12_init_163 rfl rfl rfl ?_
  refine r_iconst (q := 165) ((-1 : Int32)) dX12_init_164 rfl (by decide) ?_
  refine r_puti (q := 168) ck12 dX12_init_165 rfl (k := 33) (by decide) wt1311 (Or.inl rfl) rfl (by decide +kernel) ?_
  refine r_aload_n (q := 169) dX12_init_168 rfl rfl rfl ?_
  refine r_bipush (q := 171) (nI 22) dX12_init_169 rfl (by decide) ?_
  refine r_newa (q := 173) (a := 1334) (b := 0) (n := 22) (Or.inl (by decide)) (by decide) (by decide) (by decide) rfl dX12_init_171 rfl wt173 (by decide) (by decide +kernel) rfl rfl ?_
  refine r_putr (q := 176) (fun p hp => by cases hp; exact (by decide +kernel)) ck12 dX12_init_173 rfl (k := 34) (by decide) wt1312 (Or.inr ⟨rfl, rfl, rfl⟩) rfl (by decide +kernel) ?_
  refine r_aload_n (q := 177) dX12_init_176 rfl rfl rfl ?_
  refine r_bipush (q := 179) (nI 55) dX12_init_177 rfl (by decide) ?_
  refine r_newa (q := 181) (a := 1335) (b := 0) (n := 55) (Or.inl (by decide)) (by decide) (by decide) (by decide) rfl dX12_init_179 rfl wt173 (by decide) (by decide +kernel) rfl rfl ?_
  refine r_putr (q := 184) (fun p hp => by cases hp; exact (by decide +kernel)) ck12 dX12_init_181 rfl (k := 35) (by decide) wt1313 (Or.inr ⟨rfl, rfl, rfl⟩) rfl (by decide +kernel) ?_
  refine r_aload_n (q := 185) dX12_init_184 rfl rfl rfl ?_
  refine r_bipush (q := 187) (nI 8) dX12_init_185 rfl (by decide) ?_
  refine r_newa (q := 189) (a := 1336) (b := 0) (n := 8) (Or.inl (by decide)) (by decide) (by decide) (by decide) rfl dX12_init_187 rfl wt47 (by decide) (by decide +kernel) rfl rfl ?_
  refine r_putr (q := 192) (fun p hp => by cases hp; exact (by decide +kernel)) ck12 dX12_init_189 rfl (k := 36) (by decide) wt1314 (Or.inr ⟨rfl, rfl, rfl⟩) rfl (by decide +kernel) ?_
  refine r_aload_n (q := 193) dX12_init_192 rfl rfl rfl ?_
  refine r_bipush (q := 195) (nI 8) dX12_init_193 rfl (by decide) ?_
  refine r_newa (q := 197) (a := 1337) (b := 0) (n := 8) (Or.inl (by decide)) (by decide) (by decide) (by decide) rfl dX12_init_195 rfl wt47 (by decide) (by decide +kernel) rfl rfl ?_
  refine r_putr (q := 200) (fun p hp => by cases hp; exact (by decide +kernel)) ck12 dX12_init_197 rfl (k := 37) (by decide) wt1315 (Or.inr ⟨rfl, rfl, rfl⟩) rfl (by decide +kernel) ?_
  refine r_aload_n (q := 201) dX12_init_200 rfl rfl rfl ?_
  refine r_sipush (q := 204) (nI 300) dX12_init_201 rfl (by decide) ?_
  refine r_newa (q := 206) (a := 1341) (b := 0) (n := 300) (Or.inl (by decide)) (by decide) (by decide) (by decide) rfl dX12_init_204 rfl wt47 (by decide) (by decide +kernel) rfl rfl ?_
  refine r_putr (q := 209) (fun p hp => by cases hp; exact (by decide +kernel)) ck12 dX12_init_206 rfl (k := 41) (by decide) wt1319 (Or.inr ⟨rfl, rfl, rfl⟩) rfl (by decide +kernel) ?_
  refine r_aload_n (q := 210) dX12_init_209 rfl rfl rfl ?_
  refine r_bipush (q := 212) (nI 98) dX12_init_210 rfl (by decide) ?_
  refine r_newa (q := 214) (a := 1342) (b := 0) (n := 98) (Or.inl (by decide)) (by decide) (by decide) (by decide) rfl dX12_init_212 rfl wt47 (by decide) (by decide +kernel) rfl rfl ?_
  refine r_putr (q := 217) (fun p hp => by cases hp; exact (by decide +kernel)) ck12 dX12_init_214 rfl (k := 42) (by decide) wt1320 (Or.inr ⟨rfl, rfl, rfl⟩) rfl (by decide +kernel) ?_
  refine r_aload_n (q := 218) dX12_init_217 rfl rfl rfl ?_
  refine r_sipush (q := 221) (nI 1400) dX12_init_218 rfl (by decide) ?_
  refine r_newa (q := 223) (a := 1344) (b := 0) (n := 1400) (Or.inl (by decide)) (by decide) (by decide) (by decide) rfl dX12_init_221 rfl wt47 (by decide) (by decide +kernel) rfl rfl ?_
  refine r_putr (q := 226) (fun p hp => by cases hp; exact (by decide +kernel)) ck12 dX12_init_223 rfl (k := 44) (by decide) wt1322 (Or.inr ⟨rfl, rfl, rfl⟩) rfl (by decide +kernel) ?_
  refine r_aload_n (q := 227) dX12_init_226 rfl rfl rfl ?_
  refine r_sipush (q := 230) (nI 1400) dX12_init_227 rfl (by decide) ?_
  refine r_newa (q := 232) (a := 1345) (b := 0) (n := 1400) (Or.inl (by decide)) (by decide) (by decide) (by decide) rfl dX12_init_230 rfl wt47 (by decide) (by decide +kernel) rfl rfl ?_
  refine r_putr (q := 235) (fun p hp => by cases hp; exact (by decide +kernel)) ck12 dX12_init_232 rfl (k := 45) (by decide) wt1323 (Or.inr ⟨rfl, rfl, rfl⟩) rfl (by decide +kernel) ?_
  refine r_aload_n (q := 236) dX12_init_235 rfl rfl rfl ?_
  refine r_sipush (q := 239) (nI 9800) dX12_init_236 rfl (by decide) ?_
  refine r_newa (q := 241) (a := 1346) (b := 0) (n := 9800) (Or.inl (by decide)) (by decide) (by decide) (by decide) rfl dX12_init_239 rfl wt47 (by decide) (by decide +kernel) rfl rfl ?_
  refine r_putr (q := 244) (fun p hp => by cases hp; exact (by decide +kernel)) ck12 dX12_init_241 rfl (k := 46) (by decide) wt1324 (Or.inr ⟨rfl, rfl, rfl⟩) rfl (by decide +kernel) ?_
  refine r_aload_n (q := 245) dX12_init_244 rfl rfl rfl ?_
  refine r_sipush (q := 248) (nI 460) dX12_init_245 rfl (by decide) ?_
  refine r_newa (q := 250) (a := 1349) (b := 0) (n := 460) (Or.inl (by decide)) (by decide) (by decide) (by decide) rfl dX12_init_248 rfl wt47 (by decide) (by decide +kernel) rfl rfl ?_
  refine r_putr (q := 253) (fun p hp => by cases hp; exact (by decide +kernel)) ck12 dX12_init_250 rfl (k := 49) (by decide) wt1327 (Or.inr ⟨rfl, rfl, rfl⟩) rfl (by decide +kernel) ?_
  refine r_aload_n (q := 254) dX12_init_253 rfl rfl rfl ?_
  refine r_sipush (q := 257) (nI 20816) dX12_init_254 rfl (by decide) ?_
  refine r_newa (q := 259) (a := 1357) (b := 0) (n := 20816) (Or.inl (by decide)) (by decide) (by decide) (by decide) rfl dX12_init_257 rfl wt47 (by decide) (by decide +kernel) rfl rfl ?_
  refine r_putr (q := 262) (fun p hp => by cases hp; exact (by decide +kernel)) ck12 dX12_init_259 rfl (k := 57) (by decide) wt1335 (Or.inr ⟨rfl, rfl, rfl⟩) rfl (by decide +kernel) ?_
  refine r_aload_n (q := 263) dX12_init_262 rfl rfl rfl ?_
  refine r_bipush (q := 265) (nI 120) dX12_init_263 rfl (by decide) ?_
  refine r_newa (q := 267) (a := 1359) (b := 0) (n := 120) (Or.inl (by decide)) (by decide) (by decide) (by decide) rfl dX12_init_265 rfl wt47 (by decide) (by decide +kernel) rfl rfl ?_
  refine r_putr (q := 270) (fun p hp => by cases hp; exact (by decide +kernel)) ck12 dX12_init_267 rfl (k := 59) (by decide) wt1337 (Or.inr ⟨rfl, rfl, rfl⟩) rfl (by decide +kernel) ?_
  refine r_aload_n (q := 271) dX12_init_270 rfl rfl rfl ?_
  refine r_bipush (q := 273) (nI 8) dX12_init_271 rfl (by decide) ?_
  refine r_newa (q := 275) (a := 1360) (b := 0) (n := 8) (Or.inl (by decide)) (by decide) (by decide) (by decide) rfl dX12_init_273 rfl wt47 (by decide) (by decide +kernel) rfl rfl ?_
  refine r_putr (q := 278) (fun p hp => by cases hp; exact (by decide +kernel)) ck12 dX12_init_275 rfl (k := 60) (by decide) wt1338 (Or.inr ⟨rfl, rfl, rfl⟩) rfl (by decide +kernel) ?_
  refine r_aload_n (q := 279) dX12_init_278 rfl rfl rfl ?_
  refine r_bipush (q := 281) (nI 16) dX12_init_279 rfl (by decide) ?_
  refine r_newa (q := 283) (a := 1361) (b := 0) (n := 16) (Or.inl (by decide)) (by decide) (by decide) (by decide) rfl dX12_init_281 rfl wt47 (by decide) (by decide +kernel) rfl rfl ?_
  refine r_putr (q := 286) (fun p hp => by cases hp; exact (by decide +kernel)) ck12 dX12_init_283 rfl (k := 61) (by decide) wt1339 (Or.inr ⟨rfl, rfl, rfl⟩) rfl (by decide +kernel) ?_
  refine r_aload_n (q := 287) dX12_init_286 rfl rfl rfl ?_
  refine r_sipush (q := 290) (nI 1400) dX12_init_287 rfl (by decide) ?_
  refine r_newa (q := 292) (a := 1362) (b := 0) (n := 1400) (Or.inl (by decide)) (by decide) (by decide) (by decide) rfl dX12_init_290 rfl wt47 (by decide) (by decide +kernel) rfl rfl ?_
  refine r_putr (q := 295) (fun p hp => by cases hp; exact (by decide +kernel)) ck12 dX12_init_292 rfl (k := 62) (by decide) wt1340 (Or.inr ⟨rfl, rfl, rfl⟩) rfl (by decide +kernel) ?_
  refine r_aload_n (q := 296) dX12_init_295 rfl rfl rfl ?_
  refine r_sipush (q := 299) (nI 1400) dX12_init_296 rfl (by decide) ?_
  refine r_newa (q := 301) (a := 1363) (b := 0) (n := 1400) (Or.inl (by decide)) (by decide) (by decide) (by decide) rfl dX12_init_299 rfl wt47 (by decide) (by decide +kernel) rfl rfl ?_
  refine r_putr (q := 304) (fun p hp => by cases hp; exact (by decide +kernel)) ck12 dX12_init_301 rfl (k := 63) (by decide) wt1341 (Or.inr ⟨rfl, rfl, rfl⟩) rfl (by decide +kernel) ?_
  refine r_aload_n (q := 305) dX12_init_304 rfl rfl rfl ?_
  refine r_sipush (q := 308) (nI 324) dX12_init_305 rfl (by decide) ?_
  refine r_newa (q := 310) (a := 1364) (b := 0) (n := 324) (Or.inl (by decide)) (by decide) (by decide) (by decide) rfl dX12_init_308 rfl wt47 (by decide) (by decide +kernel) rfl rfl ?_
  refine r_putr (q := 313) (fun p hp => by cases hp; exact (by decide +kernel)) ck12 dX12_init_310 rfl (k := 64) (by decide) wt1342 (Or.inr ⟨rfl, rfl, rfl⟩) rfl (by decide +kernel) ?_
  refine r_aload_n (q := 314) dX12_init_313 rfl rfl rfl ?_
  refine r_bipush (q := 316) (nI 18) dX12_init_314 rfl (by decide) ?_
  refine r_newa (q := 318) (a := 1365) (b := 0) (n := 18) (Or.inl (by decide)) (by decide) (by decide) (by decide) rfl dX12_init_316 rfl wt47 (by decide) (by decide +kernel) rfl rfl ?_
  refine r_putr (q := 321) (fun p hp => by cases hp; exact (by decide +kernel)) ck12 dX12_init_318 rfl (k := 65) (by decide) wt1343 (Or.inr ⟨rfl, rfl, rfl⟩) rfl (by decide +kernel) ?_
  refine r_aload_n (q := 322) dX12_init_321 rfl rfl rfl ?_
  refine r_bipush (q := 324) (nI 18) dX12_init_322 rfl (by decide) ?_
  refine r_newa (q := 326) (a := 1366) (b := 0) (n := 18) (Or.inl (by decide)) (by decide) (by decide) (by decide) rfl dX12_init_324 rfl wt47 (by decide) (by decide +kernel) rfl rfl ?_
  refine r_putr (q := 329) (fun p hp => by cases hp; exact (by decide +kernel)) ck12 dX12_init_326 rfl (k := 66) (by decide) wt1344 (Or.inr ⟨rfl, rfl, rfl⟩) rfl (by decide +kernel) ?_
  refine r_aload_n (q := 330) dX12_init_329 rfl rfl rfl ?_
  refine r_bipush (q := 332) (nI 8) dX12_init_330 rfl (by decide) ?_
  refine r_newa (q := 334) (a := 1367) (b := 0) (n := 8) (Or.inl (by decide)) (by decide) (by decide) (by decide) rfl dX12_init_332 rfl wt173 (by decide) (by decide +kernel) rfl rfl ?_
  refine r_putr (q := 337) (fun p hp => by cases hp; exact (by decide +kernel)) ck12 dX12_init_334 rfl (k := 67) (by decide) wt1345 (Or.inr ⟨rfl, rfl, rfl⟩) rfl (by decide +kernel) ?_
  refine r_aload_n (q := 338) dX12_init_337 rfl rfl rfl ?_
  refine r_bipush (q := 340) (nI 8) dX12_init_338 rfl (by decide) ?_
  refine r_newa (q := 342) (a := 1368) (b := 0) (n := 8) (Or.inl (by decide)) (by decide) (by decide) (by decide) rfl dX12_init_340 rfl wt173 (by decide) (by decide +kernel) rfl rfl ?_
  refine r_putr (q := 345) (fun p hp => by cases hp; exact (by decide +kernel)) ck12 dX12_init_342 rfl (k := 68) (by decide) wt1346 (Or.inr ⟨rfl, rfl, rfl⟩) rfl (by decide +kernel) ?_
  refine r_aload_n (q := 346) dX12_init_345 rfl rfl rfl ?_
  refine r_bipush (q := 348) (nI 8) dX12_init_346 rfl (by decide) ?_
  refine r_newa (q := 350) (a := 1369) (b := 0) (n := 8) (Or.inl (by decide)) (by decide) (by decide) (by decide) rfl dX12_init_348 rfl wt173 (by decide) (by decide +kernel) rfl rfl ?_
  refine r_putr (q := 353) (fun p hp => by cases hp; exact (by decide +kernel)) ck12 dX12_init_350 rfl (k := 69) (by decide) wt1347 (Or.inr ⟨rfl, rfl, rfl⟩) rfl (by decide +kernel) ?_
  refine r_aload_n (q := 354) dX12_init_353 rfl rfl rfl ?_
  refine r_sipush (q := 357) (nI 192) dX12_init_354 rfl (by decide) ?_
  refine r_newa (q := 359) (a := 1370) (b := 0) (n := 192) (Or.inl (by decide)) (by decide) (by decide) (by decide) rfl dX12_init_357 rfl wt47 (by decide) (by decide +kernel) rfl rfl ?_
  refine r_putr (q := 362) (fun p hp => by cases hp; exact (by decide +kernel)) ck12 dX12_init_359 rfl (k := 70) (by decide) wt1348 (Or.inr ⟨rfl, rfl, rfl⟩) rfl (by decide +kernel) ?_
  refine r_aload_n (q := 363) dX12_init_362 rfl rfl rfl ?_
  refine r_sipush (q := 366) (nI 192) dX12_init_363 rfl (by decide) ?_
  refine r_newa (q := 368) (a := 1371) (b := 0) (n := 192) (Or.inl (by decide)) (by decide) (by decide) (by decide) rfl dX12_init_366 rfl wt47 (by decide) (by decide +kernel) rfl rfl ?_
  refine r_putr (q := 371) (fun p hp => by cases hp; exact (by decide +kernel)) ck12 dX12_init_368 rfl (k := 71) (by decide) wt1349 (Or.inr ⟨rfl, rfl, rfl⟩) rfl (by decide +kernel) ?_
  refine r_aload_n (q := 372) dX12_init_371 rfl rfl rfl ?_
  refine r_iconst (q := 373) (nI 3) dX12_init_372 rfl (by decide) ?_
  refine r_newa (q := 375) (a := 1372) (b := 0) (n := 3) (Or.inl (by decide)) (by decide) (by decide) (by decide) rfl dX12_init_373 rfl wt47 (by decide) (by decide +kernel) rfl rfl ?_
  refine r_putr (q := 378) (fun p hp => by cases hp; exact (by decide +kernel)) ck12 dX12_init_375 rfl (k := 72) (by decide) wt1350 (Or.inr ⟨rfl, rfl, rfl⟩) rfl (by decide +kernel) ?_
  refine r_aload_n (q := 379) dX12_init_378 rfl rfl rfl ?_
  refine r_sipush (q := 382) (nI 2400) dX12_init_379 rfl (by decide) ?_
  refine r_newa (q := 384) (a := 1373) (b := 0) (n := 2400) (Or.inl (by decide)) (by decide) (by decide) (by decide) rfl dX12_init_382 rfl wt47 (by decide) (by decide +kernel) rfl rfl ?_
  refine r_putr (q := 387) (fun p hp => by cases hp; exact (by decide +kernel)) ck12 dX12_init_384 rfl (k := 73) (by decide) wt1351 (Or.inr ⟨rfl, rfl, rfl⟩) rfl (by decide +kernel) ?_
  refine r_aload_n (q := 388) dX12_init_387 rfl rfl rfl ?_
  refine r_bipush (q := 390) (nI 8) dX12_init_388 rfl (by decide) ?_
  refine r_newa (q := 392) (a := 1374) (b := 0) (n := 8) (Or.inl (by decide)) (by decide) (by decide) (by decide) rfl dX12_init_390 rfl wt47 (by decide) (by decide +kernel) rfl rfl ?_
  refine r_putr (q := 395) (fun p hp => by cases hp; exact (by decide +kernel)) ck12 dX12_init_392 rfl (k := 74) (by decide) wt1352 (Or.inr ⟨rfl, rfl, rfl⟩) rfl (by decide +kernel) ?_
  refine r_aload_n (q := 396) dX12_init_395 rfl rfl rfl ?_
  refine r_sipush (q := 399) (nI 2400) dX12_init_396 rfl (by decide) ?_
  refine r_newa (q := 401) (a := 1375) (b := 0) (n := 2400) (Or.inl (by decide)) (by decide) (by decide) (by decide) rfl dX12_init_399 rfl wt47 (by decide) (by decide +kernel) rfl rfl ?_
  refine r_putr (q := 404) (fun p hp => by cases hp; exact (by decide +kernel)) ck12 dX12_init_401 rfl (k := 75) (by decide) wt1353 (Or.inr ⟨rfl, rfl, rfl⟩) rfl (by decide +kernel) ?_
  refine r_aload_n (q := 405) dX12_init_404 rfl rfl rfl ?_
  refine r_bipush (q := 407) (nI 8) dX12_init_405 rfl (by decide) ?_
  refine r_newa (q := 409) (a := 1376) (b := 0) (n := 8) (Or.inl (by decide)) (by decide) (by decide) (by decide) rfl dX12_init_407 rfl wt47 (by decide) (by decide +kernel) rfl rfl ?_
  refine r_putr (q := 412) (fun p hp => by cases hp; exact (by decide +kernel)) ck12 dX12_init_409 rfl (k := 76) (by decide) wt1354 (Or.inr ⟨rfl, rfl, rfl⟩) rfl (by decide +kernel) ?_
  refine r_aload_n (q := 413) dX12_init_412 rfl rfl rfl ?_
  refine r_sipush (q := 416) (nI 300) dX12_init_413 rfl (by decide) ?_
  refine r_newa (q := 418) (a := 1377) (b := 0) (n := 300) (Or.inl (by decide)) (by decide) (by decide) (by decide) rfl dX12_init_416 rfl wt47 (by decide) (by decide +kernel) rfl rfl ?_
  refine r_putr (q := 421) (fun p hp => by cases hp; exact (by decide +kernel)) ck12 dX12_init_418 rfl (k := 77) (by decide) wt1355 (Or.inr ⟨rfl, rfl, rfl⟩) rfl (by decide +kernel) ?_
  refine r_aload_n (q := 422) dX12_init_421 rfl rfl rfl ?_
  refine r_bipush (q := 424) (nI 16) dX12_init_422 rfl (by decide) ?_
  refine r_newa (q := 426) (a := 1378) (b := 0) (n := 16) (Or.inl (by decide)) (by decide) (by decide) (by decide) rfl dX12_init_424 rfl wt47 (by decide) (by decide +kernel) rfl rfl ?_
  refine r_putr (q := 429) (fun p hp => by cases hp; exact (by decide +kernel)) ck12 dX12_init_426 rfl (k := 78) (by decide) wt1356 (Or.inr ⟨rfl, rfl, rfl⟩) rfl (by decide +kernel) ?_
  refine r_aload_n (q := 430) dX12_init_429 rfl rfl rfl ?_
  refine r_iconst (q := 431) (nI 4) dX12_init_430 rfl (by decide) ?_
  refine r_newa (q := 433) (a := 1379) (b := 0) (n := 4) (Or.inl (by decide)) (by decide) (by decide) (by decide) rfl dX12_init_431 rfl wt47 (by decide) (by decide +kernel) rfl rfl ?_
  refine r_putr (q := 436) (fun p hp => by cases hp; exact (by decide +kernel)) ck12 dX12_init_433 rfl (k := 79) (by decide) wt1357 (Or.inr ⟨rfl, rfl, rfl⟩) rfl (by decide +kernel) ?_
  refine r_aload_n (q := 437) dX12_init_436 rfl rfl rfl ?_
  refine r_iconst (q := 438) ((-1 : Int32)) dX12_init_437 rfl (by decide) ?_
  refine r_puti (q := 441) ck12 dX12_init_438 rfl (k := 82) (by decide) wt1360 (Or.inl rfl) rfl (by decide +kernel) ?_
  refine r_aload_n (q := 442) dX12_init_441 rfl rfl rfl ?_
  refine r_sipush (q := 445) (nI 300) dX12_init_442 rfl (by decide) ?_
  refine r_newa (q := 447) (a := 1383) (b := 0) (n := 300) (Or.inl (by decide)) (by decide) (by decide) (by decide) rfl dX12_init_445 rfl wt47 (by decide) (by decide +kernel) rfl rfl ?_
  refine r_putr (q := 450) (fun p hp => by cases hp; exact (by decide +kernel)) ck12 dX12_init_447 rfl (k := 83) (by decide) wt1361 (Or.inr ⟨rfl, rfl, rfl⟩) rfl (by decide +kernel) ?_
  refine r_aload_n (q := 451) dX12_init_450 rfl rfl rfl ?_
  refine r_sipush (q := 454) (nI 300) dX12_init_451 rfl (by decide) ?_
  refine r_newa (q := 456) (a := 1384) (b := 0) (n := 300) (Or.inl (by decide)) (by decide) (by decide) (by decide) rfl dX12_init_454 rfl wt47 (by decide) (by decide +kernel) rfl rfl ?_
  refine r_putr (q := 459) (fun p hp => by cases hp; exact (by decide +kernel)) ck12 dX12_init_456 rfl (k := 84) (by decide) wt1362 (Or.inr ⟨rfl, rfl, rfl⟩) rfl (by decide +kernel) ?_
  refine r_aload_n (q := 460) dX12_init_459 rfl rfl rfl ?_
  refine r_bipush (q := 462) (nI 24) dX12_init_460 rfl (by decide) ?_
  refine r_newa (q := 464) (a := 1385) (b := 0) (n := 24) (Or.inl (by decide)) (by decide) (by decide) (by decide) rfl dX12_init_462 rfl wt47 (by decide) (by decide +kernel) rfl rfl ?_
  refine r_putr (q := 467) (fun p hp => by cases hp; exact (by decide +kernel)) ck12 dX12_init_464 rfl (k := 85) (by decide) wt1363 (Or.inr ⟨rfl, rfl, rfl⟩) rfl (by decide +kernel) ?_
  refine r_aload_n (q := 468) dX12_init_467 rfl rfl rfl ?_
  refine r_iconst (q := 469) (nI 3) dX12_init_468 rfl (by decide) ?_
  refine r_newa (q := 471) (a := 1386) (b := 0) (n := 3) (Or.inl (by decide)) (by decide) (by decide) (by decide) rfl dX12_init_469 rfl wt47 (by decide) (by decide +kernel) rfl rfl ?_
  refine r_putr (q := 474) (fun p hp => by cases hp; exact (by decide +kernel)) ck12 dX12_init_471 rfl (k := 86) (by decide) wt1364 (Or.inr ⟨rfl, rfl, rfl⟩) rfl (by decide +kernel) ?_
  refine r_aload_n (q := 475) dX12_init_474 rfl rfl rfl ?_
  refine r_bipush (q := 477) (nI 8) dX12_init_475 rfl (by decide) ?_
  refine r_newa (q := 479) (a := 1387) (b := 0) (n := 8) (Or.inl (by decide)) (by decide) (by decide) (by decide) rfl dX12_init_477 rfl wt47 (by decide) (by decide +kernel) rfl rfl ?_
  refine r_putr (q := 482) (fun p hp => by cases hp; exact (by decide +kernel)) ck12 dX12_init_479 rfl (k := 87) (by decide) wt1365 (Or.inr ⟨rfl, rfl, rfl⟩) rfl (by decide +kernel) ?_
  refine r_aload_n (q := 483) dX12_init_482 rfl rfl rfl ?_
  refine r_iconst (q := 484) (nI 4) dX12_init_483 rfl (by decide) ?_
  refine r_newa (q := 486) (a := 1388) (b := 0) (n := 4) (Or.inl (by decide)) (by decide) (by decide) (by decide) rfl dX12_init_484 rfl wt47 (by decide) (by decide +kernel) rfl rfl ?_
  refine r_putr (q := 489) (fun p hp => by cases hp; exact (by decide +kernel)) ck12 dX12_init_486 rfl (k := 88) (by decide) wt1366 (Or.inr ⟨rfl, rfl, rfl⟩) rfl (by decide +kernel) ?_
  refine r_aload_n (q := 490) dX12_init_489 rfl rfl rfl ?_
  refine r_iconst (q := 491) (nI 3) dX12_init_490 rfl (by decide) ?_
  refine r_newa (q := 493) (a := 1389) (b := 0) (n := 3) (Or.inl (by decide)) (by decide) (by decide) (by decide) rfl dX12_init_491 rfl wt47 (by decide) (by decide +kernel) rfl rfl ?_
  refine r_putr (q := 496) (fun p hp => by cases hp; exact (by decide +kernel)) ck12 dX12_init_493 rfl (k := 89) (by decide) wt1367 (Or.inr ⟨rfl, rfl, rfl⟩) rfl (by decide +kernel) ?_
  refine r_aload_n (q := 497) dX12_init_496 rfl rfl rfl ?_
  refine r_sipush (q := 500) (nI 7550) dX12_init_497 rfl (by decide) ?_
  refine r_newa (q := 502) (a := 1391) (b := 0) (n := 7550) (Or.inl (by decide)) (by decide) (by decide) (by decide) rfl dX12_init_500 rfl wt47 (by decide) (by decide +kernel) rfl rfl ?_
  refine r_putr (q := 505) (fun p hp => by cases hp; exact (by decide +kernel)) ck12 dX12_init_502 rfl (k := 91) (by decide) wt1369 (Or.inr ⟨rfl, rfl, rfl⟩) rfl (by decide +kernel) ?_
  refine r_aload_n (q := 506) dX12_init_505 rfl rfl rfl ?_
  refine r_bipush (q := 508) (nI 6) dX12_init_506 rfl (by decide) ?_
  refine r_newa (q := 510) (a := 1392) (b := 0) (n := 6) (Or.inl (by decide)) (by decide) (by decide) (by decide) rfl dX12_init_508 rfl wt173 (by decide) (by decide +kernel) rfl rfl ?_
  refine r_putr (q := 513) (fun p hp => by cases hp; exact (by decide +kernel)) ck12 dX12_init_510 rfl (k := 92) (by decide) wt1370 (Or.inr ⟨rfl, rfl, rfl⟩) rfl (by decide +kernel) ?_
  refine r_aload_n (q := 514) dX12_init_513 rfl rfl rfl ?_
  refine r_iconst (q := 515) (nI 2) dX12_init_514 rfl (by decide) ?_
  refine r_newa (q := 517) (a := 1393) (b := 0) (n := 2) (Or.inl (by decide)) (by decide) (by decide) (by decide) rfl dX12_init_515 rfl wt421 (by decide) (by decide +kernel) rfl rfl ?_
  refine r_putr (q := 520) (fun p hp => by cases hp; exact (by decide +kernel)) ck12 dX12_init_517 rfl (k := 93) (by decide) wt1371 (Or.inr ⟨rfl, rfl, rfl⟩) rfl (by decide +kernel) ?_
  exact ok_X12_tail sd_M1

theorem sd_start : Sd (iMt sM1) := sd_M1
