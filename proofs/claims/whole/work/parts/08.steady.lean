/-! THE STEADY STORE: how many cells of a kind, how long the rows are, what refers to what -/
def cnt (a : Nat) : Nat := match a with
  | 0 => 4
  | 1 => 1
  | 2 => 1
  | 3 => 1
  | 4 => 1
  | 5 => 1
  | 6 => 5
  | 7 => 3
  | 8 => 19
  | 9 => 4
  | 10 => 1
  | 11 => 1
  | 12 => 1
  | 103 => 4
  | 104 => 4
  | 105 => 4
  | 106 => 4
  | 107 => 4
  | 108 => 4
  | 109 => 4
  | 110 => 4
  | 111 => 4
  | 200 => 1
  | 201 => 1
  | 202 => 1
  | 203 => 1
  | 204 => 1
  | 205 => 1
  | 300 => 1
  | 301 => 1
  | 302 => 1
  | 400 => 1
  | 405 => 1
  | 500 => 1
  | 501 => 1
  | 502 => 1
  | 509 => 1
  | 510 => 1
  | 600 => 1
  | 601 => 1
  | 700 => 5
  | 701 => 5
  | 702 => 5
  | 703 => 5
  | 801 => 3
  | 902 => 19
  | 903 => 19
  | 1002 => 4
  | 1003 => 4
  | 1005 => 4
  | 1006 => 4
  | 1007 => 4
  | 1008 => 4
  | 1009 => 4
  | 1010 => 4
  | 1100 => 1
  | 1101 => 1
  | 1102 => 1
  | 1200 => 1
  | 1202 => 1
  | 1204 => 1
  | 1206 => 1
  | 1208 => 1
  | 1209 => 1
  | 1301 => 1
  | 1306 => 1
  | 1307 => 1
  | 1308 => 1
  | 1316 => 1
  | 1317 => 1
  | 1318 => 1
  | 1319 => 1
  | 1322 => 1
  | 1323 => 1
  | 1324 => 1
  | 1325 => 1
  | 1326 => 1
  | 1327 => 1
  | 1328 => 1
  | 1329 => 1
  | 1330 => 1
  | 1331 => 1
  | 1332 => 1
  | 1334 => 1
  | 1335 => 1
  | 1336 => 1
  | 1337 => 1
  | 1341 => 1
  | 1342 => 1
  | 1344 => 1
  | 1345 => 1
  | 1346 => 1
  | 1349 => 1
  | 1357 => 1
  | 1359 => 1
  | 1360 => 1
  | 1361 => 1
  | 1362 => 1
  | 1363 => 1
  | 1364 => 1
  | 1365 => 1
  | 1366 => 1
  | 1367 => 1
  | 1368 => 1
  | 1369 => 1
  | 1370 => 1
  | 1371 => 1
  | 1372 => 1
  | 1373 => 1
  | 1374 => 1
  | 1375 => 1
  | 1376 => 1
  | 1377 => 1
  | 1378 => 1
  | 1379 => 1
  | 1383 => 1
  | 1384 => 1
  | 1385 => 1
  | 1386 => 1
  | 1387 => 1
  | 1388 => 1
  | 1389 => 1
  | 1391 => 1
  | 1392 => 1
  | 1393 => 1
  | 10300 => 18
  | 10600 => 8
  | 11010 => 20
  | _ => 0
def nS (a : Nat) : Nat := match a with
  | 103 => 9
  | 104 => 400
  | 105 => 400
  | 106 => 9
  | 108 => 8
  | 109 => 8
  | 110 => 8
  | 111 => 8
  | 203 => 13
  | 204 => 39
  | 205 => 3
  | 300 => 18
  | 301 => 18
  | 302 => 13
  | 400 => 3
  | 405 => 13
  | 500 => 941
  | 501 => 941
  | 502 => 941
  | 509 => 480
  | 510 => 480
  | 600 => 8
  | 601 => 8
  | 700 => 13
  | 701 => 13
  | 702 => 13
  | 703 => 300
  | 801 => 729
  | 1002 => 3
  | 1003 => 3
  | 1005 => 18
  | 1006 => 19
  | 1007 => 200
  | 1008 => 200
  | 1009 => 11
  | 1010 => 5
  | 1100 => 13
  | 1101 => 13
  | 1102 => 64
  | 1200 => 940
  | 1202 => 4
  | 1204 => 2
  | 1206 => 2
  | 1208 => 2
  | 1209 => 8
  | 1301 => 940
  | 1306 => 3775
  | 1307 => 1173
  | 1308 => 6
  | 1316 => 16
  | 1317 => 8
  | 1318 => 8
  | 1319 => 8
  | 1322 => 2346
  | 1323 => 2
  | 1324 => 16
  | 1325 => 16
  | 1326 => 16
  | 1327 => 16
  | 1328 => 4400
  | 1329 => 30800
  | 1330 => 4400
  | 1331 => 400000
  | 1332 => 4400
  | 1334 => 22
  | 1335 => 55
  | 1336 => 8
  | 1337 => 8
  | 1341 => 300
  | 1342 => 98
  | 1344 => 1400
  | 1345 => 1400
  | 1346 => 9800
  | 1349 => 460
  | 1357 => 20816
  | 1359 => 120
  | 1360 => 8
  | 1361 => 16
  | 1362 => 1400
  | 1363 => 1400
  | 1364 => 324
  | 1365 => 18
  | 1366 => 18
  | 1367 => 8
  | 1368 => 8
  | 1369 => 8
  | 1370 => 192
  | 1371 => 192
  | 1372 => 3
  | 1373 => 2400
  | 1374 => 8
  | 1375 => 2400
  | 1376 => 8
  | 1377 => 300
  | 1378 => 16
  | 1379 => 4
  | 1383 => 300
  | 1384 => 300
  | 1385 => 24
  | 1386 => 3
  | 1387 => 8
  | 1388 => 4
  | 1389 => 3
  | 1391 => 7550
  | 1392 => 6
  | 1393 => 2
  | 10300 => 18
  | 10600 => 8
  | 11010 => 11
  | _ => 0
def rS (a b k : Nat) : Option (Nat × Nat) := match a with
  | 0 => (match k with | 0 => some (9, b) | 1 => some (6, b) | 3 => some (103, b) | 4 => some (104, b) | 5 => some (105, b) | 6 => some (106, b) | 7 => some (107, b) | 8 => some (108, b) | 9 => some (109, b) | 10 => some (110, b) | 11 => some (111, b) | _ => none)
  | 1 => (match k with | 0 => some (200, b) | 1 => some (201, b) | 2 => some (202, b) | 3 => some (203, b) | 4 => some (204, b) | 5 => some (205, b) | _ => none)
  | 2 => (match k with | 0 => some (300, b) | 1 => some (301, b) | 2 => some (302, b) | _ => none)
  | 3 => (match k with | 0 => some (400, b) | 2 => some (8, 16) | 3 => some (8, 17) | 4 => some (8, 18) | 5 => some (405, b) | _ => none)
  | 4 => (match k with | 0 => some (500, b) | 1 => some (501, b) | 2 => some (502, b) | 9 => some (509, b) | 10 => some (510, b) | 13 => some (8, 12) | _ => none)
  | 5 => (match k with | 0 => some (600, b) | 1 => some (601, b) | _ => none)
  | 6 => (match k with | 0 => some (700, b) | 1 => some (701, b) | 2 => some (702, b) | 3 => some (703, b) | _ => none)
  | 7 => (match k with | 1 => some (801, b) | _ => none)
  | 8 => (match k with | 2 => some (902, b) | 3 => some (903, b) | _ => none)
  | 9 => (match k with | 2 => some (1002, b) | 3 => some (1003, b) | 5 => some (1005, b) | 6 => some (1006, b) | 7 => some (1007, b) | 8 => some (1008, b) | 9 => some (1009, b) | 10 => some (1010, b) | _ => none)
  | 10 => (match k with | 0 => some (1100, b) | 1 => some (1101, b) | 2 => some (1102, b) | _ => none)
  | 11 => (match k with | 0 => some (1200, b) | 2 => some (1202, b) | 4 => some (1204, b) | 5 => some (7, 0) | 6 => some (1206, b) | 7 => some (8, 0) | 8 => some (1208, b) | 9 => some (1209, b) | 12 => some (8, 11) | 13 => some (6, 4) | 14 => some (4, 0) | 15 => some (10, 0) | 16 => some (3, 0) | 17 => some (1, 0) | 18 => some (5, 0) | 19 => some (2, 0) | _ => none)
  | 12 => (match k with | 1 => some (1301, b) | 6 => some (1306, b) | 7 => some (1307, b) | 8 => some (1308, b) | 16 => some (1316, b) | 17 => some (1317, b) | 18 => some (1318, b) | 19 => some (1319, b) | 22 => some (1322, b) | 23 => some (1323, b) | 24 => some (1324, b) | 25 => some (1325, b) | 26 => some (1326, b) | 27 => some (1327, b) | 28 => some (1328, b) | 29 => some (1329, b) | 30 => some (1330, b) | 31 => some (1331, b) | 32 => some (1332, b) | 34 => some (1334, b) | 35 => some (1335, b) | 36 => some (1336, b) | 37 => some (1337, b) | 41 => some (1341, b) | 42 => some (1342, b) | 44 => some (1344, b) | 45 => some (1345, b) | 46 => some (1346, b) | 49 => some (1349, b) | 57 => some (1357, b) | 59 => some (1359, b) | 60 => some (1360, b) | 61 => some (1361, b) | 62 => some (1362, b) | 63 => some (1363, b) | 64 => some (1364, b) | 65 => some (1365, b) | 66 => some (1366, b) | 67 => some (1367, b) | 68 => some (1368, b) | 69 => some (1369, b) | 70 => some (1370, b) | 71 => some (1371, b) | 72 => some (1372, b) | 73 => some (1373, b) | 74 => some (1374, b) | 75 => some (1375, b) | 76 => some (1376, b) | 77 => some (1377, b) | 78 => some (1378, b) | 79 => some (1379, b) | 83 => some (1383, b) | 84 => some (1384, b) | 85 => some (1385, b) | 86 => some (1386, b) | 87 => some (1387, b) | 88 => some (1388, b) | 89 => some (1389, b) | 91 => some (1391, b) | 92 => some (1392, b) | 93 => some (1393, b) | _ => none)
  | 300 => if k < 18 then some (10300, k) else none
  | 400 => if k < 3 then some (8, k + 13) else none
  | 600 => if k < 8 then some (10600, k) else none
  | 1010 => if k < 5 then some (11010, 5 * b + k) else none
  | 1202 => if k < 4 then some (0, k) else none
  | 1206 => if k < 2 then some (7, k + 1) else none
  | 1208 => if k < 2 then some (8, k + 1) else none
  | 1209 => if k < 8 then some (8, k + 3) else none
  | _ => none
def rk (a : Nat) : Nat := if a < 13 then nF a else match a with | 1202 => 4 | 1206 => 2 | 1208 => 2 | 1209 => 8 | 400 => 3 | 300 => 18 | 600 => 8 | 1010 => 5 | _ => 0
/-- where the one reference to a growing row stands -/
def gO (a : Nat) : Nat × Nat := if a = 902 then (8, 2) else if a = 903 then (8, 3) else if a = 107 then (0, 7) else if a = 200 then (1, 0) else if a = 201 then (1, 1) else (1, 2)
def Wg (S : zS) : Prop := ∀ a b k p, gR S a b k = some p → gw p.1 = true → p.1 ≠ 99999 ∧ (a, k) = gO p.1 ∧ b = p.2
/-- rows on their way have the number of cells made so far -/
def Wz (S : zS) : Prop := ∀ m, gC S ≤ m → gE S 99999 m = false
def Sd (S : zS) : Prop := (∀ a b, b < cnt a → gE S a b = true) ∧ (∀ a b k, b < cnt a → k < rk a → gR S a b k = rS a b k) ∧ (∀ a b, gw a = false → b < cnt a → gN S a b = nS a) ∧ Wg S ∧ Wz S
theorem Sd.e {S : zS} (h : Sd S) {a b : Nat} (hb : b < cnt a) : gE S a b = true := h.1 a b hb
theorem Sd.r {S : zS} (h : Sd S) {a b k : Nat} (hb : b < cnt a) (hk : k < rk a) : gR S a b k = rS a b k := h.2.1 a b k hb hk
theorem Sd.n {S : zS} (h : Sd S) {a b : Nat} (hg : gw a = false) (hb : b < cnt a) : gN S a b = nS a := h.2.2.1 a b hg hb
theorem Sd.i {S : zS} (h : Sd S) {a b k : Nat} {v : Int32} : Sd (sI S a b k v) := h
theorem Sd.j {S : zS} (h : Sd S) {a b k : Nat} {v : Int64} : Sd (sJ S a b k v) := h
theorem Sd.some {S : zS} (h : Sd S) : ∃ a b, gE S a b = true := ⟨12, 0, h.e (by decide)⟩
theorem gI_sI {S : zS} {a b k a' b' k' : Nat} {v : Int32} : gI (sI S a b k v) a' b' k' = if a' = a ∧ b' = b ∧ k' = k then v else gI S a' b' k' := rfl
theorem gJ_sJ {S : zS} {a b k a' b' k' : Nat} {v : Int64} : gJ (sJ S a b k v) a' b' k' = if a' = a ∧ b' = b ∧ k' = k then v else gJ S a' b' k' := rfl
theorem gI_sJ {S : zS} {a b k a' b' k' : Nat} {v : Int64} : gI (sJ S a b k v) a' b' k' = gI S a' b' k' := rfl
theorem gJ_sI {S : zS} {a b k a' b' k' : Nat} {v : Int32} : gJ (sI S a b k v) a' b' k' = gJ S a' b' k' := rfl
theorem gN_sI {S : zS} {a b k a' b' : Nat} {v : Int32} : gN (sI S a b k v) a' b' = gN S a' b' := rfl
theorem gN_sJ {S : zS} {a b k a' b' : Nat} {v : Int64} : gN (sJ S a b k v) a' b' = gN S a' b' := rfl
theorem gC_sI {S : zS} {a b k : Nat} {v : Int32} : gC (sI S a b k v) = gC S := rfl
theorem gC_sJ {S : zS} {a b k : Nat} {v : Int64} : gC (sJ S a b k v) = gC S := rfl
theorem gQ_sI {S : zS} {a b k : Nat} {v : Int32} : gQ (sI S a b k v) = gQ S := rfl
theorem gQ_sJ {S : zS} {a b k : Nat} {v : Int64} : gQ (sJ S a b k v) = gQ S := rfl
section
variable {M : mD} {pc q : Nat} {L : List (Option zV)} {st : List zV} {S : zS} {Po : Option zV → zS → Prop} {a b k i N : Nat} {C : String} {T : u_T}
/-- the value on top under another name -/
theorem r_top {u v : zV} (h : u = v) (kk : Ok M pc L (v :: st) S Po) : Ok M pc L (u :: st) S Po := h ▸ kk
theorem r_topi {x y : Int32} (h : x = y) (kk : Ok M pc L (zi y :: st) S Po) : Ok M pc L (zi x :: st) S Po := h ▸ kk
theorem r_topl {x y : Int64} (h : x = y) (kk : Ok M pc L (zl y :: st) S Po) : Ok M pc L (zl x :: st) S Po := h ▸ kk
theorem r_store {S1 : zS} (h : S = S1) (kk : Ok M pc L st S1 Po) : Ok M pc L st S Po := h ▸ kk
theorem r_locs {L1 : List (Option zV)} (h : L = L1) (kk : Ok M pc L1 st S Po) : Ok M pc L st S Po := h ▸ kk
/-- less is known of the locals -/
theorem r_less {L' : List (Option zV)} (hs : ∀ (i : Nat) (v : zV), L'[i]? = some (some v) → L[i]? = some (some v)) (kk : Ok M pc L' st S Po) : Ok M pc L st S Po := by
  obtain ⟨r, S', hp, hC, hQ, hE, hr⟩ := kk
  exact ⟨r, S', hp, hC, hQ, hE, fun X G adr0 adr E0 p0 q0 cx g1 g2 g3 g4 g5 g6 H locs ls hR hS hl => hr X G adr0 adr E0 p0 q0 cx g1 g2 g3 g4 g5 g6 H locs ls hR hS (Lv_less hl hs)⟩
/-- fewer locals, place by place: 'b' says which stay -/
def mask : List Bool → List (Option zV) → List (Option zV)
  | true :: bs, o :: L => o :: mask bs L
  | false :: bs, _ :: L => none :: mask bs L
  | _, _ => []
theorem mask_less : ∀ (bs : List Bool) (L : List (Option zV)) (i : Nat) (v : zV), (mask bs L)[i]? = some (some v) → L[i]? = some (some v)
  | true :: bs, o :: L, 0, v, h => h
  | true :: bs, o :: L, i + 1, v, h => by
    have := mask_less bs L i v (by simpa [mask] using h)
    simpa using this
  | false :: bs, o :: L, 0, v, h => by simp [mask] at h
  | false :: bs, o :: L, i + 1, v, h => by
    have := mask_less bs L i v (by simpa [mask] using h)
    simpa using this
  | [], L, i, v, h => by simp [mask] at h
  | _ :: _, [], i, v, h => by simp [mask] at h
theorem r_mask (bs : List Bool) {L' : List (Option zV)} (h : mask bs L = L') (kk : Ok M pc L' st S Po) : Ok M pc L st S Po := r_less (by subst h; exact mask_less bs L) kk
theorem r_iaddN {x y : Nat} (hd : decode (mb M) pc = .ok (.iadd, 1)) (hq : pc + 1 = q) (kk : Ok M q L (zi (nI (x + y)) :: st) S Po) : Ok M pc L (zi (nI y) :: zi (nI x) :: st) S Po := r_iadd hd hq (by rw [nI_add]; exact kk)
theorem r_isubN {x y : Nat} (h : y ≤ x) (hd : decode (mb M) pc = .ok (.isub, 1)) (hq : pc + 1 = q) (kk : Ok M q L (zi (nI (x - y)) :: st) S Po) : Ok M pc L (zi (nI y) :: zi (nI x) :: st) S Po := r_isub hd hq (by rw [pk_sub h]; exact kk)
theorem r_imulN {x y : Nat} (hd : decode (mb M) pc = .ok (.imul, 1)) (hq : pc + 1 = q) (kk : Ok M q L (zi (nI (x * y)) :: st) S Po) : Ok M pc L (zi (nI y) :: zi (nI x) :: st) S Po := r_imul hd hq (by rw [pk_mul]; exact kk)
theorem nI_nz {y : Nat} (h0 : 0 < y) (hy : y < 2147483648) : ¬ nI y = 0 := nI_ne0 h0 hy
theorem r_iremN {x y : Nat} (hx : x < 2147483648) (h0 : 0 < y) (hy : y < 2147483648) (hd : decode (mb M) pc = .ok (.irem, 1)) (hq : pc + 1 = q) (kk : Ok M q L (zi (nI (x % y)) :: st) S Po) : Ok M pc L (zi (nI y) :: zi (nI x) :: st) S Po := r_irem hd hq (nI_nz h0 hy) (by rw [pk_rem hx h0 hy]; exact kk)
theorem r_idivN {x y : Nat} (hx : x < 2147483648) (h0 : 0 < y) (hy : y < 2147483648) (hd : decode (mb M) pc = .ok (.idiv, 1)) (hq : pc + 1 = q) (kk : Ok M q L (zi (nI (x / y)) :: st) S Po) : Ok M pc L (zi (nI y) :: zi (nI x) :: st) S Po := r_idiv hd hq (nI_nz h0 hy) (by rw [pk_div hx h0 hy]; exact kk)
theorem r_iincN {L' : List (Option zV)} {x : Nat} {n : Int} (m : Nat) (hn0 : Int32.ofInt n = nI m) (hd : decode (mb M) pc = .ok (.iinc i n, 3)) (hq : pc + 3 = q) (hl0 : L[i]? = some (some (zi (nI x)))) (hn : i < mn M) (hL : set1 L i (zi (nI (x + m))) = L') (kk : Ok M q L' st S Po) : Ok M pc L st S Po := r_iinc (nI (x + m)) hd hq hl0 hn (by rw [hn0, nI_add]) hL kk
theorem r_idecN {L' : List (Option zV)} {x : Nat} {n : Int} (m : Nat) (hx : m ≤ x) (hn0 : Int32.ofInt n = -nI m) (hd : decode (mb M) pc = .ok (.iinc i n, 3)) (hq : pc + 3 = q) (hl0 : L[i]? = some (some (zi (nI x)))) (hn : i < mn M) (hL : set1 L i (zi (nI (x - m))) = L') (kk : Ok M q L' st S Po) : Ok M pc L st S Po := r_iinc (nI (x - m)) hd hq hl0 hn (by rw [hn0, ← Int32.sub_eq_add_neg, pk_sub hx]) hL kk
theorem vpN {j n : Nat} (h : j < n) (hn : n < 2147483648) : vp_in (nI j) n := vp_in_nI h hn
theorem clN {j n : Nat} (h : j < n) (hn : n < 2147483648) : (nI j).toNatClampNeg = j := nI_clamp (by omega)
theorem r_ialdN {j : Nat} (n : Nat) (ha : ¬ a < 13) (ht : tN a = 1) (hd : decode (mb M) pc = .ok (.iaload, 1)) (hq : pc + 1 = q) (he : gE S a b = true) (hn : gN S a b = n) (hj : j < n) (hn2 : n < 2147483648) (kk : Ok M q L (zi (gI S a b j) :: st) S Po) : Ok M pc L (zi (nI j) :: zr a b :: st) S Po := by
  refine r_iald ha ht hd hq he (by rw [hn]; exact vpN hj hn2) ?_
  rw [clN hj hn2]
  exact kk
theorem r_baldN {j : Nat} (n : Nat) (ha : ¬ a < 13) (ht : tN a = 0) (hd : decode (mb M) pc = .ok (.baload, 1)) (hq : pc + 1 = q) (he : gE S a b = true) (hn : gN S a b = n) (hj : j < n) (hn2 : n < 2147483648) (kk : Ok M q L (zi (gI S a b j) :: st) S Po) : Ok M pc L (zi (nI j) :: zr a b :: st) S Po := by
  refine r_bald ha ht hd hq he (by rw [hn]; exact vpN hj hn2) ?_
  rw [clN hj hn2]
  exact kk
theorem r_zaldN {j : Nat} (n : Nat) (ha : ¬ a < 13) (ht : tN a = 3) (hd : decode (mb M) pc = .ok (.baload, 1)) (hq : pc + 1 = q) (he : gE S a b = true) (hn : gN S a b = n) (hj : j < n) (hn2 : n < 2147483648) (kk : Ok M q L (zi (gI S a b j) :: st) S Po) : Ok M pc L (zi (nI j) :: zr a b :: st) S Po := by
  refine r_zald ha ht hd hq he (by rw [hn]; exact vpN hj hn2) ?_
  rw [clN hj hn2]
  exact kk
theorem r_laldN {j : Nat} (n : Nat) (ha : ¬ a < 13) (ht : tN a = 2) (hd : decode (mb M) pc = .ok (.laload, 1)) (hq : pc + 1 = q) (he : gE S a b = true) (hn : gN S a b = n) (hj : j < n) (hn2 : n < 2147483648) (kk : Ok M q L (zl (gJ S a b j) :: st) S Po) : Ok M pc L (zi (nI j) :: zr a b :: st) S Po := by
  refine r_lald ha ht hd hq he (by rw [hn]; exact vpN hj hn2) ?_
  rw [clN hj hn2]
  exact kk
theorem r_aaldN {j : Nat} (r : Option (Nat × Nat)) (n : Nat) (ha : ¬ a < 13) (ht : 3 < tN a) (ht9 : tN a < 9) (hd : decode (mb M) pc = .ok (.aaload, 1)) (hq : pc + 1 = q) (he : gE S a b = true) (hn : gN S a b = n) (hj : j < n) (hn2 : n < 2147483648) (hr : gR S a b j = r) (kk : Ok M q L (zq r :: st) S Po) : Ok M pc L (zi (nI j) :: zr a b :: st) S Po :=
  r_aald r ha ht ht9 hd hq he (by rw [hn]; exact vpN hj hn2) (by rw [clN hj hn2]; exact hr) kk
theorem r_iastN {j : Nat} {y : Int32} (n : Nat) (ha : ¬ a < 13) (ht : tN a = 1) (hd : decode (mb M) pc = .ok (.iastore, 1)) (hq : pc + 1 = q) (he : gE S a b = true) (hn : gN S a b = n) (hj : j < n) (hn2 : n < 2147483648) (kk : Ok M q L st (sI S a b j y) Po) : Ok M pc L (zi y :: zi (nI j) :: zr a b :: st) S Po := by
  refine r_iast ha ht hd hq he (by rw [hn]; exact vpN hj hn2) ?_
  rw [clN hj hn2]
  exact kk
theorem r_bastN {j : Nat} {y : Int32} (n : Nat) (ha : ¬ a < 13) (ht : tN a = 0) (hd : decode (mb M) pc = .ok (.bastore, 1)) (hq : pc + 1 = q) (he : gE S a b = true) (hn : gN S a b = n) (hj : j < n) (hn2 : n < 2147483648) (kk : Ok M q L st (sI S a b j y.toInt8.toInt32) Po) : Ok M pc L (zi y :: zi (nI j) :: zr a b :: st) S Po := by
  refine r_bast ha ht hd hq he (by rw [hn]; exact vpN hj hn2) ?_
  rw [clN hj hn2, vp_nar_byte]
  exact kk
theorem r_zastN {j : Nat} {y : Int32} (hy : y = 0 ∨ y = 1) (n : Nat) (ha : ¬ a < 13) (ht : tN a = 3) (hd : decode (mb M) pc = .ok (.bastore, 1)) (hq : pc + 1 = q) (he : gE S a b = true) (hn : gN S a b = n) (hj : j < n) (hn2 : n < 2147483648) (kk : Ok M q L st (sI S a b j y) Po) : Ok M pc L (zi y :: zi (nI j) :: zr a b :: st) S Po := by
  refine r_zast ha ht hd hq he (by rw [hn]; exact vpN hj hn2) ?_
  rw [clN hj hn2, show vp_nar .boolean y = y by rcases hy with rfl | rfl <;> rfl]
  exact kk
theorem r_lastN {j : Nat} {y : Int64} (n : Nat) (ha : ¬ a < 13) (ht : tN a = 2) (hd : decode (mb M) pc = .ok (.lastore, 1)) (hq : pc + 1 = q) (he : gE S a b = true) (hn : gN S a b = n) (hj : j < n) (hn2 : n < 2147483648) (kk : Ok M q L st (sJ S a b j y) Po) : Ok M pc L (zl y :: zi (nI j) :: zr a b :: st) S Po := by
  refine r_last ha ht hd hq he (by rw [hn]; exact vpN hj hn2) ?_
  rw [clN hj hn2]
  exact kk
theorem r_icmp_eqN {x y : Nat} {off : Int} {t : Nat} (hx : x < 2147483648) (hy : y < 2147483648) (hd : decode (mb M) pc = .ok (.if_icmp .eq off, 3)) (ht : (pc : Int) + off = (t : Int)) (hq : pc + 3 = q) (kt : x = y → Ok M t L st S Po) (kf : x ≠ y → Ok M q L st S Po) : Ok M pc L (zi (nI y) :: zi (nI x) :: st) S Po :=
  r_icmp_eq hd ht hq (fun h => kt ((nI_eq hx hy).mp h)) (fun h => kf (by have := mt (nI_eq hx hy).mpr h; omega))
theorem r_icmp_neN {x y : Nat} {off : Int} {t : Nat} (hx : x < 2147483648) (hy : y < 2147483648) (hd : decode (mb M) pc = .ok (.if_icmp .ne off, 3)) (ht : (pc : Int) + off = (t : Int)) (hq : pc + 3 = q) (kt : x ≠ y → Ok M t L st S Po) (kf : x = y → Ok M q L st S Po) : Ok M pc L (zi (nI y) :: zi (nI x) :: st) S Po :=
  r_icmp_ne hd ht hq (fun h => kt ((not_congr (nI_eq hx hy)).mp h)) (fun h => kf (by have := mt (not_congr (nI_eq hx hy)).mpr h; omega))
theorem r_icmp_ltN {x y : Nat} {off : Int} {t : Nat} (hx : x < 2147483648) (hy : y < 2147483648) (hd : decode (mb M) pc = .ok (.if_icmp .lt off, 3)) (ht : (pc : Int) + off = (t : Int)) (hq : pc + 3 = q) (kt : x < y → Ok M t L st S Po) (kf : y ≤ x → Ok M q L st S Po) : Ok M pc L (zi (nI y) :: zi (nI x) :: st) S Po :=
  r_icmp_lt hd ht hq (fun h => kt ((nI_ltI hx hy).mp h)) (fun h => kf (by have := mt (nI_ltI hx hy).mpr h; omega))
theorem r_icmp_geN {x y : Nat} {off : Int} {t : Nat} (hx : x < 2147483648) (hy : y < 2147483648) (hd : decode (mb M) pc = .ok (.if_icmp .ge off, 3)) (ht : (pc : Int) + off = (t : Int)) (hq : pc + 3 = q) (kt : y ≤ x → Ok M t L st S Po) (kf : x < y → Ok M q L st S Po) : Ok M pc L (zi (nI y) :: zi (nI x) :: st) S Po :=
  r_icmp_ge hd ht hq (fun h => kt ((nI_leI hy hx).mp h)) (fun h => kf (by have := mt (nI_leI hy hx).mpr h; omega))
theorem r_icmp_gtN {x y : Nat} {off : Int} {t : Nat} (hx : x < 2147483648) (hy : y < 2147483648) (hd : decode (mb M) pc = .ok (.if_icmp .gt off, 3)) (ht : (pc : Int) + off = (t : Int)) (hq : pc + 3 = q) (kt : y < x → Ok M t L st S Po) (kf : x ≤ y → Ok M q L st S Po) : Ok M pc L (zi (nI y) :: zi (nI x) :: st) S Po :=
  r_icmp_gt hd ht hq (fun h => kt ((nI_ltI hy hx).mp h)) (fun h => kf (by have := mt (nI_ltI hy hx).mpr h; omega))
theorem r_icmp_leN {x y : Nat} {off : Int} {t : Nat} (hx : x < 2147483648) (hy : y < 2147483648) (hd : decode (mb M) pc = .ok (.if_icmp .le off, 3)) (ht : (pc : Int) + off = (t : Int)) (hq : pc + 3 = q) (kt : x ≤ y → Ok M t L st S Po) (kf : y < x → Ok M q L st S Po) : Ok M pc L (zi (nI y) :: zi (nI x) :: st) S Po :=
  r_icmp_le hd ht hq (fun h => kt ((nI_leI hx hy).mp h)) (fun h => kf (by have := mt (nI_leI hx hy).mpr h; omega))
theorem nI0 : (0 : Int32) = nI 0 := nI_0.symm
theorem r_if_eqN {x : Nat} {off : Int} {t : Nat} (hx : x < 2147483648) (hd : decode (mb M) pc = .ok (.ifCond .eq off, 3)) (ht : (pc : Int) + off = (t : Int)) (hq : pc + 3 = q) (kt : x = 0 → Ok M t L st S Po) (kf : 0 < x → Ok M q L st S Po) : Ok M pc L (zi (nI x) :: st) S Po :=
  r_if_eq hd ht hq (fun h => kt (by rw [nI0] at h; have := (nI_eq hx (by decide : 0 < 2147483648)).mp h; omega)) (fun h => kf (by rw [nI0] at h; have := mt (nI_eq hx (by decide : 0 < 2147483648)).mpr h; omega))
theorem r_if_neN {x : Nat} {off : Int} {t : Nat} (hx : x < 2147483648) (hd : decode (mb M) pc = .ok (.ifCond .ne off, 3)) (ht : (pc : Int) + off = (t : Int)) (hq : pc + 3 = q) (kt : 0 < x → Ok M t L st S Po) (kf : x = 0 → Ok M q L st S Po) : Ok M pc L (zi (nI x) :: st) S Po :=
  r_if_ne hd ht hq (fun h => kt (by rw [nI0] at h; have := (not_congr (nI_eq hx (by decide : 0 < 2147483648))).mp h; omega)) (fun h => kf (by rw [nI0] at h; have := mt (not_congr (nI_eq hx (by decide : 0 < 2147483648))).mpr h; omega))
theorem r_if_gtN {x : Nat} {off : Int} {t : Nat} (hx : x < 2147483648) (hd : decode (mb M) pc = .ok (.ifCond .gt off, 3)) (ht : (pc : Int) + off = (t : Int)) (hq : pc + 3 = q) (kt : 0 < x → Ok M t L st S Po) (kf : x = 0 → Ok M q L st S Po) : Ok M pc L (zi (nI x) :: st) S Po :=
  r_if_gt hd ht hq (fun h => kt (by rw [nI0] at h; have := (nI_ltI (by decide : 0 < 2147483648) hx).mp h; omega)) (fun h => kf (by rw [nI0] at h; have := mt (nI_ltI (by decide : 0 < 2147483648) hx).mpr h; omega))
theorem r_if_leN {x : Nat} {off : Int} {t : Nat} (hx : x < 2147483648) (hd : decode (mb M) pc = .ok (.ifCond .le off, 3)) (ht : (pc : Int) + off = (t : Int)) (hq : pc + 3 = q) (kt : x = 0 → Ok M t L st S Po) (kf : 0 < x → Ok M q L st S Po) : Ok M pc L (zi (nI x) :: st) S Po :=
  r_if_le hd ht hq (fun h => kt (by rw [nI0] at h; have := (nI_leI hx (by decide : 0 < 2147483648)).mp h; omega)) (fun h => kf (by rw [nI0] at h; have := mt (nI_leI hx (by decide : 0 < 2147483648)).mpr h; omega))
theorem r_if_ltN {x : Nat} {off : Int} {t : Nat} (hx : x < 2147483648) (hd : decode (mb M) pc = .ok (.ifCond .lt off, 3)) (ht : (pc : Int) + off = (t : Int)) (hq : pc + 3 = q) (kf : Ok M q L st S Po) : Ok M pc L (zi (nI x) :: st) S Po := r_if_lt hd ht hq (fun h => absurd h (nI_pos hx)) (fun _ => kf)
theorem r_if_geN {x : Nat} {off : Int} {t : Nat} (hx : x < 2147483648) (hd : decode (mb M) pc = .ok (.ifCond .ge off, 3)) (ht : (pc : Int) + off = (t : Int)) (hq : pc + 3 = q) (kt : Ok M t L st S Po) : Ok M pc L (zi (nI x) :: st) S Po := r_if_ge hd ht hq (fun _ => kt) (fun h => absurd (nI_pos' hx) h)
end
