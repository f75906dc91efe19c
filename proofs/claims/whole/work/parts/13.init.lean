section
variable {S : zS} {a b k x y z n c lo hi : Nat}
theorem gE_sI {v : Int32} : gE (sI S a b k v) x y = gE S x y := rfl
theorem gE_sJ {v : Int64} : gE (sJ S a b k v) x y = gE S x y := rfl
theorem gE_sR {v : Option (Nat × Nat)} : gE (sR S a b k v) x y = gE S x y := rfl
theorem gE_fl {v : Int32} : gE (flS S a b lo hi v) x y = gE S x y := rfl
theorem gN_sR {v : Option (Nat × Nat)} : gN (sR S a b k v) x y = gN S x y := rfl
theorem gN_fl {v : Int32} : gN (flS S a b lo hi v) x y = gN S x y := rfl
theorem gR_sI {v : Int32} : gR (sI S a b k v) x y z = gR S x y z := rfl
theorem gR_sJ {v : Int64} : gR (sJ S a b k v) x y z = gR S x y z := rfl
theorem gR_fl {v : Int32} : gR (flS S a b lo hi v) x y z = gR S x y z := rfl
theorem gR_sR {v : Option (Nat × Nat)} : gR (sR S a b k v) x y z = if x = a ∧ y = b ∧ z = k then v else gR S x y z := rfl
theorem gI_sR {v : Option (Nat × Nat)} : gI (sR S a b k v) x y z = gI S x y z := rfl
theorem gJ_sR {v : Option (Nat × Nat)} : gJ (sR S a b k v) x y z = gJ S x y z := rfl
theorem gJ_fl {v : Int32} : gJ (flS S a b lo hi v) x y z = gJ S x y z := rfl
variable {a0 b0 a1 b1 sp dp : Nat}
theorem gE_cp : gE (cpS S a0 b0 a1 b1 sp dp n) x y = gE S x y := rfl
theorem gN_cp : gN (cpS S a0 b0 a1 b1 sp dp n) x y = gN S x y := rfl
theorem gR_cp : gR (cpS S a0 b0 a1 b1 sp dp n) x y z = gR S x y z := rfl
end
def iX7_init (S : zS) (j : Nat) : zS := sR (al (sI S 7 j 0 (nI 1)) 801 j 729 729) 7 j 1 (some (801, j))
set_option maxRecDepth 100000 in
theorem ok_X7_init {S : zS} {j : Nat} (he : gE S 7 j = true) (h0 : gE S 801 j = false)  : Ok mX7_init 0 (ent 1 [zr 7 j]) [] S (fun r S1 => r = none ∧ S1 = iX7_init S j) := by
  show Ok mX7_init 0 [some (zr 7 j)] [] S _
  refine r_aload_n (q := 1) dX7_init_0 rfl rfl rfl ?_
  refine r_objInit (q := 4) dX7_init_1 rfl wt36 wt27 wt28 (Nat.le_of_ble_eq_true rfl) (by decide) (by decide) ?_
  refine r_aload_n (q := 5) dX7_init_4 rfl rfl rfl ?_
  refine r_iconst (q := 6) (nI 1) dX7_init_5 rfl (by decide) ?_
  refine r_puti (q := 9) ck7 dX7_init_6 rfl (k := 0) (by decide) wt37 (Or.inl rfl) rfl (by simp [gE_al, gE_alM, gE_sI, gE_sJ, gE_sR, gE_fl, gE_cp, gN_al, gN_alM, gN_sI, gN_sJ, gN_sR, gN_fl, gN_cp, gR_al, gR_alM, gR_sI, gR_sJ, gR_sR, gR_fl, gR_cp, he, h0]) ?_
  refine r_aload_n (q := 10) dX7_init_9 rfl rfl rfl ?_
  refine r_sipush (q := 13) (nI 729) dX7_init_10 rfl (by decide) ?_
  refine r_newa (q := 15) (a := 801) (b := j) (n := 729) (Or.inl (by decide)) (by decide) (by decide) (by decide) rfl dX7_init_13 rfl wt47 (by decide) (by simp [gE_al, gE_alM, gE_sI, gE_sJ, gE_sR, gE_fl, gE_cp, gN_al, gN_alM, gN_sI, gN_sJ, gN_sR, gN_fl, gN_cp, gR_al, gR_alM, gR_sI, gR_sJ, gR_sR, gR_fl, gR_cp, he, h0]) rfl rfl ?_
  refine r_putr (q := 18) (fun p hp => by cases hp; exact (by simp [gE_al, gE_alM, gE_sI, gE_sJ, gE_sR, gE_fl, gE_cp, gN_al, gN_alM, gN_sI, gN_sJ, gN_sR, gN_fl, gN_cp, gR_al, gR_alM, gR_sI, gR_sJ, gR_sR, gR_fl, gR_cp, he, h0])) ck7 dX7_init_15 rfl (k := 1) (by decide) wt40 (Or.inr ⟨rfl, rfl, rfl⟩) rfl (by simp [gE_al, gE_alM, gE_sI, gE_sJ, gE_sR, gE_fl, gE_cp, gN_al, gN_alM, gN_sI, gN_sJ, gN_sR, gN_fl, gN_cp, gR_al, gR_alM, gR_sI, gR_sJ, gR_sR, gR_fl, gR_cp, he, h0]) ?_
  refine r_return dX7_init_18 rfl ?_
  exact ⟨rfl, rfl⟩

def iX8_init (S : zS) (j : Nat) : zS := sR (al (sR (al (sI S 8 j 0 (nI 1)) 902 j 32 32) 8 j 2 (some (902, j))) 903 j 32 32) 8 j 3 (some (903, j))
set_option maxRecDepth 100000 in
theorem ok_X8_init {S : zS} {j : Nat} (he : gE S 8 j = true) (h0 : gE S 902 j = false) (h1 : gE S 903 j = false)  : Ok mX8_init 0 (ent 1 [zr 8 j]) [] S (fun r S1 => r = none ∧ S1 = iX8_init S j) := by
  show Ok mX8_init 0 [some (zr 8 j)] [] S _
  refine r_aload_n (q := 1) dX8_init_0 rfl rfl rfl ?_
  refine r_objInit (q := 4) dX8_init_1 rfl wt54 wt27 wt28 (Nat.le_of_ble_eq_true rfl) (by decide) (by decide) ?_
  refine r_aload_n (q := 5) dX8_init_4 rfl rfl rfl ?_
  refine r_iconst (q := 6) (nI 1) dX8_init_5 rfl (by decide) ?_
  refine r_puti (q := 9) ck8 dX8_init_6 rfl (k := 0) (by decide) wt55 (Or.inl rfl) rfl (by simp [gE_al, gE_alM, gE_sI, gE_sJ, gE_sR, gE_fl, gE_cp, gN_al, gN_alM, gN_sI, gN_sJ, gN_sR, gN_fl, gN_cp, gR_al, gR_alM, gR_sI, gR_sJ, gR_sR, gR_fl, gR_cp, he, h0, h1]) ?_
  refine r_aload_n (q := 10) dX8_init_9 rfl rfl rfl ?_
  refine r_bipush (q := 12) (nI 32) dX8_init_10 rfl (by decide) ?_
  refine r_newa (q := 14) (a := 902) (b := j) (n := 32) (Or.inl (by decide)) (by decide) (by decide) (by decide) rfl dX8_init_12 rfl wt47 (by decide) (by simp [gE_al, gE_alM, gE_sI, gE_sJ, gE_sR, gE_fl, gE_cp, gN_al, gN_alM, gN_sI, gN_sJ, gN_sR, gN_fl, gN_cp, gR_al, gR_alM, gR_sI, gR_sJ, gR_sR, gR_fl, gR_cp, he, h0, h1]) rfl rfl ?_
  refine r_putr (q := 17) (fun p hp => by cases hp; exact (by simp [gE_al, gE_alM, gE_sI, gE_sJ, gE_sR, gE_fl, gE_cp, gN_al, gN_alM, gN_sI, gN_sJ, gN_sR, gN_fl, gN_cp, gR_al, gR_alM, gR_sI, gR_sJ, gR_sR, gR_fl, gR_cp, he, h0, h1])) ck8 dX8_init_14 rfl (k := 2) (by decide) wt69 (Or.inl rfl) rfl (by simp [gE_al, gE_alM, gE_sI, gE_sJ, gE_sR, gE_fl, gE_cp, gN_al, gN_alM, gN_sI, gN_sJ, gN_sR, gN_fl, gN_cp, gR_al, gR_alM, gR_sI, gR_sJ, gR_sR, gR_fl, gR_cp, he, h0, h1]) ?_
  refine r_aload_n (q := 18) dX8_init_17 rfl rfl rfl ?_
  refine r_bipush (q := 20) (nI 32) dX8_init_18 rfl (by decide) ?_
  refine r_newa (q := 22) (a := 903) (b := j) (n := 32) (Or.inl (by decide)) (by decide) (by decide) (by decide) rfl dX8_init_20 rfl wt47 (by decide) (by simp [gE_al, gE_alM, gE_sI, gE_sJ, gE_sR, gE_fl, gE_cp, gN_al, gN_alM, gN_sI, gN_sJ, gN_sR, gN_fl, gN_cp, gR_al, gR_alM, gR_sI, gR_sJ, gR_sR, gR_fl, gR_cp, he, h0, h1]) rfl rfl ?_
  refine r_putr (q := 25) (fun p hp => by cases hp; exact (by simp [gE_al, gE_alM, gE_sI, gE_sJ, gE_sR, gE_fl, gE_cp, gN_al, gN_alM, gN_sI, gN_sJ, gN_sR, gN_fl, gN_cp, gR_al, gR_alM, gR_sI, gR_sJ, gR_sR, gR_fl, gR_cp, he, h0, h1])) ck8 dX8_init_22 rfl (k := 3) (by decide) wt75 (Or.inl rfl) rfl (by simp [gE_al, gE_alM, gE_sI, gE_sJ, gE_sR, gE_fl, gE_cp, gN_al, gN_alM, gN_sI, gN_sJ, gN_sR, gN_fl, gN_cp, gR_al, gR_alM, gR_sI, gR_sJ, gR_sR, gR_fl, gR_cp, he, h0, h1]) ?_
  refine r_return dX8_init_25 rfl ?_
  exact ⟨rfl, rfl⟩

def iX6_init (S : zS) (j : Nat) : zS := sR (al (sR (al (sR (al (sR (al S 700 j 13 13) 6 j 0 (some (700, j))) 701 j 13 13) 6 j 1 (some (701, j))) 702 j 13 13) 6 j 2 (some (702, j))) 703 j 300 300) 6 j 3 (some (703, j))
set_option maxRecDepth 100000 in
theorem ok_X6_init {S : zS} {j : Nat} (he : gE S 6 j = true) (h0 : gE S 700 j = false) (h1 : gE S 701 j = false) (h2 : gE S 702 j = false) (h3 : gE S 703 j = false)  : Ok mX6_init 0 (ent 1 [zr 6 j]) [] S (fun r S1 => r = none ∧ S1 = iX6_init S j) := by
  show Ok mX6_init 0 [some (zr 6 j)] [] S _
  refine r_aload_n (q := 1) dX6_init_0 rfl rfl rfl ?_
  refine r_objInit (q := 4) dX6_init_1 rfl wt96 wt27 wt28 (Nat.le_of_ble_eq_true rfl) (by decide) (by decide) ?_
  refine r_aload_n (q := 5) dX6_init_4 rfl rfl rfl ?_
  refine r_bipush (q := 7) (nI 13) dX6_init_5 rfl (by decide) ?_
  refine r_newa (q := 9) (a := 700) (b := j) (n := 13) (Or.inl (by decide)) (by decide) (by decide) (by decide) rfl dX6_init_7 rfl wt47 (by decide) (by simp [gE_al, gE_alM, gE_sI, gE_sJ, gE_sR, gE_fl, gE_cp, gN_al, gN_alM, gN_sI, gN_sJ, gN_sR, gN_fl, gN_cp, gR_al, gR_alM, gR_sI, gR_sJ, gR_sR, gR_fl, gR_cp, he, h0, h1, h2, h3]) rfl rfl ?_
  refine r_putr (q := 12) (fun p hp => by cases hp; exact (by simp [gE_al, gE_alM, gE_sI, gE_sJ, gE_sR, gE_fl, gE_cp, gN_al, gN_alM, gN_sI, gN_sJ, gN_sR, gN_fl, gN_cp, gR_al, gR_alM, gR_sI, gR_sJ, gR_sR, gR_fl, gR_cp, he, h0, h1, h2, h3])) ck6 dX6_init_9 rfl (k := 0) (by decide) wt97 (Or.inr ⟨rfl, rfl, rfl⟩) rfl (by simp [gE_al, gE_alM, gE_sI, gE_sJ, gE_sR, gE_fl, gE_cp, gN_al, gN_alM, gN_sI, gN_sJ, gN_sR, gN_fl, gN_cp, gR_al, gR_alM, gR_sI, gR_sJ, gR_sR, gR_fl, gR_cp, he, h0, h1, h2, h3]) ?_
  refine r_aload_n (q := 13) dX6_init_12 rfl rfl rfl ?_
  refine r_bipush (q := 15) (nI 13) dX6_init_13 rfl (by decide) ?_
  refine r_newa (q := 17) (a := 701) (b := j) (n := 13) (Or.inl (by decide)) (by decide) (by decide) (by decide) rfl dX6_init_15 rfl wt47 (by decide) (by simp [gE_al, gE_alM, gE_sI, gE_sJ, gE_sR, gE_fl, gE_cp, gN_al, gN_alM, gN_sI, gN_sJ, gN_sR, gN_fl, gN_cp, gR_al, gR_alM, gR_sI, gR_sJ, gR_sR, gR_fl, gR_cp, he, h0, h1, h2, h3]) rfl rfl ?_
  refine r_putr (q := 20) (fun p hp => by cases hp; exact (by simp [gE_al, gE_alM, gE_sI, gE_sJ, gE_sR, gE_fl, gE_cp, gN_al, gN_alM, gN_sI, gN_sJ, gN_sR, gN_fl, gN_cp, gR_al, gR_alM, gR_sI, gR_sJ, gR_sR, gR_fl, gR_cp, he, h0, h1, h2, h3])) ck6 dX6_init_17 rfl (k := 1) (by decide) wt99 (Or.inr ⟨rfl, rfl, rfl⟩) rfl (by simp [gE_al, gE_alM, gE_sI, gE_sJ, gE_sR, gE_fl, gE_cp, gN_al, gN_alM, gN_sI, gN_sJ, gN_sR, gN_fl, gN_cp, gR_al, gR_alM, gR_sI, gR_sJ, gR_sR, gR_fl, gR_cp, he, h0, h1, h2, h3]) ?_
  refine r_aload_n (q := 21) dX6_init_20 rfl rfl rfl ?_
  refine r_bipush (q := 23) (nI 13) dX6_init_21 rfl (by decide) ?_
  refine r_newa (q := 25) (a := 702) (b := j) (n := 13) (Or.inl (by decide)) (by decide) (by decide) (by decide) rfl dX6_init_23 rfl wt47 (by decide) (by simp [gE_al, gE_alM, gE_sI, gE_sJ, gE_sR, gE_fl, gE_cp, gN_al, gN_alM, gN_sI, gN_sJ, gN_sR, gN_fl, gN_cp, gR_al, gR_alM, gR_sI, gR_sJ, gR_sR, gR_fl, gR_cp, he, h0, h1, h2, h3]) rfl rfl ?_
  refine r_putr (q := 28) (fun p hp => by cases hp; exact (by simp [gE_al, gE_alM, gE_sI, gE_sJ, gE_sR, gE_fl, gE_cp, gN_al, gN_alM, gN_sI, gN_sJ, gN_sR, gN_fl, gN_cp, gR_al, gR_alM, gR_sI, gR_sJ, gR_sR, gR_fl, gR_cp, he, h0, h1, h2, h3])) ck6 dX6_init_25 rfl (k := 2) (by decide) wt101 (Or.inr ⟨rfl, rfl, rfl⟩) rfl (by simp [gE_al, gE_alM, gE_sI, gE_sJ, gE_sR, gE_fl, gE_cp, gN_al, gN_alM, gN_sI, gN_sJ, gN_sR, gN_fl, gN_cp, gR_al, gR_alM, gR_sI, gR_sJ, gR_sR, gR_fl, gR_cp, he, h0, h1, h2, h3]) ?_
  refine r_aload_n (q := 29) dX6_init_28 rfl rfl rfl ?_
  refine r_sipush (q := 32) (nI 300) dX6_init_29 rfl (by decide) ?_
  refine r_newa (q := 34) (a := 703) (b := j) (n := 300) (Or.inl (by decide)) (by decide) (by decide) (by decide) rfl dX6_init_32 rfl wt47 (by decide) (by simp [gE_al, gE_alM, gE_sI, gE_sJ, gE_sR, gE_fl, gE_cp, gN_al, gN_alM, gN_sI, gN_sJ, gN_sR, gN_fl, gN_cp, gR_al, gR_alM, gR_sI, gR_sJ, gR_sR, gR_fl, gR_cp, he, h0, h1, h2, h3]) rfl rfl ?_
  refine r_putr (q := 37) (fun p hp => by cases hp; exact (by simp [gE_al, gE_alM, gE_sI, gE_sJ, gE_sR, gE_fl, gE_cp, gN_al, gN_alM, gN_sI, gN_sJ, gN_sR, gN_fl, gN_cp, gR_al, gR_alM, gR_sI, gR_sJ, gR_sR, gR_fl, gR_cp, he, h0, h1, h2, h3])) ck6 dX6_init_34 rfl (k := 3) (by decide) wt102 (Or.inr ⟨rfl, rfl, rfl⟩) rfl (by simp [gE_al, gE_alM, gE_sI, gE_sJ, gE_sR, gE_fl, gE_cp, gN_al, gN_alM, gN_sI, gN_sJ, gN_sR, gN_fl, gN_cp, gR_al, gR_alM, gR_sI, gR_sJ, gR_sR, gR_fl, gR_cp, he, h0, h1, h2, h3]) ?_
  refine r_return dX6_init_37 rfl ?_
  exact ⟨rfl, rfl⟩

def iX9_init (S : zS) (j : Nat) : zS := sJ (sI (sR (alM (sR (al (sR (al (sR (al (sR (al (sR (al (sR (al (sR (al S 1002 j 3 3) 9 j 2 (some (1002, j))) 1003 j 3 3) 9 j 3 (some (1003, j))) 1005 j 18 18) 9 j 5 (some (1005, j))) 1006 j 19 19) 9 j 6 (some (1006, j))) 1007 j 200 200) 9 j 7 (some (1007, j))) 1008 j 200 200) 9 j 8 (some (1008, j))) 1009 j 11 11) 9 j 9 (some (1009, j))) 1010 j 5 11010 (5 * j) 11) 9 j 10 (some (1010, j))) 9 j 0 (nI 97)) 1009 j 1 (1 : Int64)
set_option maxRecDepth 100000 in
theorem ok_X9_init {S : zS} {j : Nat} (he : gE S 9 j = true) (h0 : gE S 1002 j = false) (h1 : gE S 1003 j = false) (h2 : gE S 1005 j = false) (h3 : gE S 1006 j = false) (h4 : gE S 1007 j = false) (h5 : gE S 1008 j = false) (h6 : gE S 1009 j = false) (h7 : gE S 1010 j = false) (hrows : ∀ i, i < 5 → gE S 11010 (5 * j + i) = false) : Ok mX9_init 0 (ent 1 [zr 9 j]) [] S (fun r S1 => r = none ∧ S1 = iX9_init S j) := by
  show Ok mX9_init 0 [some (zr 9 j)] [] S _
  refine r_aload_n (q := 1) dX9_init_0 rfl rfl rfl ?_
  refine r_objInit (q := 4) dX9_init_1 rfl wt287 wt27 wt28 (Nat.le_of_ble_eq_true rfl) (by decide) (by decide) ?_
  refine r_aload_n (q := 5) dX9_init_4 rfl rfl rfl ?_
  refine r_iconst (q := 6) (nI 3) dX9_init_5 rfl (by decide) ?_
  refine r_newa (q := 8) (a := 1002) (b := j) (n := 3) (Or.inl (by decide)) (by decide) (by decide) (by decide) rfl dX9_init_6 rfl wt173 (by decide) (by simp [gE_al, gE_alM, gE_sI, gE_sJ, gE_sR, gE_fl, gE_cp, gN_al, gN_alM, gN_sI, gN_sJ, gN_sR, gN_fl, gN_cp, gR_al, gR_alM, gR_sI, gR_sJ, gR_sR, gR_fl, gR_cp, he, h0, h1, h2, h3, h4, h5, h6, h7]) rfl rfl ?_
  refine r_putr (q := 11) (fun p hp => by cases hp; exact (by simp [gE_al, gE_alM, gE_sI, gE_sJ, gE_sR, gE_fl, gE_cp, gN_al, gN_alM, gN_sI, gN_sJ, gN_sR, gN_fl, gN_cp, gR_al, gR_alM, gR_sI, gR_sJ, gR_sR, gR_fl, gR_cp, he, h0, h1, h2, h3, h4, h5, h6, h7])) ck9 dX9_init_8 rfl (k := 2) (by decide) wt301 (Or.inr ⟨rfl, rfl, rfl⟩) rfl (by simp [gE_al, gE_alM, gE_sI, gE_sJ, gE_sR, gE_fl, gE_cp, gN_al, gN_alM, gN_sI, gN_sJ, gN_sR, gN_fl, gN_cp, gR_al, gR_alM, gR_sI, gR_sJ, gR_sR, gR_fl, gR_cp, he, h0, h1, h2, h3, h4, h5, h6, h7]) ?_
  refine r_aload_n (q := 12) dX9_init_11 rfl rfl rfl ?_
  refine r_iconst (q := 13) (nI 3) dX9_init_12 rfl (by decide) ?_
  refine r_newa (q := 15) (a := 1003) (b := j) (n := 3) (Or.inl (by decide)) (by decide) (by decide) (by decide) rfl dX9_init_13 rfl wt47 (by decide) (by simp [gE_al, gE_alM, gE_sI, gE_sJ, gE_sR, gE_fl, gE_cp, gN_al, gN_alM, gN_sI, gN_sJ, gN_sR, gN_fl, gN_cp, gR_al, gR_alM, gR_sI, gR_sJ, gR_sR, gR_fl, gR_cp, he, h0, h1, h2, h3, h4, h5, h6, h7]) rfl rfl ?_
  refine r_putr (q := 18) (fun p hp => by cases hp; exact (by simp [gE_al, gE_alM, gE_sI, gE_sJ, gE_sR, gE_fl, gE_cp, gN_al, gN_alM, gN_sI, gN_sJ, gN_sR, gN_fl, gN_cp, gR_al, gR_alM, gR_sI, gR_sJ, gR_sR, gR_fl, gR_cp, he, h0, h1, h2, h3, h4, h5, h6, h7])) ck9 dX9_init_15 rfl (k := 3) (by decide) wt304 (Or.inr ⟨rfl, rfl, rfl⟩) rfl (by simp [gE_al, gE_alM, gE_sI, gE_sJ, gE_sR, gE_fl, gE_cp, gN_al, gN_alM, gN_sI, gN_sJ, gN_sR, gN_fl, gN_cp, gR_al, gR_alM, gR_sI, gR_sJ, gR_sR, gR_fl, gR_cp, he, h0, h1, h2, h3, h4, h5, h6, h7]) ?_
  refine r_aload_n (q := 19) dX9_init_18 rfl rfl rfl ?_
  refine r_bipush (q := 21) (nI 18) dX9_init_19 rfl (by decide) ?_
  refine r_newa (q := 23) (a := 1005) (b := j) (n := 18) (Or.inl (by decide)) (by decide) (by decide) (by decide) rfl dX9_init_21 rfl wt47 (by decide) (by simp [gE_al, gE_alM, gE_sI, gE_sJ, gE_sR, gE_fl, gE_cp, gN_al, gN_alM, gN_sI, gN_sJ, gN_sR, gN_fl, gN_cp, gR_al, gR_alM, gR_sI, gR_sJ, gR_sR, gR_fl, gR_cp, he, h0, h1, h2, h3, h4, h5, h6, h7]) rfl rfl ?_
  refine r_putr (q := 26) (fun p hp => by cases hp; exact (by simp [gE_al, gE_alM, gE_sI, gE_sJ, gE_sR, gE_fl, gE_cp, gN_al, gN_alM, gN_sI, gN_sJ, gN_sR, gN_fl, gN_cp, gR_al, gR_alM, gR_sI, gR_sJ, gR_sR, gR_fl, gR_cp, he, h0, h1, h2, h3, h4, h5, h6, h7])) ck9 dX9_init_23 rfl (k := 5) (by decide) wt317 (Or.inr ⟨rfl, rfl, rfl⟩) rfl (by simp [gE_al, gE_alM, gE_sI, gE_sJ, gE_sR, gE_fl, gE_cp, gN_al, gN_alM, gN_sI, gN_sJ, gN_sR, gN_fl, gN_cp, gR_al, gR_alM, gR_sI, gR_sJ, gR_sR, gR_fl, gR_cp, he, h0, h1, h2, h3, h4, h5, h6, h7]) ?_
  refine r_aload_n (q := 27) dX9_init_26 rfl rfl rfl ?_
  refine r_bipush (q := 29) (nI 19) dX9_init_27 rfl (by decide) ?_
  refine r_newa (q := 31) (a := 1006) (b := j) (n := 19) (Or.inl (by decide)) (by decide) (by decide) (by decide) rfl dX9_init_29 rfl wt47 (by decide) (by simp [gE_al, gE_alM, gE_sI, gE_sJ, gE_sR, gE_fl, gE_cp, gN_al, gN_alM, gN_sI, gN_sJ, gN_sR, gN_fl, gN_cp, gR_al, gR_alM, gR_sI, gR_sJ, gR_sR, gR_fl, gR_cp, he, h0, h1, h2, h3, h4, h5, h6, h7]) rfl rfl ?_
  refine r_putr (q := 34) (fun p hp => by cases hp; exact (by simp [gE_al, gE_alM, gE_sI, gE_sJ, gE_sR, gE_fl, gE_cp, gN_al, gN_alM, gN_sI, gN_sJ, gN_sR, gN_fl, gN_cp, gR_al, gR_alM, gR_sI, gR_sJ, gR_sR, gR_fl, gR_cp, he, h0, h1, h2, h3, h4, h5, h6, h7])) ck9 dX9_init_31 rfl (k := 6) (by decide) wt322 (Or.inr ⟨rfl, rfl, rfl⟩) rfl (by simp [gE_al, gE_alM, gE_sI, gE_sJ, gE_sR, gE_fl, gE_cp, gN_al, gN_alM, gN_sI, gN_sJ, gN_sR, gN_fl, gN_cp, gR_al, gR_alM, gR_sI, gR_sJ, gR_sR, gR_fl, gR_cp, he, h0, h1, h2, h3, h4, h5, h6, h7]) ?_
  refine r_aload_n (q := 35) dX9_init_34 rfl rfl rfl ?_
  refine r_sipush (q := 38) (nI 200) dX9_init_35 rfl (by decide) ?_
  refine r_newa (q := 40) (a := 1007) (b := j) (n := 200) (Or.inl (by decide)) (by decide) (by decide) (by decide) rfl dX9_init_38 rfl wt47 (by decide) (by simp [gE_al, gE_alM, gE_sI, gE_sJ, gE_sR, gE_fl, gE_cp, gN_al, gN_alM, gN_sI, gN_sJ, gN_sR, gN_fl, gN_cp, gR_al, gR_alM, gR_sI, gR_sJ, gR_sR, gR_fl, gR_cp, he, h0, h1, h2, h3, h4, h5, h6, h7]) rfl rfl ?_
  refine r_putr (q := 43) (fun p hp => by cases hp; exact (by simp [gE_al, gE_alM, gE_sI, gE_sJ, gE_sR, gE_fl, gE_cp, gN_al, gN_alM, gN_sI, gN_sJ, gN_sR, gN_fl, gN_cp, gR_al, gR_alM, gR_sI, gR_sJ, gR_sR, gR_fl, gR_cp, he, h0, h1, h2, h3, h4, h5, h6, h7])) ck9 dX9_init_40 rfl (k := 7) (by decide) wt328 (Or.inr ⟨rfl, rfl, rfl⟩) rfl (by simp [gE_al, gE_alM, gE_sI, gE_sJ, gE_sR, gE_fl, gE_cp, gN_al, gN_alM, gN_sI, gN_sJ, gN_sR, gN_fl, gN_cp, gR_al, gR_alM, gR_sI, gR_sJ, gR_sR, gR_fl, gR_cp, he, h0, h1, h2, h3, h4, h5, h6, h7]) ?_
  refine r_aload_n (q := 44) dX9_init_43 rfl rfl rfl ?_
  refine r_sipush (q := 47) (nI 200) dX9_init_44 rfl (by decide) ?_
  refine r_newa (q := 49) (a := 1008) (b := j) (n := 200) (Or.inl (by decide)) (by decide) (by decide) (by decide) rfl dX9_init_47 rfl wt47 (by decide) (by simp [gE_al, gE_alM, gE_sI, gE_sJ, gE_sR, gE_fl, gE_cp, gN_al, gN_alM, gN_sI, gN_sJ, gN_sR, gN_fl, gN_cp, gR_al, gR_alM, gR_sI, gR_sJ, gR_sR, gR_fl, gR_cp, he, h0, h1, h2, h3, h4, h5, h6, h7]) rfl rfl ?_
  refine r_putr (q := 52) (fun p hp => by cases hp; exact (by simp [gE_al, gE_alM, gE_sI, gE_sJ, gE_sR, gE_fl, gE_cp, gN_al, gN_alM, gN_sI, gN_sJ, gN_sR, gN_fl, gN_cp, gR_al, gR_alM, gR_sI, gR_sJ, gR_sR, gR_fl, gR_cp, he, h0, h1, h2, h3, h4, h5, h6, h7])) ck9 dX9_init_49 rfl (k := 8) (by decide) wt333 (Or.inr ⟨rfl, rfl, rfl⟩) rfl (by simp [gE_al, gE_alM, gE_sI, gE_sJ, gE_sR, gE_fl, gE_cp, gN_al, gN_alM, gN_sI, gN_sJ, gN_sR, gN_fl, gN_cp, gR_al, gR_alM, gR_sI, gR_sJ, gR_sR, gR_fl, gR_cp, he, h0, h1, h2, h3, h4, h5, h6, h7]) ?_
  refine r_aload_n (q := 53) dX9_init_52 rfl rfl rfl ?_
  refine r_bipush (q := 55) (nI 11) dX9_init_53 rfl (by decide) ?_
  refine r_newa (q := 57) (a := 1009) (b := j) (n := 11) (Or.inl (by decide)) (by decide) (by decide) (by decide) rfl dX9_init_55 rfl wt173 (by decide) (by simp [gE_al, gE_alM, gE_sI, gE_sJ, gE_sR, gE_fl, gE_cp, gN_al, gN_alM, gN_sI, gN_sJ, gN_sR, gN_fl, gN_cp, gR_al, gR_alM, gR_sI, gR_sJ, gR_sR, gR_fl, gR_cp, he, h0, h1, h2, h3, h4, h5, h6, h7]) rfl rfl ?_
  refine r_putr (q := 60) (fun p hp => by cases hp; exact (by simp [gE_al, gE_alM, gE_sI, gE_sJ, gE_sR, gE_fl, gE_cp, gN_al, gN_alM, gN_sI, gN_sJ, gN_sR, gN_fl, gN_cp, gR_al, gR_alM, gR_sI, gR_sJ, gR_sR, gR_fl, gR_cp, he, h0, h1, h2, h3, h4, h5, h6, h7])) ck9 dX9_init_57 rfl (k := 9) (by decide) wt338 (Or.inr ⟨rfl, rfl, rfl⟩) rfl (by simp [gE_al, gE_alM, gE_sI, gE_sJ, gE_sR, gE_fl, gE_cp, gN_al, gN_alM, gN_sI, gN_sJ, gN_sR, gN_fl, gN_cp, gR_al, gR_alM, gR_sI, gR_sJ, gR_sR, gR_fl, gR_cp, he, h0, h1, h2, h3, h4, h5, h6, h7]) ?_
  refine r_aload_n (q := 61) dX9_init_60 rfl rfl rfl ?_
  refine r_iconst (q := 62) (nI 5) dX9_init_61 rfl (by decide) ?_
  refine r_bipush (q := 64) (nI 11) dX9_init_62 rfl (by decide) ?_
  refine r_multi (q := 68) (a := 1010) (b := j) (n := 5) (ar := 11010) (f := 5 * j) (m := 11) (ty := .long) (by decide) (by decide) (by decide) (by decide) (by decide) (by decide) (by decide) (by decide) (by decide) rfl rfl (fun _ _ h => h.2.2.2.2.2.2) dX9_init_64 rfl wt288 wt173 (by decide) (by decide) (by simp [gE_al, gE_alM, gE_sI, gE_sJ, gE_sR, gE_fl, gE_cp, gN_al, gN_alM, gN_sI, gN_sJ, gN_sR, gN_fl, gN_cp, gR_al, gR_alM, gR_sI, gR_sJ, gR_sR, gR_fl, gR_cp, he, h0, h1, h2, h3, h4, h5, h6, h7]) (fun y y1 y2 => (by have h9 := hrows (y - 5 * j) (by omega); rw [show 5 * j + (y - 5 * j) = y by omega] at h9; simp [gE_al, gE_alM, gE_sI, gE_sJ, gE_sR, gE_fl, gE_cp, gN_al, gN_alM, gN_sI, gN_sJ, gN_sR, gN_fl, gN_cp, gR_al, gR_alM, gR_sI, gR_sJ, gR_sR, gR_fl, gR_cp, h9])) (by simp [nMl, nM]) (by simp [nMs, nM]) ?_
  refine r_putr (q := 71) (fun p hp => by cases hp; exact (by simp [gE_al, gE_alM, gE_sI, gE_sJ, gE_sR, gE_fl, gE_cp, gN_al, gN_alM, gN_sI, gN_sJ, gN_sR, gN_fl, gN_cp, gR_al, gR_alM, gR_sI, gR_sJ, gR_sR, gR_fl, gR_cp, he, h0, h1, h2, h3, h4, h5, h6, h7])) ck9 dX9_init_68 rfl (k := 10) (by decide) wt341 (Or.inr ⟨rfl, rfl, rfl⟩) rfl (by simp [gE_al, gE_alM, gE_sI, gE_sJ, gE_sR, gE_fl, gE_cp, gN_al, gN_alM, gN_sI, gN_sJ, gN_sR, gN_fl, gN_cp, gR_al, gR_alM, gR_sI, gR_sJ, gR_sR, gR_fl, gR_cp, he, h0, h1, h2, h3, h4, h5, h6, h7]) ?_
  refine r_aload_n (q := 72) dX9_init_71 rfl rfl rfl ?_
  refine r_bipush (q := 74) (nI 97) dX9_init_72 rfl (by decide) ?_
  refine r_puti (q := 77) ck9 dX9_init_74 rfl (k := 0) (by decide) wt289 (Or.inl rfl) rfl (by simp [gE_al, gE_alM, gE_sI, gE_sJ, gE_sR, gE_fl, gE_cp, gN_al, gN_alM, gN_sI, gN_sJ, gN_sR, gN_fl, gN_cp, gR_al, gR_alM, gR_sI, gR_sJ, gR_sR, gR_fl, gR_cp, he, h0, h1, h2, h3, h4, h5, h6, h7]) ?_
  refine r_aload_n (q := 78) dX9_init_77 rfl rfl rfl ?_
  refine r_getr (q := 81) (some (1009, j)) ck9 dX9_init_78 rfl (k := 9) (by decide) wt338 rfl (by simp [gE_al, gE_alM, gE_sI, gE_sJ, gE_sR, gE_fl, gE_cp, gN_al, gN_alM, gN_sI, gN_sJ, gN_sR, gN_fl, gN_cp, gR_al, gR_alM, gR_sI, gR_sJ, gR_sR, gR_fl, gR_cp, he, h0, h1, h2, h3, h4, h5, h6, h7]) (by simp [gE_al, gE_alM, gE_sI, gE_sJ, gE_sR, gE_fl, gE_cp, gN_al, gN_alM, gN_sI, gN_sJ, gN_sR, gN_fl, gN_cp, gR_al, gR_alM, gR_sI, gR_sJ, gR_sR, gR_fl, gR_cp, he, h0, h1, h2, h3, h4, h5, h6, h7]) ?_
  refine r_iconst (q := 82) (nI 1) dX9_init_81 rfl (by decide) ?_
  refine r_lconst (q := 83) (1 : Int64) dX9_init_82 rfl rfl ?_
  refine r_lastN (q := 84) 11 (by decide) rfl dX9_init_83 rfl (by simp [gE_al, gE_alM, gE_sI, gE_sJ, gE_sR, gE_fl, gE_cp, gN_al, gN_alM, gN_sI, gN_sJ, gN_sR, gN_fl, gN_cp, gR_al, gR_alM, gR_sI, gR_sJ, gR_sR, gR_fl, gR_cp, he, h0, h1, h2, h3, h4, h5, h6, h7]) (by simp [gE_al, gE_alM, gE_sI, gE_sJ, gE_sR, gE_fl, gE_cp, gN_al, gN_alM, gN_sI, gN_sJ, gN_sR, gN_fl, gN_cp, gR_al, gR_alM, gR_sI, gR_sJ, gR_sR, gR_fl, gR_cp, he, h0, h1, h2, h3, h4, h5, h6, h7]) (by omega) (by decide) ?_
  refine r_return dX9_init_84 rfl ?_
  exact ⟨rfl, rfl⟩

def iX10_init (S : zS) : zS := sR (al (sR (al (sR (al S 1100 0 13 13) 10 0 0 (some (1100, 0))) 1101 0 13 13) 10 0 1 (some (1101, 0))) 1102 0 64 64) 10 0 2 (some (1102, 0))
set_option maxRecDepth 100000 in
theorem ok_X10_init {S : zS} (he : gE S 10 0 = true) (h0 : gE S 1100 0 = false) (h1 : gE S 1101 0 = false) (h2 : gE S 1102 0 = false)  : Ok mX10_init 0 (ent 1 [zr 10 0]) [] S (fun r S1 => r = none ∧ S1 = iX10_init S) := by
  show Ok mX10_init 0 [some (zr 10 0)] [] S _
  refine r_aload_n (q := 1) dX10_init_0 rfl rfl rfl ?_
  refine r_objInit (q := 4) dX10_init_1 rfl wt179 wt27 wt28 (Nat.le_of_ble_eq_true rfl) (by decide) (by decide) ?_
  refine r_aload_n (q := 5) dX10_init_4 rfl rfl rfl ?_
  refine r_bipush (q := 7) (nI 13) dX10_init_5 rfl (by decide) ?_
  refine r_newa (q := 9) (a := 1100) (b := 0) (n := 13) (Or.inl (by decide)) (by decide) (by decide) (by decide) rfl dX10_init_7 rfl wt47 (by decide) (by simp [gE_al, gE_alM, gE_sI, gE_sJ, gE_sR, gE_fl, gE_cp, gN_al, gN_alM, gN_sI, gN_sJ, gN_sR, gN_fl, gN_cp, gR_al, gR_alM, gR_sI, gR_sJ, gR_sR, gR_fl, gR_cp, he, h0, h1, h2]) rfl rfl ?_
  refine r_putr (q := 12) (fun p hp => by cases hp; exact (by simp [gE_al, gE_alM, gE_sI, gE_sJ, gE_sR, gE_fl, gE_cp, gN_al, gN_alM, gN_sI, gN_sJ, gN_sR, gN_fl, gN_cp, gR_al, gR_alM, gR_sI, gR_sJ, gR_sR, gR_fl, gR_cp, he, h0, h1, h2])) ck10 dX10_init_9 rfl (k := 0) (by decide) wt180 (Or.inr ⟨rfl, rfl, rfl⟩) rfl (by simp [gE_al, gE_alM, gE_sI, gE_sJ, gE_sR, gE_fl, gE_cp, gN_al, gN_alM, gN_sI, gN_sJ, gN_sR, gN_fl, gN_cp, gR_al, gR_alM, gR_sI, gR_sJ, gR_sR, gR_fl, gR_cp, he, h0, h1, h2]) ?_
  refine r_aload_n (q := 13) dX10_init_12 rfl rfl rfl ?_
  refine r_bipush (q := 15) (nI 13) dX10_init_13 rfl (by decide) ?_
  refine r_newa (q := 17) (a := 1101) (b := 0) (n := 13) (Or.inl (by decide)) (by decide) (by decide) (by decide) rfl dX10_init_15 rfl wt47 (by decide) (by simp [gE_al, gE_alM, gE_sI, gE_sJ, gE_sR, gE_fl, gE_cp, gN_al, gN_alM, gN_sI, gN_sJ, gN_sR, gN_fl, gN_cp, gR_al, gR_alM, gR_sI, gR_sJ, gR_sR, gR_fl, gR_cp, he, h0, h1, h2]) rfl rfl ?_
  refine r_putr (q := 20) (fun p hp => by cases hp; exact (by simp [gE_al, gE_alM, gE_sI, gE_sJ, gE_sR, gE_fl, gE_cp, gN_al, gN_alM, gN_sI, gN_sJ, gN_sR, gN_fl, gN_cp, gR_al, gR_alM, gR_sI, gR_sJ, gR_sR, gR_fl, gR_cp, he, h0, h1, h2])) ck10 dX10_init_17 rfl (k := 1) (by decide) wt181 (Or.inr ⟨rfl, rfl, rfl⟩) rfl (by simp [gE_al, gE_alM, gE_sI, gE_sJ, gE_sR, gE_fl, gE_cp, gN_al, gN_alM, gN_sI, gN_sJ, gN_sR, gN_fl, gN_cp, gR_al, gR_alM, gR_sI, gR_sJ, gR_sR, gR_fl, gR_cp, he, h0, h1, h2]) ?_
  refine r_aload_n (q := 21) dX10_init_20 rfl rfl rfl ?_
  refine r_bipush (q := 23) (nI 64) dX10_init_21 rfl (by decide) ?_
  refine r_newa (q := 25) (a := 1102) (b := 0) (n := 64) (Or.inl (by decide)) (by decide) (by decide) (by decide) rfl dX10_init_23 rfl wt47 (by decide) (by simp [gE_al, gE_alM, gE_sI, gE_sJ, gE_sR, gE_fl, gE_cp, gN_al, gN_alM, gN_sI, gN_sJ, gN_sR, gN_fl, gN_cp, gR_al, gR_alM, gR_sI, gR_sJ, gR_sR, gR_fl, gR_cp, he, h0, h1, h2]) rfl rfl ?_
  refine r_putr (q := 28) (fun p hp => by cases hp; exact (by simp [gE_al, gE_alM, gE_sI, gE_sJ, gE_sR, gE_fl, gE_cp, gN_al, gN_alM, gN_sI, gN_sJ, gN_sR, gN_fl, gN_cp, gR_al, gR_alM, gR_sI, gR_sJ, gR_sR, gR_fl, gR_cp, he, h0, h1, h2])) ck10 dX10_init_25 rfl (k := 2) (by decide) wt182 (Or.inr ⟨rfl, rfl, rfl⟩) rfl (by simp [gE_al, gE_alM, gE_sI, gE_sJ, gE_sR, gE_fl, gE_cp, gN_al, gN_alM, gN_sI, gN_sJ, gN_sR, gN_fl, gN_cp, gR_al, gR_alM, gR_sI, gR_sJ, gR_sR, gR_fl, gR_cp, he, h0, h1, h2]) ?_
  refine r_return dX10_init_28 rfl ?_
  exact ⟨rfl, rfl⟩

def iX1_init (S : zS) : zS := sR (al (sR (al (sR (al (sR (al (sR (al (sR (al S 200 0 0 0) 1 0 0 (some (200, 0))) 201 0 0 0) 1 0 1 (some (201, 0))) 202 0 0 0) 1 0 2 (some (202, 0))) 203 0 13 13) 1 0 3 (some (203, 0))) 204 0 39 39) 1 0 4 (some (204, 0))) 205 0 3 3) 1 0 5 (some (205, 0))
set_option maxRecDepth 100000 in
theorem ok_X1_init {S : zS} (he : gE S 1 0 = true) (h0 : gE S 200 0 = false) (h1 : gE S 201 0 = false) (h2 : gE S 202 0 = false) (h3 : gE S 203 0 = false) (h4 : gE S 204 0 = false) (h5 : gE S 205 0 = false)  : Ok mX1_init 0 (ent 1 [zr 1 0]) [] S (fun r S1 => r = none ∧ S1 = iX1_init S) := by
  show Ok mX1_init 0 [some (zr 1 0)] [] S _
  refine r_aload_n (q := 1) dX1_init_0 rfl rfl rfl ?_
  refine r_objInit (q := 4) dX1_init_1 rfl wt227 wt27 wt28 (Nat.le_of_ble_eq_true rfl) (by decide) (by decide) ?_
  refine r_aload_n (q := 5) dX1_init_4 rfl rfl rfl ?_
  refine r_iconst (q := 6) (nI 0) dX1_init_5 rfl (by decide) ?_
  refine r_newa (q := 8) (a := 200) (b := 0) (n := 0) (Or.inl (by decide)) (by decide) (by decide) (by decide) rfl dX1_init_6 rfl wt47 (by decide) (by simp [gE_al, gE_alM, gE_sI, gE_sJ, gE_sR, gE_fl, gE_cp, gN_al, gN_alM, gN_sI, gN_sJ, gN_sR, gN_fl, gN_cp, gR_al, gR_alM, gR_sI, gR_sJ, gR_sR, gR_fl, gR_cp, he, h0, h1, h2, h3, h4, h5]) rfl rfl ?_
  refine r_putr (q := 11) (fun p hp => by cases hp; exact (by simp [gE_al, gE_alM, gE_sI, gE_sJ, gE_sR, gE_fl, gE_cp, gN_al, gN_alM, gN_sI, gN_sJ, gN_sR, gN_fl, gN_cp, gR_al, gR_alM, gR_sI, gR_sJ, gR_sR, gR_fl, gR_cp, he, h0, h1, h2, h3, h4, h5])) ck1 dX1_init_8 rfl (k := 0) (by decide) wt228 (Or.inl rfl) rfl (by simp [gE_al, gE_alM, gE_sI, gE_sJ, gE_sR, gE_fl, gE_cp, gN_al, gN_alM, gN_sI, gN_sJ, gN_sR, gN_fl, gN_cp, gR_al, gR_alM, gR_sI, gR_sJ, gR_sR, gR_fl, gR_cp, he, h0, h1, h2, h3, h4, h5]) ?_
  refine r_aload_n (q := 12) dX1_init_11 rfl rfl rfl ?_
  refine r_iconst (q := 13) (nI 0) dX1_init_12 rfl (by decide) ?_
  refine r_newa (q := 15) (a := 201) (b := 0) (n := 0) (Or.inl (by decide)) (by decide) (by decide) (by decide) rfl dX1_init_13 rfl wt47 (by decide) (by simp [gE_al, gE_alM, gE_sI, gE_sJ, gE_sR, gE_fl, gE_cp, gN_al, gN_alM, gN_sI, gN_sJ, gN_sR, gN_fl, gN_cp, gR_al, gR_alM, gR_sI, gR_sJ, gR_sR, gR_fl, gR_cp, he, h0, h1, h2, h3, h4, h5]) rfl rfl ?_
  refine r_putr (q := 18) (fun p hp => by cases hp; exact (by simp [gE_al, gE_alM, gE_sI, gE_sJ, gE_sR, gE_fl, gE_cp, gN_al, gN_alM, gN_sI, gN_sJ, gN_sR, gN_fl, gN_cp, gR_al, gR_alM, gR_sI, gR_sJ, gR_sR, gR_fl, gR_cp, he, h0, h1, h2, h3, h4, h5])) ck1 dX1_init_15 rfl (k := 1) (by decide) wt229 (Or.inl rfl) rfl (by simp [gE_al, gE_alM, gE_sI, gE_sJ, gE_sR, gE_fl, gE_cp, gN_al, gN_alM, gN_sI, gN_sJ, gN_sR, gN_fl, gN_cp, gR_al, gR_alM, gR_sI, gR_sJ, gR_sR, gR_fl, gR_cp, he, h0, h1, h2, h3, h4, h5]) ?_
  refine r_aload_n (q := 19) dX1_init_18 rfl rfl rfl ?_
  refine r_iconst (q := 20) (nI 0) dX1_init_19 rfl (by decide) ?_
  refine r_newa (q := 22) (a := 202) (b := 0) (n := 0) (Or.inl (by decide)) (by decide) (by decide) (by decide) rfl dX1_init_20 rfl wt47 (by decide) (by simp [gE_al, gE_alM, gE_sI, gE_sJ, gE_sR, gE_fl, gE_cp, gN_al, gN_alM, gN_sI, gN_sJ, gN_sR, gN_fl, gN_cp, gR_al, gR_alM, gR_sI, gR_sJ, gR_sR, gR_fl, gR_cp, he, h0, h1, h2, h3, h4, h5]) rfl rfl ?_
  refine r_putr (q := 25) (fun p hp => by cases hp; exact (by simp [gE_al, gE_alM, gE_sI, gE_sJ, gE_sR, gE_fl, gE_cp, gN_al, gN_alM, gN_sI, gN_sJ, gN_sR, gN_fl, gN_cp, gR_al, gR_alM, gR_sI, gR_sJ, gR_sR, gR_fl, gR_cp, he, h0, h1, h2, h3, h4, h5])) ck1 dX1_init_22 rfl (k := 2) (by decide) wt230 (Or.inl rfl) rfl (by simp [gE_al, gE_alM, gE_sI, gE_sJ, gE_sR, gE_fl, gE_cp, gN_al, gN_alM, gN_sI, gN_sJ, gN_sR, gN_fl, gN_cp, gR_al, gR_alM, gR_sI, gR_sJ, gR_sR, gR_fl, gR_cp, he, h0, h1, h2, h3, h4, h5]) ?_
  refine r_aload_n (q := 26) dX1_init_25 rfl rfl rfl ?_
  refine r_bipush (q := 28) (nI 13) dX1_init_26 rfl (by decide) ?_
  refine r_newa (q := 30) (a := 203) (b := 0) (n := 13) (Or.inl (by decide)) (by decide) (by decide) (by decide) rfl dX1_init_28 rfl wt47 (by decide) (by simp [gE_al, gE_alM, gE_sI, gE_sJ, gE_sR, gE_fl, gE_cp, gN_al, gN_alM, gN_sI, gN_sJ, gN_sR, gN_fl, gN_cp, gR_al, gR_alM, gR_sI, gR_sJ, gR_sR, gR_fl, gR_cp, he, h0, h1, h2, h3, h4, h5]) rfl rfl ?_
  refine r_putr (q := 33) (fun p hp => by cases hp; exact (by simp [gE_al, gE_alM, gE_sI, gE_sJ, gE_sR, gE_fl, gE_cp, gN_al, gN_alM, gN_sI, gN_sJ, gN_sR, gN_fl, gN_cp, gR_al, gR_alM, gR_sI, gR_sJ, gR_sR, gR_fl, gR_cp, he, h0, h1, h2, h3, h4, h5])) ck1 dX1_init_30 rfl (k := 3) (by decide) wt231 (Or.inr ⟨rfl, rfl, rfl⟩) rfl (by simp [gE_al, gE_alM, gE_sI, gE_sJ, gE_sR, gE_fl, gE_cp, gN_al, gN_alM, gN_sI, gN_sJ, gN_sR, gN_fl, gN_cp, gR_al, gR_alM, gR_sI, gR_sJ, gR_sR, gR_fl, gR_cp, he, h0, h1, h2, h3, h4, h5]) ?_
  refine r_aload_n (q := 34) dX1_init_33 rfl rfl rfl ?_
  refine r_bipush (q := 36) (nI 39) dX1_init_34 rfl (by decide) ?_
  refine r_newa (q := 38) (a := 204) (b := 0) (n := 39) (Or.inl (by decide)) (by decide) (by decide) (by decide) rfl dX1_init_36 rfl wt47 (by decide) (by simp [gE_al, gE_alM, gE_sI, gE_sJ, gE_sR, gE_fl, gE_cp, gN_al, gN_alM, gN_sI, gN_sJ, gN_sR, gN_fl, gN_cp, gR_al, gR_alM, gR_sI, gR_sJ, gR_sR, gR_fl, gR_cp, he, h0, h1, h2, h3, h4, h5]) rfl rfl ?_
  refine r_putr (q := 41) (fun p hp => by cases hp; exact (by simp [gE_al, gE_alM, gE_sI, gE_sJ, gE_sR, gE_fl, gE_cp, gN_al, gN_alM, gN_sI, gN_sJ, gN_sR, gN_fl, gN_cp, gR_al, gR_alM, gR_sI, gR_sJ, gR_sR, gR_fl, gR_cp, he, h0, h1, h2, h3, h4, h5])) ck1 dX1_init_38 rfl (k := 4) (by decide) wt232 (Or.inr ⟨rfl, rfl, rfl⟩) rfl (by simp [gE_al, gE_alM, gE_sI, gE_sJ, gE_sR, gE_fl, gE_cp, gN_al, gN_alM, gN_sI, gN_sJ, gN_sR, gN_fl, gN_cp, gR_al, gR_alM, gR_sI, gR_sJ, gR_sR, gR_fl, gR_cp, he, h0, h1, h2, h3, h4, h5]) ?_
  refine r_aload_n (q := 42) dX1_init_41 rfl rfl rfl ?_
  refine r_iconst (q := 43) (nI 3) dX1_init_42 rfl (by decide) ?_
  refine r_newa (q := 45) (a := 205) (b := 0) (n := 3) (Or.inl (by decide)) (by decide) (by decide) (by decide) rfl dX1_init_43 rfl wt47 (by decide) (by simp [gE_al, gE_alM, gE_sI, gE_sJ, gE_sR, gE_fl, gE_cp, gN_al, gN_alM, gN_sI, gN_sJ, gN_sR, gN_fl, gN_cp, gR_al, gR_alM, gR_sI, gR_sJ, gR_sR, gR_fl, gR_cp, he, h0, h1, h2, h3, h4, h5]) rfl rfl ?_
  refine r_putr (q := 48) (fun p hp => by cases hp; exact (by simp [gE_al, gE_alM, gE_sI, gE_sJ, gE_sR, gE_fl, gE_cp, gN_al, gN_alM, gN_sI, gN_sJ, gN_sR, gN_fl, gN_cp, gR_al, gR_alM, gR_sI, gR_sJ, gR_sR, gR_fl, gR_cp, he, h0, h1, h2, h3, h4, h5])) ck1 dX1_init_45 rfl (k := 5) (by decide) wt233 (Or.inr ⟨rfl, rfl, rfl⟩) rfl (by simp [gE_al, gE_alM, gE_sI, gE_sJ, gE_sR, gE_fl, gE_cp, gN_al, gN_alM, gN_sI, gN_sJ, gN_sR, gN_fl, gN_cp, gR_al, gR_alM, gR_sI, gR_sJ, gR_sR, gR_fl, gR_cp, he, h0, h1, h2, h3, h4, h5]) ?_
  refine r_return dX1_init_48 rfl ?_
  exact ⟨rfl, rfl⟩

def iX5_init (S : zS) : zS := sR (al (sR (alM S 600 0 8 10600 0 8) 5 0 0 (some (600, 0))) 601 0 8 8) 5 0 1 (some (601, 0))
set_option maxRecDepth 100000 in
theorem ok_X5_init {S : zS} (he : gE S 5 0 = true) (h0 : gE S 600 0 = false) (h1 : gE S 601 0 = false) (hrows : ∀ y, y < 8 → gE S 10600 y = false) : Ok mX5_init 0 (ent 1 [zr 5 0]) [] S (fun r S1 => r = none ∧ S1 = iX5_init S) := by
  show Ok mX5_init 0 [some (zr 5 0)] [] S _
  refine r_aload_n (q := 1) dX5_init_0 rfl rfl rfl ?_
  refine r_objInit (q := 4) dX5_init_1 rfl wt252 wt27 wt28 (Nat.le_of_ble_eq_true rfl) (by decide) (by decide) ?_
  refine r_aload_n (q := 5) dX5_init_4 rfl rfl rfl ?_
  refine r_bipush (q := 7) (nI 8) dX5_init_5 rfl (by decide) ?_
  refine r_bipush (q := 9) (nI 8) dX5_init_7 rfl (by decide) ?_
  refine r_multi (q := 13) (a := 600) (b := 0) (n := 8) (ar := 10600) (f := 0) (m := 8) (ty := .long) (by decide) (by decide) (by decide) (by decide) (by decide) (by decide) (by decide) (by decide) (by decide) rfl rfl (fun _ _ h => h.2.2.2.2.2.2) dX5_init_9 rfl wt253 wt173 (by decide) (by decide) (by simp [gE_al, gE_alM, gE_sI, gE_sJ, gE_sR, gE_fl, gE_cp, gN_al, gN_alM, gN_sI, gN_sJ, gN_sR, gN_fl, gN_cp, gR_al, gR_alM, gR_sI, gR_sJ, gR_sR, gR_fl, gR_cp, he, h0, h1]) (fun y y1 y2 => (by have h9 := hrows y (by omega); simp [gE_al, gE_alM, gE_sI, gE_sJ, gE_sR, gE_fl, gE_cp, gN_al, gN_alM, gN_sI, gN_sJ, gN_sR, gN_fl, gN_cp, gR_al, gR_alM, gR_sI, gR_sJ, gR_sR, gR_fl, gR_cp, h9])) (by simp [nMl, nM]) (by simp [nMs, nM]) ?_
  refine r_putr (q := 16) (fun p hp => by cases hp; exact (by simp [gE_al, gE_alM, gE_sI, gE_sJ, gE_sR, gE_fl, gE_cp, gN_al, gN_alM, gN_sI, gN_sJ, gN_sR, gN_fl, gN_cp, gR_al, gR_alM, gR_sI, gR_sJ, gR_sR, gR_fl, gR_cp, he, h0, h1])) ck5 dX5_init_13 rfl (k := 0) (by decide) wt255 (Or.inr ⟨rfl, rfl, rfl⟩) rfl (by simp [gE_al, gE_alM, gE_sI, gE_sJ, gE_sR, gE_fl, gE_cp, gN_al, gN_alM, gN_sI, gN_sJ, gN_sR, gN_fl, gN_cp, gR_al, gR_alM, gR_sI, gR_sJ, gR_sR, gR_fl, gR_cp, he, h0, h1]) ?_
  refine r_aload_n (q := 17) dX5_init_16 rfl rfl rfl ?_
  refine r_bipush (q := 19) (nI 8) dX5_init_17 rfl (by decide) ?_
  refine r_newa (q := 21) (a := 601) (b := 0) (n := 8) (Or.inl (by decide)) (by decide) (by decide) (by decide) rfl dX5_init_19 rfl wt173 (by decide) (by simp [gE_al, gE_alM, gE_sI, gE_sJ, gE_sR, gE_fl, gE_cp, gN_al, gN_alM, gN_sI, gN_sJ, gN_sR, gN_fl, gN_cp, gR_al, gR_alM, gR_sI, gR_sJ, gR_sR, gR_fl, gR_cp, he, h0, h1]) rfl rfl ?_
  refine r_putr (q := 24) (fun p hp => by cases hp; exact (by simp [gE_al, gE_alM, gE_sI, gE_sJ, gE_sR, gE_fl, gE_cp, gN_al, gN_alM, gN_sI, gN_sJ, gN_sR, gN_fl, gN_cp, gR_al, gR_alM, gR_sI, gR_sJ, gR_sR, gR_fl, gR_cp, he, h0, h1])) ck5 dX5_init_21 rfl (k := 1) (by decide) wt256 (Or.inr ⟨rfl, rfl, rfl⟩) rfl (by simp [gE_al, gE_alM, gE_sI, gE_sJ, gE_sR, gE_fl, gE_cp, gN_al, gN_alM, gN_sI, gN_sJ, gN_sR, gN_fl, gN_cp, gR_al, gR_alM, gR_sI, gR_sJ, gR_sR, gR_fl, gR_cp, he, h0, h1]) ?_
  refine r_return dX5_init_24 rfl ?_
  exact ⟨rfl, rfl⟩

def iX2_init (S : zS) : zS := sR (al (sR (al (sR (alM S 300 0 18 10300 0 18) 2 0 0 (some (300, 0))) 301 0 18 18) 2 0 1 (some (301, 0))) 302 0 13 13) 2 0 2 (some (302, 0))
set_option maxRecDepth 100000 in
theorem ok_X2_init {S : zS} (he : gE S 2 0 = true) (h0 : gE S 300 0 = false) (h1 : gE S 301 0 = false) (h2 : gE S 302 0 = false) (hrows : ∀ y, y < 18 → gE S 10300 y = false) : Ok mX2_init 0 (ent 1 [zr 2 0]) [] S (fun r S1 => r = none ∧ S1 = iX2_init S) := by
  show Ok mX2_init 0 [some (zr 2 0)] [] S _
  refine r_aload_n (q := 1) dX2_init_0 rfl rfl rfl ?_
  refine r_objInit (q := 4) dX2_init_1 rfl wt268 wt27 wt28 (Nat.le_of_ble_eq_true rfl) (by decide) (by decide) ?_
  refine r_aload_n (q := 5) dX2_init_4 rfl rfl rfl ?_
  refine r_bipush (q := 7) (nI 18) dX2_init_5 rfl (by decide) ?_
  refine r_bipush (q := 9) (nI 18) dX2_init_7 rfl (by decide) ?_
  refine r_multi (q := 13) (a := 300) (b := 0) (n := 18) (ar := 10300) (f := 0) (m := 18) (ty := .int) (by decide) (by decide) (by decide) (by decide) (by decide) (by decide) (by decide) (by decide) (by decide) rfl rfl (fun _ _ h => h.2.2.2.2.2.1) dX2_init_9 rfl wt269 wt47 (by decide) (by decide) (by simp [gE_al, gE_alM, gE_sI, gE_sJ, gE_sR, gE_fl, gE_cp, gN_al, gN_alM, gN_sI, gN_sJ, gN_sR, gN_fl, gN_cp, gR_al, gR_alM, gR_sI, gR_sJ, gR_sR, gR_fl, gR_cp, he, h0, h1, h2]) (fun y y1 y2 => (by have h9 := hrows y (by omega); simp [gE_al, gE_alM, gE_sI, gE_sJ, gE_sR, gE_fl, gE_cp, gN_al, gN_alM, gN_sI, gN_sJ, gN_sR, gN_fl, gN_cp, gR_al, gR_alM, gR_sI, gR_sJ, gR_sR, gR_fl, gR_cp, h9])) (by simp [nMl, nM]) (by simp [nMs, nM]) ?_
  refine r_putr (q := 16) (fun p hp => by cases hp; exact (by simp [gE_al, gE_alM, gE_sI, gE_sJ, gE_sR, gE_fl, gE_cp, gN_al, gN_alM, gN_sI, gN_sJ, gN_sR, gN_fl, gN_cp, gR_al, gR_alM, gR_sI, gR_sJ, gR_sR, gR_fl, gR_cp, he, h0, h1, h2])) ck2 dX2_init_13 rfl (k := 0) (by decide) wt271 (Or.inr ⟨rfl, rfl, rfl⟩) rfl (by simp [gE_al, gE_alM, gE_sI, gE_sJ, gE_sR, gE_fl, gE_cp, gN_al, gN_alM, gN_sI, gN_sJ, gN_sR, gN_fl, gN_cp, gR_al, gR_alM, gR_sI, gR_sJ, gR_sR, gR_fl, gR_cp, he, h0, h1, h2]) ?_
  refine r_aload_n (q := 17) dX2_init_16 rfl rfl rfl ?_
  refine r_bipush (q := 19) (nI 18) dX2_init_17 rfl (by decide) ?_
  refine r_newa (q := 21) (a := 301) (b := 0) (n := 18) (Or.inl (by decide)) (by decide) (by decide) (by decide) rfl dX2_init_19 rfl wt47 (by decide) (by simp [gE_al, gE_alM, gE_sI, gE_sJ, gE_sR, gE_fl, gE_cp, gN_al, gN_alM, gN_sI, gN_sJ, gN_sR, gN_fl, gN_cp, gR_al, gR_alM, gR_sI, gR_sJ, gR_sR, gR_fl, gR_cp, he, h0, h1, h2]) rfl rfl ?_
  refine r_putr (q := 24) (fun p hp => by cases hp; exact (by simp [gE_al, gE_alM, gE_sI, gE_sJ, gE_sR, gE_fl, gE_cp, gN_al, gN_alM, gN_sI, gN_sJ, gN_sR, gN_fl, gN_cp, gR_al, gR_alM, gR_sI, gR_sJ, gR_sR, gR_fl, gR_cp, he, h0, h1, h2])) ck2 dX2_init_21 rfl (k := 1) (by decide) wt272 (Or.inr ⟨rfl, rfl, rfl⟩) rfl (by simp [gE_al, gE_alM, gE_sI, gE_sJ, gE_sR, gE_fl, gE_cp, gN_al, gN_alM, gN_sI, gN_sJ, gN_sR, gN_fl, gN_cp, gR_al, gR_alM, gR_sI, gR_sJ, gR_sR, gR_fl, gR_cp, he, h0, h1, h2]) ?_
  refine r_aload_n (q := 25) dX2_init_24 rfl rfl rfl ?_
  refine r_bipush (q := 27) (nI 13) dX2_init_25 rfl (by decide) ?_
  refine r_newa (q := 29) (a := 302) (b := 0) (n := 13) (Or.inl (by decide)) (by decide) (by decide) (by decide) rfl dX2_init_27 rfl wt47 (by decide) (by simp [gE_al, gE_alM, gE_sI, gE_sJ, gE_sR, gE_fl, gE_cp, gN_al, gN_alM, gN_sI, gN_sJ, gN_sR, gN_fl, gN_cp, gR_al, gR_alM, gR_sI, gR_sJ, gR_sR, gR_fl, gR_cp, he, h0, h1, h2]) rfl rfl ?_
  refine r_putr (q := 32) (fun p hp => by cases hp; exact (by simp [gE_al, gE_alM, gE_sI, gE_sJ, gE_sR, gE_fl, gE_cp, gN_al, gN_alM, gN_sI, gN_sJ, gN_sR, gN_fl, gN_cp, gR_al, gR_alM, gR_sI, gR_sJ, gR_sR, gR_fl, gR_cp, he, h0, h1, h2])) ck2 dX2_init_29 rfl (k := 2) (by decide) wt273 (Or.inr ⟨rfl, rfl, rfl⟩) rfl (by simp [gE_al, gE_alM, gE_sI, gE_sJ, gE_sR, gE_fl, gE_cp, gN_al, gN_alM, gN_sI, gN_sJ, gN_sR, gN_fl, gN_cp, gR_al, gR_alM, gR_sI, gR_sJ, gR_sR, gR_fl, gR_cp, he, h0, h1, h2]) ?_
  refine r_return dX2_init_32 rfl ?_
  exact ⟨rfl, rfl⟩

def iX4_init (S : zS) : zS := sR (iX8_init (al (sR (al (sR (al (sR (al (sR (al (sR (al S 500 0 941 941) 4 0 0 (some (500, 0))) 501 0 941 941) 4 0 1 (some (501, 0))) 502 0 941 941) 4 0 2 (some (502, 0))) 509 0 480 480) 4 0 9 (some (509, 0))) 510 0 480 480) 4 0 10 (some (510, 0))) 8 12 0 4) 12) 4 0 13 (some (8, 12))
set_option maxRecDepth 100000 in
theorem ok_X4_init {S : zS} (he : gE S 4 0 = true) (h0 : gE S 500 0 = false) (h1 : gE S 501 0 = false) (h2 : gE S 502 0 = false) (h3 : gE S 509 0 = false) (h4 : gE S 510 0 = false) (h5 : gE S 8 12 = false) (h6 : gE S 902 12 = false) (h7 : gE S 903 12 = false)  : Ok mX4_init 0 (ent 1 [zr 4 0]) [] S (fun r S1 => r = none ∧ S1 = iX4_init S) := by
  show Ok mX4_init 0 [some (zr 4 0)] [] S _
  refine r_aload_n (q := 1) dX4_init_0 rfl rfl rfl ?_
  refine r_objInit (q := 4) dX4_init_1 rfl wt118 wt27 wt28 (Nat.le_of_ble_eq_true rfl) (by decide) (by decide) ?_
  refine r_aload_n (q := 5) dX4_init_4 rfl rfl rfl ?_
  refine r_sipush (q := 8) (nI 941) dX4_init_5 rfl (by decide) ?_
  refine r_newa (q := 10) (a := 500) (b := 0) (n := 941) (Or.inl (by decide)) (by decide) (by decide) (by decide) rfl dX4_init_8 rfl wt47 (by decide) (by simp [gE_al, gE_alM, gE_sI, gE_sJ, gE_sR, gE_fl, gE_cp, gN_al, gN_alM, gN_sI, gN_sJ, gN_sR, gN_fl, gN_cp, gR_al, gR_alM, gR_sI, gR_sJ, gR_sR, gR_fl, gR_cp, he, h0, h1, h2, h3, h4, h5, h6, h7]) rfl rfl ?_
  refine r_putr (q := 13) (fun p hp => by cases hp; exact (by simp [gE_al, gE_alM, gE_sI, gE_sJ, gE_sR, gE_fl, gE_cp, gN_al, gN_alM, gN_sI, gN_sJ, gN_sR, gN_fl, gN_cp, gR_al, gR_alM, gR_sI, gR_sJ, gR_sR, gR_fl, gR_cp, he, h0, h1, h2, h3, h4, h5, h6, h7])) ck4 dX4_init_10 rfl (k := 0) (by decide) wt121 (Or.inr ⟨rfl, rfl, rfl⟩) rfl (by simp [gE_al, gE_alM, gE_sI, gE_sJ, gE_sR, gE_fl, gE_cp, gN_al, gN_alM, gN_sI, gN_sJ, gN_sR, gN_fl, gN_cp, gR_al, gR_alM, gR_sI, gR_sJ, gR_sR, gR_fl, gR_cp, he, h0, h1, h2, h3, h4, h5, h6, h7]) ?_
  refine r_aload_n (q := 14) dX4_init_13 rfl rfl rfl ?_
  refine r_sipush (q := 17) (nI 941) dX4_init_14 rfl (by decide) ?_
  refine r_newa (q := 19) (a := 501) (b := 0) (n := 941) (Or.inl (by decide)) (by decide) (by decide) (by decide) rfl dX4_init_17 rfl wt47 (by decide) (by simp [gE_al, gE_alM, gE_sI, gE_sJ, gE_sR, gE_fl, gE_cp, gN_al, gN_alM, gN_sI, gN_sJ, gN_sR, gN_fl, gN_cp, gR_al, gR_alM, gR_sI, gR_sJ, gR_sR, gR_fl, gR_cp, he, h0, h1, h2, h3, h4, h5, h6, h7]) rfl rfl ?_
  refine r_putr (q := 22) (fun p hp => by cases hp; exact (by simp [gE_al, gE_alM, gE_sI, gE_sJ, gE_sR, gE_fl, gE_cp, gN_al, gN_alM, gN_sI, gN_sJ, gN_sR, gN_fl, gN_cp, gR_al, gR_alM, gR_sI, gR_sJ, gR_sR, gR_fl, gR_cp, he, h0, h1, h2, h3, h4, h5, h6, h7])) ck4 dX4_init_19 rfl (k := 1) (by decide) wt122 (Or.inr ⟨rfl, rfl, rfl⟩) rfl (by simp [gE_al, gE_alM, gE_sI, gE_sJ, gE_sR, gE_fl, gE_cp, gN_al, gN_alM, gN_sI, gN_sJ, gN_sR, gN_fl, gN_cp, gR_al, gR_alM, gR_sI, gR_sJ, gR_sR, gR_fl, gR_cp, he, h0, h1, h2, h3, h4, h5, h6, h7]) ?_
  refine r_aload_n (q := 23) dX4_init_22 rfl rfl rfl ?_
  refine r_sipush (q := 26) (nI 941) dX4_init_23 rfl (by decide) ?_
  refine r_newa (q := 28) (a := 502) (b := 0) (n := 941) (Or.inl (by decide)) (by decide) (by decide) (by decide) rfl dX4_init_26 rfl wt173 (by decide) (by simp [gE_al, gE_alM, gE_sI, gE_sJ, gE_sR, gE_fl, gE_cp, gN_al, gN_alM, gN_sI, gN_sJ, gN_sR, gN_fl, gN_cp, gR_al, gR_alM, gR_sI, gR_sJ, gR_sR, gR_fl, gR_cp, he, h0, h1, h2, h3, h4, h5, h6, h7]) rfl rfl ?_
  refine r_putr (q := 31) (fun p hp => by cases hp; exact (by simp [gE_al, gE_alM, gE_sI, gE_sJ, gE_sR, gE_fl, gE_cp, gN_al, gN_alM, gN_sI, gN_sJ, gN_sR, gN_fl, gN_cp, gR_al, gR_alM, gR_sI, gR_sJ, gR_sR, gR_fl, gR_cp, he, h0, h1, h2, h3, h4, h5, h6, h7])) ck4 dX4_init_28 rfl (k := 2) (by decide) wt123 (Or.inr ⟨rfl, rfl, rfl⟩) rfl (by simp [gE_al, gE_alM, gE_sI, gE_sJ, gE_sR, gE_fl, gE_cp, gN_al, gN_alM, gN_sI, gN_sJ, gN_sR, gN_fl, gN_cp, gR_al, gR_alM, gR_sI, gR_sJ, gR_sR, gR_fl, gR_cp, he, h0, h1, h2, h3, h4, h5, h6, h7]) ?_
  refine r_aload_n (q := 32) dX4_init_31 rfl rfl rfl ?_
  refine r_sipush (q := 35) (nI 480) dX4_init_32 rfl (by decide) ?_
  refine r_newa (q := 37) (a := 509) (b := 0) (n := 480) (Or.inl (by decide)) (by decide) (by decide) (by decide) rfl dX4_init_35 rfl wt47 (by decide) (by simp [gE_al, gE_alM, gE_sI, gE_sJ, gE_sR, gE_fl, gE_cp, gN_al, gN_alM, gN_sI, gN_sJ, gN_sR, gN_fl, gN_cp, gR_al, gR_alM, gR_sI, gR_sJ, gR_sR, gR_fl, gR_cp, he, h0, h1, h2, h3, h4, h5, h6, h7]) rfl rfl ?_
  refine r_putr (q := 40) (fun p hp => by cases hp; exact (by simp [gE_al, gE_alM, gE_sI, gE_sJ, gE_sR, gE_fl, gE_cp, gN_al, gN_alM, gN_sI, gN_sJ, gN_sR, gN_fl, gN_cp, gR_al, gR_alM, gR_sI, gR_sJ, gR_sR, gR_fl, gR_cp, he, h0, h1, h2, h3, h4, h5, h6, h7])) ck4 dX4_init_37 rfl (k := 9) (by decide) wt130 (Or.inr ⟨rfl, rfl, rfl⟩) rfl (by simp [gE_al, gE_alM, gE_sI, gE_sJ, gE_sR, gE_fl, gE_cp, gN_al, gN_alM, gN_sI, gN_sJ, gN_sR, gN_fl, gN_cp, gR_al, gR_alM, gR_sI, gR_sJ, gR_sR, gR_fl, gR_cp, he, h0, h1, h2, h3, h4, h5, h6, h7]) ?_
  refine r_aload_n (q := 41) dX4_init_40 rfl rfl rfl ?_
  refine r_sipush (q := 44) (nI 480) dX4_init_41 rfl (by decide) ?_
  refine r_newa (q := 46) (a := 510) (b := 0) (n := 480) (Or.inl (by decide)) (by decide) (by decide) (by decide) rfl dX4_init_44 rfl wt47 (by decide) (by simp [gE_al, gE_alM, gE_sI, gE_sJ, gE_sR, gE_fl, gE_cp, gN_al, gN_alM, gN_sI, gN_sJ, gN_sR, gN_fl, gN_cp, gR_al, gR_alM, gR_sI, gR_sJ, gR_sR, gR_fl, gR_cp, he, h0, h1, h2, h3, h4, h5, h6, h7]) rfl rfl ?_
  refine r_putr (q := 49) (fun p hp => by cases hp; exact (by simp [gE_al, gE_alM, gE_sI, gE_sJ, gE_sR, gE_fl, gE_cp, gN_al, gN_alM, gN_sI, gN_sJ, gN_sR, gN_fl, gN_cp, gR_al, gR_alM, gR_sI, gR_sJ, gR_sR, gR_fl, gR_cp, he, h0, h1, h2, h3, h4, h5, h6, h7])) ck4 dX4_init_46 rfl (k := 10) (by decide) wt131 (Or.inr ⟨rfl, rfl, rfl⟩) rfl (by simp [gE_al, gE_alM, gE_sI, gE_sJ, gE_sR, gE_fl, gE_cp, gN_al, gN_alM, gN_sI, gN_sJ, gN_sR, gN_fl, gN_cp, gR_al, gR_alM, gR_sI, gR_sJ, gR_sR, gR_fl, gR_cp, he, h0, h1, h2, h3, h4, h5, h6, h7]) ?_
  refine r_aload_n (q := 50) dX4_init_49 rfl rfl rfl ?_
  refine r_new (q := 53) (a := 8) (b := 12) (by decide) ck8 (by decide) dX4_init_50 rfl wt119 wt50 wt3 (by simp [gE_al, gE_alM, gE_sI, gE_sJ, gE_sR, gE_fl, gE_cp, gN_al, gN_alM, gN_sI, gN_sJ, gN_sR, gN_fl, gN_cp, gR_al, gR_alM, gR_sI, gR_sJ, gR_sR, gR_fl, gR_cp, he, h0, h1, h2, h3, h4, h5, h6, h7]) rfl rfl ?_
  refine r_dup (q := 54) dX4_init_53 rfl rfl ?_
  refine r_callIN (Mc := mX8_init) (q := 57) (As := []) (st := [zr 8 12, zr 4 0]) dX4_init_54 rfl rfl mkX8_init rfl rfl wn120 wt52 rfl (Nat.le_of_ble_eq_true rfl) (Nat.le_of_ble_eq_true rfl) (by decide) (by decide) (by decide) ⟨Or.inl ⟨(by simp [gE_al, gE_alM, gE_sI, gE_sJ, gE_sR, gE_fl, gE_cp, gN_al, gN_alM, gN_sI, gN_sJ, gN_sR, gN_fl, gN_cp, gR_al, gR_alM, gR_sI, gR_sJ, gR_sR, gR_fl, gR_cp, he, h0, h1, h2, h3, h4, h5, h6, h7]), rfl⟩, trivial⟩ ⟨Or.inl ⟨(by simp [gE_al, gE_alM, gE_sI, gE_sJ, gE_sR, gE_fl, gE_cp, gN_al, gN_alM, gN_sI, gN_sJ, gN_sR, gN_fl, gN_cp, gR_al, gR_alM, gR_sI, gR_sJ, gR_sR, gR_fl, gR_cp, he, h0, h1, h2, h3, h4, h5, h6, h7]), rfl⟩, ⟨Or.inl ⟨(by simp [gE_al, gE_alM, gE_sI, gE_sJ, gE_sR, gE_fl, gE_cp, gN_al, gN_alM, gN_sI, gN_sJ, gN_sR, gN_fl, gN_cp, gR_al, gR_alM, gR_sI, gR_sJ, gR_sR, gR_fl, gR_cp, he, h0, h1, h2, h3, h4, h5, h6, h7]), rfl⟩, trivial⟩⟩ (ok_X8_init (j := 12) (by simp [gE_al, gE_alM, gE_sI, gE_sJ, gE_sR, gE_fl, gE_cp, gN_al, gN_alM, gN_sI, gN_sJ, gN_sR, gN_fl, gN_cp, gR_al, gR_alM, gR_sI, gR_sJ, gR_sR, gR_fl, gR_cp, he, h0, h1, h2, h3, h4, h5, h6, h7]) (by simp [gE_al, gE_alM, gE_sI, gE_sJ, gE_sR, gE_fl, gE_cp, gN_al, gN_alM, gN_sI, gN_sJ, gN_sR, gN_fl, gN_cp, gR_al, gR_alM, gR_sI, gR_sJ, gR_sR, gR_fl, gR_cp, he, h0, h1, h2, h3, h4, h5, h6, h7]) (by simp [gE_al, gE_alM, gE_sI, gE_sJ, gE_sR, gE_fl, gE_cp, gN_al, gN_alM, gN_sI, gN_sJ, gN_sR, gN_fl, gN_cp, gR_al, gR_alM, gR_sI, gR_sJ, gR_sR, gR_fl, gR_cp, he, h0, h1, h2, h3, h4, h5, h6, h7])) (fun r54 S54 hp54 => ?_)
  obtain ⟨rfl, hq54⟩ := hp54
  rw [hq54]
  show Ok _ _ _ [zr 8 12, zr 4 0] _ _
  refine r_putr (q := 60) (fun p hp => by cases hp; exact (by simp [gE_al, gE_alM, gE_sI, gE_sJ, gE_sR, gE_fl, gE_cp, gN_al, gN_alM, gN_sI, gN_sJ, gN_sR, gN_fl, gN_cp, gR_al, gR_alM, gR_sI, gR_sJ, gR_sR, gR_fl, gR_cp, he, h0, h1, h2, h3, h4, h5, h6, h7, iX8_init])) ck4 dX4_init_57 rfl (k := 13) (by decide) wt134 (Or.inr ⟨rfl, rfl, rfl⟩) rfl (by simp [gE_al, gE_alM, gE_sI, gE_sJ, gE_sR, gE_fl, gE_cp, gN_al, gN_alM, gN_sI, gN_sJ, gN_sR, gN_fl, gN_cp, gR_al, gR_alM, gR_sI, gR_sJ, gR_sR, gR_fl, gR_cp, he, h0, h1, h2, h3, h4, h5, h6, h7, iX8_init]) ?_
  refine r_return dX4_init_60 rfl ?_
  exact ⟨rfl, rfl⟩

def iX3_init (S : zS) : zS := sR (iX8_init (al (sR (iX8_init (al (sR (iX8_init (al (sR (al (sR (iX8_init (al (sR (iX8_init (al (sR (iX8_init (al (sI (sR (al S 400 0 3 3) 3 0 0 (some (400, 0))) 3 0 1 (-1 : Int32)) 8 16 0 4) 16) 3 0 2 (some (8, 16))) 8 17 0 4) 17) 3 0 3 (some (8, 17))) 8 18 0 4) 18) 3 0 4 (some (8, 18))) 405 0 13 13) 3 0 5 (some (405, 0))) 8 13 0 4) 13) 400 0 0 (some (8, 13))) 8 14 0 4) 14) 400 0 1 (some (8, 14))) 8 15 0 4) 15) 400 0 2 (some (8, 15))
set_option maxRecDepth 100000 in
theorem ok_X3_init {S : zS} (he : gE S 3 0 = true) (h0 : gE S 400 0 = false) (h1 : gE S 405 0 = false) (h2 : gE S 8 16 = false) (h3 : gE S 902 16 = false) (h4 : gE S 903 16 = false) (h5 : gE S 8 17 = false) (h6 : gE S 902 17 = false) (h7 : gE S 903 17 = false) (h8 : gE S 8 18 = false) (h9 : gE S 902 18 = false) (h10 : gE S 903 18 = false) (h11 : gE S 8 13 = false) (h12 : gE S 902 13 = false) (h13 : gE S 903 13 = false) (h14 : gE S 8 14 = false) (h15 : gE S 902 14 = false) (h16 : gE S 903 14 = false) (h17 : gE S 8 15 = false) (h18 : gE S 902 15 = false) (h19 : gE S 903 15 = false)  : Ok mX3_init 0 (ent 2 [zr 3 0]) [] S (fun r S1 => r = none ∧ S1 = iX3_init S) := by
  show Ok mX3_init 0 [some (zr 3 0), none] [] S _
  refine r_aload_n (q := 1) dX3_init_0 rfl rfl rfl ?_
  refine r_objInit (q := 4) dX3_init_1 rfl wt198 wt27 wt28 (Nat.le_of_ble_eq_true rfl) (by decide) (by decide) ?_
  refine r_aload_n (q := 5) dX3_init_4 rfl rfl rfl ?_
  refine r_iconst (q := 6) (nI 3) dX3_init_5 rfl (by decide) ?_
  refine r_anew (q := 9) (a := 400) (b := 0) (n := 3) (by decide) (by decide) (by decide) (by decide) rfl (fun _ _ h => h.2.2.2.2.1) dX3_init_6 rfl wt199 (by decide) (by simp [gE_al, gE_alM, gE_sI, gE_sJ, gE_sR, gE_fl, gE_cp, gN_al, gN_alM, gN_sI, gN_sJ, gN_sR, gN_fl, gN_cp, gR_al, gR_alM, gR_sI, gR_sJ, gR_sR, gR_fl, gR_cp, he, h0, h1, h2, h3, h4, h5, h6, h7, h8, h9, h10, h11, h12, h13, h14, h15, h16, h17, h18, h19]) rfl rfl ?_
  refine r_putr (q := 12) (fun p hp => by cases hp; exact (by simp [gE_al, gE_alM, gE_sI, gE_sJ, gE_sR, gE_fl, gE_cp, gN_al, gN_alM, gN_sI, gN_sJ, gN_sR, gN_fl, gN_cp, gR_al, gR_alM, gR_sI, gR_sJ, gR_sR, gR_fl, gR_cp, he, h0, h1, h2, h3, h4, h5, h6, h7, h8, h9, h10, h11, h12, h13, h14, h15, h16, h17, h18, h19])) ck3 dX3_init_9 rfl (k := 0) (by decide) wt201 (Or.inr ⟨rfl, rfl, rfl⟩) rfl (by simp [gE_al, gE_alM, gE_sI, gE_sJ, gE_sR, gE_fl, gE_cp, gN_al, gN_alM, gN_sI, gN_sJ, gN_sR, gN_fl, gN_cp, gR_al, gR_alM, gR_sI, gR_sJ, gR_sR, gR_fl, gR_cp, he, h0, h1, h2, h3, h4, h5, h6, h7, h8, h9, h10, h11, h12, h13, h14, h15, h16, h17, h18, h19]) ?_
  refine r_aload_n (q := 13) dX3_init_12 rfl rfl rfl ?_
  refine r_iconst (q := 14) ((-1 : Int32)) dX3_init_13 rfl (by decide) ?_
  refine r_puti (q := 17) ck3 dX3_init_14 rfl (k := 1) (by decide) wt203 (Or.inl rfl) rfl (by simp [gE_al, gE_alM, gE_sI, gE_sJ, gE_sR, gE_fl, gE_cp, gN_al, gN_alM, gN_sI, gN_sJ, gN_sR, gN_fl, gN_cp, gR_al, gR_alM, gR_sI, gR_sJ, gR_sR, gR_fl, gR_cp, he, h0, h1, h2, h3, h4, h5, h6, h7, h8, h9, h10, h11, h12, h13, h14, h15, h16, h17, h18, h19]) ?_
  refine r_aload_n (q := 18) dX3_init_17 rfl rfl rfl ?_
  refine r_new (q := 21) (a := 8) (b := 16) (by decide) ck8 (by decide) dX3_init_18 rfl wt199 wt50 wt3 (by simp [gE_al, gE_alM, gE_sI, gE_sJ, gE_sR, gE_fl, gE_cp, gN_al, gN_alM, gN_sI, gN_sJ, gN_sR, gN_fl, gN_cp, gR_al, gR_alM, gR_sI, gR_sJ, gR_sR, gR_fl, gR_cp, he, h0, h1, h2, h3, h4, h5, h6, h7, h8, h9, h10, h11, h12, h13, h14, h15, h16, h17, h18, h19]) rfl rfl ?_
  refine r_dup (q := 22) dX3_init_21 rfl rfl ?_
  refine r_callIN (Mc := mX8_init) (q := 25) (As := []) (st := [zr 8 16, zr 3 0]) dX3_init_22 rfl rfl mkX8_init rfl rfl wn200 wt52 rfl (Nat.le_of_ble_eq_true rfl) (Nat.le_of_ble_eq_true rfl) (by decide) (by decide) (by decide) ⟨Or.inl ⟨(by simp [gE_al, gE_alM, gE_sI, gE_sJ, gE_sR, gE_fl, gE_cp, gN_al, gN_alM, gN_sI, gN_sJ, gN_sR, gN_fl, gN_cp, gR_al, gR_alM, gR_sI, gR_sJ, gR_sR, gR_fl, gR_cp, he, h0, h1, h2, h3, h4, h5, h6, h7, h8, h9, h10, h11, h12, h13, h14, h15, h16, h17, h18, h19]), rfl⟩, trivial⟩ ⟨Or.inl ⟨(by simp [gE_al, gE_alM, gE_sI, gE_sJ, gE_sR, gE_fl, gE_cp, gN_al, gN_alM, gN_sI, gN_sJ, gN_sR, gN_fl, gN_cp, gR_al, gR_alM, gR_sI, gR_sJ, gR_sR, gR_fl, gR_cp, he, h0, h1, h2, h3, h4, h5, h6, h7, h8, h9, h10, h11, h12, h13, h14, h15, h16, h17, h18, h19]), rfl⟩, ⟨Or.inl ⟨(by simp [gE_al, gE_alM, gE_sI, gE_sJ, gE_sR, gE_fl, gE_cp, gN_al, gN_alM, gN_sI, gN_sJ, gN_sR, gN_fl, gN_cp, gR_al, gR_alM, gR_sI, gR_sJ, gR_sR, gR_fl, gR_cp, he, h0, h1, h2, h3, h4, h5, h6, h7, h8, h9, h10, h11, h12, h13, h14, h15, h16, h17, h18, h19]), rfl⟩, trivial⟩⟩ (ok_X8_init (j := 16) (by simp [gE_al, gE_alM, gE_sI, gE_sJ, gE_sR, gE_fl, gE_cp, gN_al, gN_alM, gN_sI, gN_sJ, gN_sR, gN_fl, gN_cp, gR_al, gR_alM, gR_sI, gR_sJ, gR_sR, gR_fl, gR_cp, he, h0, h1, h2, h3, h4, h5, h6, h7, h8, h9, h10, h11, h12, h13, h14, h15, h16, h17, h18, h19]) (by simp [gE_al, gE_alM, gE_sI, gE_sJ, gE_sR, gE_fl, gE_cp, gN_al, gN_alM, gN_sI, gN_sJ, gN_sR, gN_fl, gN_cp, gR_al, gR_alM, gR_sI, gR_sJ, gR_sR, gR_fl, gR_cp, he, h0, h1, h2, h3, h4, h5, h6, h7, h8, h9, h10, h11, h12, h13, h14, h15, h16, h17, h18, h19]) (by simp [gE_al, gE_alM, gE_sI, gE_sJ, gE_sR, gE_fl, gE_cp, gN_al, gN_alM, gN_sI, gN_sJ, gN_sR, gN_fl, gN_cp, gR_al, gR_alM, gR_sI, gR_sJ, gR_sR, gR_fl, gR_cp, he, h0, h1, h2, h3, h4, h5, h6, h7, h8, h9, h10, h11, h12, h13, h14, h15, h16, h17, h18, h19])) (fun r22 S22 hp22 => ?_)
  obtain ⟨rfl, hq22⟩ := hp22
  rw [hq22]
  show Ok _ _ _ [zr 8 16, zr 3 0] _ _
  refine r_putr (q := 28) (fun p hp => by cases hp; exact (by simp [gE_al, gE_alM, gE_sI, gE_sJ, gE_sR, gE_fl, gE_cp, gN_al, gN_alM, gN_sI, gN_sJ, gN_sR, gN_fl, gN_cp, gR_al, gR_alM, gR_sI, gR_sJ, gR_sR, gR_fl, gR_cp, he, h0, h1, h2, h3, h4, h5, h6, h7, h8, h9, h10, h11, h12, h13, h14, h15, h16, h17, h18, h19, iX8_init])) ck3 dX3_init_25 rfl (k := 2) (by decide) wt205 (Or.inr ⟨rfl, rfl, rfl⟩) rfl (by simp [gE_al, gE_alM, gE_sI, gE_sJ, gE_sR, gE_fl, gE_cp, gN_al, gN_alM, gN_sI, gN_sJ, gN_sR, gN_fl, gN_cp, gR_al, gR_alM, gR_sI, gR_sJ, gR_sR, gR_fl, gR_cp, he, h0, h1, h2, h3, h4, h5, h6, h7, h8, h9, h10, h11, h12, h13, h14, h15, h16, h17, h18, h19, iX8_init]) ?_
  refine r_aload_n (q := 29) dX3_init_28 rfl rfl rfl ?_
  refine r_new (q := 32) (a := 8) (b := 17) (by decide) ck8 (by decide) dX3_init_29 rfl wt199 wt50 wt3 (by simp [gE_al, gE_alM, gE_sI, gE_sJ, gE_sR, gE_fl, gE_cp, gN_al, gN_alM, gN_sI, gN_sJ, gN_sR, gN_fl, gN_cp, gR_al, gR_alM, gR_sI, gR_sJ, gR_sR, gR_fl, gR_cp, he, h0, h1, h2, h3, h4, h5, h6, h7, h8, h9, h10, h11, h12, h13, h14, h15, h16, h17, h18, h19, iX8_init]) rfl rfl ?_
  refine r_dup (q := 33) dX3_init_32 rfl rfl ?_
  refine r_callIN (Mc := mX8_init) (q := 36) (As := []) (st := [zr 8 17, zr 3 0]) dX3_init_33 rfl rfl mkX8_init rfl rfl wn200 wt52 rfl (Nat.le_of_ble_eq_true rfl) (Nat.le_of_ble_eq_true rfl) (by decide) (by decide) (by decide) ⟨Or.inl ⟨(by simp [gE_al, gE_alM, gE_sI, gE_sJ, gE_sR, gE_fl, gE_cp, gN_al, gN_alM, gN_sI, gN_sJ, gN_sR, gN_fl, gN_cp, gR_al, gR_alM, gR_sI, gR_sJ, gR_sR, gR_fl, gR_cp, he, h0, h1, h2, h3, h4, h5, h6, h7, h8, h9, h10, h11, h12, h13, h14, h15, h16, h17, h18, h19, iX8_init]), rfl⟩, trivial⟩ ⟨Or.inl ⟨(by simp [gE_al, gE_alM, gE_sI, gE_sJ, gE_sR, gE_fl, gE_cp, gN_al, gN_alM, gN_sI, gN_sJ, gN_sR, gN_fl, gN_cp, gR_al, gR_alM, gR_sI, gR_sJ, gR_sR, gR_fl, gR_cp, he, h0, h1, h2, h3, h4, h5, h6, h7, h8, h9, h10, h11, h12, h13, h14, h15, h16, h17, h18, h19, iX8_init]), rfl⟩, ⟨Or.inl ⟨(by simp [gE_al, gE_alM, gE_sI, gE_sJ, gE_sR, gE_fl, gE_cp, gN_al, gN_alM, gN_sI, gN_sJ, gN_sR, gN_fl, gN_cp, gR_al, gR_alM, gR_sI, gR_sJ, gR_sR, gR_fl, gR_cp, he, h0, h1, h2, h3, h4, h5, h6, h7, h8, h9, h10, h11, h12, h13, h14, h15, h16, h17, h18, h19, iX8_init]), rfl⟩, trivial⟩⟩ (ok_X8_init (j := 17) (by simp [gE_al, gE_alM, gE_sI, gE_sJ, gE_sR, gE_fl, gE_cp, gN_al, gN_alM, gN_sI, gN_sJ, gN_sR, gN_fl, gN_cp, gR_al, gR_alM, gR_sI, gR_sJ, gR_sR, gR_fl, gR_cp, he, h0, h1, h2, h3, h4, h5, h6, h7, h8, h9, h10, h11, h12, h13, h14, h15, h16, h17, h18, h19, iX8_init]) (by simp [gE_al, gE_alM, gE_sI, gE_sJ, gE_sR, gE_fl, gE_cp, gN_al, gN_alM, gN_sI, gN_sJ, gN_sR, gN_fl, gN_cp, gR_al, gR_alM, gR_sI, gR_sJ, gR_sR, gR_fl, gR_cp, he, h0, h1, h2, h3, h4, h5, h6, h7, h8, h9, h10, h11, h12, h13, h14, h15, h16, h17, h18, h19, iX8_init]) (by simp [gE_al, gE_alM, gE_sI, gE_sJ, gE_sR, gE_fl, gE_cp, gN_al, gN_alM, gN_sI, gN_sJ, gN_sR, gN_fl, gN_cp, gR_al, gR_alM, gR_sI, gR_sJ, gR_sR, gR_fl, gR_cp, he, h0, h1, h2, h3, h4, h5, h6, h7, h8, h9, h10, h11, h12, h13, h14, h15, h16, h17, h18, h19, iX8_init])) (fun r33 S33 hp33 => ?_)
  obtain ⟨rfl, hq33⟩ := hp33
  rw [hq33]
  show Ok _ _ _ [zr 8 17, zr 3 0] _ _
  refine r_putr (q := 39) (fun p hp => by cases hp; exact (by simp [gE_al, gE_alM, gE_sI, gE_sJ, gE_sR, gE_fl, gE_cp, gN_al, gN_alM, gN_sI, gN_sJ, gN_sR, gN_fl, gN_cp, gR_al, gR_alM, gR_sI, gR_sJ, gR_sR, gR_fl, gR_cp, he, h0, h1, h2, h3, h4, h5, h6, h7, h8, h9, h10, h11, h12, h13, h14, h15, h16, h17, h18, h19, iX8_init, iX8_init])) ck3 dX3_init_36 rfl (k := 3) (by decide) wt206 (Or.inr ⟨rfl, rfl, rfl⟩) rfl (by simp [gE_al, gE_alM, gE_sI, gE_sJ, gE_sR, gE_fl, gE_cp, gN_al, gN_alM, gN_sI, gN_sJ, gN_sR, gN_fl, gN_cp, gR_al, gR_alM, gR_sI, gR_sJ, gR_sR, gR_fl, gR_cp, he, h0, h1, h2, h3, h4, h5, h6, h7, h8, h9, h10, h11, h12, h13, h14, h15, h16, h17, h18, h19, iX8_init, iX8_init]) ?_
  refine r_aload_n (q := 40) dX3_init_39 rfl rfl rfl ?_
  refine r_new (q := 43) (a := 8) (b := 18) (by decide) ck8 (by decide) dX3_init_40 rfl wt199 wt50 wt3 (by simp [gE_al, gE_alM, gE_sI, gE_sJ, gE_sR, gE_fl, gE_cp, gN_al, gN_alM, gN_sI, gN_sJ, gN_sR, gN_fl, gN_cp, gR_al, gR_alM, gR_sI, gR_sJ, gR_sR, gR_fl, gR_cp, he, h0, h1, h2, h3, h4, h5, h6, h7, h8, h9, h10, h11, h12, h13, h14, h15, h16, h17, h18, h19, iX8_init, iX8_init]) rfl rfl ?_
  refine r_dup (q := 44) dX3_init_43 rfl rfl ?_
  refine r_callIN (Mc := mX8_init) (q := 47) (As := []) (st := [zr 8 18, zr 3 0]) dX3_init_44 rfl rfl mkX8_init rfl rfl wn200 wt52 rfl (Nat.le_of_ble_eq_true rfl) (Nat.le_of_ble_eq_true rfl) (by decide) (by decide) (by decide) ⟨Or.inl ⟨(by simp [gE_al, gE_alM, gE_sI, gE_sJ, gE_sR, gE_fl, gE_cp, gN_al, gN_alM, gN_sI, gN_sJ, gN_sR, gN_fl, gN_cp, gR_al, gR_alM, gR_sI, gR_sJ, gR_sR, gR_fl, gR_cp, he, h0, h1, h2, h3, h4, h5, h6, h7, h8, h9, h10, h11, h12, h13, h14, h15, h16, h17, h18, h19, iX8_init, iX8_init]), rfl⟩, trivial⟩ ⟨Or.inl ⟨(by simp [gE_al, gE_alM, gE_sI, gE_sJ, gE_sR, gE_fl, gE_cp, gN_al, gN_alM, gN_sI, gN_sJ, gN_sR, gN_fl, gN_cp, gR_al, gR_alM, gR_sI, gR_sJ, gR_sR, gR_fl, gR_cp, he, h0, h1, h2, h3, h4, h5, h6, h7, h8, h9, h10, h11, h12, h13, h14, h15, h16, h17, h18, h19, iX8_init, iX8_init]), rfl⟩, ⟨Or.inl ⟨(by simp [gE_al, gE_alM, gE_sI, gE_sJ, gE_sR, gE_fl, gE_cp, gN_al, gN_alM, gN_sI, gN_sJ, gN_sR, gN_fl, gN_cp, gR_al, gR_alM, gR_sI, gR_sJ, gR_sR, gR_fl, gR_cp, he, h0, h1, h2, h3, h4, h5, h6, h7, h8, h9, h10, h11, h12, h13, h14, h15, h16, h17, h18, h19, iX8_init, iX8_init]), rfl⟩, trivial⟩⟩ (ok_X8_init (j := 18) (by simp [gE_al, gE_alM, gE_sI, gE_sJ, gE_sR, gE_fl, gE_cp, gN_al, gN_alM, gN_sI, gN_sJ, gN_sR, gN_fl, gN_cp, gR_al, gR_alM, gR_sI, gR_sJ, gR_sR, gR_fl, gR_cp, he, h0, h1, h2, h3, h4, h5, h6, h7, h8, h9, h10, h11, h12, h13, h14, h15, h16, h17, h18, h19, iX8_init, iX8_init]) (by simp [gE_al, gE_alM, gE_sI, gE_sJ, gE_sR, gE_fl, gE_cp, gN_al, gN_alM, gN_sI, gN_sJ, gN_sR, gN_fl, gN_cp, gR_al, gR_alM, gR_sI, gR_sJ, gR_sR, gR_fl, gR_cp, he, h0, h1, h2, h3, h4, h5, h6, h7, h8, h9, h10, h11, h12, h13, h14, h15, h16, h17, h18, h19, iX8_init, iX8_init]) (by simp [gE_al, gE_alM, gE_sI, gE_sJ, gE_sR, gE_fl, gE_cp, gN_al, gN_alM, gN_sI, gN_sJ, gN_sR, gN_fl, gN_cp, gR_al, gR_alM, gR_sI, gR_sJ, gR_sR, gR_fl, gR_cp, he, h0, h1, h2, h3, h4, h5, h6, h7, h8, h9, h10, h11, h12, h13, h14, h15, h16, h17, h18, h19, iX8_init, iX8_init])) (fun r44 S44 hp44 => ?_)
  obtain ⟨rfl, hq44⟩ := hp44
  rw [hq44]
  show Ok _ _ _ [zr 8 18, zr 3 0] _ _
  refine r_putr (q := 50) (fun p hp => by cases hp; exact (by simp [gE_al, gE_alM, gE_sI, gE_sJ, gE_sR, gE_fl, gE_cp, gN_al, gN_alM, gN_sI, gN_sJ, gN_sR, gN_fl, gN_cp, gR_al, gR_alM, gR_sI, gR_sJ, gR_sR, gR_fl, gR_cp, he, h0, h1, h2, h3, h4, h5, h6, h7, h8, h9, h10, h11, h12, h13, h14, h15, h16, h17, h18, h19, iX8_init, iX8_init, iX8_init])) ck3 dX3_init_47 rfl (k := 4) (by decide) wt207 (Or.inr ⟨rfl, rfl, rfl⟩) rfl (by simp [gE_al, gE_alM, gE_sI, gE_sJ, gE_sR, gE_fl, gE_cp, gN_al, gN_alM, gN_sI, gN_sJ, gN_sR, gN_fl, gN_cp, gR_al, gR_alM, gR_sI, gR_sJ, gR_sR, gR_fl, gR_cp, he, h0, h1, h2, h3, h4, h5, h6, h7, h8, h9, h10, h11, h12, h13, h14, h15, h16, h17, h18, h19, iX8_init, iX8_init, iX8_init]) ?_
  refine r_aload_n (q := 51) dX3_init_50 rfl rfl rfl ?_
  refine r_bipush (q := 53) (nI 13) dX3_init_51 rfl (by decide) ?_
  refine r_newa (q := 55) (a := 405) (b := 0) (n := 13) (Or.inl (by decide)) (by decide) (by decide) (by decide) rfl dX3_init_53 rfl wt47 (by decide) (by simp [gE_al, gE_alM, gE_sI, gE_sJ, gE_sR, gE_fl, gE_cp, gN_al, gN_alM, gN_sI, gN_sJ, gN_sR, gN_fl, gN_cp, gR_al, gR_alM, gR_sI, gR_sJ, gR_sR, gR_fl, gR_cp, he, h0, h1, h2, h3, h4, h5, h6, h7, h8, h9, h10, h11, h12, h13, h14, h15, h16, h17, h18, h19, iX8_init, iX8_init, iX8_init]) rfl rfl ?_
  refine r_putr (q := 58) (fun p hp => by cases hp; exact (by simp [gE_al, gE_alM, gE_sI, gE_sJ, gE_sR, gE_fl, gE_cp, gN_al, gN_alM, gN_sI, gN_sJ, gN_sR, gN_fl, gN_cp, gR_al, gR_alM, gR_sI, gR_sJ, gR_sR, gR_fl, gR_cp, he, h0, h1, h2, h3, h4, h5, h6, h7, h8, h9, h10, h11, h12, h13, h14, h15, h16, h17, h18, h19, iX8_init, iX8_init, iX8_init])) ck3 dX3_init_55 rfl (k := 5) (by decide) wt208 (Or.inr ⟨rfl, rfl, rfl⟩) rfl (by simp [gE_al, gE_alM, gE_sI, gE_sJ, gE_sR, gE_fl, gE_cp, gN_al, gN_alM, gN_sI, gN_sJ, gN_sR, gN_fl, gN_cp, gR_al, gR_alM, gR_sI, gR_sJ, gR_sR, gR_fl, gR_cp, he, h0, h1, h2, h3, h4, h5, h6, h7, h8, h9, h10, h11, h12, h13, h14, h15, h16, h17, h18, h19, iX8_init, iX8_init, iX8_init]) ?_
  refine r_iconst (q := 59) (nI 0) dX3_init_58 rfl (by decide) ?_
  refine r_istore_n (q := 60) (L' := [some (zr 3 0), some (zi (nI 0))]) dX3_init_59 rfl rfl (by decide) rfl ?_
  refine r_iload_n (q := 61) dX3_init_60 rfl rfl rfl ?_
  refine r_aload_n (q := 62) dX3_init_61 rfl rfl rfl ?_
  refine r_getr (q := 65) (some (400, 0)) ck3 dX3_init_62 rfl (k := 0) (by decide) wt201 rfl (by simp [gE_al, gE_alM, gE_sI, gE_sJ, gE_sR, gE_fl, gE_cp, gN_al, gN_alM, gN_sI, gN_sJ, gN_sR, gN_fl, gN_cp, gR_al, gR_alM, gR_sI, gR_sJ, gR_sR, gR_fl, gR_cp, he, h0, h1, h2, h3, h4, h5, h6, h7, h8, h9, h10, h11, h12, h13, h14, h15, h16, h17, h18, h19, iX8_init, iX8_init, iX8_init]) (by simp [gE_al, gE_alM, gE_sI, gE_sJ, gE_sR, gE_fl, gE_cp, gN_al, gN_alM, gN_sI, gN_sJ, gN_sR, gN_fl, gN_cp, gR_al, gR_alM, gR_sI, gR_sJ, gR_sR, gR_fl, gR_cp, he, h0, h1, h2, h3, h4, h5, h6, h7, h8, h9, h10, h11, h12, h13, h14, h15, h16, h17, h18, h19, iX8_init, iX8_init, iX8_init]) ?_
  refine r_alen (q := 66) (by decide) (by decide) dX3_init_65 rfl (by simp [gE_al, gE_alM, gE_sI, gE_sJ, gE_sR, gE_fl, gE_cp, gN_al, gN_alM, gN_sI, gN_sJ, gN_sR, gN_fl, gN_cp, gR_al, gR_alM, gR_sI, gR_sJ, gR_sR, gR_fl, gR_cp, he, h0, h1, h2, h3, h4, h5, h6, h7, h8, h9, h10, h11, h12, h13, h14, h15, h16, h17, h18, h19, iX8_init, iX8_init, iX8_init]) ?_
  refine r_topi (y := nI 3) (congrArg nI (by simp [gE_al, gE_alM, gE_sI, gE_sJ, gE_sR, gE_fl, gE_cp, gN_al, gN_alM, gN_sI, gN_sJ, gN_sR, gN_fl, gN_cp, gR_al, gR_alM, gR_sI, gR_sJ, gR_sR, gR_fl, gR_cp, he, h0, h1, h2, h3, h4, h5, h6, h7, h8, h9, h10, h11, h12, h13, h14, h15, h16, h17, h18, h19, iX8_init, iX8_init, iX8_init])) ?_
  refine r_icmp_geN (q := 69) (t := 88) (by omega) (by omega) dX3_init_66 (by decide) rfl (fun h66 => absurd h66 (by omega)) (fun h66 => ?_)
  refine r_aload_n (q := 70) dX3_init_69 rfl rfl rfl ?_
  refine r_getr (q := 73) (some (400, 0)) ck3 dX3_init_70 rfl (k := 0) (by decide) wt201 rfl (by simp [gE_al, gE_alM, gE_sI, gE_sJ, gE_sR, gE_fl, gE_cp, gN_al, gN_alM, gN_sI, gN_sJ, gN_sR, gN_fl, gN_cp, gR_al, gR_alM, gR_sI, gR_sJ, gR_sR, gR_fl, gR_cp, he, h0, h1, h2, h3, h4, h5, h6, h7, h8, h9, h10, h11, h12, h13, h14, h15, h16, h17, h18, h19, iX8_init, iX8_init, iX8_init]) (by simp [gE_al, gE_alM, gE_sI, gE_sJ, gE_sR, gE_fl, gE_cp, gN_al, gN_alM, gN_sI, gN_sJ, gN_sR, gN_fl, gN_cp, gR_al, gR_alM, gR_sI, gR_sJ, gR_sR, gR_fl, gR_cp, he, h0, h1, h2, h3, h4, h5, h6, h7, h8, h9, h10, h11, h12, h13, h14, h15, h16, h17, h18, h19, iX8_init, iX8_init, iX8_init]) ?_
  refine r_iload_n (q := 74) dX3_init_73 rfl rfl rfl ?_
  refine r_new (q := 77) (a := 8) (b := 13) (by decide) ck8 (by decide) dX3_init_74 rfl wt199 wt50 wt3 (by simp [gE_al, gE_alM, gE_sI, gE_sJ, gE_sR, gE_fl, gE_cp, gN_al, gN_alM, gN_sI, gN_sJ, gN_sR, gN_fl, gN_cp, gR_al, gR_alM, gR_sI, gR_sJ, gR_sR, gR_fl, gR_cp, he, h0, h1, h2, h3, h4, h5, h6, h7, h8, h9, h10, h11, h12, h13, h14, h15, h16, h17, h18, h19, iX8_init, iX8_init, iX8_init]) rfl rfl ?_
  refine r_dup (q := 78) dX3_init_77 rfl rfl ?_
  refine r_callIN (Mc := mX8_init) (q := 81) (As := []) (st := [zr 8 13, zi (nI 0), zr 400 0]) dX3_init_78 rfl rfl mkX8_init rfl rfl wn200 wt52 rfl (Nat.le_of_ble_eq_true rfl) (Nat.le_of_ble_eq_true rfl) (by decide) (by decide) (by decide) ⟨Or.inl ⟨(by simp [gE_al, gE_alM, gE_sI, gE_sJ, gE_sR, gE_fl, gE_cp, gN_al, gN_alM, gN_sI, gN_sJ, gN_sR, gN_fl, gN_cp, gR_al, gR_alM, gR_sI, gR_sJ, gR_sR, gR_fl, gR_cp, he, h0, h1, h2, h3, h4, h5, h6, h7, h8, h9, h10, h11, h12, h13, h14, h15, h16, h17, h18, h19, iX8_init, iX8_init, iX8_init]), rfl⟩, ⟨trivial, trivial⟩⟩ ⟨Or.inl ⟨(by simp [gE_al, gE_alM, gE_sI, gE_sJ, gE_sR, gE_fl, gE_cp, gN_al, gN_alM, gN_sI, gN_sJ, gN_sR, gN_fl, gN_cp, gR_al, gR_alM, gR_sI, gR_sJ, gR_sR, gR_fl, gR_cp, he, h0, h1, h2, h3, h4, h5, h6, h7, h8, h9, h10, h11, h12, h13, h14, h15, h16, h17, h18, h19, iX8_init, iX8_init, iX8_init]), rfl⟩, ⟨trivial, ⟨Or.inl ⟨(by simp [gE_al, gE_alM, gE_sI, gE_sJ, gE_sR, gE_fl, gE_cp, gN_al, gN_alM, gN_sI, gN_sJ, gN_sR, gN_fl, gN_cp, gR_al, gR_alM, gR_sI, gR_sJ, gR_sR, gR_fl, gR_cp, he, h0, h1, h2, h3, h4, h5, h6, h7, h8, h9, h10, h11, h12, h13, h14, h15, h16, h17, h18, h19, iX8_init, iX8_init, iX8_init]), rfl⟩, trivial⟩⟩⟩ (ok_X8_init (j := 13) (by simp [gE_al, gE_alM, gE_sI, gE_sJ, gE_sR, gE_fl, gE_cp, gN_al, gN_alM, gN_sI, gN_sJ, gN_sR, gN_fl, gN_cp, gR_al, gR_alM, gR_sI, gR_sJ, gR_sR, gR_fl, gR_cp, he, h0, h1, h2, h3, h4, h5, h6, h7, h8, h9, h10, h11, h12, h13, h14, h15, h16, h17, h18, h19, iX8_init, iX8_init, iX8_init]) (by simp [gE_al, gE_alM, gE_sI, gE_sJ, gE_sR, gE_fl, gE_cp, gN_al, gN_alM, gN_sI, gN_sJ, gN_sR, gN_fl, gN_cp, gR_al, gR_alM, gR_sI, gR_sJ, gR_sR, gR_fl, gR_cp, he, h0, h1, h2, h3, h4, h5, h6, h7, h8, h9, h10, h11, h12, h13, h14, h15, h16, h17, h18, h19, iX8_init, iX8_init, iX8_init]) (by simp [gE_al, gE_alM, gE_sI, gE_sJ, gE_sR, gE_fl, gE_cp, gN_al, gN_alM, gN_sI, gN_sJ, gN_sR, gN_fl, gN_cp, gR_al, gR_alM, gR_sI, gR_sJ, gR_sR, gR_fl, gR_cp, he, h0, h1, h2, h3, h4, h5, h6, h7, h8, h9, h10, h11, h12, h13, h14, h15, h16, h17, h18, h19, iX8_init, iX8_init, iX8_init])) (fun r78 S78 hp78 => ?_)
  obtain ⟨rfl, hq78⟩ := hp78
  rw [hq78]
  show Ok _ _ _ [zr 8 13, zi (nI 0), zr 400 0] _ _
  refine r_aast (q := 82) (n := 3) ck8 (by decide) (by decide) (by decide) rfl dX3_init_81 rfl (by simp [gE_al, gE_alM, gE_sI, gE_sJ, gE_sR, gE_fl, gE_cp, gN_al, gN_alM, gN_sI, gN_sJ, gN_sR, gN_fl, gN_cp, gR_al, gR_alM, gR_sI, gR_sJ, gR_sR, gR_fl, gR_cp, he, h0, h1, h2, h3, h4, h5, h6, h7, h8, h9, h10, h11, h12, h13, h14, h15, h16, h17, h18, h19, iX8_init, iX8_init, iX8_init, iX8_init]) (by simp [gE_al, gE_alM, gE_sI, gE_sJ, gE_sR, gE_fl, gE_cp, gN_al, gN_alM, gN_sI, gN_sJ, gN_sR, gN_fl, gN_cp, gR_al, gR_alM, gR_sI, gR_sJ, gR_sR, gR_fl, gR_cp, he, h0, h1, h2, h3, h4, h5, h6, h7, h8, h9, h10, h11, h12, h13, h14, h15, h16, h17, h18, h19, iX8_init, iX8_init, iX8_init, iX8_init]) (by simp [gE_al, gE_alM, gE_sI, gE_sJ, gE_sR, gE_fl, gE_cp, gN_al, gN_alM, gN_sI, gN_sJ, gN_sR, gN_fl, gN_cp, gR_al, gR_alM, gR_sI, gR_sJ, gR_sR, gR_fl, gR_cp, he, h0, h1, h2, h3, h4, h5, h6, h7, h8, h9, h10, h11, h12, h13, h14, h15, h16, h17, h18, h19, iX8_init, iX8_init, iX8_init, iX8_init]) (by decide) (by decide) ?_
  refine r_iincN (q := 85) (L' := [some (zr 3 0), some (zi (nI 1))]) 1 rfl dX3_init_82 rfl rfl (by decide) rfl ?_
  refine r_goto (q := 60) dX3_init_85 (by decide) ?_
  refine r_iload_n (q := 61) dX3_init_60 rfl rfl rfl ?_
  refine r_aload_n (q := 62) dX3_init_61 rfl rfl rfl ?_
  refine r_getr (q := 65) (some (400, 0)) ck3 dX3_init_62 rfl (k := 0) (by decide) wt201 rfl (by simp [gE_al, gE_alM, gE_sI, gE_sJ, gE_sR, gE_fl, gE_cp, gN_al, gN_alM, gN_sI, gN_sJ, gN_sR, gN_fl, gN_cp, gR_al, gR_alM, gR_sI, gR_sJ, gR_sR, gR_fl, gR_cp, he, h0, h1, h2, h3, h4, h5, h6, h7, h8, h9, h10, h11, h12, h13, h14, h15, h16, h17, h18, h19, iX8_init, iX8_init, iX8_init, iX8_init]) (by simp [gE_al, gE_alM, gE_sI, gE_sJ, gE_sR, gE_fl, gE_cp, gN_al, gN_alM, gN_sI, gN_sJ, gN_sR, gN_fl, gN_cp, gR_al, gR_alM, gR_sI, gR_sJ, gR_sR, gR_fl, gR_cp, he, h0, h1, h2, h3, h4, h5, h6, h7, h8, h9, h10, h11, h12, h13, h14, h15, h16, h17, h18, h19, iX8_init, iX8_init, iX8_init, iX8_init]) ?_
  refine r_alen (q := 66) (by decide) (by decide) dX3_init_65 rfl (by simp [gE_al, gE_alM, gE_sI, gE_sJ, gE_sR, gE_fl, gE_cp, gN_al, gN_alM, gN_sI, gN_sJ, gN_sR, gN_fl, gN_cp, gR_al, gR_alM, gR_sI, gR_sJ, gR_sR, gR_fl, gR_cp, he, h0, h1, h2, h3, h4, h5, h6, h7, h8, h9, h10, h11, h12, h13, h14, h15, h16, h17, h18, h19, iX8_init, iX8_init, iX8_init, iX8_init]) ?_
  refine r_topi (y := nI 3) (congrArg nI (by simp [gE_al, gE_alM, gE_sI, gE_sJ, gE_sR, gE_fl, gE_cp, gN_al, gN_alM, gN_sI, gN_sJ, gN_sR, gN_fl, gN_cp, gR_al, gR_alM, gR_sI, gR_sJ, gR_sR, gR_fl, gR_cp, he, h0, h1, h2, h3, h4, h5, h6, h7, h8, h9, h10, h11, h12, h13, h14, h15, h16, h17, h18, h19, iX8_init, iX8_init, iX8_init, iX8_init])) ?_
  refine r_icmp_geN (q := 69) (t := 88) (by omega) (by omega) dX3_init_66 (by decide) rfl (fun h66 => absurd h66 (by omega)) (fun h66 => ?_)
  refine r_aload_n (q := 70) dX3_init_69 rfl rfl rfl ?_
  refine r_getr (q := 73) (some (400, 0)) ck3 dX3_init_70 rfl (k := 0) (by decide) wt201 rfl (by simp [gE_al, gE_alM, gE_sI, gE_sJ, gE_sR, gE_fl, gE_cp, gN_al, gN_alM, gN_sI, gN_sJ, gN_sR, gN_fl, gN_cp, gR_al, gR_alM, gR_sI, gR_sJ, gR_sR, gR_fl, gR_cp, he, h0, h1, h2, h3, h4, h5, h6, h7, h8, h9, h10, h11, h12, h13, h14, h15, h16, h17, h18, h19, iX8_init, iX8_init, iX8_init, iX8_init]) (by simp [gE_al, gE_alM, gE_sI, gE_sJ, gE_sR, gE_fl, gE_cp, gN_al, gN_alM, gN_sI, gN_sJ, gN_sR, gN_fl, gN_cp, gR_al, gR_alM, gR_sI, gR_sJ, gR_sR, gR_fl, gR_cp, he, h0, h1, h2, h3, h4, h5, h6, h7, h8, h9, h10, h11, h12, h13, h14, h15, h16, h17, h18, h19, iX8_init, iX8_init, iX8_init, iX8_init]) ?_
  refine r_iload_n (q := 74) dX3_init_73 rfl rfl rfl ?_
  refine r_new (q := 77) (a := 8) (b := 14) (by decide) ck8 (by decide) dX3_init_74 rfl wt199 wt50 wt3 (by simp [gE_al, gE_alM, gE_sI, gE_sJ, gE_sR, gE_fl, gE_cp, gN_al, gN_alM, gN_sI, gN_sJ, gN_sR, gN_fl, gN_cp, gR_al, gR_alM, gR_sI, gR_sJ, gR_sR, gR_fl, gR_cp, he, h0, h1, h2, h3, h4, h5, h6, h7, h8, h9, h10, h11, h12, h13, h14, h15, h16, h17, h18, h19, iX8_init, iX8_init, iX8_init, iX8_init]) rfl rfl ?_
  refine r_dup (q := 78) dX3_init_77 rfl rfl ?_
  refine r_callIN (Mc := mX8_init) (q := 81) (As := []) (st := [zr 8 14, zi (nI 1), zr 400 0]) dX3_init_78 rfl rfl mkX8_init rfl rfl wn200 wt52 rfl (Nat.le_of_ble_eq_true rfl) (Nat.le_of_ble_eq_true rfl) (by decide) (by decide) (by decide) ⟨Or.inl ⟨(by simp [gE_al, gE_alM, gE_sI, gE_sJ, gE_sR, gE_fl, gE_cp, gN_al, gN_alM, gN_sI, gN_sJ, gN_sR, gN_fl, gN_cp, gR_al, gR_alM, gR_sI, gR_sJ, gR_sR, gR_fl, gR_cp, he, h0, h1, h2, h3, h4, h5, h6, h7, h8, h9, h10, h11, h12, h13, h14, h15, h16, h17, h18, h19, iX8_init, iX8_init, iX8_init, iX8_init]), rfl⟩, ⟨trivial, trivial⟩⟩ ⟨Or.inl ⟨(by simp [gE_al, gE_alM, gE_sI, gE_sJ, gE_sR, gE_fl, gE_cp, gN_al, gN_alM, gN_sI, gN_sJ, gN_sR, gN_fl, gN_cp, gR_al, gR_alM, gR_sI, gR_sJ, gR_sR, gR_fl, gR_cp, he, h0, h1, h2, h3, h4, h5, h6, h7, h8, h9, h10, h11, h12, h13, h14, h15, h16, h17, h18, h19, iX8_init, iX8_init, iX8_init, iX8_init]), rfl⟩, ⟨trivial, ⟨Or.inl ⟨(by simp [gE_al, gE_alM, gE_sI, gE_sJ, gE_sR, gE_fl, gE_cp, gN_al, gN_alM, gN_sI, gN_sJ, gN_sR, gN_fl, gN_cp, gR_al, gR_alM, gR_sI, gR_sJ, gR_sR, gR_fl, gR_cp, he, h0, h1, h2, h3, h4, h5, h6, h7, h8, h9, h10, h11, h12, h13, h14, h15, h16, h17, h18, h19, iX8_init, iX8_init, iX8_init, iX8_init]), rfl⟩, trivial⟩⟩⟩ (ok_X8_init (j := 14) (by simp [gE_al, gE_alM, gE_sI, gE_sJ, gE_sR, gE_fl, gE_cp, gN_al, gN_alM, gN_sI, gN_sJ, gN_sR, gN_fl, gN_cp, gR_al, gR_alM, gR_sI, gR_sJ, gR_sR, gR_fl, gR_cp, he, h0, h1, h2, h3, h4, h5, h6, h7, h8, h9, h10, h11, h12, h13, h14, h15, h16, h17, h18, h19, iX8_init, iX8_init, iX8_init, iX8_init]) (by simp [gE_al, gE_alM, gE_sI, gE_sJ, gE_sR, gE_fl, gE_cp, gN_al, gN_alM, gN_sI, gN_sJ, gN_sR, gN_fl, gN_cp, gR_al, gR_alM, gR_sI, gR_sJ, gR_sR, gR_fl, gR_cp, he, h0, h1, h2, h3, h4, h5, h6, h7, h8, h9, h10, h11, h12, h13, h14, h15, h16, h17, h18, h19, iX8_init, iX8_init, iX8_init, iX8_init]) (by simp [gE_al, gE_alM, gE_sI, gE_sJ, gE_sR, gE_fl, gE_cp, gN_al, gN_alM, gN_sI, gN_sJ, gN_sR, gN_fl, gN_cp, gR_al, gR_alM, gR_sI, gR_sJ, gR_sR, gR_fl, gR_cp, he, h0, h1, h2, h3, h4, h5, h6, h7, h8, h9, h10, h11, h12, h13, h14, h15, h16, h17, h18, h19, iX8_init, iX8_init, iX8_init, iX8_init])) (fun r78 S78 hp78 => ?_)
  obtain ⟨rfl, hq78⟩ := hp78
  rw [hq78]
  show Ok _ _ _ [zr 8 14, zi (nI 1), zr 400 0] _ _
  refine r_aast (q := 82) (n := 3) ck8 (by decide) (by decide) (by decide) rfl dX3_init_81 rfl (by simp [gE_al, gE_alM, gE_sI, gE_sJ, gE_sR, gE_fl, gE_cp, gN_al, gN_alM, gN_sI, gN_sJ, gN_sR, gN_fl, gN_cp, gR_al, gR_alM, gR_sI, gR_sJ, gR_sR, gR_fl, gR_cp, he, h0, h1, h2, h3, h4, h5, h6, h7, h8, h9, h10, h11, h12, h13, h14, h15, h16, h17, h18, h19, iX8_init, iX8_init, iX8_init, iX8_init, iX8_init]) (by simp [gE_al, gE_alM, gE_sI, gE_sJ, gE_sR, gE_fl, gE_cp, gN_al, gN_alM, gN_sI, gN_sJ, gN_sR, gN_fl, gN_cp, gR_al, gR_alM, gR_sI, gR_sJ, gR_sR, gR_fl, gR_cp, he, h0, h1, h2, h3, h4, h5, h6, h7, h8, h9, h10, h11, h12, h13, h14, h15, h16, h17, h18, h19, iX8_init, iX8_init, iX8_init, iX8_init, iX8_init]) (by simp [gE_al, gE_alM, gE_sI, gE_sJ, gE_sR, gE_fl, gE_cp, gN_al, gN_alM, gN_sI, gN_sJ, gN_sR, gN_fl, gN_cp, gR_al, gR_alM, gR_sI, gR_sJ, gR_sR, gR_fl, gR_cp, he, h0, h1, h2, h3, h4, h5, h6, h7, h8, h9, h10, h11, h12, h13, h14, h15, h16, h17, h18, h19, iX8_init, iX8_init, iX8_init, iX8_init, iX8_init]) (by decide) (by decide) ?_
  refine r_iincN (q := 85) (L' := [some (zr 3 0), some (zi (nI 2))]) 1 rfl dX3_init_82 rfl rfl (by decide) rfl ?_
  refine r_goto (q := 60) dX3_init_85 (by decide) ?_
  refine r_iload_n (q := 61) dX3_init_60 rfl rfl rfl ?_
  refine r_aload_n (q := 62) dX3_init_61 rfl rfl rfl ?_
  refine r_getr (q := 65) (some (400, 0)) ck3 dX3_init_62 rfl (k := 0) (by decide) wt201 rfl (by simp [gE_al, gE_alM, gE_sI, gE_sJ, gE_sR, gE_fl, gE_cp, gN_al, gN_alM, gN_sI, gN_sJ, gN_sR, gN_fl, gN_cp, gR_al, gR_alM, gR_sI, gR_sJ, gR_sR, gR_fl, gR_cp, he, h0, h1, h2, h3, h4, h5, h6, h7, h8, h9, h10, h11, h12, h13, h14, h15, h16, h17, h18, h19, iX8_init, iX8_init, iX8_init, iX8_init, iX8_init]) (by simp [gE_al, gE_alM, gE_sI, gE_sJ, gE_sR, gE_fl, gE_cp, gN_al, gN_alM, gN_sI, gN_sJ, gN_sR, gN_fl, gN_cp, gR_al, gR_alM, gR_sI, gR_sJ, gR_sR, gR_fl, gR_cp, he, h0, h1, h2, h3, h4, h5, h6, h7, h8, h9, h10, h11, h12, h13, h14, h15, h16, h17, h18, h19, iX8_init, iX8_init, iX8_init, iX8_init, iX8_init]) ?_
  refine r_alen (q := 66) (by decide) (by decide) dX3_init_65 rfl (by simp [gE_al, gE_alM, gE_sI, gE_sJ, gE_sR, gE_fl, gE_cp, gN_al, gN_alM, gN_sI, gN_sJ, gN_sR, gN_fl, gN_cp, gR_al, gR_alM, gR_sI, gR_sJ, gR_sR, gR_fl, gR_cp, he, h0, h1, h2, h3, h4, h5, h6, h7, h8, h9, h10, h11, h12, h13, h14, h15, h16, h17, h18, h19, iX8_init, iX8_init, iX8_init, iX8_init, iX8_init]) ?_
  refine r_topi (y := nI 3) (congrArg nI (by simp [gE_al, gE_alM, gE_sI, gE_sJ, gE_sR, gE_fl, gE_cp, gN_al, gN_alM, gN_sI, gN_sJ, gN_sR, gN_fl, gN_cp, gR_al, gR_alM, gR_sI, gR_sJ, gR_sR, gR_fl, gR_cp, he, h0, h1, h2, h3, h4, h5, h6, h7, h8, h9, h10, h11, h12, h13, h14, h15, h16, h17, h18, h19, iX8_init, iX8_init, iX8_init, iX8_init, iX8_init])) ?_
  refine r_icmp_geN (q := 69) (t := 88) (by omega) (by omega) dX3_init_66 (by decide) rfl (fun h66 => absurd h66 (by omega)) (fun h66 => ?_)
  refine r_aload_n (q := 70) dX3_init_69 rfl rfl rfl ?_
  refine r_getr (q := 73) (some (400, 0)) ck3 dX3_init_70 rfl (k := 0) (by decide) wt201 rfl (by simp [gE_al, gE_alM, gE_sI, gE_sJ, gE_sR, gE_fl, gE_cp, gN_al, gN_alM, gN_sI, gN_sJ, gN_sR, gN_fl, gN_cp, gR_al, gR_alM, gR_sI, gR_sJ, gR_sR, gR_fl, gR_cp, he, h0, h1, h2, h3, h4, h5, h6, h7, h8, h9, h10, h11, h12, h13, h14, h15, h16, h17, h18, h19, iX8_init, iX8_init, iX8_init, iX8_init, iX8_init]) (by simp [gE_al, gE_alM, gE_sI, gE_sJ, gE_sR, gE_fl, gE_cp, gN_al, gN_alM, gN_sI, gN_sJ, gN_sR, gN_fl, gN_cp, gR_al, gR_alM, gR_sI, gR_sJ, gR_sR, gR_fl, gR_cp, he, h0, h1, h2, h3, h4, h5, h6, h7, h8, h9, h10, h11, h12, h13, h14, h15, h16, h17, h18, h19, iX8_init, iX8_init, iX8_init, iX8_init, iX8_init]) ?_
  refine r_iload_n (q := 74) dX3_init_73 rfl rfl rfl ?_
  refine r_new (q := 77) (a := 8) (b := 15) (by decide) ck8 (by decide) dX3_init_74 rfl wt199 wt50 wt3 (by simp [gE_al, gE_alM, gE_sI, gE_sJ, gE_sR, gE_fl, gE_cp, gN_al, gN_alM, gN_sI, gN_sJ, gN_sR, gN_fl, gN_cp, gR_al, gR_alM, gR_sI, gR_sJ, gR_sR, gR_fl, gR_cp, he, h0, h1, h2, h3, h4, h5, h6, h7, h8, h9, h10, h11, h12, h13, h14, h15, h16, h17, h18, h19, iX8_init, iX8_init, iX8_init, iX8_init, iX8_init]) rfl rfl ?_
  refine r_dup (q := 78) dX3_init_77 rfl rfl ?_
  refine r_callIN (Mc := mX8_init) (q := 81) (As := []) (st := [zr 8 15, zi (nI 2), zr 400 0]) dX3_init_78 rfl rfl mkX8_init rfl rfl wn200 wt52 rfl (Nat.le_of_ble_eq_true rfl) (Nat.le_of_ble_eq_true rfl) (by decide) (by decide) (by decide) ⟨Or.inl ⟨(by simp [gE_al, gE_alM, gE_sI, gE_sJ, gE_sR, gE_fl, gE_cp, gN_al, gN_alM, gN_sI, gN_sJ, gN_sR, gN_fl, gN_cp, gR_al, gR_alM, gR_sI, gR_sJ, gR_sR, gR_fl, gR_cp, he, h0, h1, h2, h3, h4, h5, h6, h7, h8, h9, h10, h11, h12, h13, h14, h15, h16, h17, h18, h19, iX8_init, iX8_init, iX8_init, iX8_init, iX8_init]), rfl⟩, ⟨trivial, trivial⟩⟩ ⟨Or.inl ⟨(by simp [gE_al, gE_alM, gE_sI, gE_sJ, gE_sR, gE_fl, gE_cp, gN_al, gN_alM, gN_sI, gN_sJ, gN_sR, gN_fl, gN_cp, gR_al, gR_alM, gR_sI, gR_sJ, gR_sR, gR_fl, gR_cp, he, h0, h1, h2, h3, h4, h5, h6, h7, h8, h9, h10, h11, h12, h13, h14, h15, h16, h17, h18, h19, iX8_init, iX8_init, iX8_init, iX8_init, iX8_init]), rfl⟩, ⟨trivial, ⟨Or.inl ⟨(by simp [gE_al, gE_alM, gE_sI, gE_sJ, gE_sR, gE_fl, gE_cp, gN_al, gN_alM, gN_sI, gN_sJ, gN_sR, gN_fl, gN_cp, gR_al, gR_alM, gR_sI, gR_sJ, gR_sR, gR_fl, gR_cp, he, h0, h1, h2, h3, h4, h5, h6, h7, h8, h9, h10, h11, h12, h13, h14, h15, h16, h17, h18, h19, iX8_init, iX8_init, iX8_init, iX8_init, iX8_init]), rfl⟩, trivial⟩⟩⟩ (ok_X8_init (j := 15) (by simp [gE_al, gE_alM, gE_sI, gE_sJ, gE_sR, gE_fl, gE_cp, gN_al, gN_alM, gN_sI, gN_sJ, gN_sR, gN_fl, gN_cp, gR_al, gR_alM, gR_sI, gR_sJ, gR_sR, gR_fl, gR_cp, he, h0, h1, h2, h3, h4, h5, h6, h7, h8, h9, h10, h11, h12, h13, h14, h15, h16, h17, h18, h19, iX8_init, iX8_init, iX8_init, iX8_init, iX8_init]) (by simp [gE_al, gE_alM, gE_sI, gE_sJ, gE_sR, gE_fl, gE_cp, gN_al, gN_alM, gN_sI, gN_sJ, gN_sR, gN_fl, gN_cp, gR_al, gR_alM, gR_sI, gR_sJ, gR_sR, gR_fl, gR_cp, he, h0, h1, h2, h3, h4, h5, h6, h7, h8, h9, h10, h11, h12, h13, h14, h15, h16, h17, h18, h19, iX8_init, iX8_init, iX8_init, iX8_init, iX8_init]) (by simp [gE_al, gE_alM, gE_sI, gE_sJ, gE_sR, gE_fl, gE_cp, gN_al, gN_alM, gN_sI, gN_sJ, gN_sR, gN_fl, gN_cp, gR_al, gR_alM, gR_sI, gR_sJ, gR_sR, gR_fl, gR_cp, he, h0, h1, h2, h3, h4, h5, h6, h7, h8, h9, h10, h11, h12, h13, h14, h15, h16, h17, h18, h19, iX8_init, iX8_init, iX8_init, iX8_init, iX8_init])) (fun r78 S78 hp78 => ?_)
  obtain ⟨rfl, hq78⟩ := hp78
  rw [hq78]
  show Ok _ _ _ [zr 8 15, zi (nI 2), zr 400 0] _ _
  refine r_aast (q := 82) (n := 3) ck8 (by decide) (by decide) (by decide) rfl dX3_init_81 rfl (by simp [gE_al, gE_alM, gE_sI, gE_sJ, gE_sR, gE_fl, gE_cp, gN_al, gN_alM, gN_sI, gN_sJ, gN_sR, gN_fl, gN_cp, gR_al, gR_alM, gR_sI, gR_sJ, gR_sR, gR_fl, gR_cp, he, h0, h1, h2, h3, h4, h5, h6, h7, h8, h9, h10, h11, h12, h13, h14, h15, h16, h17, h18, h19, iX8_init, iX8_init, iX8_init, iX8_init, iX8_init, iX8_init]) (by simp [gE_al, gE_alM, gE_sI, gE_sJ, gE_sR, gE_fl, gE_cp, gN_al, gN_alM, gN_sI, gN_sJ, gN_sR, gN_fl, gN_cp, gR_al, gR_alM, gR_sI, gR_sJ, gR_sR, gR_fl, gR_cp, he, h0, h1, h2, h3, h4, h5, h6, h7, h8, h9, h10, h11, h12, h13, h14, h15, h16, h17, h18, h19, iX8_init, iX8_init, iX8_init, iX8_init, iX8_init, iX8_init]) (by simp [gE_al, gE_alM, gE_sI, gE_sJ, gE_sR, gE_fl, gE_cp, gN_al, gN_alM, gN_sI, gN_sJ, gN_sR, gN_fl, gN_cp, gR_al, gR_alM, gR_sI, gR_sJ, gR_sR, gR_fl, gR_cp, he, h0, h1, h2, h3, h4, h5, h6, h7, h8, h9, h10, h11, h12, h13, h14, h15, h16, h17, h18, h19, iX8_init, iX8_init, iX8_init, iX8_init, iX8_init, iX8_init]) (by decide) (by decide) ?_
  refine r_iincN (q := 85) (L' := [some (zr 3 0), some (zi (nI 3))]) 1 rfl dX3_init_82 rfl rfl (by decide) rfl ?_
  refine r_goto (q := 60) dX3_init_85 (by decide) ?_
  refine r_iload_n (q := 61) dX3_init_60 rfl rfl rfl ?_
  refine r_aload_n (q := 62) dX3_init_61 rfl rfl rfl ?_
  refine r_getr (q := 65) (some (400, 0)) ck3 dX3_init_62 rfl (k := 0) (by decide) wt201 rfl (by simp [gE_al, gE_alM, gE_sI, gE_sJ, gE_sR, gE_fl, gE_cp, gN_al, gN_alM, gN_sI, gN_sJ, gN_sR, gN_fl, gN_cp, gR_al, gR_alM, gR_sI, gR_sJ, gR_sR, gR_fl, gR_cp, he, h0, h1, h2, h3, h4, h5, h6, h7, h8, h9, h10, h11, h12, h13, h14, h15, h16, h17, h18, h19, iX8_init, iX8_init, iX8_init, iX8_init, iX8_init, iX8_init]) (by simp [gE_al, gE_alM, gE_sI, gE_sJ, gE_sR, gE_fl, gE_cp, gN_al, gN_alM, gN_sI, gN_sJ, gN_sR, gN_fl, gN_cp, gR_al, gR_alM, gR_sI, gR_sJ, gR_sR, gR_fl, gR_cp, he, h0, h1, h2, h3, h4, h5, h6, h7, h8, h9, h10, h11, h12, h13, h14, h15, h16, h17, h18, h19, iX8_init, iX8_init, iX8_init, iX8_init, iX8_init, iX8_init]) ?_
  refine r_alen (q := 66) (by decide) (by decide) dX3_init_65 rfl (by simp [gE_al, gE_alM, gE_sI, gE_sJ, gE_sR, gE_fl, gE_cp, gN_al, gN_alM, gN_sI, gN_sJ, gN_sR, gN_fl, gN_cp, gR_al, gR_alM, gR_sI, gR_sJ, gR_sR, gR_fl, gR_cp, he, h0, h1, h2, h3, h4, h5, h6, h7, h8, h9, h10, h11, h12, h13, h14, h15, h16, h17, h18, h19, iX8_init, iX8_init, iX8_init, iX8_init, iX8_init, iX8_init]) ?_
  refine r_topi (y := nI 3) (congrArg nI (by simp [gE_al, gE_alM, gE_sI, gE_sJ, gE_sR, gE_fl, gE_cp, gN_al, gN_alM, gN_sI, gN_sJ, gN_sR, gN_fl, gN_cp, gR_al, gR_alM, gR_sI, gR_sJ, gR_sR, gR_fl, gR_cp, he, h0, h1, h2, h3, h4, h5, h6, h7, h8, h9, h10, h11, h12, h13, h14, h15, h16, h17, h18, h19, iX8_init, iX8_init, iX8_init, iX8_init, iX8_init, iX8_init])) ?_
  refine r_icmp_geN (q := 69) (t := 88) (by omega) (by omega) dX3_init_66 (by decide) rfl (fun h66 => ?_) (fun h66 => absurd h66 (by omega))
  refine r_return dX3_init_88 rfl ?_
  exact ⟨rfl, rfl⟩

def iX0_init (S : zS) (j : Nat) : zS := flS (sR (sR (al (sR (al (sR (al (sR (al (sR (al (sR (al (sR (al (sR (al (sR (al (sR (iX6_init (al S 6 j 0 4) j) 0 j 1 (some (6, j))) 103 j 9 9) 0 j 3 (some (103, j))) 104 j 400 400) 0 j 4 (some (104, j))) 105 j 400 400) 0 j 5 (some (105, j))) 106 j 9 9) 0 j 6 (some (106, j))) 107 j 512 512) 0 j 7 (some (107, j))) 108 j 8 8) 0 j 8 (some (108, j))) 109 j 8 8) 0 j 9 (some (109, j))) 110 j 8 8) 0 j 10 (some (110, j))) 111 j 8 8) 0 j 11 (some (111, j))) 0 j 0 (some (9, j))) 109 j 0 8 (-1 : Int32)
set_option maxRecDepth 100000 in
theorem ok_X0_init {S : zS} {j : Nat} (he : gE S 0 j = true) (h0 : gE S 103 j = false) (h1 : gE S 104 j = false) (h2 : gE S 105 j = false) (h3 : gE S 106 j = false) (h4 : gE S 107 j = false) (h5 : gE S 108 j = false) (h6 : gE S 109 j = false) (h7 : gE S 110 j = false) (h8 : gE S 111 j = false) (h9 : gE S 6 j = false) (h10 : gE S 700 j = false) (h11 : gE S 701 j = false) (h12 : gE S 702 j = false) (h13 : gE S 703 j = false) (hw : gE S 9 j = true) : Ok mX0_init 0 (ent 2 [zr 0 j, zr 9 j]) [] S (fun r S1 => r = none ∧ S1 = iX0_init S j) := by
  show Ok mX0_init 0 [some (zr 0 j), some (zr 9 j)] [] S _
  refine r_aload_n (q := 1) dX0_init_0 rfl rfl rfl ?_
  refine r_objInit (q := 4) dX0_init_1 rfl wt368 wt27 wt28 (Nat.le_of_ble_eq_true rfl) (by decide) (by decide) ?_
  refine r_aload_n (q := 5) dX0_init_4 rfl rfl rfl ?_
  refine r_new (q := 8) (a := 6) (b := j) (by decide) ck6 (by decide) dX0_init_5 rfl wt369 wt92 wt4 (by simp [gE_al, gE_alM, gE_sI, gE_sJ, gE_sR, gE_fl, gE_cp, gN_al, gN_alM, gN_sI, gN_sJ, gN_sR, gN_fl, gN_cp, gR_al, gR_alM, gR_sI, gR_sJ, gR_sR, gR_fl, gR_cp, he, h0, h1, h2, h3, h4, h5, h6, h7, h8, h9, h10, h11, h12, h13, hw]) rfl rfl ?_
  refine r_dup (q := 9) dX0_init_8 rfl rfl ?_
  refine r_callIN (Mc := mX6_init) (q := 12) (As := []) (st := [zr 6 j, zr 0 j]) dX0_init_9 rfl rfl mkX6_init rfl rfl wn370 wt94 rfl (Nat.le_of_ble_eq_true rfl) (Nat.le_of_ble_eq_true rfl) (by decide) (by decide) (by decide) ⟨Or.inl ⟨(by simp [gE_al, gE_alM, gE_sI, gE_sJ, gE_sR, gE_fl, gE_cp, gN_al, gN_alM, gN_sI, gN_sJ, gN_sR, gN_fl, gN_cp, gR_al, gR_alM, gR_sI, gR_sJ, gR_sR, gR_fl, gR_cp, he, h0, h1, h2, h3, h4, h5, h6, h7, h8, h9, h10, h11, h12, h13, hw]), rfl⟩, ⟨Or.inl ⟨(by simp [gE_al, gE_alM, gE_sI, gE_sJ, gE_sR, gE_fl, gE_cp, gN_al, gN_alM, gN_sI, gN_sJ, gN_sR, gN_fl, gN_cp, gR_al, gR_alM, gR_sI, gR_sJ, gR_sR, gR_fl, gR_cp, he, h0, h1, h2, h3, h4, h5, h6, h7, h8, h9, h10, h11, h12, h13, hw]), rfl⟩, trivial⟩⟩ ⟨Or.inl ⟨(by simp [gE_al, gE_alM, gE_sI, gE_sJ, gE_sR, gE_fl, gE_cp, gN_al, gN_alM, gN_sI, gN_sJ, gN_sR, gN_fl, gN_cp, gR_al, gR_alM, gR_sI, gR_sJ, gR_sR, gR_fl, gR_cp, he, h0, h1, h2, h3, h4, h5, h6, h7, h8, h9, h10, h11, h12, h13, hw]), rfl⟩, ⟨Or.inl ⟨(by simp [gE_al, gE_alM, gE_sI, gE_sJ, gE_sR, gE_fl, gE_cp, gN_al, gN_alM, gN_sI, gN_sJ, gN_sR, gN_fl, gN_cp, gR_al, gR_alM, gR_sI, gR_sJ, gR_sR, gR_fl, gR_cp, he, h0, h1, h2, h3, h4, h5, h6, h7, h8, h9, h10, h11, h12, h13, hw]), rfl⟩, trivial⟩⟩ (ok_X6_init (j := j) (by simp [gE_al, gE_alM, gE_sI, gE_sJ, gE_sR, gE_fl, gE_cp, gN_al, gN_alM, gN_sI, gN_sJ, gN_sR, gN_fl, gN_cp, gR_al, gR_alM, gR_sI, gR_sJ, gR_sR, gR_fl, gR_cp, he, h0, h1, h2, h3, h4, h5, h6, h7, h8, h9, h10, h11, h12, h13, hw]) (by simp [gE_al, gE_alM, gE_sI, gE_sJ, gE_sR, gE_fl, gE_cp, gN_al, gN_alM, gN_sI, gN_sJ, gN_sR, gN_fl, gN_cp, gR_al, gR_alM, gR_sI, gR_sJ, gR_sR, gR_fl, gR_cp, he, h0, h1, h2, h3, h4, h5, h6, h7, h8, h9, h10, h11, h12, h13, hw]) (by simp [gE_al, gE_alM, gE_sI, gE_sJ, gE_sR, gE_fl, gE_cp, gN_al, gN_alM, gN_sI, gN_sJ, gN_sR, gN_fl, gN_cp, gR_al, gR_alM, gR_sI, gR_sJ, gR_sR, gR_fl, gR_cp, he, h0, h1, h2, h3, h4, h5, h6, h7, h8, h9, h10, h11, h12, h13, hw]) (by simp [gE_al, gE_alM, gE_sI, gE_sJ, gE_sR, gE_fl, gE_cp, gN_al, gN_alM, gN_sI, gN_sJ, gN_sR, gN_fl, gN_cp, gR_al, gR_alM, gR_sI, gR_sJ, gR_sR, gR_fl, gR_cp, he, h0, h1, h2, h3, h4, h5, h6, h7, h8, h9, h10, h11, h12, h13, hw]) (by simp [gE_al, gE_alM, gE_sI, gE_sJ, gE_sR, gE_fl, gE_cp, gN_al, gN_alM, gN_sI, gN_sJ, gN_sR, gN_fl, gN_cp, gR_al, gR_alM, gR_sI, gR_sJ, gR_sR, gR_fl, gR_cp, he, h0, h1, h2, h3, h4, h5, h6, h7, h8, h9, h10, h11, h12, h13, hw])) (fun r9 S9 hp9 => ?_)
  obtain ⟨rfl, hq9⟩ := hp9
  rw [hq9]
  show Ok _ _ _ [zr 6 j, zr 0 j] _ _
  refine r_putr (q := 15) (fun p hp => by cases hp; exact (by simp [gE_al, gE_alM, gE_sI, gE_sJ, gE_sR, gE_fl, gE_cp, gN_al, gN_alM, gN_sI, gN_sJ, gN_sR, gN_fl, gN_cp, gR_al, gR_alM, gR_sI, gR_sJ, gR_sR, gR_fl, gR_cp, he, h0, h1, h2, h3, h4, h5, h6, h7, h8, h9, h10, h11, h12, h13, hw, iX6_init])) ck0 dX0_init_12 rfl (k := 1) (by decide) wt378 (Or.inr ⟨rfl, rfl, rfl⟩) rfl (by simp [gE_al, gE_alM, gE_sI, gE_sJ, gE_sR, gE_fl, gE_cp, gN_al, gN_alM, gN_sI, gN_sJ, gN_sR, gN_fl, gN_cp, gR_al, gR_alM, gR_sI, gR_sJ, gR_sR, gR_fl, gR_cp, he, h0, h1, h2, h3, h4, h5, h6, h7, h8, h9, h10, h11, h12, h13, hw, iX6_init]) ?_
  refine r_aload_n (q := 16) dX0_init_15 rfl rfl rfl ?_
  refine r_bipush (q := 18) (nI 9) dX0_init_16 rfl (by decide) ?_
  refine r_newa (q := 20) (a := 103) (b := j) (n := 9) (Or.inl (by decide)) (by decide) (by decide) (by decide) rfl dX0_init_18 rfl wt47 (by decide) (by simp [gE_al, gE_alM, gE_sI, gE_sJ, gE_sR, gE_fl, gE_cp, gN_al, gN_alM, gN_sI, gN_sJ, gN_sR, gN_fl, gN_cp, gR_al, gR_alM, gR_sI, gR_sJ, gR_sR, gR_fl, gR_cp, he, h0, h1, h2, h3, h4, h5, h6, h7, h8, h9, h10, h11, h12, h13, hw, iX6_init]) rfl rfl ?_
  refine r_putr (q := 23) (fun p hp => by cases hp; exact (by simp [gE_al, gE_alM, gE_sI, gE_sJ, gE_sR, gE_fl, gE_cp, gN_al, gN_alM, gN_sI, gN_sJ, gN_sR, gN_fl, gN_cp, gR_al, gR_alM, gR_sI, gR_sJ, gR_sR, gR_fl, gR_cp, he, h0, h1, h2, h3, h4, h5, h6, h7, h8, h9, h10, h11, h12, h13, hw, iX6_init])) ck0 dX0_init_20 rfl (k := 3) (by decide) wt380 (Or.inr ⟨rfl, rfl, rfl⟩) rfl (by simp [gE_al, gE_alM, gE_sI, gE_sJ, gE_sR, gE_fl, gE_cp, gN_al, gN_alM, gN_sI, gN_sJ, gN_sR, gN_fl, gN_cp, gR_al, gR_alM, gR_sI, gR_sJ, gR_sR, gR_fl, gR_cp, he, h0, h1, h2, h3, h4, h5, h6, h7, h8, h9, h10, h11, h12, h13, hw, iX6_init]) ?_
  refine r_aload_n (q := 24) dX0_init_23 rfl rfl rfl ?_
  refine r_sipush (q := 27) (nI 400) dX0_init_24 rfl (by decide) ?_
  refine r_newa (q := 29) (a := 104) (b := j) (n := 400) (Or.inl (by decide)) (by decide) (by decide) (by decide) rfl dX0_init_27 rfl wt47 (by decide) (by simp [gE_al, gE_alM, gE_sI, gE_sJ, gE_sR, gE_fl, gE_cp, gN_al, gN_alM, gN_sI, gN_sJ, gN_sR, gN_fl, gN_cp, gR_al, gR_alM, gR_sI, gR_sJ, gR_sR, gR_fl, gR_cp, he, h0, h1, h2, h3, h4, h5, h6, h7, h8, h9, h10, h11, h12, h13, hw, iX6_init]) rfl rfl ?_
  refine r_putr (q := 32) (fun p hp => by cases hp; exact (by simp [gE_al, gE_alM, gE_sI, gE_sJ, gE_sR, gE_fl, gE_cp, gN_al, gN_alM, gN_sI, gN_sJ, gN_sR, gN_fl, gN_cp, gR_al, gR_alM, gR_sI, gR_sJ, gR_sR, gR_fl, gR_cp, he, h0, h1, h2, h3, h4, h5, h6, h7, h8, h9, h10, h11, h12, h13, hw, iX6_init])) ck0 dX0_init_29 rfl (k := 4) (by decide) wt381 (Or.inr ⟨rfl, rfl, rfl⟩) rfl (by simp [gE_al, gE_alM, gE_sI, gE_sJ, gE_sR, gE_fl, gE_cp, gN_al, gN_alM, gN_sI, gN_sJ, gN_sR, gN_fl, gN_cp, gR_al, gR_alM, gR_sI, gR_sJ, gR_sR, gR_fl, gR_cp, he, h0, h1, h2, h3, h4, h5, h6, h7, h8, h9, h10, h11, h12, h13, hw, iX6_init]) ?_
  refine r_aload_n (q := 33) dX0_init_32 rfl rfl rfl ?_
  refine r_sipush (q := 36) (nI 400) dX0_init_33 rfl (by decide) ?_
  refine r_newa (q := 38) (a := 105) (b := j) (n := 400) (Or.inl (by decide)) (by decide) (by decide) (by decide) rfl dX0_init_36 rfl wt47 (by decide) (by simp [gE_al, gE_alM, gE_sI, gE_sJ, gE_sR, gE_fl, gE_cp, gN_al, gN_alM, gN_sI, gN_sJ, gN_sR, gN_fl, gN_cp, gR_al, gR_alM, gR_sI, gR_sJ, gR_sR, gR_fl, gR_cp, he, h0, h1, h2, h3, h4, h5, h6, h7, h8, h9, h10, h11, h12, h13, hw, iX6_init]) rfl rfl ?_
  refine r_putr (q := 41) (fun p hp => by cases hp; exact (by simp [gE_al, gE_alM, gE_sI, gE_sJ, gE_sR, gE_fl, gE_cp, gN_al, gN_alM, gN_sI, gN_sJ, gN_sR, gN_fl, gN_cp, gR_al, gR_alM, gR_sI, gR_sJ, gR_sR, gR_fl, gR_cp, he, h0, h1, h2, h3, h4, h5, h6, h7, h8, h9, h10, h11, h12, h13, hw, iX6_init])) ck0 dX0_init_38 rfl (k := 5) (by decide) wt382 (Or.inr ⟨rfl, rfl, rfl⟩) rfl (by simp [gE_al, gE_alM, gE_sI, gE_sJ, gE_sR, gE_fl, gE_cp, gN_al, gN_alM, gN_sI, gN_sJ, gN_sR, gN_fl, gN_cp, gR_al, gR_alM, gR_sI, gR_sJ, gR_sR, gR_fl, gR_cp, he, h0, h1, h2, h3, h4, h5, h6, h7, h8, h9, h10, h11, h12, h13, hw, iX6_init]) ?_
  refine r_aload_n (q := 42) dX0_init_41 rfl rfl rfl ?_
  refine r_bipush (q := 44) (nI 9) dX0_init_42 rfl (by decide) ?_
  refine r_newa (q := 46) (a := 106) (b := j) (n := 9) (Or.inl (by decide)) (by decide) (by decide) (by decide) rfl dX0_init_44 rfl wt47 (by decide) (by simp [gE_al, gE_alM, gE_sI, gE_sJ, gE_sR, gE_fl, gE_cp, gN_al, gN_alM, gN_sI, gN_sJ, gN_sR, gN_fl, gN_cp, gR_al, gR_alM, gR_sI, gR_sJ, gR_sR, gR_fl, gR_cp, he, h0, h1, h2, h3, h4, h5, h6, h7, h8, h9, h10, h11, h12, h13, hw, iX6_init]) rfl rfl ?_
  refine r_putr (q := 49) (fun p hp => by cases hp; exact (by simp [gE_al, gE_alM, gE_sI, gE_sJ, gE_sR, gE_fl, gE_cp, gN_al, gN_alM, gN_sI, gN_sJ, gN_sR, gN_fl, gN_cp, gR_al, gR_alM, gR_sI, gR_sJ, gR_sR, gR_fl, gR_cp, he, h0, h1, h2, h3, h4, h5, h6, h7, h8, h9, h10, h11, h12, h13, hw, iX6_init])) ck0 dX0_init_46 rfl (k := 6) (by decide) wt383 (Or.inr ⟨rfl, rfl, rfl⟩) rfl (by simp [gE_al, gE_alM, gE_sI, gE_sJ, gE_sR, gE_fl, gE_cp, gN_al, gN_alM, gN_sI, gN_sJ, gN_sR, gN_fl, gN_cp, gR_al, gR_alM, gR_sI, gR_sJ, gR_sR, gR_fl, gR_cp, he, h0, h1, h2, h3, h4, h5, h6, h7, h8, h9, h10, h11, h12, h13, hw, iX6_init]) ?_
  refine r_aload_n (q := 50) dX0_init_49 rfl rfl rfl ?_
  refine r_sipush (q := 53) (nI 512) dX0_init_50 rfl (by decide) ?_
  refine r_newa (q := 55) (a := 107) (b := j) (n := 512) (Or.inl (by decide)) (by decide) (by decide) (by decide) rfl dX0_init_53 rfl wt47 (by decide) (by simp [gE_al, gE_alM, gE_sI, gE_sJ, gE_sR, gE_fl, gE_cp, gN_al, gN_alM, gN_sI, gN_sJ, gN_sR, gN_fl, gN_cp, gR_al, gR_alM, gR_sI, gR_sJ, gR_sR, gR_fl, gR_cp, he, h0, h1, h2, h3, h4, h5, h6, h7, h8, h9, h10, h11, h12, h13, hw, iX6_init]) rfl rfl ?_
  refine r_putr (q := 58) (fun p hp => by cases hp; exact (by simp [gE_al, gE_alM, gE_sI, gE_sJ, gE_sR, gE_fl, gE_cp, gN_al, gN_alM, gN_sI, gN_sJ, gN_sR, gN_fl, gN_cp, gR_al, gR_alM, gR_sI, gR_sJ, gR_sR, gR_fl, gR_cp, he, h0, h1, h2, h3, h4, h5, h6, h7, h8, h9, h10, h11, h12, h13, hw, iX6_init])) ck0 dX0_init_55 rfl (k := 7) (by decide) wt384 (Or.inl rfl) rfl (by simp [gE_al, gE_alM, gE_sI, gE_sJ, gE_sR, gE_fl, gE_cp, gN_al, gN_alM, gN_sI, gN_sJ, gN_sR, gN_fl, gN_cp, gR_al, gR_alM, gR_sI, gR_sJ, gR_sR, gR_fl, gR_cp, he, h0, h1, h2, h3, h4, h5, h6, h7, h8, h9, h10, h11, h12, h13, hw, iX6_init]) ?_
  refine r_aload_n (q := 59) dX0_init_58 rfl rfl rfl ?_
  refine r_bipush (q := 61) (nI 8) dX0_init_59 rfl (by decide) ?_
  refine r_newa (q := 63) (a := 108) (b := j) (n := 8) (Or.inl (by decide)) (by decide) (by decide) (by decide) rfl dX0_init_61 rfl wt47 (by decide) (by simp [gE_al, gE_alM, gE_sI, gE_sJ, gE_sR, gE_fl, gE_cp, gN_al, gN_alM, gN_sI, gN_sJ, gN_sR, gN_fl, gN_cp, gR_al, gR_alM, gR_sI, gR_sJ, gR_sR, gR_fl, gR_cp, he, h0, h1, h2, h3, h4, h5, h6, h7, h8, h9, h10, h11, h12, h13, hw, iX6_init]) rfl rfl ?_
  refine r_putr (q := 66) (fun p hp => by cases hp; exact (by simp [gE_al, gE_alM, gE_sI, gE_sJ, gE_sR, gE_fl, gE_cp, gN_al, gN_alM, gN_sI, gN_sJ, gN_sR, gN_fl, gN_cp, gR_al, gR_alM, gR_sI, gR_sJ, gR_sR, gR_fl, gR_cp, he, h0, h1, h2, h3, h4, h5, h6, h7, h8, h9, h10, h11, h12, h13, hw, iX6_init])) ck0 dX0_init_63 rfl (k := 8) (by decide) wt385 (Or.inr ⟨rfl, rfl, rfl⟩) rfl (by simp [gE_al, gE_alM, gE_sI, gE_sJ, gE_sR, gE_fl, gE_cp, gN_al, gN_alM, gN_sI, gN_sJ, gN_sR, gN_fl, gN_cp, gR_al, gR_alM, gR_sI, gR_sJ, gR_sR, gR_fl, gR_cp, he, h0, h1, h2, h3, h4, h5, h6, h7, h8, h9, h10, h11, h12, h13, hw, iX6_init]) ?_
  refine r_aload_n (q := 67) dX0_init_66 rfl rfl rfl ?_
  refine r_bipush (q := 69) (nI 8) dX0_init_67 rfl (by decide) ?_
  refine r_newa (q := 71) (a := 109) (b := j) (n := 8) (Or.inl (by decide)) (by decide) (by decide) (by decide) rfl dX0_init_69 rfl wt47 (by decide) (by simp [gE_al, gE_alM, gE_sI, gE_sJ, gE_sR, gE_fl, gE_cp, gN_al, gN_alM, gN_sI, gN_sJ, gN_sR, gN_fl, gN_cp, gR_al, gR_alM, gR_sI, gR_sJ, gR_sR, gR_fl, gR_cp, he, h0, h1, h2, h3, h4, h5, h6, h7, h8, h9, h10, h11, h12, h13, hw, iX6_init]) rfl rfl ?_
  refine r_putr (q := 74) (fun p hp => by cases hp; exact (by simp [gE_al, gE_alM, gE_sI, gE_sJ, gE_sR, gE_fl, gE_cp, gN_al, gN_alM, gN_sI, gN_sJ, gN_sR, gN_fl, gN_cp, gR_al, gR_alM, gR_sI, gR_sJ, gR_sR, gR_fl, gR_cp, he, h0, h1, h2, h3, h4, h5, h6, h7, h8, h9, h10, h11, h12, h13, hw, iX6_init])) ck0 dX0_init_71 rfl (k := 9) (by decide) wt387 (Or.inr ⟨rfl, rfl, rfl⟩) rfl (by simp [gE_al, gE_alM, gE_sI, gE_sJ, gE_sR, gE_fl, gE_cp, gN_al, gN_alM, gN_sI, gN_sJ, gN_sR, gN_fl, gN_cp, gR_al, gR_alM, gR_sI, gR_sJ, gR_sR, gR_fl, gR_cp, he, h0, h1, h2, h3, h4, h5, h6, h7, h8, h9, h10, h11, h12, h13, hw, iX6_init]) ?_
  refine r_aload_n (q := 75) dX0_init_74 rfl rfl rfl ?_
  refine r_bipush (q := 77) (nI 8) dX0_init_75 rfl (by decide) ?_
  refine r_newa (q := 79) (a := 110) (b := j) (n := 8) (Or.inl (by decide)) (by decide) (by decide) (by decide) rfl dX0_init_77 rfl wt421 (by decide) (by simp [gE_al, gE_alM, gE_sI, gE_sJ, gE_sR, gE_fl, gE_cp, gN_al, gN_alM, gN_sI, gN_sJ, gN_sR, gN_fl, gN_cp, gR_al, gR_alM, gR_sI, gR_sJ, gR_sR, gR_fl, gR_cp, he, h0, h1, h2, h3, h4, h5, h6, h7, h8, h9, h10, h11, h12, h13, hw, iX6_init]) rfl rfl ?_
  refine r_putr (q := 82) (fun p hp => by cases hp; exact (by simp [gE_al, gE_alM, gE_sI, gE_sJ, gE_sR, gE_fl, gE_cp, gN_al, gN_alM, gN_sI, gN_sJ, gN_sR, gN_fl, gN_cp, gR_al, gR_alM, gR_sI, gR_sJ, gR_sR, gR_fl, gR_cp, he, h0, h1, h2, h3, h4, h5, h6, h7, h8, h9, h10, h11, h12, h13, hw, iX6_init])) ck0 dX0_init_79 rfl (k := 10) (by decide) wt388 (Or.inr ⟨rfl, rfl, rfl⟩) rfl (by simp [gE_al, gE_alM, gE_sI, gE_sJ, gE_sR, gE_fl, gE_cp, gN_al, gN_alM, gN_sI, gN_sJ, gN_sR, gN_fl, gN_cp, gR_al, gR_alM, gR_sI, gR_sJ, gR_sR, gR_fl, gR_cp, he, h0, h1, h2, h3, h4, h5, h6, h7, h8, h9, h10, h11, h12, h13, hw, iX6_init]) ?_
  refine r_aload_n (q := 83) dX0_init_82 rfl rfl rfl ?_
  refine r_bipush (q := 85) (nI 8) dX0_init_83 rfl (by decide) ?_
  refine r_newa (q := 87) (a := 111) (b := j) (n := 8) (Or.inl (by decide)) (by decide) (by decide) (by decide) rfl dX0_init_85 rfl wt47 (by decide) (by simp [gE_al, gE_alM, gE_sI, gE_sJ, gE_sR, gE_fl, gE_cp, gN_al, gN_alM, gN_sI, gN_sJ, gN_sR, gN_fl, gN_cp, gR_al, gR_alM, gR_sI, gR_sJ, gR_sR, gR_fl, gR_cp, he, h0, h1, h2, h3, h4, h5, h6, h7, h8, h9, h10, h11, h12, h13, hw, iX6_init]) rfl rfl ?_
  refine r_putr (q := 90) (fun p hp => by cases hp; exact (by simp [gE_al, gE_alM, gE_sI, gE_sJ, gE_sR, gE_fl, gE_cp, gN_al, gN_alM, gN_sI, gN_sJ, gN_sR, gN_fl, gN_cp, gR_al, gR_alM, gR_sI, gR_sJ, gR_sR, gR_fl, gR_cp, he, h0, h1, h2, h3, h4, h5, h6, h7, h8, h9, h10, h11, h12, h13, hw, iX6_init])) ck0 dX0_init_87 rfl (k := 11) (by decide) wt390 (Or.inr ⟨rfl, rfl, rfl⟩) rfl (by simp [gE_al, gE_alM, gE_sI, gE_sJ, gE_sR, gE_fl, gE_cp, gN_al, gN_alM, gN_sI, gN_sJ, gN_sR, gN_fl, gN_cp, gR_al, gR_alM, gR_sI, gR_sJ, gR_sR, gR_fl, gR_cp, he, h0, h1, h2, h3, h4, h5, h6, h7, h8, h9, h10, h11, h12, h13, hw, iX6_init]) ?_
  refine r_aload_n (q := 91) dX0_init_90 rfl rfl rfl ?_
  refine r_aload_n (q := 92) dX0_init_91 rfl rfl rfl ?_
  refine r_putr (q := 95) (fun p hp => by cases hp; exact (by simp [gE_al, gE_alM, gE_sI, gE_sJ, gE_sR, gE_fl, gE_cp, gN_al, gN_alM, gN_sI, gN_sJ, gN_sR, gN_fl, gN_cp, gR_al, gR_alM, gR_sI, gR_sJ, gR_sR, gR_fl, gR_cp, he, h0, h1, h2, h3, h4, h5, h6, h7, h8, h9, h10, h11, h12, h13, hw, iX6_init])) ck0 dX0_init_92 rfl (k := 0) (by decide) wt374 (Or.inr ⟨rfl, rfl, rfl⟩) rfl (by simp [gE_al, gE_alM, gE_sI, gE_sJ, gE_sR, gE_fl, gE_cp, gN_al, gN_alM, gN_sI, gN_sJ, gN_sR, gN_fl, gN_cp, gR_al, gR_alM, gR_sI, gR_sJ, gR_sR, gR_fl, gR_cp, he, h0, h1, h2, h3, h4, h5, h6, h7, h8, h9, h10, h11, h12, h13, hw, iX6_init]) ?_
  refine r_aload_n (q := 96) dX0_init_95 rfl rfl rfl ?_
  refine r_getr (q := 99) (some (109, j)) ck0 dX0_init_96 rfl (k := 9) (by decide) wt387 rfl (by simp [gE_al, gE_alM, gE_sI, gE_sJ, gE_sR, gE_fl, gE_cp, gN_al, gN_alM, gN_sI, gN_sJ, gN_sR, gN_fl, gN_cp, gR_al, gR_alM, gR_sI, gR_sJ, gR_sR, gR_fl, gR_cp, he, h0, h1, h2, h3, h4, h5, h6, h7, h8, h9, h10, h11, h12, h13, hw, iX6_init]) (by simp [gE_al, gE_alM, gE_sI, gE_sJ, gE_sR, gE_fl, gE_cp, gN_al, gN_alM, gN_sI, gN_sJ, gN_sR, gN_fl, gN_cp, gR_al, gR_alM, gR_sI, gR_sJ, gR_sR, gR_fl, gR_cp, he, h0, h1, h2, h3, h4, h5, h6, h7, h8, h9, h10, h11, h12, h13, hw, iX6_init]) ?_
  refine r_iconst (q := 100) ((-1 : Int32)) dX0_init_99 rfl (by decide) ?_
  refine r_callS (Mc := mJ7_fill_53178) (q := 103) (As := [zr 109 j, zi (-1 : Int32)]) (st := []) dX0_init_100 rfl rfl mkJ7_fill_53178 wt371 wt372 rfl (Nat.le_of_ble_eq_true rfl) (Nat.le_of_ble_eq_true rfl) (by decide) (by decide) (by decide) (Or.inl rfl) ⟨0, j, (by simp [gE_al, gE_alM, gE_sI, gE_sJ, gE_sR, gE_fl, gE_cp, gN_al, gN_alM, gN_sI, gN_sJ, gN_sR, gN_fl, gN_cp, gR_al, gR_alM, gR_sI, gR_sJ, gR_sR, gR_fl, gR_cp, he, h0, h1, h2, h3, h4, h5, h6, h7, h8, h9, h10, h11, h12, h13, hw, iX6_init])⟩ (ok_fill2 (n := 8) (by decide) rfl (by simp [gE_al, gE_alM, gE_sI, gE_sJ, gE_sR, gE_fl, gE_cp, gN_al, gN_alM, gN_sI, gN_sJ, gN_sR, gN_fl, gN_cp, gR_al, gR_alM, gR_sI, gR_sJ, gR_sR, gR_fl, gR_cp, he, h0, h1, h2, h3, h4, h5, h6, h7, h8, h9, h10, h11, h12, h13, hw, iX6_init]) (by simp [gE_al, gE_alM, gE_sI, gE_sJ, gE_sR, gE_fl, gE_cp, gN_al, gN_alM, gN_sI, gN_sJ, gN_sR, gN_fl, gN_cp, gR_al, gR_alM, gR_sI, gR_sJ, gR_sR, gR_fl, gR_cp, he, h0, h1, h2, h3, h4, h5, h6, h7, h8, h9, h10, h11, h12, h13, hw, iX6_init]) (by decide)) (fun r100 S100 hp100 => ?_)
  obtain ⟨rfl, hq100⟩ := hp100
  rw [hq100]
  show Ok _ _ _ [] _ _
  refine r_return dX0_init_103 rfl ?_
  exact ⟨rfl, rfl⟩

def z0 : zS := (fun _ _ _ => 0, fun _ _ _ => 0, fun _ _ => 0, fun _ _ _ => none, fun _ _ => false, 0, 0)
def sLW : zS := sR (iX8_init (al (sR (iX8_init (al (sR (iX8_init (al (sR (iX8_init (al (sR (iX8_init (al (sR (iX8_init (al (sR (iX8_init (al (sR (iX8_init (al (sR (iX8_init (al (sR (iX7_init (al (sI (sR (iX8_init (al (sR (iX7_init (al (sI (sR (iX0_init (iX9_init (al (al (sR (iX0_init (iX9_init (al (al (sR (iX0_init (iX9_init (al (al (sR (iX0_init (iX9_init (al (al (sR (iX2_init (al (sR (iX5_init (al (sR (iX1_init (al (sR (iX3_init (al (sR (iX10_init (al (sR (iX4_init (al (sR (iX6_init (al (sR (iX8_init (al (sR (al (sR (al (sR (iX8_init (al (sR (al (sR (iX7_init (al (sR (al (sR (al (sR (al (al z0 11 0 0 20) 1200 0 940 940) 11 0 0 (some (1200, 0))) 1202 0 4 4) 11 0 2 (some (1202, 0))) 1204 0 2 2) 11 0 4 (some (1204, 0))) 7 0 0 2) 0) 11 0 5 (some (7, 0))) 1206 0 2 2) 11 0 6 (some (1206, 0))) 8 0 0 4) 0) 11 0 7 (some (8, 0))) 1208 0 2 2) 11 0 8 (some (1208, 0))) 1209 0 8 8) 11 0 9 (some (1209, 0))) 8 11 0 4) 11) 11 0 12 (some (8, 11))) 6 4 0 4) 4) 11 0 13 (some (6, 4))) 4 0 0 16)) 11 0 14 (some (4, 0))) 10 0 0 4)) 11 0 15 (some (10, 0))) 3 0 0 6)) 11 0 16 (some (3, 0))) 1 0 0 6)) 11 0 17 (some (1, 0))) 5 0 0 2)) 11 0 18 (some (5, 0))) 2 0 0 3)) 11 0 19 (some (2, 0))) 0 0 0 13) 9 0 0 11) 0) 0) 1202 0 0 (some (0, 0))) 0 1 0 13) 9 1 0 11) 1) 1) 1202 0 1 (some (0, 1))) 0 2 0 13) 9 2 0 11) 2) 2) 1202 0 2 (some (0, 2))) 0 3 0 13) 9 3 0 11) 3) 3) 1202 0 3 (some (0, 3))) 1204 0 0 (-1 : Int32)) 7 1 0 2) 1) 1206 0 0 (some (7, 1))) 8 1 0 4) 1) 1208 0 0 (some (8, 1))) 1204 0 1 (-1 : Int32)) 7 2 0 2) 2) 1206 0 1 (some (7, 2))) 8 2 0 4) 2) 1208 0 1 (some (8, 2))) 8 3 0 4) 3) 1209 0 0 (some (8, 3))) 8 4 0 4) 4) 1209 0 1 (some (8, 4))) 8 5 0 4) 5) 1209 0 2 (some (8, 5))) 8 6 0 4) 6) 1209 0 3 (some (8, 6))) 8 7 0 4) 7) 1209 0 4 (some (8, 7))) 8 8 0 4) 8) 1209 0 5 (some (8, 8))) 8 9 0 4) 9) 1209 0 6 (some (8, 9))) 8 10 0 4) 10) 1209 0 7 (some (8, 10))
set_option maxRecDepth 100000 in
set_option maxHeartbeats 4000000 in
theorem ok_X11_init : Ok mX11_init 0 (ent 2 [zr 11 0]) [] (al z0 11 0 0 20) (fun r S1 => r = none ∧ S1 = sLW) := by
  show Ok mX11_init 0 [some (zr 11 0), none] [] (al z0 11 0 0 20) _
  refine r_aload_n (q := 1) dX11_init_0 rfl rfl rfl ?_
  refine r_objInit (q := 4) dX11_init_1 rfl wt26 wt27 wt28 (Nat.le_of_ble_eq_true rfl) (by decide) (by decide) ?_
  refine r_aload_n (q := 5) dX11_init_4 rfl rfl rfl ?_
  refine r_sipush (q := 8) (nI 940) dX11_init_5 rfl (by decide) ?_
  refine r_newa (q := 10) (a := 1200) (b := 0) (n := 940) (Or.inl (by decide)) (by decide) (by decide) (by decide) rfl dX11_init_8 rfl wt46 (by decide) (by decide +kernel) rfl rfl ?_
  refine r_putr (q := 13) (fun p hp => by cases hp; exact (by decide +kernel)) ck11 dX11_init_10 rfl (k := 0) (by decide) wt422 (Or.inr ⟨rfl, rfl, rfl⟩) rfl (by decide +kernel) ?_
  refine r_aload_n (q := 14) dX11_init_13 rfl rfl rfl ?_
  refine r_iconst (q := 15) (nI 4) dX11_init_14 rfl (by decide) ?_
  refine r_anew (q := 18) (a := 1202) (b := 0) (n := 4) (by decide) (by decide) (by decide) (by decide) rfl (fun _ _ h => h.2.2.1) dX11_init_15 rfl wt29 (by decide) (by decide +kernel) rfl rfl ?_
  refine r_putr (q := 21) (fun p hp => by cases hp; exact (by decide +kernel)) ck11 dX11_init_18 rfl (k := 2) (by decide) wt424 (Or.inr ⟨rfl, rfl, rfl⟩) rfl (by decide +kernel) ?_
  refine r_aload_n (q := 22) dX11_init_21 rfl rfl rfl ?_
  refine r_iconst (q := 23) (nI 2) dX11_init_22 rfl (by decide) ?_
  refine r_newa (q := 25) (a := 1204) (b := 0) (n := 2) (Or.inl (by decide)) (by decide) (by decide) (by decide) rfl dX11_init_23 rfl wt47 (by decide) (by decide +kernel) rfl rfl ?_
  refine r_putr (q := 28) (fun p hp => by cases hp; exact (by decide +kernel)) ck11 dX11_init_25 rfl (k := 4) (by decide) wt426 (Or.inr ⟨rfl, rfl, rfl⟩) rfl (by decide +kernel) ?_
  refine r_aload_n (q := 29) dX11_init_28 rfl rfl rfl ?_
  refine r_new (q := 32) (a := 7) (b := 0) (by decide) ck7 (by decide) dX11_init_29 rfl wt31 wt32 wt2 (by decide +kernel) rfl rfl ?_
  refine r_dup (q := 33) dX11_init_32 rfl rfl ?_
  refine r_callIN (Mc := mX7_init) (q := 36) (As := []) (st := [zr 7 0, zr 11 0]) dX11_init_33 rfl rfl mkX7_init rfl rfl wn33 wt34 rfl (Nat.le_of_ble_eq_true rfl) (Nat.le_of_ble_eq_true rfl) (by decide) (by decide) (by decide) ⟨Or.inl ⟨(by decide +kernel), rfl⟩, trivial⟩ ⟨Or.inl ⟨(by decide +kernel), rfl⟩, ⟨Or.inl ⟨(by decide +kernel), rfl⟩, trivial⟩⟩ (ok_X7_init (j := 0) (by decide +kernel) (by decide +kernel)) (fun r33 S33 hp33 => ?_)
  obtain ⟨rfl, hq33⟩ := hp33
  rw [hq33]
  show Ok _ _ _ [zr 7 0, zr 11 0] _ _
  refine r_putr (q := 39) (fun p hp => by cases hp; exact (by decide +kernel)) ck11 dX11_init_36 rfl (k := 5) (by decide) wt427 (Or.inr ⟨rfl, rfl, rfl⟩) rfl (by decide +kernel) ?_
  refine r_aload_n (q := 40) dX11_init_39 rfl rfl rfl ?_
  refine r_iconst (q := 41) (nI 2) dX11_init_40 rfl (by decide) ?_
  refine r_anew (q := 44) (a := 1206) (b := 0) (n := 2) (by decide) (by decide) (by decide) (by decide) rfl (fun _ _ h => h.2.2.2.1) dX11_init_41 rfl wt31 (by decide) (by decide +kernel) rfl rfl ?_
  refine r_putr (q := 47) (fun p hp => by cases hp; exact (by decide +kernel)) ck11 dX11_init_44 rfl (k := 6) (by decide) wt428 (Or.inr ⟨rfl, rfl, rfl⟩) rfl (by decide +kernel) ?_
  refine r_aload_n (q := 48) dX11_init_47 rfl rfl rfl ?_
  refine r_new (q := 51) (a := 8) (b := 0) (by decide) ck8 (by decide) dX11_init_48 rfl wt49 wt50 wt3 (by decide +kernel) rfl rfl ?_
  refine r_dup (q := 52) dX11_init_51 rfl rfl ?_
  refine r_callIN (Mc := mX8_init) (q := 55) (As := []) (st := [zr 8 0, zr 11 0]) dX11_init_52 rfl rfl mkX8_init rfl rfl wn51 wt52 rfl (Nat.le_of_ble_eq_true rfl) (Nat.le_of_ble_eq_true rfl) (by decide) (by decide) (by decide) ⟨Or.inl ⟨(by decide +kernel), rfl⟩, trivial⟩ ⟨Or.inl ⟨(by decide +kernel), rfl⟩, ⟨Or.inl ⟨(by decide +kernel), rfl⟩, trivial⟩⟩ (ok_X8_init (j := 0) (by decide +kernel) (by decide +kernel) (by decide +kernel)) (fun r52 S52 hp52 => ?_)
  obtain ⟨rfl, hq52⟩ := hp52
  rw [hq52]
  show Ok _ _ _ [zr 8 0, zr 11 0] _ _
  refine r_putr (q := 58) (fun p hp => by cases hp; exact (by decide +kernel)) ck11 dX11_init_55 rfl (k := 7) (by decide) wt429 (Or.inr ⟨rfl, rfl, rfl⟩) rfl (by decide +kernel) ?_
  refine r_aload_n (q := 59) dX11_init_58 rfl rfl rfl ?_
  refine r_iconst (q := 60) (nI 2) dX11_init_59 rfl (by decide) ?_
  refine r_anew (q := 63) (a := 1208) (b := 0) (n := 2) (by decide) (by decide) (by decide) (by decide) rfl (fun _ _ h => h.2.2.2.2.1) dX11_init_60 rfl wt49 (by decide) (by decide +kernel) rfl rfl ?_
  refine r_putr (q := 66) (fun p hp => by cases hp; exact (by decide +kernel)) ck11 dX11_init_63 rfl (k := 8) (by decide) wt430 (Or.inr ⟨rfl, rfl, rfl⟩) rfl (by decide +kernel) ?_
  refine r_aload_n (q := 67) dX11_init_66 rfl rfl rfl ?_
  refine r_bipush (q := 69) (nI 8) dX11_init_67 rfl (by decide) ?_
  refine r_anew (q := 72) (a := 1209) (b := 0) (n := 8) (by decide) (by decide) (by decide) (by decide) rfl (fun _ _ h => h.2.2.2.2.1) dX11_init_69 rfl wt49 (by decide) (by decide +kernel) rfl rfl ?_
  refine r_putr (q := 75) (fun p hp => by cases hp; exact (by decide +kernel)) ck11 dX11_init_72 rfl (k := 9) (by decide) wt431 (Or.inr ⟨rfl, rfl, rfl⟩) rfl (by decide +kernel) ?_
  refine r_aload_n (q := 76) dX11_init_75 rfl rfl rfl ?_
  refine r_new (q := 79) (a := 8) (b := 11) (by decide) ck8 (by decide) dX11_init_76 rfl wt49 wt50 wt3 (by decide +kernel) rfl rfl ?_
  refine r_dup (q := 80) dX11_init_79 rfl rfl ?_
  refine r_callIN (Mc := mX8_init) (q := 83) (As := []) (st := [zr 8 11, zr 11 0]) dX11_init_80 rfl rfl mkX8_init rfl rfl wn51 wt52 rfl (Nat.le_of_ble_eq_true rfl) (Nat.le_of_ble_eq_true rfl) (by decide) (by decide) (by decide) ⟨Or.inl ⟨(by decide +kernel), rfl⟩, trivial⟩ ⟨Or.inl ⟨(by decide +kernel), rfl⟩, ⟨Or.inl ⟨(by decide +kernel), rfl⟩, trivial⟩⟩ (ok_X8_init (j := 11) (by decide +kernel) (by decide +kernel) (by decide +kernel)) (fun r80 S80 hp80 => ?_)
  obtain ⟨rfl, hq80⟩ := hp80
  rw [hq80]
  show Ok _ _ _ [zr 8 11, zr 11 0] _ _
  refine r_putr (q := 86) (fun p hp => by cases hp; exact (by decide +kernel)) ck11 dX11_init_83 rfl (k := 12) (by decide) wt434 (Or.inr ⟨rfl, rfl, rfl⟩) rfl (by decide +kernel) ?_
  refine r_aload_n (q := 87) dX11_init_86 rfl rfl rfl ?_
  refine r_new (q := 90) (a := 6) (b := 4) (by decide) ck6 (by decide) dX11_init_87 rfl wt91 wt92 wt4 (by decide +kernel) rfl rfl ?_
  refine r_dup (q := 91) dX11_init_90 rfl rfl ?_
  refine r_callIN (Mc := mX6_init) (q := 94) (As := []) (st := [zr 6 4, zr 11 0]) dX11_init_91 rfl rfl mkX6_init rfl rfl wn93 wt94 rfl (Nat.le_of_ble_eq_true rfl) (Nat.le_of_ble_eq_true rfl) (by decide) (by decide) (by decide) ⟨Or.inl ⟨(by decide +kernel), rfl⟩, trivial⟩ ⟨Or.inl ⟨(by decide +kernel), rfl⟩, ⟨Or.inl ⟨(by decide +kernel), rfl⟩, trivial⟩⟩ (ok_X6_init (j := 4) (by decide +kernel) (by decide +kernel) (by decide +kernel) (by decide +kernel) (by decide +kernel)) (fun r91 S91 hp91 => ?_)
  obtain ⟨rfl, hq91⟩ := hp91
  rw [hq91]
  show Ok _ _ _ [zr 6 4, zr 11 0] _ _
  refine r_putr (q := 97) (fun p hp => by cases hp; exact (by decide +kernel)) ck11 dX11_init_94 rfl (k := 13) (by decide) wt435 (Or.inr ⟨rfl, rfl, rfl⟩) rfl (by decide +kernel) ?_
  refine r_aload_n (q := 98) dX11_init_97 rfl rfl rfl ?_
  refine r_new (q := 101) (a := 4) (b := 0) (by decide) ck4 (by decide) dX11_init_98 rfl wt113 wt114 wt5 (by decide +kernel) rfl rfl ?_
  refine r_dup (q := 102) dX11_init_101 rfl rfl ?_
  refine r_callIN (Mc := mX4_init) (q := 105) (As := []) (st := [zr 4 0, zr 11 0]) dX11_init_102 rfl rfl mkX4_init rfl rfl wn115 wt116 rfl (Nat.le_of_ble_eq_true rfl) (Nat.le_of_ble_eq_true rfl) (by decide) (by decide) (by decide) ⟨Or.inl ⟨(by decide +kernel), rfl⟩, trivial⟩ ⟨Or.inl ⟨(by decide +kernel), rfl⟩, ⟨Or.inl ⟨(by decide +kernel), rfl⟩, trivial⟩⟩ (ok_X4_init (by decide +kernel) (by decide +kernel) (by decide +kernel) (by decide +kernel) (by decide +kernel) (by decide +kernel) (by decide +kernel) (by decide +kernel) (by decide +kernel)) (fun r102 S102 hp102 => ?_)
  obtain ⟨rfl, hq102⟩ := hp102
  rw [hq102]
  show Ok _ _ _ [zr 4 0, zr 11 0] _ _
  refine r_putr (q := 108) (fun p hp => by cases hp; exact (by decide +kernel)) ck11 dX11_init_105 rfl (k := 14) (by decide) wt436 (Or.inr ⟨rfl, rfl, rfl⟩) rfl (by decide +kernel) ?_
  refine r_aload_n (q := 109) dX11_init_108 rfl rfl rfl ?_
  refine r_new (q := 112) (a := 10) (b := 0) (by decide) ck10 (by decide) dX11_init_109 rfl wt174 wt175 wt6 (by decide +kernel) rfl rfl ?_
  refine r_dup (q := 113) dX11_init_112 rfl rfl ?_
  refine r_callIN (Mc := mX10_init) (q := 116) (As := []) (st := [zr 10 0, zr 11 0]) dX11_init_113 rfl rfl mkX10_init rfl rfl wn176 wt177 rfl (Nat.le_of_ble_eq_true rfl) (Nat.le_of_ble_eq_true rfl) (by decide) (by decide) (by decide) ⟨Or.inl ⟨(by decide +kernel), rfl⟩, trivial⟩ ⟨Or.inl ⟨(by decide +kernel), rfl⟩, ⟨Or.inl ⟨(by decide +kernel), rfl⟩, trivial⟩⟩ (ok_X10_init (by decide +kernel) (by decide +kernel) (by decide +kernel) (by decide +kernel)) (fun r113 S113 hp113 => ?_)
  obtain ⟨rfl, hq113⟩ := hp113
  rw [hq113]
  show Ok _ _ _ [zr 10 0, zr 11 0] _ _
  refine r_putr (q := 119) (fun p hp => by cases hp; exact (by decide +kernel)) ck11 dX11_init_116 rfl (k := 15) (by decide) wt437 (Or.inr ⟨rfl, rfl, rfl⟩) rfl (by decide +kernel) ?_
  refine r_aload_n (q := 120) dX11_init_119 rfl rfl rfl ?_
  refine r_new (q := 123) (a := 3) (b := 0) (by decide) ck3 (by decide) dX11_init_120 rfl wt193 wt194 wt7 (by decide +kernel) rfl rfl ?_
  refine r_dup (q := 124) dX11_init_123 rfl rfl ?_
  refine r_callI (Mc := mX3_init) (q := 127) (As := []) (st := [zr 3 0, zr 11 0]) dX11_init_124 rfl rfl mkX3_init rfl rfl wt195 wt196 rfl (Nat.le_of_ble_eq_true rfl) (Nat.le_of_ble_eq_true rfl) (by decide) (by decide) (by decide) ⟨Or.inl ⟨(by decide +kernel), rfl⟩, trivial⟩ ⟨Or.inl ⟨(by decide +kernel), rfl⟩, ⟨Or.inl ⟨(by decide +kernel), rfl⟩, trivial⟩⟩ (ok_X3_init (by decide +kernel) (by decide +kernel) (by decide +kernel) (by decide +kernel) (by decide +kernel) (by decide +kernel) (by decide +kernel) (by decide +kernel) (by decide +kernel) (by decide +kernel) (by decide +kernel) (by decide +kernel) (by decide +kernel) (by decide +kernel) (by decide +kernel) (by decide +kernel) (by decide +kernel) (by decide +kernel) (by decide +kernel) (by decide +kernel) (by decide +kernel)) (fun r124 S124 hp124 => ?_)
  obtain ⟨rfl, hq124⟩ := hp124
  rw [hq124]
  show Ok _ _ _ [zr 3 0, zr 11 0] _ _
  refine r_putr (q := 130) (fun p hp => by cases hp; exact (by decide +kernel)) ck11 dX11_init_127 rfl (k := 16) (by decide) wt438 (Or.inr ⟨rfl, rfl, rfl⟩) rfl (by decide +kernel) ?_
  refine r_aload_n (q := 131) dX11_init_130 rfl rfl rfl ?_
  refine r_new (q := 134) (a := 1) (b := 0) (by decide) ck1 (by decide) dX11_init_131 rfl wt222 wt223 wt8 (by decide +kernel) rfl rfl ?_
  refine r_dup (q := 135) dX11_init_134 rfl rfl ?_
  refine r_callIN (Mc := mX1_init) (q := 138) (As := []) (st := [zr 1 0, zr 11 0]) dX11_init_135 rfl rfl mkX1_init rfl rfl wn224 wt225 rfl (Nat.le_of_ble_eq_true rfl) (Nat.le_of_ble_eq_true rfl) (by decide) (by decide) (by decide) ⟨Or.inl ⟨(by decide +kernel), rfl⟩, trivial⟩ ⟨Or.inl ⟨(by decide +kernel), rfl⟩, ⟨Or.inl ⟨(by decide +kernel), rfl⟩, trivial⟩⟩ (ok_X1_init (by decide +kernel) (by decide +kernel) (by decide +kernel) (by decide +kernel) (by decide +kernel) (by decide +kernel) (by decide +kernel)) (fun r135 S135 hp135 => ?_)
  obtain ⟨rfl, hq135⟩ := hp135
  rw [hq135]
  show Ok _ _ _ [zr 1 0, zr 11 0] _ _
  refine r_putr (q := 141) (fun p hp => by cases hp; exact (by decide +kernel)) ck11 dX11_init_138 rfl (k := 17) (by decide) wt439 (Or.inr ⟨rfl, rfl, rfl⟩) rfl (by decide +kernel) ?_
  refine r_aload_n (q := 142) dX11_init_141 rfl rfl rfl ?_
  refine r_new (q := 145) (a := 5) (b := 0) (by decide) ck5 (by decide) dX11_init_142 rfl wt247 wt248 wt9 (by decide +kernel) rfl rfl ?_
  refine r_dup (q := 146) dX11_init_145 rfl rfl ?_
  refine r_callIN (Mc := mX5_init) (q := 149) (As := []) (st := [zr 5 0, zr 11 0]) dX11_init_146 rfl rfl mkX5_init rfl rfl wn249 wt250 rfl (Nat.le_of_ble_eq_true rfl) (Nat.le_of_ble_eq_true rfl) (by decide) (by decide) (by decide) ⟨Or.inl ⟨(by decide +kernel), rfl⟩, trivial⟩ ⟨Or.inl ⟨(by decide +kernel), rfl⟩, ⟨Or.inl ⟨(by decide +kernel), rfl⟩, trivial⟩⟩ (ok_X5_init (by decide +kernel) (by decide +kernel) (by decide +kernel) (by decide +kernel)) (fun r146 S146 hp146 => ?_)
  obtain ⟨rfl, hq146⟩ := hp146
  rw [hq146]
  show Ok _ _ _ [zr 5 0, zr 11 0] _ _
  refine r_putr (q := 152) (fun p hp => by cases hp; exact (by decide +kernel)) ck11 dX11_init_149 rfl (k := 18) (by decide) wt440 (Or.inr ⟨rfl, rfl, rfl⟩) rfl (by decide +kernel) ?_
  refine r_aload_n (q := 153) dX11_init_152 rfl rfl rfl ?_
  refine r_new (q := 156) (a := 2) (b := 0) (by decide) ck2 (by decide) dX11_init_153 rfl wt263 wt264 wt10 (by decide +kernel) rfl rfl ?_
  refine r_dup (q := 157) dX11_init_156 rfl rfl ?_
  refine r_callIN (Mc := mX2_init) (q := 160) (As := []) (st := [zr 2 0, zr 11 0]) dX11_init_157 rfl rfl mkX2_init rfl rfl wn265 wt266 rfl (Nat.le_of_ble_eq_true rfl) (Nat.le_of_ble_eq_true rfl) (by decide) (by decide) (by decide) ⟨Or.inl ⟨(by decide +kernel), rfl⟩, trivial⟩ ⟨Or.inl ⟨(by decide +kernel), rfl⟩, ⟨Or.inl ⟨(by decide +kernel), rfl⟩, trivial⟩⟩ (ok_X2_init (by decide +kernel) (by decide +kernel) (by decide +kernel) (by decide +kernel) (by decide +kernel)) (fun r157 S157 hp157 => ?_)
  obtain ⟨rfl, hq157⟩ := hp157
  rw [hq157]
  show Ok _ _ _ [zr 2 0, zr 11 0] _ _
  refine r_putr (q := 163) (fun p hp => by cases hp; exact (by decide +kernel)) ck11 dX11_init_160 rfl (k := 19) (by decide) wt441 (Or.inr ⟨rfl, rfl, rfl⟩) rfl (by decide +kernel) ?_
  refine r_iconst (q := 164) (nI 0) dX11_init_163 rfl (by decide) ?_
  refine r_istore_n (q := 165) (L' := [some (zr 11 0), some (zi (nI 0))]) dX11_init_164 rfl rfl (by decide) rfl ?_
  refine r_iload_n (q := 166) dX11_init_165 rfl rfl rfl ?_
  refine r_aload_n (q := 167) dX11_init_166 rfl rfl rfl ?_
  refine r_getr (q := 170) (some (1202, 0)) ck11 dX11_init_167 rfl (k := 2) (by decide) wt424 rfl (by decide +kernel) (by decide +kernel) ?_
  refine r_alen (q := 171) (by decide) (by decide) dX11_init_170 rfl (by decide +kernel) ?_
  refine r_topi (y := nI 4) (congrArg nI (by decide +kernel)) ?_
  refine r_icmp_geN (q := 174) (t := 200) (by omega) (by omega) dX11_init_171 (by decide) rfl (fun h171 => absurd h171 (by omega)) (fun h171 => ?_)
  refine r_aload_n (q := 175) dX11_init_174 rfl rfl rfl ?_
  refine r_getr (q := 178) (some (1202, 0)) ck11 dX11_init_175 rfl (k := 2) (by decide) wt424 rfl (by decide +kernel) (by decide +kernel) ?_
  refine r_iload_n (q := 179) dX11_init_178 rfl rfl rfl ?_
  refine r_new (q := 182) (a := 0) (b := 0) (by decide) ck0 (by decide) dX11_init_179 rfl wt29 wt281 wt11 (by decide +kernel) rfl rfl ?_
  refine r_dup (q := 183) dX11_init_182 rfl rfl ?_
  refine r_new (q := 186) (a := 9) (b := 0) (by decide) ck9 (by decide) dX11_init_183 rfl wt282 wt283 wt12 (by decide +kernel) rfl rfl ?_
  refine r_dup (q := 187) dX11_init_186 rfl rfl ?_
  refine r_callI (Mc := mX9_init) (q := 190) (As := []) (st := [zr 9 0, zr 0 0, zr 0 0, zi (nI 0), zr 1202 0]) dX11_init_187 rfl rfl mkX9_init rfl rfl wt284 wt285 rfl (Nat.le_of_ble_eq_true rfl) (Nat.le_of_ble_eq_true rfl) (by decide) (by decide) (by decide) ⟨Or.inl ⟨(by decide +kernel), rfl⟩, ⟨trivial, trivial⟩⟩ ⟨Or.inl ⟨(by decide +kernel), rfl⟩, ⟨Or.inl ⟨(by decide +kernel), rfl⟩, ⟨Or.inl ⟨(by decide +kernel), rfl⟩, ⟨trivial, ⟨Or.inl ⟨(by decide +kernel), rfl⟩, trivial⟩⟩⟩⟩⟩ (ok_X9_init (j := 0) (by decide +kernel) (by decide +kernel) (by decide +kernel) (by decide +kernel) (by decide +kernel) (by decide +kernel) (by decide +kernel) (by decide +kernel) (by decide +kernel) (by decide +kernel)) (fun r187 S187 hp187 => ?_)
  obtain ⟨rfl, hq187⟩ := hp187
  rw [hq187]
  show Ok _ _ _ [zr 9 0, zr 0 0, zr 0 0, zi (nI 0), zr 1202 0] _ _
  refine r_callI (Mc := mX0_init) (q := 193) (As := [zr 9 0]) (st := [zr 0 0, zi (nI 0), zr 1202 0]) dX11_init_190 rfl rfl mkX0_init rfl rfl wt365 wt366 rfl (Nat.le_of_ble_eq_true rfl) (Nat.le_of_ble_eq_true rfl) (by decide) (by decide) (by decide) ⟨Or.inl ⟨(by decide +kernel), rfl⟩, ⟨trivial, trivial⟩⟩ ⟨Or.inl ⟨(by decide +kernel), rfl⟩, ⟨trivial, ⟨Or.inl ⟨(by decide +kernel), rfl⟩, trivial⟩⟩⟩ (ok_X0_init (j := 0) (by decide +kernel) (by decide +kernel) (by decide +kernel) (by decide +kernel) (by decide +kernel) (by decide +kernel) (by decide +kernel) (by decide +kernel) (by decide +kernel) (by decide +kernel) (by decide +kernel) (by decide +kernel) (by decide +kernel) (by decide +kernel) (by decide +kernel) (by decide +kernel)) (fun r190 S190 hp190 => ?_)
  obtain ⟨rfl, hq190⟩ := hp190
  rw [hq190]
  show Ok _ _ _ [zr 0 0, zi (nI 0), zr 1202 0] _ _
  refine r_aast (q := 194) (n := 4) ck0 (by decide) (by decide) (by decide) rfl dX11_init_193 rfl (by decide +kernel) (by decide +kernel) (by decide +kernel) (by decide) (by decide) ?_
  refine r_iincN (q := 197) (L' := [some (zr 11 0), some (zi (nI 1))]) 1 rfl dX11_init_194 rfl rfl (by decide) rfl ?_
  refine r_goto (q := 165) dX11_init_197 (by decide) ?_
  refine r_iload_n (q := 166) dX11_init_165 rfl rfl rfl ?_
  refine r_aload_n (q := 167) dX11_init_166 rfl rfl rfl ?_
  refine r_getr (q := 170) (some (1202, 0)) ck11 dX11_init_167 rfl (k := 2) (by decide) wt424 rfl (by decide +kernel) (by decide +kernel) ?_
  refine r_alen (q := 171) (by decide) (by decide) dX11_init_170 rfl (by decide +kernel) ?_
  refine r_topi (y := nI 4) (congrArg nI (by decide +kernel)) ?_
  refine r_icmp_geN (q := 174) (t := 200) (by omega) (by omega) dX11_init_171 (by decide) rfl (fun h171 => absurd h171 (by omega)) (fun h171 => ?_)
  refine r_aload_n (q := 175) dX11_init_174 rfl rfl rfl ?_
  refine r_getr (q := 178) (some (1202, 0)) ck11 dX11_init_175 rfl (k := 2) (by decide) wt424 rfl (by decide +kernel) (by decide +kernel) ?_
  refine r_iload_n (q := 179) dX11_init_178 rfl rfl rfl ?_
  refine r_new (q := 182) (a := 0) (b := 1) (by decide) ck0 (by decide) dX11_init_179 rfl wt29 wt281 wt11 (by decide +kernel) rfl rfl ?_
  refine r_dup (q := 183) dX11_init_182 rfl rfl ?_
  refine r_new (q := 186) (a := 9) (b := 1) (by decide) ck9 (by decide) dX11_init_183 rfl wt282 wt283 wt12 (by decide +kernel) rfl rfl ?_
  refine r_dup (q := 187) dX11_init_186 rfl rfl ?_
  refine r_callI (Mc := mX9_init) (q := 190) (As := []) (st := [zr 9 1, zr 0 1, zr 0 1, zi (nI 1), zr 1202 0]) dX11_init_187 rfl rfl mkX9_init rfl rfl wt284 wt285 rfl (Nat.le_of_ble_eq_true rfl) (Nat.le_of_ble_eq_true rfl) (by decide) (by decide) (by decide) ⟨Or.inl ⟨(by decide +kernel), rfl⟩, ⟨trivial, trivial⟩⟩ ⟨Or.inl ⟨(by decide +kernel), rfl⟩, ⟨Or.inl ⟨(by decide +kernel), rfl⟩, ⟨Or.inl ⟨(by decide +kernel), rfl⟩, ⟨trivial, ⟨Or.inl ⟨(by decide +kernel), rfl⟩, trivial⟩⟩⟩⟩⟩ (ok_X9_init (j := 1) (by decide +kernel) (by decide +kernel) (by decide +kernel) (by decide +kernel) (by decide +kernel) (by decide +kernel) (by decide +kernel) (by decide +kernel) (by decide +kernel) (by decide +kernel)) (fun r187 S187 hp187 => ?_)
  obtain ⟨rfl, hq187⟩ := hp187
  rw [hq187]
  show Ok _ _ _ [zr 9 1, zr 0 1, zr 0 1, zi (nI 1), zr 1202 0] _ _
  refine r_callI (Mc := mX0_init) (q := 193) (As := [zr 9 1]) (st := [zr 0 1, zi (nI 1), zr 1202 0]) dX11_init_190 rfl rfl mkX0_init rfl rfl wt365 wt366 rfl (Nat.le_of_ble_eq_true rfl) (Nat.le_of_ble_eq_true rfl) (by decide) (by decide) (by decide) ⟨Or.inl ⟨(by decide +kernel), rfl⟩, ⟨trivial, trivial⟩⟩ ⟨Or.inl ⟨(by decide +kernel), rfl⟩, ⟨trivial, ⟨Or.inl ⟨(by decide +kernel), rfl⟩, trivial⟩⟩⟩ (ok_X0_init (j := 1) (by decide +kernel) (by decide +kernel) (by decide +kernel) (by decide +kernel) (by decide +kernel) (by decide +kernel) (by decide +kernel) (by decide +kernel) (by decide +kernel) (by decide +kernel) (by decide +kernel) (by decide +kernel) (by decide +kernel) (by decide +kernel) (by decide +kernel) (by decide +kernel)) (fun r190 S190 hp190 => ?_)
  obtain ⟨rfl, hq190⟩ := hp190
  rw [hq190]
  show Ok _ _ _ [zr 0 1, zi (nI 1), zr 1202 0] _ _
  refine r_aast (q := 194) (n := 4) ck0 (by decide) (by decide) (by decide) rfl dX11_init_193 rfl (by decide +kernel) (by decide +kernel) (by decide +kernel) (by decide) (by decide) ?_
  refine r_iincN (q := 197) (L' := [some (zr 11 0), some (zi (nI 2))]) 1 rfl dX11_init_194 rfl rfl (by decide) rfl ?_
  refine r_goto (q := 165) dX11_init_197 (by decide) ?_
  refine r_iload_n (q := 166) dX11_init_165 rfl rfl rfl ?_
  refine r_aload_n (q := 167) dX11_init_166 rfl rfl rfl ?_
  refine r_getr (q := 170) (some (1202, 0)) ck11 dX11_init_167 rfl (k := 2) (by decide) wt424 rfl (by decide +kernel) (by decide +kernel) ?_
  refine r_alen (q := 171) (by decide) (by decide) dX11_init_170 rfl (by decide +kernel) ?_
  refine r_topi (y := nI 4) (congrArg nI (by decide +kernel)) ?_
  refine r_icmp_geN (q := 174) (t := 200) (by omega) (by omega) dX11_init_171 (by decide) rfl (fun h171 => absurd h171 (by omega)) (fun h171 => ?_)
  refine r_aload_n (q := 175) dX11_init_174 rfl rfl rfl ?_
  refine r_getr (q := 178) (some (1202, 0)) ck11 dX11_init_175 rfl (k := 2) (by decide) wt424 rfl (by decide +kernel) (by decide +kernel) ?_
  refine r_iload_n (q := 179) dX11_init_178 rfl rfl rfl ?_
  refine r_new (q := 182) (a := 0) (b := 2) (by decide) ck0 (by decide) dX11_init_179 rfl wt29 wt281 wt11 (by decide +kernel) rfl rfl ?_
  refine r_dup (q := 183) dX11_init_182 rfl rfl ?_
  refine r_new (q := 186) (a := 9) (b := 2) (by decide) ck9 (by decide) dX11_init_183 rfl wt282 wt283 wt12 (by decide +kernel) rfl rfl ?_
  refine r_dup (q := 187) dX11_init_186 rfl rfl ?_
  refine r_callI (Mc := mX9_init) (q := 190) (As := []) (st := [zr 9 2, zr 0 2, zr 0 2, zi (nI 2), zr 1202 0]) dX11_init_187 rfl rfl mkX9_init rfl rfl wt284 wt285 rfl (Nat.le_of_ble_eq_true rfl) (Nat.le_of_ble_eq_true rfl) (by decide) (by decide) (by decide) ⟨Or.inl ⟨(by decide +kernel), rfl⟩, ⟨trivial, trivial⟩⟩ ⟨Or.inl ⟨(by decide +kernel), rfl⟩, ⟨Or.inl ⟨(by decide +kernel), rfl⟩, ⟨Or.inl ⟨(by decide +kernel), rfl⟩, ⟨trivial, ⟨Or.inl ⟨(by decide +kernel), rfl⟩, trivial⟩⟩⟩⟩⟩ (ok_X9_init (j := 2) (by decide +kernel) (by decide +kernel) (by decide +kernel) (by decide +kernel) (by decide +kernel) (by decide +kernel) (by decide +kernel) (by decide +kernel) (by decide +kernel) (by decide +kernel)) (fun r187 S187 hp187 => ?_)
  obtain ⟨rfl, hq187⟩ := hp187
  rw [hq187]
  show Ok _ _ _ [zr 9 2, zr 0 2, zr 0 2, zi (nI 2), zr 1202 0] _ _
  refine r_callI (Mc := mX0_init) (q := 193) (As := [zr 9 2]) (st := [zr 0 2, zi (nI 2), zr 1202 0]) dX11_init_190 rfl rfl mkX0_init rfl rfl wt365 wt366 rfl (Nat.le_of_ble_eq_true rfl) (Nat.le_of_ble_eq_true rfl) (by decide) (by decide) (by decide) ⟨Or.inl ⟨(by decide +kernel), rfl⟩, ⟨trivial, trivial⟩⟩ ⟨Or.inl ⟨(by decide +kernel), rfl⟩, ⟨trivial, ⟨Or.inl ⟨(by decide +kernel), rfl⟩, trivial⟩⟩⟩ (ok_X0_init (j := 2) (by decide +kernel) (by decide +kernel) (by decide +kernel) (by decide +kernel) (by decide +kernel) (by decide +kernel) (by decide +kernel) (by decide +kernel) (by decide +kernel) (by decide +kernel) (by decide +kernel) (by decide +kernel) (by decide +kernel) (by decide +kernel) (by decide +kernel) (by decide +kernel)) (fun r190 S190 hp190 => ?_)
  obtain ⟨rfl, hq190⟩ := hp190
  rw [hq190]
  show Ok _ _ _ [zr 0 2, zi (nI 2), zr 1202 0] _ _
  refine r_aast (q := 194) (n := 4) ck0 (by decide) (by decide) (by decide) rfl dX11_init_193 rfl (by decide +kernel) (by decide +kernel) (by decide +kernel) (by decide) (by decide) ?_
  refine r_iincN (q := 197) (L' := [some (zr 11 0), some (zi (nI 3))]) 1 rfl dX11_init_194 rfl rfl (by decide) rfl ?_
  refine r_goto (q := 165) dX11_init_197 (by decide) ?_
  refine r_iload_n (q := 166) dX11_init_165 rfl rfl rfl ?_
  refine r_aload_n (q := 167) dX11_init_166 rfl rfl rfl ?_
  refine r_getr (q := 170) (some (1202, 0)) ck11 dX11_init_167 rfl (k := 2) (by decide) wt424 rfl (by decide +kernel) (by decide +kernel) ?_
  refine r_alen (q := 171) (by decide) (by decide) dX11_init_170 rfl (by decide +kernel) ?_
  refine r_topi (y := nI 4) (congrArg nI (by decide +kernel)) ?_
  refine r_icmp_geN (q := 174) (t := 200) (by omega) (by omega) dX11_init_171 (by decide) rfl (fun h171 => absurd h171 (by omega)) (fun h171 => ?_)
  refine r_aload_n (q := 175) dX11_init_174 rfl rfl rfl ?_
  refine r_getr (q := 178) (some (1202, 0)) ck11 dX11_init_175 rfl (k := 2) (by decide) wt424 rfl (by decide +kernel) (by decide +kernel) ?_
  refine r_iload_n (q := 179) dX11_init_178 rfl rfl rfl ?_
  refine r_new (q := 182) (a := 0) (b := 3) (by decide) ck0 (by decide) dX11_init_179 rfl wt29 wt281 wt11 (by decide +kernel) rfl rfl ?_
  refine r_dup (q := 183) dX11_init_182 rfl rfl ?_
  refine r_new (q := 186) (a := 9) (b := 3) (by decide) ck9 (by decide) dX11_init_183 rfl wt282 wt283 wt12 (by decide +kernel) rfl rfl ?_
  refine r_dup (q := 187) dX11_init_186 rfl rfl ?_
  refine r_callI (Mc := mX9_init) (q := 190) (As := []) (st := [zr 9 3, zr 0 3, zr 0 3, zi (nI 3), zr 1202 0]) dX11_init_187 rfl rfl mkX9_init rfl rfl wt284 wt285 rfl (Nat.le_of_ble_eq_true rfl) (Nat.le_of_ble_eq_true rfl) (by decide) (by decide) (by decide) ⟨Or.inl ⟨(by decide +kernel), rfl⟩, ⟨trivial, trivial⟩⟩ ⟨Or.inl ⟨(by decide +kernel), rfl⟩, ⟨Or.inl ⟨(by decide +kernel), rfl⟩, ⟨Or.inl ⟨(by decide +kernel), rfl⟩, ⟨trivial, ⟨Or.inl ⟨(by decide +kernel), rfl⟩, trivial⟩⟩⟩⟩⟩ (ok_X9_init (j := 3) (by decide +kernel) (by decide +kernel) (by decide +kernel) (by decide +kernel) (by decide +kernel) (by decide +kernel) (by decide +kernel) (by decide +kernel) (by decide +kernel) (by decide +kernel)) (fun r187 S187 hp187 => ?_)
  obtain ⟨rfl, hq187⟩ := hp187
  rw [hq187]
  show Ok _ _ _ [zr 9 3, zr 0 3, zr 0 3, zi (nI 3), zr 1202 0] _ _
  refine r_callI (Mc := mX0_init) (q := 193) (As := [zr 9 3]) (st := [zr 0 3, zi (nI 3), zr 1202 0]) dX11_init_190 rfl rfl mkX0_init rfl rfl wt365 wt366 rfl (Nat.le_of_ble_eq_true rfl) (Nat.le_of_ble_eq_true rfl) (by decide) (by decide) (by decide) ⟨Or.inl ⟨(by decide +kernel), rfl⟩, ⟨trivial, trivial⟩⟩ ⟨Or.inl ⟨(by decide +kernel), rfl⟩, ⟨trivial, ⟨Or.inl ⟨(by decide +kernel), rfl⟩, trivial⟩⟩⟩ (ok_X0_init (j := 3) (by decide +kernel) (by decide +kernel) (by decide +kernel) (by decide +kernel) (by decide +kernel) (by decide +kernel) (by decide +kernel) (by decide +kernel) (by decide +kernel) (by decide +kernel) (by decide +kernel) (by decide +kernel) (by decide +kernel) (by decide +kernel) (by decide +kernel) (by decide +kernel)) (fun r190 S190 hp190 => ?_)
  obtain ⟨rfl, hq190⟩ := hp190
  rw [hq190]
  show Ok _ _ _ [zr 0 3, zi (nI 3), zr 1202 0] _ _
  refine r_aast (q := 194) (n := 4) ck0 (by decide) (by decide) (by decide) rfl dX11_init_193 rfl (by decide +kernel) (by decide +kernel) (by decide +kernel) (by decide) (by decide) ?_
  refine r_iincN (q := 197) (L' := [some (zr 11 0), some (zi (nI 4))]) 1 rfl dX11_init_194 rfl rfl (by decide) rfl ?_
  refine r_goto (q := 165) dX11_init_197 (by decide) ?_
  refine r_iload_n (q := 166) dX11_init_165 rfl rfl rfl ?_
  refine r_aload_n (q := 167) dX11_init_166 rfl rfl rfl ?_
  refine r_getr (q := 170) (some (1202, 0)) ck11 dX11_init_167 rfl (k := 2) (by decide) wt424 rfl (by decide +kernel) (by decide +kernel) ?_
  refine r_alen (q := 171) (by decide) (by decide) dX11_init_170 rfl (by decide +kernel) ?_
  refine r_topi (y := nI 4) (congrArg nI (by decide +kernel)) ?_
  refine r_icmp_geN (q := 174) (t := 200) (by omega) (by omega) dX11_init_171 (by decide) rfl (fun h171 => ?_) (fun h171 => absurd h171 (by omega))
  refine r_iconst (q := 201) (nI 0) dX11_init_200 rfl (by decide) ?_
  refine r_istore_n (q := 202) (L' := [some (zr 11 0), some (zi (nI 0))]) dX11_init_201 rfl rfl (by decide) rfl ?_
  refine r_iload_n (q := 203) dX11_init_202 rfl rfl rfl ?_
  refine r_iconst (q := 204) (nI 2) dX11_init_203 rfl (by decide) ?_
  refine r_icmp_geN (q := 207) (t := 246) (by omega) (by omega) dX11_init_204 (by decide) rfl (fun h204 => absurd h204 (by omega)) (fun h204 => ?_)
  refine r_aload_n (q := 208) dX11_init_207 rfl rfl rfl ?_
  refine r_getr (q := 211) (some (1204, 0)) ck11 dX11_init_208 rfl (k := 4) (by decide) wt426 rfl (by decide +kernel) (by decide +kernel) ?_
  refine r_iload_n (q := 212) dX11_init_211 rfl rfl rfl ?_
  refine r_iconst (q := 213) ((-1 : Int32)) dX11_init_212 rfl (by decide) ?_
  refine r_iastN (q := 214) 2 (by decide) rfl dX11_init_213 rfl (by decide +kernel) (by decide +kernel) (by omega) (by decide) ?_
  refine r_aload_n (q := 215) dX11_init_214 rfl rfl rfl ?_
  refine r_getr (q := 218) (some (1206, 0)) ck11 dX11_init_215 rfl (k := 6) (by decide) wt428 rfl (by decide +kernel) (by decide +kernel) ?_
  refine r_iload_n (q := 219) dX11_init_218 rfl rfl rfl ?_
  refine r_new (q := 222) (a := 7) (b := 1) (by decide) ck7 (by decide) dX11_init_219 rfl wt31 wt32 wt2 (by decide +kernel) rfl rfl ?_
  refine r_dup (q := 223) dX11_init_222 rfl rfl ?_
  refine r_callIN (Mc := mX7_init) (q := 226) (As := []) (st := [zr 7 1, zi (nI 0), zr 1206 0]) dX11_init_223 rfl rfl mkX7_init rfl rfl wn33 wt34 rfl (Nat.le_of_ble_eq_true rfl) (Nat.le_of_ble_eq_true rfl) (by decide) (by decide) (by decide) ⟨Or.inl ⟨(by decide +kernel), rfl⟩, ⟨trivial, trivial⟩⟩ ⟨Or.inl ⟨(by decide +kernel), rfl⟩, ⟨trivial, ⟨Or.inl ⟨(by decide +kernel), rfl⟩, trivial⟩⟩⟩ (ok_X7_init (j := 1) (by decide +kernel) (by decide +kernel)) (fun r223 S223 hp223 => ?_)
  obtain ⟨rfl, hq223⟩ := hp223
  rw [hq223]
  show Ok _ _ _ [zr 7 1, zi (nI 0), zr 1206 0] _ _
  refine r_aast (q := 227) (n := 2) ck7 (by decide) (by decide) (by decide) rfl dX11_init_226 rfl (by decide +kernel) (by decide +kernel) (by decide +kernel) (by decide) (by decide) ?_
  refine r_aload_n (q := 228) dX11_init_227 rfl rfl rfl ?_
  refine r_getr (q := 231) (some (1208, 0)) ck11 dX11_init_228 rfl (k := 8) (by decide) wt430 rfl (by decide +kernel) (by decide +kernel) ?_
  refine r_iload_n (q := 232) dX11_init_231 rfl rfl rfl ?_
  refine r_new (q := 235) (a := 8) (b := 1) (by decide) ck8 (by decide) dX11_init_232 rfl wt49 wt50 wt3 (by decide +kernel) rfl rfl ?_
  refine r_dup (q := 236) dX11_init_235 rfl rfl ?_
  refine r_callIN (Mc := mX8_init) (q := 239) (As := []) (st := [zr 8 1, zi (nI 0), zr 1208 0]) dX11_init_236 rfl rfl mkX8_init rfl rfl wn51 wt52 rfl (Nat.le_of_ble_eq_true rfl) (Nat.le_of_ble_eq_true rfl) (by decide) (by decide) (by decide) ⟨Or.inl ⟨(by decide +kernel), rfl⟩, ⟨trivial, trivial⟩⟩ ⟨Or.inl ⟨(by decide +kernel), rfl⟩, ⟨trivial, ⟨Or.inl ⟨(by decide +kernel), rfl⟩, trivial⟩⟩⟩ (ok_X8_init (j := 1) (by decide +kernel) (by decide +kernel) (by decide +kernel)) (fun r236 S236 hp236 => ?_)
  obtain ⟨rfl, hq236⟩ := hp236
  rw [hq236]
  show Ok _ _ _ [zr 8 1, zi (nI 0), zr 1208 0] _ _
  refine r_aast (q := 240) (n := 2) ck8 (by decide) (by decide) (by decide) rfl dX11_init_239 rfl (by decide +kernel) (by decide +kernel) (by decide +kernel) (by decide) (by decide) ?_
  refine r_iincN (q := 243) (L' := [some (zr 11 0), some (zi (nI 1))]) 1 rfl dX11_init_240 rfl rfl (by decide) rfl ?_
  refine r_goto (q := 202) dX11_init_243 (by decide) ?_
  refine r_iload_n (q := 203) dX11_init_202 rfl rfl rfl ?_
  refine r_iconst (q := 204) (nI 2) dX11_init_203 rfl (by decide) ?_
  refine r_icmp_geN (q := 207) (t := 246) (by omega) (by omega) dX11_init_204 (by decide) rfl (fun h204 => absurd h204 (by omega)) (fun h204 => ?_)
  refine r_aload_n (q := 208) dX11_init_207 rfl rfl rfl ?_
  refine r_getr (q := 211) (some (1204, 0)) ck11 dX11_init_208 rfl (k := 4) (by decide) wt426 rfl (by decide +kernel) (by decide +kernel) ?_
  refine r_iload_n (q := 212) dX11_init_211 rfl rfl rfl ?_
  refine r_iconst (q := 213) ((-1 : Int32)) dX11_init_212 rfl (by decide) ?_
  refine r_iastN (q := 214) 2 (by decide) rfl dX11_init_213 rfl (by decide +kernel) (by decide +kernel) (by omega) (by decide) ?_
  refine r_aload_n (q := 215) dX11_init_214 rfl rfl rfl ?_
  refine r_getr (q := 218) (some (1206, 0)) ck11 dX11_init_215 rfl (k := 6) (by decide) wt428 rfl (by decide +kernel) (by decide +kernel) ?_
  refine r_iload_n (q := 219) dX11_init_218 rfl rfl rfl ?_
  refine r_new (q := 222) (a := 7) (b := 2) (by decide) ck7 (by decide) dX11_init_219 rfl wt31 wt32 wt2 (by decide +kernel) rfl rfl ?_
  refine r_dup (q := 223) dX11_init_222 rfl rfl ?_
  refine r_callIN (Mc := mX7_init) (q := 226) (As := []) (st := [zr 7 2, zi (nI 1), zr 1206 0]) dX11_init_223 rfl rfl mkX7_init rfl rfl wn33 wt34 rfl (Nat.le_of_ble_eq_true rfl) (Nat.le_of_ble_eq_true rfl) (by decide) (by decide) (by decide) ⟨Or.inl ⟨(by decide +kernel), rfl⟩, ⟨trivial, trivial⟩⟩ ⟨Or.inl ⟨(by decide +kernel), rfl⟩, ⟨trivial, ⟨Or.inl ⟨(by decide +kernel), rfl⟩, trivial⟩⟩⟩ (ok_X7_init (j := 2) (by decide +kernel) (by decide +kernel)) (fun r223 S223 hp223 => ?_)
  obtain ⟨rfl, hq223⟩ := hp223
  rw [hq223]
  show Ok _ _ _ [zr 7 2, zi (nI 1), zr 1206 0] _ _
  refine r_aast (q := 227) (n := 2) ck7 (by decide) (by decide) (by decide) rfl dX11_init_226 rfl (by decide +kernel) (by decide +kernel) (by decide +kernel) (by decide) (by decide) ?_
  refine r_aload_n (q := 228) dX11_init_227 rfl rfl rfl ?_
  refine r_getr (q := 231) (some (1208, 0)) ck11 dX11_init_228 rfl (k := 8) (by decide) wt430 rfl (by decide +kernel) (by decide +kernel) ?_
  refine r_iload_n (q := 232) dX11_init_231 rfl rfl rfl ?_
  refine r_new (q := 235) (a := 8) (b := 2) (by decide) ck8 (by decide) dX11_init_232 rfl wt49 wt50 wt3 (by decide +kernel) rfl rfl ?_
  refine r_dup (q := 236) dX11_init_235 rfl rfl ?_
  refine r_callIN (Mc := mX8_init) (q := 239) (As := []) (st := [zr 8 2, zi (nI 1), zr 1208 0]) dX11_init_236 rfl rfl mkX8_init rfl rfl wn51 wt52 rfl (Nat.le_of_ble_eq_true rfl) (Nat.le_of_ble_eq_true rfl) (by decide) (by decide) (by decide) ⟨Or.inl ⟨(by decide +kernel), rfl⟩, ⟨trivial, trivial⟩⟩ ⟨Or.inl ⟨(by decide +kernel), rfl⟩, ⟨trivial, ⟨Or.inl ⟨(by decide +kernel), rfl⟩, trivial⟩⟩⟩ (ok_X8_init (j := 2) (by decide +kernel) (by decide +kernel) (by decide +kernel)) (fun r236 S236 hp236 => ?_)
  obtain ⟨rfl, hq236⟩ := hp236
  rw [hq236]
  show Ok _ _ _ [zr 8 2, zi (nI 1), zr 1208 0] _ _
  refine r_aast (q := 240) (n := 2) ck8 (by decide) (by decide) (by decide) rfl dX11_init_239 rfl (by decide +kernel) (by decide +kernel) (by decide +kernel) (by decide) (by decide) ?_
  refine r_iincN (q := 243) (L' := [some (zr 11 0), some (zi (nI 2))]) 1 rfl dX11_init_240 rfl rfl (by decide) rfl ?_
  refine r_goto (q := 202) dX11_init_243 (by decide) ?_
  refine r_iload_n (q := 203) dX11_init_202 rfl rfl rfl ?_
  refine r_iconst (q := 204) (nI 2) dX11_init_203 rfl (by decide) ?_
  refine r_icmp_geN (q := 207) (t := 246) (by omega) (by omega) dX11_init_204 (by decide) rfl (fun h204 => ?_) (fun h204 => absurd h204 (by omega))
  refine r_iconst (q := 247) (nI 0) dX11_init_246 rfl (by decide) ?_
  refine r_istore_n (q := 248) (L' := [some (zr 11 0), some (zi (nI 0))]) dX11_init_247 rfl rfl (by decide) rfl ?_
  refine r_iload_n (q := 249) dX11_init_248 rfl rfl rfl ?_
  refine r_bipush (q := 251) (nI 8) dX11_init_249 rfl (by decide) ?_
  refine r_icmp_geN (q := 254) (t := 273) (by omega) (by omega) dX11_init_251 (by decide) rfl (fun h251 => absurd h251 (by omega)) (fun h251 => ?_)
  refine r_aload_n (q := 255) dX11_init_254 rfl rfl rfl ?_
  refine r_getr (q := 258) (some (1209, 0)) ck11 dX11_init_255 rfl (k := 9) (by decide) wt431 rfl (by decide +kernel) (by decide +kernel) ?_
  refine r_iload_n (q := 259) dX11_init_258 rfl rfl rfl ?_
  refine r_new (q := 262) (a := 8) (b := 3) (by decide) ck8 (by decide) dX11_init_259 rfl wt49 wt50 wt3 (by decide +kernel) rfl rfl ?_
  refine r_dup (q := 263) dX11_init_262 rfl rfl ?_
  refine r_callIN (Mc := mX8_init) (q := 266) (As := []) (st := [zr 8 3, zi (nI 0), zr 1209 0]) dX11_init_263 rfl rfl mkX8_init rfl rfl wn51 wt52 rfl (Nat.le_of_ble_eq_true rfl) (Nat.le_of_ble_eq_true rfl) (by decide) (by decide) (by decide) ⟨Or.inl ⟨(by decide +kernel), rfl⟩, ⟨trivial, trivial⟩⟩ ⟨Or.inl ⟨(by decide +kernel), rfl⟩, ⟨trivial, ⟨Or.inl ⟨(by decide +kernel), rfl⟩, trivial⟩⟩⟩ (ok_X8_init (j := 3) (by decide +kernel) (by decide +kernel) (by decide +kernel)) (fun r263 S263 hp263 => ?_)
  obtain ⟨rfl, hq263⟩ := hp263
  rw [hq263]
  show Ok _ _ _ [zr 8 3, zi (nI 0), zr 1209 0] _ _
  refine r_aast (q := 267) (n := 8) ck8 (by decide) (by decide) (by decide) rfl dX11_init_266 rfl (by decide +kernel) (by decide +kernel) (by decide +kernel) (by decide) (by decide) ?_
  refine r_iincN (q := 270) (L' := [some (zr 11 0), some (zi (nI 1))]) 1 rfl dX11_init_267 rfl rfl (by decide) rfl ?_
  refine r_goto (q := 248) dX11_init_270 (by decide) ?_
  refine r_iload_n (q := 249) dX11_init_248 rfl rfl rfl ?_
  refine r_bipush (q := 251) (nI 8) dX11_init_249 rfl (by decide) ?_
  refine r_icmp_geN (q := 254) (t := 273) (by omega) (by omega) dX11_init_251 (by decide) rfl (fun h251 => absurd h251 (by omega)) (fun h251 => ?_)
  refine r_aload_n (q := 255) dX11_init_254 rfl rfl rfl ?_
  refine r_getr (q := 258) (some (1209, 0)) ck11 dX11_init_255 rfl (k := 9) (by decide) wt431 rfl (by decide +kernel) (by decide +kernel) ?_
  refine r_iload_n (q := 259) dX11_init_258 rfl rfl rfl ?_
  refine r_new (q := 262) (a := 8) (b := 4) (by decide) ck8 (by decide) dX11_init_259 rfl wt49 wt50 wt3 (by decide +kernel) rfl rfl ?_
  refine r_dup (q := 263) dX11_init_262 rfl rfl ?_
  refine r_callIN (Mc := mX8_init) (q := 266) (As := []) (st := [zr 8 4, zi (nI 1), zr 1209 0]) dX11_init_263 rfl rfl mkX8_init rfl rfl wn51 wt52 rfl (Nat.le_of_ble_eq_true rfl) (Nat.le_of_ble_eq_true rfl) (by decide) (by decide) (by decide) ⟨Or.inl ⟨(by decide +kernel), rfl⟩, ⟨trivial, trivial⟩⟩ ⟨Or.inl ⟨(by decide +kernel), rfl⟩, ⟨trivial, ⟨Or.inl ⟨(by decide +kernel), rfl⟩, trivial⟩⟩⟩ (ok_X8_init (j := 4) (by decide +kernel) (by decide +kernel) (by decide +kernel)) (fun r263 S263 hp263 => ?_)
  obtain ⟨rfl, hq263⟩ := hp263
  rw [hq263]
  show Ok _ _ _ [zr 8 4, zi (nI 1), zr 1209 0] _ _
  refine r_aast (q := 267) (n := 8) ck8 (by decide) (by decide) (by decide) rfl dX11_init_266 rfl (by decide +kernel) (by decide +kernel) (by decide +kernel) (by decide) (by decide) ?_
  refine r_iincN (q := 270) (L' := [some (zr 11 0), some (zi (nI 2))]) 1 rfl dX11_init_267 rfl rfl (by decide) rfl ?_
  refine r_goto (q := 248) dX11_init_270 (by decide) ?_
  refine r_iload_n (q := 249) dX11_init_248 rfl rfl rfl ?_
  refine r_bipush (q := 251) (nI 8) dX11_init_249 rfl (by decide) ?_
  refine r_icmp_geN (q := 254) (t := 273) (by omega) (by omega) dX11_init_251 (by decide) rfl (fun h251 => absurd h251 (by omega)) (fun h251 => ?_)
  refine r_aload_n (q := 255) dX11_init_254 rfl rfl rfl ?_
  refine r_getr (q := 258) (some (1209, 0)) ck11 dX11_init_255 rfl (k := 9) (by decide) wt431 rfl (by decide +kernel) (by decide +kernel) ?_
  refine r_iload_n (q := 259) dX11_init_258 rfl rfl rfl ?_
  refine r_new (q := 262) (a := 8) (b := 5) (by decide) ck8 (by decide) dX11_init_259 rfl wt49 wt50 wt3 (by decide +kernel) rfl rfl ?_
  refine r_dup (q := 263) dX11_init_262 rfl rfl ?_
  refine r_callIN (Mc := mX8_init) (q := 266) (As := []) (st := [zr 8 5, zi (nI 2), zr 1209 0]) dX11_init_263 rfl rfl mkX8_init rfl rfl wn51 wt52 rfl (Nat.le_of_ble_eq_true rfl) (Nat.le_of_ble_eq_true rfl) (by decide) (by decide) (by decide) ⟨Or.inl ⟨(by decide +kernel), rfl⟩, ⟨trivial, trivial⟩⟩ ⟨Or.inl ⟨(by decide +kernel), rfl⟩, ⟨trivial, ⟨Or.inl ⟨(by decide +kernel), rfl⟩, trivial⟩⟩⟩ (ok_X8_init (j := 5) (by decide +kernel) (by decide +kernel) (by decide +kernel)) (fun r263 S263 hp263 => ?_)
  obtain ⟨rfl, hq263⟩ := hp263
  rw [hq263]
  show Ok _ _ _ [zr 8 5, zi (nI 2), zr 1209 0] _ _
  refine r_aast (q := 267) (n := 8) ck8 (by decide) (by decide) (by decide) rfl dX11_init_266 rfl (by decide +kernel) (by decide +kernel) (by decide +kernel) (by decide) (by decide) ?_
  refine r_iincN (q := 270) (L' := [some (zr 11 0), some (zi (nI 3))]) 1 rfl dX11_init_267 rfl rfl (by decide) rfl ?_
  refine r_goto (q := 248) dX11_init_270 (by decide) ?_
  refine r_iload_n (q := 249) dX11_init_248 rfl rfl rfl ?_
  refine r_bipush (q := 251) (nI 8) dX11_init_249 rfl (by decide) ?_
  refine r_icmp_geN (q := 254) (t := 273) (by omega) (by omega) dX11_init_251 (by decide) rfl (fun h251 => absurd h251 (by omega)) (fun h251 => ?_)
  refine r_aload_n (q := 255) dX11_init_254 rfl rfl rfl ?_
  refine r_getr (q := 258) (some (1209, 0)) ck11 dX11_init_255 rfl (k := 9) (by decide) wt431 rfl (by decide +kernel) (by decide +kernel) ?_
  refine r_iload_n (q := 259) dX11_init_258 rfl rfl rfl ?_
  refine r_new (q := 262) (a := 8) (b := 6) (by decide) ck8 (by decide) dX11_init_259 rfl wt49 wt50 wt3 (by decide +kernel) rfl rfl ?_
  refine r_dup (q := 263) dX11_init_262 rfl rfl ?_
  refine r_callIN (Mc := mX8_init) (q := 266) (As := []) (st := [zr 8 6, zi (nI 3), zr 1209 0]) dX11_init_263 rfl rfl mkX8_init rfl rfl wn51 wt52 rfl (Nat.le_of_ble_eq_true rfl) (Nat.le_of_ble_eq_true rfl) (by decide) (by decide) (by decide) ⟨Or.inl ⟨(by decide +kernel), rfl⟩, ⟨trivial, trivial⟩⟩ ⟨Or.inl ⟨(by decide +kernel), rfl⟩, ⟨trivial, ⟨Or.inl ⟨(by decide +kernel), rfl⟩, trivial⟩⟩⟩ (ok_X8_init (j := 6) (by decide +kernel) (by decide +kernel) (by decide +kernel)) (fun r263 S263 hp263 => ?_)
  obtain ⟨rfl, hq263⟩ := hp263
  rw [hq263]
  show Ok _ _ _ [zr 8 6, zi (nI 3), zr 1209 0] _ _
  refine r_aast (q := 267) (n := 8) ck8 (by decide) (by decide) (by decide) rfl dX11_init_266 rfl (by decide +kernel) (by decide +kernel) (by decide +kernel) (by decide) (by decide) ?_
  refine r_iincN (q := 270) (L' := [some (zr 11 0), some (zi (nI 4))]) 1 rfl dX11_init_267 rfl rfl (by decide) rfl ?_
  refine r_goto (q := 248) dX11_init_270 (by decide) ?_
  refine r_iload_n (q := 249) dX11_init_248 rfl rfl rfl ?_
  refine r_bipush (q := 251) (nI 8) dX11_init_249 rfl (by decide) ?_
  refine r_icmp_geN (q := 254) (t := 273) (by omega) (by omega) dX11_init_251 (by decide) rfl (fun h251 => absurd h251 (by omega)) (fun h251 => ?_)
  refine r_aload_n (q := 255) dX11_init_254 rfl rfl rfl ?_
  refine r_getr (q := 258) (some (1209, 0)) ck11 dX11_init_255 rfl (k := 9) (by decide) wt431 rfl (by decide +kernel) (by decide +kernel) ?_
  refine r_iload_n (q := 259) dX11_init_258 rfl rfl rfl ?_
  refine r_new (q := 262) (a := 8) (b := 7) (by decide) ck8 (by decide) dX11_init_259 rfl wt49 wt50 wt3 (by decide +kernel) rfl rfl ?_
  refine r_dup (q := 263) dX11_init_262 rfl rfl ?_
  refine r_callIN (Mc := mX8_init) (q := 266) (As := []) (st := [zr 8 7, zi (nI 4), zr 1209 0]) dX11_init_263 rfl rfl mkX8_init rfl rfl wn51 wt52 rfl (Nat.le_of_ble_eq_true rfl) (Nat.le_of_ble_eq_true rfl) (by decide) (by decide) (by decide) ⟨Or.inl ⟨(by decide +kernel), rfl⟩, ⟨trivial, trivial⟩⟩ ⟨Or.inl ⟨(by decide +kernel), rfl⟩, ⟨trivial, ⟨Or.inl ⟨(by decide +kernel), rfl⟩, trivial⟩⟩⟩ (ok_X8_init (j := 7) (by decide +kernel) (by decide +kernel) (by decide +kernel)) (fun r263 S263 hp263 => ?_)
  obtain ⟨rfl, hq263⟩ := hp263
  rw [hq263]
  show Ok _ _ _ [zr 8 7, zi (nI 4), zr 1209 0] _ _
  refine r_aast (q := 267) (n := 8) ck8 (by decide) (by decide) (by decide) rfl dX11_init_266 rfl (by decide +kernel) (by decide +kernel) (by decide +kernel) (by decide) (by decide) ?_
  refine r_iincN (q := 270) (L' := [some (zr 11 0), some (zi (nI 5))]) 1 rfl dX11_init_267 rfl rfl (by decide) rfl ?_
  refine r_goto (q := 248) dX11_init_270 (by decide) ?_
  refine r_iload_n (q := 249) dX11_init_248 rfl rfl rfl ?_
  refine r_bipush (q := 251) (nI 8) dX11_init_249 rfl (by decide) ?_
  refine r_icmp_geN (q := 254) (t := 273) (by omega) (by omega) dX11_init_251 (by decide) rfl (fun h251 => absurd h251 (by omega)) (fun h251 => ?_)
  refine r_aload_n (q := 255) dX11_init_254 rfl rfl rfl ?_
  refine r_getr (q := 258) (some (1209, 0)) ck11 dX11_init_255 rfl (k := 9) (by decide) wt431 rfl (by decide +kernel) (by decide +kernel) ?_
  refine r_iload_n (q := 259) dX11_init_258 rfl rfl rfl ?_
  refine r_new (q := 262) (a := 8) (b := 8) (by decide) ck8 (by decide) dX11_init_259 rfl wt49 wt50 wt3 (by decide +kernel) rfl rfl ?_
  refine r_dup (q := 263) dX11_init_262 rfl rfl ?_
  refine r_callIN (Mc := mX8_init) (q := 266) (As := []) (st := [zr 8 8, zi (nI 5), zr 1209 0]) dX11_init_263 rfl rfl mkX8_init rfl rfl wn51 wt52 rfl (Nat.le_of_ble_eq_true rfl) (Nat.le_of_ble_eq_true rfl) (by decide) (by decide) (by decide) ⟨Or.inl ⟨(by decide +kernel), rfl⟩, ⟨trivial, trivial⟩⟩ ⟨Or.inl ⟨(by decide +kernel), rfl⟩, ⟨trivial, ⟨Or.inl ⟨(by decide +kernel), rfl⟩, trivial⟩⟩⟩ (ok_X8_init (j := 8) (by decide +kernel) (by decide +kernel) (by decide +kernel)) (fun r263 S263 hp263 => ?_)
  obtain ⟨rfl, hq263⟩ := hp263
  rw [hq263]
  show Ok _ _ _ [zr 8 8, zi (nI 5), zr 1209 0] _ _
  refine r_aast (q := 267) (n := 8) ck8 (by decide) (by decide) (by decide) rfl dX11_init_266 rfl (by decide +kernel) (by decide +kernel) (by decide +kernel) (by decide) (by decide) ?_
  refine r_iincN (q := 270) (L' := [some (zr 11 0), some (zi (nI 6))]) 1 rfl dX11_init_267 rfl rfl (by decide) rfl ?_
  refine r_goto (q := 248) dX11_init_270 (by decide) ?_
  refine r_iload_n (q := 249) dX11_init_248 rfl rfl rfl ?_
  refine r_bipush (q := 251) (nI 8) dX11_init_249 rfl (by decide) ?_
  refine r_icmp_geN (q := 254) (t := 273) (by omega) (by omega) dX11_init_251 (by decide) rfl (fun h251 => absurd h251 (by omega)) (fun h251 => ?_)
  refine r_aload_n (q := 255) dX11_init_254 rfl rfl rfl ?_
  refine r_getr (q := 258) (some (1209, 0)) ck11 dX11_init_255 rfl (k := 9) (by decide) wt431 rfl (by decide +kernel) (by decide +kernel) ?_
  refine r_iload_n (q := 259) dX11_init_258 rfl rfl rfl ?_
  refine r_new (q := 262) (a := 8) (b := 9) (by decide) ck8 (by decide) dX11_init_259 rfl wt49 wt50 wt3 (by decide +kernel) rfl rfl ?_
  refine r_dup (q := 263) dX11_init_262 rfl rfl ?_
  refine r_callIN (Mc := mX8_init) (q := 266) (As := []) (st := [zr 8 9, zi (nI 6), zr 1209 0]) dX11_init_263 rfl rfl mkX8_init rfl rfl wn51 wt52 rfl (Nat.le_of_ble_eq_true rfl) (Nat.le_of_ble_eq_true rfl) (by decide) (by decide) (by decide) ⟨Or.inl ⟨(by decide +kernel), rfl⟩, ⟨trivial, trivial⟩⟩ ⟨Or.inl ⟨(by decide +kernel), rfl⟩, ⟨trivial, ⟨Or.inl ⟨(by decide +kernel), rfl⟩, trivial⟩⟩⟩ (ok_X8_init (j := 9) (by decide +kernel) (by decide +kernel) (by decide +kernel)) (fun r263 S263 hp263 => ?_)
  obtain ⟨rfl, hq263⟩ := hp263
  rw [hq263]
  show Ok _ _ _ [zr 8 9, zi (nI 6), zr 1209 0] _ _
  refine r_aast (q := 267) (n := 8) ck8 (by decide) (by decide) (by decide) rfl dX11_init_266 rfl (by decide +kernel) (by decide +kernel) (by decide +kernel) (by decide) (by decide) ?_
  refine r_iincN (q := 270) (L' := [some (zr 11 0), some (zi (nI 7))]) 1 rfl dX11_init_267 rfl rfl (by decide) rfl ?_
  refine r_goto (q := 248) dX11_init_270 (by decide) ?_
  refine r_iload_n (q := 249) dX11_init_248 rfl rfl rfl ?_
  refine r_bipush (q := 251) (nI 8) dX11_init_249 rfl (by decide) ?_
  refine r_icmp_geN (q := 254) (t := 273) (by omega) (by omega) dX11_init_251 (by decide) rfl (fun h251 => absurd h251 (by omega)) (fun h251 => ?_)
  refine r_aload_n (q := 255) dX11_init_254 rfl rfl rfl ?_
  refine r_getr (q := 258) (some (1209, 0)) ck11 dX11_init_255 rfl (k := 9) (by decide) wt431 rfl (by decide +kernel) (by decide +kernel) ?_
  refine r_iload_n (q := 259) dX11_init_258 rfl rfl rfl ?_
  refine r_new (q := 262) (a := 8) (b := 10) (by decide) ck8 (by decide) dX11_init_259 rfl wt49 wt50 wt3 (by decide +kernel) rfl rfl ?_
  refine r_dup (q := 263) dX11_init_262 rfl rfl ?_
  refine r_callIN (Mc := mX8_init) (q := 266) (As := []) (st := [zr 8 10, zi (nI 7), zr 1209 0]) dX11_init_263 rfl rfl mkX8_init rfl rfl wn51 wt52 rfl (Nat.le_of_ble_eq_true rfl) (Nat.le_of_ble_eq_true rfl) (by decide) (by decide) (by decide) ⟨Or.inl ⟨(by decide +kernel), rfl⟩, ⟨trivial, trivial⟩⟩ ⟨Or.inl ⟨(by decide +kernel), rfl⟩, ⟨trivial, ⟨Or.inl ⟨(by decide +kernel), rfl⟩, trivial⟩⟩⟩ (ok_X8_init (j := 10) (by decide +kernel) (by decide +kernel) (by decide +kernel)) (fun r263 S263 hp263 => ?_)
  obtain ⟨rfl, hq263⟩ := hp263
  rw [hq263]
  show Ok _ _ _ [zr 8 10, zi (nI 7), zr 1209 0] _ _
  refine r_aast (q := 267) (n := 8) ck8 (by decide) (by decide) (by decide) rfl dX11_init_266 rfl (by decide +kernel) (by decide +kernel) (by decide +kernel) (by decide) (by decide) ?_
  refine r_iincN (q := 270) (L' := [some (zr 11 0), some (zi (nI 8))]) 1 rfl dX11_init_267 rfl rfl (by decide) rfl ?_
  refine r_goto (q := 248) dX11_init_270 (by decide) ?_
  refine r_iload_n (q := 249) dX11_init_248 rfl rfl rfl ?_
  refine r_bipush (q := 251) (nI 8) dX11_init_249 rfl (by decide) ?_
  refine r_icmp_geN (q := 254) (t := 273) (by omega) (by omega) dX11_init_251 (by decide) rfl (fun h251 => ?_) (fun h251 => absurd h251 (by omega))
  refine r_return dX11_init_273 rfl ?_
  exact ⟨rfl, rfl⟩

