theorem gI_cpS {S : zS} {a0 b0 a1 b1 sp dp n x y k : Nat} : gI (cpS S a0 b0 a1 b1 sp dp n) x y k = if x = a1 ∧ y = b1 then va_cpy (gI S a0 b0) (gI S a1 b1) sp dp n k else gI S x y k := rfl
theorem gJ_cpS {S : zS} {a0 b0 a1 b1 sp dp n x y k : Nat} : gJ (cpS S a0 b0 a1 b1 sp dp n) x y k = gJ S x y k := rfl
theorem nI_min {x y : Nat} (hx : x < 2147483648) (hy : y < 2147483648) : (if nI y < nI x then nI y else nI x) = nI (min x y) := by
  have e : nI y < nI x ↔ y < x := by rw [Int32.lt_iff_toInt_lt, nI_toInt hx, nI_toInt hy]; omega
  by_cases h : y < x
  · rw [if_pos (e.mpr h), Nat.min_eq_right (by omega)]
  · rw [if_neg (fun z => h (e.mp z)), Nat.min_eq_left (by omega)]
theorem nI_max {x y : Nat} (hx : x < 2147483648) (hy : y < 2147483648) : (if nI x < nI y then nI y else nI x) = nI (max x y) := by
  have e : nI x < nI y ↔ x < y := by rw [Int32.lt_iff_toInt_lt, nI_toInt hx, nI_toInt hy]; omega
  by_cases h : x < y
  · rw [if_pos (e.mpr h), Nat.max_eq_right (by omega)]
  · rw [if_neg (fun z => h (e.mp z)), Nat.max_eq_left (by omega)]
/-! two cells change places -/
def swp (a1 b1 a2 b2 x y : Nat) : Nat × Nat := if x = a1 ∧ y = b1 then (a2, b2) else if x = a2 ∧ y = b2 then (a1, b1) else (x, y)
theorem swp_1 {a1 b1 a2 b2 : Nat} : swp a1 b1 a2 b2 a1 b1 = (a2, b2) := if_pos ⟨rfl, rfl⟩
theorem swp_2 {a1 b1 a2 b2 : Nat} : swp a1 b1 a2 b2 a2 b2 = (a1, b1) := by
  unfold swp
  by_cases e : a2 = a1 ∧ b2 = b1
  · rw [if_pos e, e.1, e.2]
  · rw [if_neg e, if_pos ⟨rfl, rfl⟩]
theorem swp_x {a1 b1 a2 b2 x y : Nat} (h1 : ¬ (x = a1 ∧ y = b1)) (h2 : ¬ (x = a2 ∧ y = b2)) : swp a1 b1 a2 b2 x y = (x, y) := by
  unfold swp
  rw [if_neg h1, if_neg h2]
theorem swp_swp {a1 b1 a2 b2 x y : Nat} : swp a1 b1 a2 b2 (swp a1 b1 a2 b2 x y).1 (swp a1 b1 a2 b2 x y).2 = (x, y) := by
  by_cases h1 : x = a1 ∧ y = b1
  · obtain ⟨rfl, rfl⟩ := h1; rw [swp_1]; exact swp_2
  · by_cases h2 : x = a2 ∧ y = b2
    · obtain ⟨rfl, rfl⟩ := h2; rw [swp_2]; exact swp_1
    · rw [swp_x h1 h2]; exact swp_x h1 h2
def swA (a1 b1 a2 b2 : Nat) (adr : zA) : zA := fun a b => adr (swp a1 b1 a2 b2 a b).1 (swp a1 b1 a2 b2 a b).2
theorem r_ren {M : mD} {pc : Nat} {L : List (Option zV)} {st : List zV} {S S1 : zS} {Po : Option zV → zS → Prop} {a1 b1 a2 b2 : Nat} (hg : 1 ≤ mg M) (h1 : gw a1 = true) (h2 : gw a2 = true) (hL : ngl L = true) (hst : st.all ngv = true) (hC : gC S1 = gC S) (hQ : gQ S1 = gQ S) (hE : ∀ a b, gE S1 a b = gE S a b) (hrep : ∀ (G : zG) (adr : zA) (H : Heap), Rep G adr S H → Rep G (swA a1 b1 a2 b2 adr) S1 H) (k : Ok M pc L st S1 Po) : Ok M pc L st S Po := by
  obtain ⟨r, S', hp, c1, c2, c3, hr⟩ := k
  refine ⟨r, S', hp, by omega, by omega, fun a b z => c3 a b (by rw [hE]; exact z), ?_⟩
  intro X G adr0 adr E0 p0 q0 cx g1 g2 g3 g4 g5 g6 H locs ls hR hS hl
  have hk : ∀ g E, 1 ≤ g → kA g E adr (swA a1 b1 a2 b2 adr) := fun g E hg a b x _ => by
    have ha : gw a = false := x.resolve_left (by omega)
    unfold swA
    rw [swp_x (fun z => by rw [z.1, h1] at ha; cases ha) (fun z => by rw [z.1, h2] at ha; cases ha)]
  have := hr X G adr0 (swA a1 b1 a2 b2 adr) E0 p0 q0 cx (by omega) (by omega) g3 g4 (fun a b z => by rw [hE]; exact g5 a b z) (g6.trans (hk (mg M) E0 hg) (Nat.le_refl _) (fun _ _ z => z)) H locs ls (hrep G adr H hR) hS (Lv_keep (hk 1 E0 (Nat.le_refl _)) hl (Or.inr ⟨Nat.le_refl _, hL⟩))
  rw [hC, hQ, trs_keep (hk 1 E0 (Nat.le_refl _)) (Or.inr ⟨Nat.le_refl _, hst⟩)] at this
  exact this
/-- the rows of two cells of ints, changed -/
def swS (S : zS) (a1 b1 a2 b2 : Nat) : zS := (fun x y k => S.1 (swp a1 b1 a2 b2 x y).1 (swp a1 b1 a2 b2 x y).2 k, S.2.1, fun x y => S.2.2.1 (swp a1 b1 a2 b2 x y).1 (swp a1 b1 a2 b2 x y).2, S.2.2.2)
theorem gI_sw {S : zS} {a1 b1 a2 b2 x y k : Nat} : gI (swS S a1 b1 a2 b2) x y k = gI S (swp a1 b1 a2 b2 x y).1 (swp a1 b1 a2 b2 x y).2 k := rfl
theorem gN_sw {S : zS} {a1 b1 a2 b2 x y : Nat} : gN (swS S a1 b1 a2 b2) x y = gN S (swp a1 b1 a2 b2 x y).1 (swp a1 b1 a2 b2 x y).2 := rfl
theorem rep_sw {G : zG} {adr : zA} {S : zS} {H : Heap} {a1 b1 a2 b2 c b k0 : Nat} (n1 : ¬ a1 < 13) (n2 : ¬ a2 < 13) (t1 : tN a1 = 1) (t2 : tN a2 = 1) (s1 : a1 ≠ 77777) (s2 : a2 ≠ 77777) (he1 : gE S a1 b1 = true) (he2 : gE S a2 b2 = true) (hf : gR S c b k0 = some (a1, b1)) (hn2 : ∀ x y z, gR S x y z ≠ some (a2, b2)) (hn1 : ∀ x y z, gR S x y z = some (a1, b1) → x = c ∧ y = b ∧ z = k0) (hR : Rep G adr (sR S c b k0 (some (a2, b2))) H) : Rep G (swA a1 b1 a2 b2 adr) (swS S a1 b1 a2 b2) H := by
  obtain ⟨q1, q2, q3, q4, q5⟩ := hR
  have hz : ∀ x y z, zad (swA a1 b1 a2 b2 adr) (gR (swS S a1 b1 a2 b2) x y z) = zad adr (gR (sR S c b k0 (some (a2, b2))) x y z) := by
    intro x y z
    show zad (swA a1 b1 a2 b2 adr) (gR S x y z) = _
    rw [gR_sR]
    by_cases e : x = c ∧ y = b ∧ z = k0
    · rw [if_pos e, e.1, e.2.1, e.2.2, hf]
      show some (adr (swp a1 b1 a2 b2 a1 b1).1 (swp a1 b1 a2 b2 a1 b1).2) = some (adr a2 b2)
      rw [swp_1]
    · rw [if_neg e]
      cases h : gR S x y z with
      | none => rfl
      | some p =>
        show some (adr (swp a1 b1 a2 b2 p.1 p.2).1 (swp a1 b1 a2 b2 p.1 p.2).2) = some (adr p.1 p.2)
        rw [swp_x (fun w => e (hn1 x y z (by rw [h, ← w.1, ← w.2]))) (fun w => hn2 x y z (by rw [h, ← w.1, ← w.2]))]
  have hin : ∀ x y, gE S x y = true → gE S (swp a1 b1 a2 b2 x y).1 (swp a1 b1 a2 b2 x y).2 = true := by
    intro x y h
    by_cases e1 : x = a1 ∧ y = b1
    · rw [e1.1, e1.2, swp_1]; exact he2
    · by_cases e2 : x = a2 ∧ y = b2
      · rw [e2.1, e2.2, swp_2]; exact he1
      · rw [swp_x e1 e2]; exact h
  have hcel : ∀ x y, cel G.2.1 (swA a1 b1 a2 b2 adr) (swS S a1 b1 a2 b2) x y = cel G.2.1 adr (sR S c b k0 (some (a2, b2))) (swp a1 b1 a2 b2 x y).1 (swp a1 b1 a2 b2 x y).2 := by
    intro x y
    by_cases e1 : x = a1 ∧ y = b1
    · rw [e1.1, e1.2, swp_1]
      unfold cel
      rw [if_neg n1, if_neg n2, t1, t2]
      unfold zarr
      rw [t1, t2, if_neg (by decide), if_neg (by decide), if_neg (by decide), if_neg (by decide), gN_sw, swp_1, show gI (swS S a1 b1 a2 b2) a1 b1 = gI (sR S c b k0 (some (a2, b2))) a2 b2 from funext fun k => by rw [gI_sw, swp_1]; rfl]
      rfl
    · by_cases e2 : x = a2 ∧ y = b2
      · rw [e2.1, e2.2, swp_2]
        unfold cel
        rw [if_neg n1, if_neg n2, t1, t2]
        unfold zarr
        rw [t1, t2, if_neg (by decide), if_neg (by decide), if_neg (by decide), if_neg (by decide), gN_sw, swp_2, show gI (swS S a1 b1 a2 b2) a2 b2 = gI (sR S c b k0 (some (a2, b2))) a1 b1 from funext fun k => by rw [gI_sw, swp_2]; rfl]
        rfl
      · rw [swp_x e1 e2]
        have hi : ∀ k, gI (swS S a1 b1 a2 b2) x y k = gI (sR S c b k0 (some (a2, b2))) x y k := fun k => by rw [gI_sw, swp_x e1 e2]; rfl
        unfold cel
        by_cases h13 : x < 13
        · rw [if_pos h13, if_pos h13]
          have : fva (swA a1 b1 a2 b2 adr) (swS S a1 b1 a2 b2) x y = fva adr (sR S c b k0 (some (a2, b2))) x y := by
            funext k
            unfold fva
            rw [hz x y k, hi k]
            rfl
          rw [this]
        · rw [if_neg h13, if_neg h13]
          unfold zarr
          rw [gN_sw, swp_x e1 e2, show gI (swS S a1 b1 a2 b2) x y = gI (sR S c b k0 (some (a2, b2))) x y from funext hi, show (fun i => zad (swA a1 b1 a2 b2 adr) (gR (swS S a1 b1 a2 b2) x y i)) = fun i => zad adr (gR (sR S c b k0 (some (a2, b2))) x y i) from funext (hz x y)]
          rfl
  refine ⟨fun x y h => ?_, fun x y x' y' h h' e => ?_, fun x y z p h hp => ?_, q4, ?_⟩
  · rw [hcel]
    exact q1 _ _ (hin x y h)
  · have := q2 _ _ _ _ (hin x y h) (hin x' y' h') e
    have e2 : swp a1 b1 a2 b2 x y = swp a1 b1 a2 b2 x' y' := Prod.ext this.1 this.2
    have e3 := swp_swp (a1 := a1) (b1 := b1) (a2 := a2) (b2 := b2) (x := x) (y := y)
    rw [e2, swp_swp] at e3
    exact ⟨(congrArg Prod.fst e3).symm, (congrArg Prod.snd e3).symm⟩
  · by_cases e : x = c ∧ y = b ∧ z = k0
    · have : gR S x y z = some p := hp
      rw [e.1, e.2.1, e.2.2, hf] at this
      cases this
      exact he1
    · exact q3 x y z p h (by rw [gR_sR, if_neg e]; exact hp)
  · show adr (swp a1 b1 a2 b2 77777 0).1 (swp a1 b1 a2 b2 77777 0).2 = _
    rw [swp_x (fun w => s1 w.1.symm) (fun w => s2 w.1.symm)]
    exact q5
/-- a grown row put in place of the old one: the two change places, the old one stays behind -/
theorem r_putg {M : mD} {pc q a b k m i N a1 : Nat} {C : String} {T : u_T} {L : List (Option zV)} {st : List zV} {S : zS} {Po : Option zV → zS → Prop} (hs : Sd S) (hb : b < cnt a) (hkr : k < rk a) (h1 : gw a1 = true) (h1b : a1 ≠ 99999) (ho : gO a1 = (a, k)) (hr : rS a b k = some (a1, b)) (hb1 : b < cnt a1) (n1 : ¬ a1 < 13) (t1 : tN a1 = 1) (s1 : a1 ≠ 77777) (hg : 1 ≤ mg M) (hL : ngl L = true) (hst : st.all ngv = true) (hm : gE S 99999 m = true) (hc : clsOK a C T N) (hd : decode (mb M) pc = .ok (.putfield i, 3)) (hq : pc + 3 = q) (hk : k < N) (hw : Cond.fieldLink (mo M) i (T k).1 (T k).2.1 (T k).2.2.1 ∈ GW) (hfin : (T k).2.2.2 = false ∨ (my M).name = "<init>" ∧ (T k).1 = mo M ∧ (T k).2.2.2 = true) (ht : refKind (fty a k) = true) (kk : Ok M q L st (swS S a1 b 99999 m) Po) : Ok M pc L (zr 99999 m :: zr a b :: st) S Po := by
  refine r_putr (r := some (99999, m)) (fun p hp => by cases hp; exact hm) hc hd hq hk hw hfin ht (hs.e hb) ?_
  have wg := hs.2.2.2.1
  refine r_ren (S1 := swS S a1 b 99999 m) (a1 := a1) (b1 := b) (a2 := 99999) (b2 := m) hg h1 rfl hL hst rfl rfl (fun _ _ => rfl) (fun G adr H hR => ?_) kk
  refine rep_sw n1 (by decide) t1 rfl s1 (by decide) (hs.e hb1) hm ((hs.r hb hkr).trans hr) (fun x y z h => (wg x y z _ h rfl).1 rfl) (fun x y z h => ?_) hR
  have := wg x y z _ h h1
  rw [ho] at this
  exact ⟨congrArg Prod.fst this.2.1, this.2.2, congrArg Prod.snd this.2.1⟩
theorem Sd.sw {S : zS} (h : Sd S) {a1 b m : Nat} (h1 : gw a1 = true) : Sd (swS S a1 b 99999 m) := by
  refine ⟨h.1, h.2.1, fun x y hg hb => ?_, h.2.2.2⟩
  rw [gN_sw, swp_x (fun w => by rw [w.1, h1] at hg; cases hg) (fun w => by rw [w.1] at hg; cases hg)]
  exact h.2.2.1 x y hg hb
theorem Sd.al9 {S : zS} (h : Sd S) {n : Nat} : Sd (al S 99999 (gC S) n n) := by
  have h9 : ∀ a b, b < cnt a → ¬ (a = 99999 ∧ b = gC S) := fun a b hb z => by
    rw [z.1] at hb
    exact Nat.not_lt_zero b (show b < 0 from hb)
  refine ⟨fun a b hb => ?_, fun a b k hb hk => ?_, fun a b hg hb => ?_, fun a b k p hp hg => ?_, fun m hm => ?_⟩
  · rw [gE_al, if_neg (h9 a b hb)]; exact h.1 a b hb
  · rw [gR_al, if_neg (h9 a b hb)]; exact h.2.1 a b k hb hk
  · rw [gN_al, if_neg (h9 a b hb)]; exact h.2.2.1 a b hg hb
  · rw [gR_al] at hp
    by_cases e : a = 99999 ∧ b = gC S
    · rw [if_pos e] at hp; cases hp
    · rw [if_neg e] at hp; exact h.2.2.2.1 a b k p hp hg
  · rw [gC_al] at hm
    rw [gE_al, if_neg (fun z => by omega)]; exact h.2.2.2.2 m (by omega)
/-- the copy of a row of ints, longer -/
def cpO (S : zS) (a b n l : Nat) : zS := cpS (al S 99999 (gC S) l l) a b 99999 (gC S) 0 0 n
/-- the row (a, b) grown from n to l -/
def gro (S : zS) (a b n l : Nat) : zS := swS (cpO S a b n l) a b 99999 (gC S)
theorem Sd.gro {S : zS} (h : Sd S) {a b n l : Nat} (ha : gw a = true) : Sd (gro S a b n l) := Sd.sw (S := cpO S a b n l) (Sd.al9 h) ha
theorem gC_gro {S : zS} {a b n l : Nat} : gC (gro S a b n l) = gC S + 1 := rfl
theorem gQ_gro {S : zS} {a b n l : Nat} : gQ (gro S a b n l) = gQ S + l := rfl
theorem gJ_gro {S : zS} {a b n l x y k : Nat} (hx : x ≠ 99999) : gJ (gro S a b n l) x y k = gJ S x y k := if_neg fun z => hx z.1
theorem gN_gro {S : zS} {a b n l x y : Nat} (ha : a ≠ 99999) (hx : x ≠ 99999) : gN (gro S a b n l) x y = if x = a ∧ y = b then l else gN S x y := by
  unfold gro
  rw [gN_sw]
  by_cases e : x = a ∧ y = b
  · rw [if_pos e, e.1, e.2, swp_1]
    exact if_pos ⟨rfl, rfl⟩
  · rw [if_neg e, swp_x e (fun z => hx z.1)]
    exact if_neg fun z => hx z.1
theorem gI_gro {S : zS} {a b n l x y k : Nat} (ha : a ≠ 99999) (hx : x ≠ 99999) : gI (gro S a b n l) x y k = if x = a ∧ y = b then (if k < n then gI S a b k else 0) else gI S x y k := by
  unfold gro
  rw [gI_sw]
  by_cases e : x = a ∧ y = b
  · rw [if_pos e, e.1, e.2, swp_1]
    show (if _ then va_cpy (gI (al S 99999 (gC S) l l) a b) (gI (al S 99999 (gC S) l l) 99999 (gC S)) 0 0 n k else _) = _
    rw [if_pos ⟨rfl, rfl⟩]
    by_cases hk : k < n
    · rw [if_pos hk, pk_cpy_in (Nat.zero_le _) (by omega), gI_al, if_neg (fun z => ha z.1)]
      congr 1
      omega
    · rw [if_neg hk, pk_cpy_out (Or.inr (by omega)), gI_al, if_pos ⟨rfl, rfl⟩]
  · rw [if_neg e, swp_x e (fun z => hx z.1)]
    show (if _ then _ else gI (al S 99999 (gC S) l l) x y k) = _
    rw [if_neg (fun z => hx z.1), gI_al, if_neg (fun z => hx z.1)]
set_option maxRecDepth 100000 in
theorem ok_copyOf_902 {S : zS} (hs : Sd S) {b n l : Nat} (hb : b < 19) (hn : gN S 902 b = n) (hnl : n < l) (hl : l < 60000000) : Ok mJ7_copyOf_59c91 0 (ent 3 [zr 902 b, zi (nI l)]) [] S (fun r S1 => r = some (zr 99999 (gC S)) ∧ S1 = cpS (al S 99999 (gC S) l l) 902 b 99999 (gC S) 0 0 (min n l)) := by
  show Ok mJ7_copyOf_59c91 0 [some (zr 902 b), some (zi (nI l)), none] [] S _
  refine r_iload_n (q := 1) dJ7_copyOf_59c91_0 rfl rfl rfl ?_
  refine r_aload_n (q := 2) dJ7_copyOf_59c91_1 rfl rfl rfl ?_
  refine r_alen (q := 3) (by decide) (by decide) dJ7_copyOf_59c91_2 rfl (hs.e (show b < 19 by omega)) ?_
  refine r_topi (y := nI n) (congrArg nI hn) ?_
  refine r_icmp_neN (q := 6) (t := 14) (by omega) (by omega) dJ7_copyOf_59c91_3 (by decide) rfl (fun h3 => ?_) (fun h3 => absurd h3 (by omega))
  refine r_iload_n (q := 15) dJ7_copyOf_59c91_14 rfl rfl rfl ?_
  refine r_newa (q := 17) (a := 99999) (b := gC S) (n := l) (Or.inr ⟨by decide, rfl⟩) (by decide) (by decide) (by decide) rfl dJ7_copyOf_59c91_15 rfl wt47 (by omega) (hs.2.2.2.2 _ (Nat.le_refl _)) rfl rfl ?_
  have hs9 : Sd (al S 99999 (gC S) l l) := hs.al9
  have hn9 : gN (al S 99999 (gC S) l l) 902 b = n := by rw [gN_al, if_neg (fun z => absurd z.1 (by decide))]; exact hn
  have hl9 : gN (al S 99999 (gC S) l l) 99999 (gC S) = l := by rw [gN_al, if_pos ⟨rfl, rfl⟩]
  have hx9 : gE (al S 99999 (gC S) l l) 99999 (gC S) = true := by rw [gE_al, if_pos ⟨rfl, rfl⟩]
  refine r_astore_n (q := 18) (L' := [some (zr 902 b), some (zi (nI l)), some (zr 99999 (gC S))]) dJ7_copyOf_59c91_17 rfl rfl (by decide) rfl ?_
  refine r_aload_n (q := 19) dJ7_copyOf_59c91_18 rfl rfl rfl ?_
  refine r_iconst (q := 20) (nI 0) dJ7_copyOf_59c91_19 rfl (by decide) ?_
  refine r_aload_n (q := 21) dJ7_copyOf_59c91_20 rfl rfl rfl ?_
  refine r_iconst (q := 22) (nI 0) dJ7_copyOf_59c91_21 rfl (by decide) ?_
  refine r_aload_n (q := 23) dJ7_copyOf_59c91_22 rfl rfl rfl ?_
  refine r_alen (q := 24) (by decide) (by decide) dJ7_copyOf_59c91_23 rfl (hs9.e (show b < 19 by omega)) ?_
  refine r_topi (y := nI n) (congrArg nI hn9) ?_
  refine r_iload_n (q := 25) dJ7_copyOf_59c91_24 rfl rfl rfl ?_
  refine r_mmin (q := 28) dJ7_copyOf_59c91_25 rfl wt638 wt512 wt15 wt513 (Nat.le_of_ble_eq_true rfl) (by decide) (by decide) ?_
  refine r_topi (y := nI (min n l)) (nI_min (by omega) (by omega)) ?_
  refine r_copyi (q := 31) (by decide) (by decide) rfl rfl (hs9.e (show b < 19 by omega)) hx9 dJ7_copyOf_59c91_28 rfl wt639 wt640 wt641 wt16 (Nat.le_of_ble_eq_true rfl) (by decide) (by decide) (by omega) (by omega) (by omega) (by rw [show gN (al S 99999 (gC S) l l) 902 b = n from hn9]; omega) (by rw [show gN (al S 99999 (gC S) l l) 99999 (gC S) = l from hl9]; omega) ?_
  refine r_aload_n (q := 32) dJ7_copyOf_59c91_31 rfl rfl rfl ?_
  refine r_areturn dJ7_copyOf_59c91_32 rfl (Or.inr ⟨_, rfl⟩) ?_
  exact ⟨rfl, rfl⟩

set_option maxRecDepth 100000 in
theorem ok_copyOf_903 {S : zS} (hs : Sd S) {b n l : Nat} (hb : b < 19) (hn : gN S 903 b = n) (hnl : n < l) (hl : l < 60000000) : Ok mJ7_copyOf_59c91 0 (ent 3 [zr 903 b, zi (nI l)]) [] S (fun r S1 => r = some (zr 99999 (gC S)) ∧ S1 = cpS (al S 99999 (gC S) l l) 903 b 99999 (gC S) 0 0 (min n l)) := by
  show Ok mJ7_copyOf_59c91 0 [some (zr 903 b), some (zi (nI l)), none] [] S _
  refine r_iload_n (q := 1) dJ7_copyOf_59c91_0 rfl rfl rfl ?_
  refine r_aload_n (q := 2) dJ7_copyOf_59c91_1 rfl rfl rfl ?_
  refine r_alen (q := 3) (by decide) (by decide) dJ7_copyOf_59c91_2 rfl (hs.e (show b < 19 by omega)) ?_
  refine r_topi (y := nI n) (congrArg nI hn) ?_
  refine r_icmp_neN (q := 6) (t := 14) (by omega) (by omega) dJ7_copyOf_59c91_3 (by decide) rfl (fun h3 => ?_) (fun h3 => absurd h3 (by omega))
  refine r_iload_n (q := 15) dJ7_copyOf_59c91_14 rfl rfl rfl ?_
  refine r_newa (q := 17) (a := 99999) (b := gC S) (n := l) (Or.inr ⟨by decide, rfl⟩) (by decide) (by decide) (by decide) rfl dJ7_copyOf_59c91_15 rfl wt47 (by omega) (hs.2.2.2.2 _ (Nat.le_refl _)) rfl rfl ?_
  have hs9 : Sd (al S 99999 (gC S) l l) := hs.al9
  have hn9 : gN (al S 99999 (gC S) l l) 903 b = n := by rw [gN_al, if_neg (fun z => absurd z.1 (by decide))]; exact hn
  have hl9 : gN (al S 99999 (gC S) l l) 99999 (gC S) = l := by rw [gN_al, if_pos ⟨rfl, rfl⟩]
  have hx9 : gE (al S 99999 (gC S) l l) 99999 (gC S) = true := by rw [gE_al, if_pos ⟨rfl, rfl⟩]
  refine r_astore_n (q := 18) (L' := [some (zr 903 b), some (zi (nI l)), some (zr 99999 (gC S))]) dJ7_copyOf_59c91_17 rfl rfl (by decide) rfl ?_
  refine r_aload_n (q := 19) dJ7_copyOf_59c91_18 rfl rfl rfl ?_
  refine r_iconst (q := 20) (nI 0) dJ7_copyOf_59c91_19 rfl (by decide) ?_
  refine r_aload_n (q := 21) dJ7_copyOf_59c91_20 rfl rfl rfl ?_
  refine r_iconst (q := 22) (nI 0) dJ7_copyOf_59c91_21 rfl (by decide) ?_
  refine r_aload_n (q := 23) dJ7_copyOf_59c91_22 rfl rfl rfl ?_
  refine r_alen (q := 24) (by decide) (by decide) dJ7_copyOf_59c91_23 rfl (hs9.e (show b < 19 by omega)) ?_
  refine r_topi (y := nI n) (congrArg nI hn9) ?_
  refine r_iload_n (q := 25) dJ7_copyOf_59c91_24 rfl rfl rfl ?_
  refine r_mmin (q := 28) dJ7_copyOf_59c91_25 rfl wt638 wt512 wt15 wt513 (Nat.le_of_ble_eq_true rfl) (by decide) (by decide) ?_
  refine r_topi (y := nI (min n l)) (nI_min (by omega) (by omega)) ?_
  refine r_copyi (q := 31) (by decide) (by decide) rfl rfl (hs9.e (show b < 19 by omega)) hx9 dJ7_copyOf_59c91_28 rfl wt639 wt640 wt641 wt16 (Nat.le_of_ble_eq_true rfl) (by decide) (by decide) (by omega) (by omega) (by omega) (by rw [show gN (al S 99999 (gC S) l l) 903 b = n from hn9]; omega) (by rw [show gN (al S 99999 (gC S) l l) 99999 (gC S) = l from hl9]; omega) ?_
  refine r_aload_n (q := 32) dJ7_copyOf_59c91_31 rfl rfl rfl ?_
  refine r_areturn dJ7_copyOf_59c91_32 rfl (Or.inr ⟨_, rfl⟩) ?_
  exact ⟨rfl, rfl⟩

set_option maxRecDepth 100000 in
theorem ok_copyOf_107 {S : zS} (hs : Sd S) {b n l : Nat} (hb : b < 4) (hn : gN S 107 b = n) (hnl : n < l) (hl : l < 60000000) : Ok mJ7_copyOf_59c91 0 (ent 3 [zr 107 b, zi (nI l)]) [] S (fun r S1 => r = some (zr 99999 (gC S)) ∧ S1 = cpS (al S 99999 (gC S) l l) 107 b 99999 (gC S) 0 0 (min n l)) := by
  show Ok mJ7_copyOf_59c91 0 [some (zr 107 b), some (zi (nI l)), none] [] S _
  refine r_iload_n (q := 1) dJ7_copyOf_59c91_0 rfl rfl rfl ?_
  refine r_aload_n (q := 2) dJ7_copyOf_59c91_1 rfl rfl rfl ?_
  refine r_alen (q := 3) (by decide) (by decide) dJ7_copyOf_59c91_2 rfl (hs.e (show b < 4 by omega)) ?_
  refine r_topi (y := nI n) (congrArg nI hn) ?_
  refine r_icmp_neN (q := 6) (t := 14) (by omega) (by omega) dJ7_copyOf_59c91_3 (by decide) rfl (fun h3 => ?_) (fun h3 => absurd h3 (by omega))
  refine r_iload_n (q := 15) dJ7_copyOf_59c91_14 rfl rfl rfl ?_
  refine r_newa (q := 17) (a := 99999) (b := gC S) (n := l) (Or.inr ⟨by decide, rfl⟩) (by decide) (by decide) (by decide) rfl dJ7_copyOf_59c91_15 rfl wt47 (by omega) (hs.2.2.2.2 _ (Nat.le_refl _)) rfl rfl ?_
  have hs9 : Sd (al S 99999 (gC S) l l) := hs.al9
  have hn9 : gN (al S 99999 (gC S) l l) 107 b = n := by rw [gN_al, if_neg (fun z => absurd z.1 (by decide))]; exact hn
  have hl9 : gN (al S 99999 (gC S) l l) 99999 (gC S) = l := by rw [gN_al, if_pos ⟨rfl, rfl⟩]
  have hx9 : gE (al S 99999 (gC S) l l) 99999 (gC S) = true := by rw [gE_al, if_pos ⟨rfl, rfl⟩]
  refine r_astore_n (q := 18) (L' := [some (zr 107 b), some (zi (nI l)), some (zr 99999 (gC S))]) dJ7_copyOf_59c91_17 rfl rfl (by decide) rfl ?_
  refine r_aload_n (q := 19) dJ7_copyOf_59c91_18 rfl rfl rfl ?_
  refine r_iconst (q := 20) (nI 0) dJ7_copyOf_59c91_19 rfl (by decide) ?_
  refine r_aload_n (q := 21) dJ7_copyOf_59c91_20 rfl rfl rfl ?_
  refine r_iconst (q := 22) (nI 0) dJ7_copyOf_59c91_21 rfl (by decide) ?_
  refine r_aload_n (q := 23) dJ7_copyOf_59c91_22 rfl rfl rfl ?_
  refine r_alen (q := 24) (by decide) (by decide) dJ7_copyOf_59c91_23 rfl (hs9.e (show b < 4 by omega)) ?_
  refine r_topi (y := nI n) (congrArg nI hn9) ?_
  refine r_iload_n (q := 25) dJ7_copyOf_59c91_24 rfl rfl rfl ?_
  refine r_mmin (q := 28) dJ7_copyOf_59c91_25 rfl wt638 wt512 wt15 wt513 (Nat.le_of_ble_eq_true rfl) (by decide) (by decide) ?_
  refine r_topi (y := nI (min n l)) (nI_min (by omega) (by omega)) ?_
  refine r_copyi (q := 31) (by decide) (by decide) rfl rfl (hs9.e (show b < 4 by omega)) hx9 dJ7_copyOf_59c91_28 rfl wt639 wt640 wt641 wt16 (Nat.le_of_ble_eq_true rfl) (by decide) (by decide) (by omega) (by omega) (by omega) (by rw [show gN (al S 99999 (gC S) l l) 107 b = n from hn9]; omega) (by rw [show gN (al S 99999 (gC S) l l) 99999 (gC S) = l from hl9]; omega) ?_
  refine r_aload_n (q := 32) dJ7_copyOf_59c91_31 rfl rfl rfl ?_
  refine r_areturn dJ7_copyOf_59c91_32 rfl (Or.inr ⟨_, rfl⟩) ?_
  exact ⟨rfl, rfl⟩

