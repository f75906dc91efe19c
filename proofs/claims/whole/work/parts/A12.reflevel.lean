/-! the reference's rows: a level of it, and that it is the class's -/
def RR (bs : Nat → Nat → Nat) (t j : Nat) : Int := (bs t j : Int)
/-- rows as the reference keeps them -/
def RowR (W : zWd) (n : Nat) (pv : Nat → Bool) (bs : Nat → Nat → Nat) : Prop := ∀ t, t < (tl W n).length → pv t = true → (∀ j, j < (tl W n).length → bs t j < wP W) ∧ bs t t = 1 ∧ (∀ j, t < j → j < (tl W n).length → bs t j = 0) ∧ (∀ s, s < (tl W n).length → s ≠ t → pv s = true → bs t s = 0) ∧ Id W n (V (tl W n) (RR bs t))
def LvR (W : zWd) (pv : Nat → Nat → Bool) (bs : Nat → Nat → Nat → Nat) (n : Nat) : Prop := RowR W n (pv n) (bs n) ∧ ∀ g, Gn W n g → Sp (wP W) (Rw (tl W n) (pv n) (RR (bs n))) g
theorem LvR.of {W : zWd} (hW : Wok W) {pv : Nat → Nat → Bool} {bs : Nat → Nat → Nat → Nat} {n : Nat} (hL : ∀ m, 1 ≤ m → m < n → LvR W pv bs m) (hR : RowR W n (pv n) (bs n))
    (hact : ∀ a us1 us2 m k, a < wA W → us1.length + 1 + us2.length = we W a → (∀ u, u ∈ us1 → Fs (wA W) (we W) u 1) → (∀ u, u ∈ us2 → Fs (wA W) (we W) u 1) → lvs us1.flatten + m + lvs us2.flatten = n → k < (tl W m).length → pv m k = true → Sp (wP W) (Rw (tl W n) (pv n) (RR (bs n))) (mp (cx a us1 us2) (V (tl W m) (RR (bs m) k))))
    (hlaw : ∀ g, Fi W n g → Sp (wP W) (Rw (tl W n) (pv n) (RR (bs n))) g) : LvR W pv bs n := by
  have hE := hW.2.1
  refine ⟨hR, fun g hg => ?_⟩
  rcases hg.cases hW with hf | hu
  · exact hlaw g hf
  · obtain ⟨a, us1, us2, m, w, ha, hl, h1, h2, hw, ht, hn, rfl⟩ := hu
    cases w with
    | nil => exact Sp.nil
    | cons p w =>
      have hm1 := ((ht p List.mem_cons_self).len hE).2
      have g1 := lvs_flat_ge hE h1
      have g2 := lvs_flat_ge hE h2
      have he := hE.two a ha
      have hw2 : Sp (wP W) (Rw (tl W m) (pv m) (RR (bs m))) (p :: w) := Sp.le hw (hL m hm1 (by omega)).2
      refine Sp.mp hw2 fun r hr => ?_
      obtain ⟨k, hk, hpv, rfl⟩ := hr
      exact hact a us1 us2 m k ha hl h1 h2 hn hk hpv
/-- both sides have the same rows -/
theorem lv_link {W : zWd} (hW : Wok W) {mk : Nat → Nat → Nat} {rl : Nat → Nat → Nat → Nat} {pv : Nat → Nat → Bool} {bs : Nat → Nat → Nat → Nat} {n : Nat} (hC : LvC W mk rl n) (hR : LvR W pv bs n) : ∀ t, t < (tl W n).length → (pv n t = true ↔ mk n t ≠ 0) ∧ (mk n t ≠ 0 → ∀ j, j < t → bs n t j = (wP W - rl n t j) % wP W) := by
  have hP2 := hW.1.1
  have eC : Ech (wP W) (tl W n).length (mkb (mk n)) (RC (rl n)) := fun t ht hm => ⟨by
    have : RC (rl n) t t = 1 := if_pos rfl
    rw [this]; exact dvd_rf, fun s h1 h2 => by
    have : RC (rl n) t s = 0 := (if_neg (by omega)).trans (if_neg (by omega))
    rw [this]; exact Int.dvd_zero _⟩
  have rC : Red (wP W) (tl W n).length (mkb (mk n)) (RC (rl n)) := fun t s ht hs hm hms hne => by
    have hm := mkb_t.mp hm
    have hms := mkb_t.mp hms
    rcases Nat.lt_or_gt_of_ne hne with q | q
    · have : RC (rl n) t s = -(rl n t s : Int) := (if_neg (by omega)).trans (if_pos q)
      rw [this, (hC.1 t ht hm).2.2 s q hms]; exact Int.dvd_zero _
    · have : RC (rl n) t s = 0 := (if_neg (by omega)).trans (if_neg (by omega))
      rw [this]; exact Int.dvd_zero _
  have eR : Ech (wP W) (tl W n).length (pv n) (RR (bs n)) := fun t ht hm => ⟨by
    unfold RR
    rw [(hR.1 t ht hm).2.1]; exact dvd_rf, fun s h1 h2 => by
    unfold RR
    rw [(hR.1 t ht hm).2.2.1 s h1 h2]; exact Int.dvd_zero _⟩
  have rR : Red (wP W) (tl W n).length (pv n) (RR (bs n)) := fun t s ht hs hm hms hne => by
    unfold RR
    rw [(hR.1 t ht hm).2.2.2.1 s hs hne hms]; exact Int.dvd_zero _
  have hu := ech_uniq hP2 tl_nodup eC rC eR rR (fun u hu => by
    obtain ⟨t, ht, hm, rfl⟩ := hu
    exact Sp.le (hC.1 t ht (mkb_t.mp hm)).2.1 hR.2) (fun u hu => by
    obtain ⟨t, ht, hm, rfl⟩ := hu
    exact Sp.le (hR.1 t ht hm).2.2.2.2 hC.2.1)
  intro t ht
  obtain ⟨h1, h2⟩ := hu t ht
  refine ⟨by rw [← h1]; exact mkb_t, fun hm j hj => ?_⟩
  have h3 := h2 (mkb_t.mpr hm) j (by omega)
  have hpv : pv n t = true := by rw [← h1]; exact mkb_t.mpr hm
  have e1 : RC (rl n) t j = -(rl n t j : Int) := (if_neg (by omega)).trans (if_pos hj)
  unfold RR at h3
  rw [e1] at h3
  have b1 := (hR.1 t ht hpv).1 j (by omega)
  have b2 := (hC.1 t ht hm).1 j hj
  obtain ⟨c, hc⟩ := h3
  by_cases hz : rl n t j = 0
  · rw [hz, Nat.sub_zero, Nat.mod_self]
    rw [hz] at hc
    have hc : (bs n t j : Int) = wP W * c := by omega
    have c0 : c = 0 := by
      rcases Int.lt_trichotomy c 0 with q | q | q
      · have : (wP W : Int) * c ≤ (wP W : Int) * (-1) := Int.mul_le_mul_of_nonneg_left (by omega) (by omega)
        omega
      · exact q
      · have : (wP W : Int) * 1 ≤ (wP W : Int) * c := Int.mul_le_mul_of_nonneg_left (by omega) (by omega)
        omega
    rw [c0] at hc
    omega
  · rw [Nat.mod_eq_of_lt (by omega)]
    have c1 : c = 1 := by
      rcases Int.lt_trichotomy c 1 with q | q | q
      · have : (wP W : Int) * c ≤ (wP W : Int) * 0 := Int.mul_le_mul_of_nonneg_left (by omega) (by omega)
        omega
      · exact q
      · have : (wP W : Int) * 2 ≤ (wP W : Int) * c := Int.mul_le_mul_of_nonneg_left (by omega) (by omega)
        omega
    rw [c1] at hc
    omega
