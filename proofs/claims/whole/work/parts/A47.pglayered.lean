/-! layered, the pair -/
theorem wqC.back {S S1 : zS} {V : zWd} {b : Nat} {T : Nat → Nat → Nat → Prop} (f : Fg T S S1) (t : ∀ a k, a = 9 ∨ 1002 ≤ a ∧ a ≤ 1009 → ¬ T a b k) (h : wqC V (fun a k => gI S1 a b k) (fun a k => gJ S1 a b k)) : wqC V (fun a k => gI S a b k) (fun a k => gJ S a b k) := wqC.cong (fun a k z => f.I (by have := wI_f z; omega) (t a k (by have := wI_f z; omega))) (fun a k z => f.J (by have := wJ_f z; omega) (t a k (by have := wJ_f z; omega))) h
theorem wqC.fg {S S1 : zS} {V : zWd} {b : Nat} {T : Nat → Nat → Nat → Prop} (f : Fg T S S1) (t : ∀ a k, a = 9 ∨ 1002 ≤ a ∧ a ≤ 1009 → ¬ T a b k) (h : wqC V (fun a k => gI S a b k) (fun a k => gJ S a b k)) : wqC V (fun a k => gI S1 a b k) (fun a k => gJ S1 a b k) := wqC.cong (fun a k z => (f.I (by have := wI_f z; omega) (t a k (by have := wI_f z; omega))).symm) (fun a k z => (f.J (by have := wJ_f z; omega) (t a k (by have := wJ_f z; omega))).symm) h
/-- a slot's caches of levels and of bare classes, for the world that its rows hold -/
def Slot (S : zS) (b : Nat) : Prop := ∀ V, Wok V → wqC V (fun a k => gI S a b k) (fun a k => gJ S a b k) → (∃ n mk rl, CB S b V n mk rl) ∧ Bc S b V
theorem Slot.fg {S S1 : zS} {b : Nat} (h : Slot S b) {T : Nat → Nat → Nat → Prop} (f : Fg T S S1) (t1 : ¬ T 0 b 2 ∧ ∀ x k, 103 ≤ x → x ≤ 110 → ¬ T x b k) (t : ∀ a k, a = 9 ∨ 1002 ≤ a ∧ a ≤ 1009 → ¬ T a b k) : Slot S1 b := fun V hV hq => by
  obtain ⟨⟨n, mk, rl, hB⟩, hb⟩ := h V hV (hq.back f t)
  exact ⟨⟨n, mk, rl, hB.fg f ⟨t1.1, fun x k a b => t1.2 x k a (by omega)⟩⟩, hb.fg f (fun k => ⟨t1.2 _ _ (by omega) (by omega), t1.2 _ _ (by omega) (by omega)⟩)⟩
theorem Slot.mk {S : zS} {b : Nat} {W : zWd} (hW : Wok W) (hq : wqC W (fun a k => gI S a b k) (fun a k => gJ S a b k)) (h1 : ∃ n mk rl, CB S b W n mk rl) (h2 : Bc S b W) : Slot S b := fun V hV h => by
  rw [wqC_uniq hV hW h hq]; exact ⟨h1, h2⟩
theorem Slot.ly {S S1 : zS} {W Wk : zWd} {cc s b : Nat} (hW : Wok W) (hWk : Wok Wk) (hC : wqC W (fun a k => gI S a cc k) (fun a k => gJ S a cc k)) (hCk : wqC Wk (fun a k => gI S a s k) (fun a k => gJ S a s k)) (f : Fg (tLc cc s) S S1) (h1 : ∃ n mk rl, CB S1 cc W n mk rl) (h2 : ∃ n mk rl, CB S1 s Wk n mk rl) (h : Slot S b) : Slot S1 b := fun V hV hq => by
  have hq0 := hq.back f (fun a k ha => by unfold tLc tRe; omega)
  have hb := (h V hV hq0).2.fg f (fun k => ⟨by unfold tLc tRe; omega, by unfold tLc tRe; omega⟩)
  by_cases e : b = cc
  · subst e
    rw [wqC_uniq hV hW hq0 hC] at hb ⊢; exact ⟨h1, hb⟩
  · by_cases e2 : b = s
    · subst e2
      rw [wqC_uniq hV hWk hq0 hCk] at hb ⊢; exact ⟨h2, hb⟩
    · obtain ⟨n, mk, rl, hB⟩ := (h V hV hq0).1
      exact ⟨⟨n, mk, rl, hB.fg f ⟨by unfold tLc tRe; omega, fun x k a b => by unfold tLc tRe; omega⟩⟩, hb⟩
def tLv (a b k : Nat) : Prop := (a = 0 ∧ k = 2 ∨ 103 ≤ a ∧ a ≤ 108 ∨ 700 ≤ a ∧ a ≤ 703 ∨ a = 10600) ∨ tLr a b k = true
theorem tLv_c {cc s : Nat} (a b k : Nat) (h : tLc cc s a b k) : tLv a b k := Or.inl (by unfold tLc tRe at h; omega)
theorem tLr_n {a b k : Nat} (h : tLr a b k = true) : 12 ≤ a ∧ (a < 100 ∨ 1300 ≤ a ∧ a < 10000) := by
  simp [tLr, tLq, tLd, tSr1, tPo, tBy, tSe, tTq, tPt, tPa, tIv, tOw] at h
  omega
/-- what layered leaves -/
def LyP (S S2 : zS) (cc : Nat) (W : zWd) : Prop := Fg tLv S S2 ∧ BsC S2 cc W ∧ ∀ b, b < 4 → Slot S b → Slot S2 b
theorem ly_ref {S S1 S2 : zS} {cc : Nat} {W : zWd} (f1 : Fg tLv S S1) (h1 : ∃ n mk rl, CB S1 cc W n mk rl) (hl : ∀ b, b < 4 → Slot S b → Slot S1 b) (y : Fr tLr S1 S2 ∧ Cw S2 ∧ CR S2 W ∧ IvI S2) : LyP S S2 cc W := by
  obtain ⟨f2, y2, y3, y4⟩ := y
  have g := f2.fg f1.sd (U := fun a _ _ => 12 ≤ a ∧ (a < 100 ∨ 1300 ≤ a ∧ a < 10000)) (fun a b k z => tLr_n z)
  obtain ⟨n, mk, rl, hB⟩ := h1
  exact ⟨f1.tr (f2.fg f1.sd (fun a b k z => Or.inr z)), ⟨⟨n, mk, rl, hB.fg g ⟨by omega, fun x k a b => by omega⟩⟩, y3, y2, y4⟩, fun b hb z => (hl b hb z).fg g ⟨by omega, fun x k a b => by omega⟩ (fun a k ha => by omega)⟩
theorem ly_thr {S : zS} (hs : Sd S) {cc : Nat} {W : zWd} (hb : BsC S cc W) : LyP S (sI S 12 0 0 (nI 0)) cc W := ly_ref (Fg.rf hs) hb.1 (fun _ _ z => z) ⟨fr_thr.mono (fun x y k h => by simp [tLr] at h ⊢; omega), (rc_thr.rc (W := W)).2.1 hb.2.2.1, rc_thr.rc.1 hb.2.1, (rc_thr.rc (W := W)).2.2 hb.2.2.2⟩
theorem pg_layered {S : zS} (hs : Sd S) {W : zWd} {cc : Nat} (hcc : gI S 11 0 3 = nI cc) (hc4 : cc < 4) (hw : WR wq S W cc 1306 0 1308 0) (hb : BsC S cc W) (hK : ∀ m, m < 2 → KP sq wq S m) (hKs : ∀ m s, m < 2 → s < 4 → gI S 1204 0 m = nI s → Slot S s) (a x : Int32) : PgJ mX11_layered 5 [zr 11 0, zi a, zi x] mX12_layered 6 [zr 12 0, zi a, zi x] S (fun S2 => LyP S S2 cc W) := by
  obtain ⟨hW, hC, hR⟩ := hw.c
  obtain ⟨hc, hT⟩ := wq_WC hC
  have hthr := ly_thr hs hb
  by_cases ha : 0 ≤ a ∧ a < nI 2
  · obtain ⟨m, hm, rfl⟩ := zz_of ha (by omega)
    rcases hK m hm with ⟨k1, k2⟩ | ⟨s, Wk, hs4, k1, k2, k3, _, _⟩
    · refine Ok.mono (cm_ly_no hs hcc hc4 hm k1) fun r S1 z => ?_
      obtain ⟨rfl, rfl⟩ := z
      refine ⟨_, rfl, hs, ?_⟩
      by_cases hx : nI 1 ≤ x ∧ x ≤ nI 7
      · obtain ⟨n, rfl, hn1, hn7⟩ := in17 hx
        refine Ok.mono (rm_ly_no hs hm k2 hn1 hn7) fun r2 S2 y => ?_
        obtain ⟨rfl, rfl⟩ := y
        exact ⟨rfl, hthr⟩
      · refine Ok.mono (rm_ly_x hs hx) fun r2 S2 y => ?_
        obtain ⟨rfl, rfl⟩ := y
        exact ⟨rfl, hthr⟩
    · have hWk : Wok Wk := k3.1
      have hCk : wqC Wk (fun a k => gI S a s k) (fun a k => gJ S a s k) := k3.2.1
      have hRk : wqR Wk (fun k => gI S 1391 0 (3775 * m + k)) (fun i => gJ S 1392 0 (3 * m + i)) := k3.2.2
      by_cases hx : nI 1 ≤ x ∧ x ≤ nI 7
      · obtain ⟨n, rfl, hn1, hn7⟩ := in17 hx
        obtain ⟨hck, hTk⟩ := wq_WC hCk
        have hBk := (hKs m s hm hs4 k1 Wk hWk hCk).1
        have he : s = cc → Wk = W := fun e => by subst e; exact wqC_uniq hWk hW hCk hC
        have fin : ∀ {S1 : zS}, Fg (tLc cc s) S S1 ∧ (∃ n mk rl, CB S1 cc W n mk rl) ∧ (∃ n mk rl, CB S1 s Wk n mk rl) → (wqR W (fun k => gI S1 1306 0 k) (fun i => gJ S 1308 0 i) ∧ Cw S1 ∧ CR S1 W ∧ IvI S1 ∧ gI S1 1393 0 m = nI 1 ∧ wqR Wk (fun k => gI S1 1391 0 (3775 * m + k)) (fun i => gJ S 1392 0 (3 * m + i))) ∧ ∀ {S2 : zS}, (Fr tLr S1 S2 ∧ Cw S2 ∧ CR S2 W ∧ IvI S2) → LyP S S2 cc W := fun {S1} z => by
          obtain ⟨f1, z2, z3⟩ := z
          have rc := (RcI.of f1 ⟨by unfold tLc tRe; omega, by unfold tLc tRe; omega, fun x k a b => by unfold tLc tRe; omega, fun k _ => by unfold tLc tRe; omega⟩).rc (W := W)
          exact ⟨⟨wqR.cong hW (fun k _ _ => (f1.I (by omega) (by unfold tLc tRe; omega)).symm) (fun _ _ => rfl) hR, rc.2.1 hb.2.2.1, rc.1 hb.2.1, rc.2.2 hb.2.2.2, (f1.I (by omega) (by unfold tLc tRe; omega)).trans k2, wqR.cong hWk (fun k _ _ => (f1.I (by omega) (by unfold tLc tRe; omega)).symm) (fun _ _ => rfl) hRk⟩, fun {S2} y => ly_ref (f1.mono tLv_c) z2 (fun b _ h => h.ly hW hWk hC hCk f1 z2 z3) y⟩
        by_cases h3 : tc W n ≤ 300
        · by_cases h3k : tc Wk n ≤ 300
          · refine Ok.mono (cm_ly_y hs hW hWk hcc hc4 hm k1 hs4 he hc hT hck hTk hb.1 hBk hn1 hn7 h3 h3k) fun r S1 z => ?_
            obtain ⟨rfl, z⟩ := z
            obtain ⟨⟨r1, r2, r3, r4, r5, r6⟩, K⟩ := fin z
            refine ⟨_, rfl, z.1.sd, Ok.mono (rm_ly_y z.1.sd hW hWk r1 r2 r3 r4 hm r5 r6 hn1 hn7 h3 h3k) fun r2 S2 y => ⟨y.1, K y.2⟩⟩
          · refine Ok.mono (cm_ly_k hs hW hWk hcc hc4 hm k1 hs4 he hc hT hck hTk hb.1 hBk hn1 hn7 h3 h3k) fun r S1 z => ?_
            obtain ⟨rfl, z⟩ := z
            obtain ⟨⟨r1, r2, r3, r4, r5, r6⟩, K⟩ := fin z
            refine ⟨_, rfl, z.1.sd, Ok.mono (rm_ly_k z.1.sd hW hWk r1 r2 r3 r4 hm r5 r6 hn1 hn7 h3 h3k) fun r2 S2 y => ⟨y.1, K y.2⟩⟩
        · refine Ok.mono (cm_ly_n hs hW hWk hcc hc4 hm k1 hs4 he hc hT hck hTk hb.1 hBk hn1 hn7 h3) fun r S1 z => ?_
          obtain ⟨rfl, z⟩ := z
          obtain ⟨⟨r1, r2, r3, r4, r5, r6⟩, K⟩ := fin z
          refine ⟨_, rfl, z.1.sd, Ok.mono (rm_ly_n z.1.sd hW hWk r1 r2 r3 r4 hm r5 r6 hn1 hn7 h3) fun r2 S2 y => ⟨y.1, K y.2⟩⟩
      · refine Ok.mono (cm_ly_x hs hcc hc4 hm k1 hs4 hx) fun r S1 z => ?_
        obtain ⟨rfl, rfl⟩ := z
        refine ⟨_, rfl, hs, Ok.mono (rm_ly_x hs hx) fun r2 S2 y => ?_⟩
        obtain ⟨rfl, rfl⟩ := y
        exact ⟨rfl, hthr⟩
  · refine Ok.mono (cm_ly_out hs hcc hc4 ha) fun r S1 z => ?_
    obtain ⟨rfl, rfl⟩ := z
    refine ⟨_, rfl, hs, ?_⟩
    by_cases hx : nI 1 ≤ x ∧ x ≤ nI 7
    · obtain ⟨n, rfl, hn1, hn7⟩ := in17 hx
      refine Ok.mono (rm_ly_out hs ha hn1 hn7) fun r2 S2 y => ?_
      obtain ⟨rfl, rfl⟩ := y
      exact ⟨rfl, hthr⟩
    · refine Ok.mono (rm_ly_x hs hx) fun r2 S2 y => ?_
      obtain ⟨rfl, rfl⟩ := y
      exact ⟨rfl, hthr⟩

