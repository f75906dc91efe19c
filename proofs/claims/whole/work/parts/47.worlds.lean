/-! WORLDS as data: the prime, entries, names, laws (leaves and sum) -/
abbrev zWd : Type := Nat × List Nat × List Nat × List (Nat × List zT)
def wP (W : zWd) : Nat := W.1
def wA (W : zWd) : Nat := W.2.1.length
def we (W : zWd) (a : Nat) : Nat := W.2.1.getD a 0
def wn (W : zWd) (a : Nat) : Nat := W.2.2.1.getD a 0
def wL (W : zWd) : Nat := W.2.2.2.length
def ld : Nat × List zT := (0, [])
def lw (W : zWd) (L : Nat) : Nat × List zT := W.2.2.2.getD L ld
def lfs : List (Nat × List zT) → Nat → Nat
  | [], _ => 0
  | _, 0 => 0
  | l :: r, L + 1 => l.2.length + lfs r L
def lf (W : zWd) (L : Nat) : Nat := lfs W.2.2.2 L
theorem lfs_succ : ∀ (ls : List (Nat × List zT)) (L : Nat), L < ls.length → lfs ls (L + 1) = lfs ls L + (ls.getD L ld).2.length
  | [], L, h => by simp at h
  | l :: r, 0, _ => by simp [lfs]; cases r <;> rfl
  | l :: r, L + 1, h => by
    have := lfs_succ r L (by simpa using h)
    show l.2.length + lfs r (L + 1) = l.2.length + lfs r L + _
    rw [this]
    show _ = l.2.length + lfs r L + (r.getD L ld).2.length
    omega
theorem lfs_mono : ∀ (ls : List (Nat × List zT)) (L M : Nat), L ≤ M → lfs ls L ≤ lfs ls M
  | [], _, _, _ => Nat.le_refl _
  | l :: r, 0, M, _ => by rw [lfs] <;> first | exact Nat.zero_le _ | (intro h; cases h)
  | l :: r, L + 1, 0, h => absurd h (by omega)
  | l :: r, L + 1, M + 1, h => by
    have := lfs_mono r L M (by omega)
    show l.2.length + lfs r L ≤ l.2.length + lfs r M
    omega
theorem lf_succ {W : zWd} {L : Nat} (h : L < wL W) : lf W (L + 1) = lf W L + (lw W L).2.length := lfs_succ _ _ h
theorem lf_mono {W : zWd} {L M : Nat} (h : L ≤ M) : lf W L ≤ lf W M := lfs_mono _ _ _ h
/-- how many trees: T holds the numbers for fewer leaves -/
def foL (T : Nat → Nat) : Nat → Nat → Nat
  | 0, _ => 0
  | 1, m => T m
  | o + 2, m => sm (fun j => T (j + 1) * foL T (o + 1) (m - (j + 1))) (m - 1)
def tcT (W : zWd) : Nat → Nat → Nat
  | 0 => fun _ => 0
  | m + 1 => fun k => if k ≤ m then tcT W m k else if k = m + 1 then (if m = 0 then 1 else 0) + sm (fun a => foL (tcT W m) (we W a) (m + 1)) (wA W) else 0
def tc (W : zWd) (m : Nat) : Nat := tcT W m m
/-- names: one to six small letters, not one of the document's own words -/
def Nok (x : Nat) : Prop := x < 2 ^ 48 ∧ x ≠ 0 ∧ x ≠ 120 ∧ x ≠ 7171940 ∧ x ≠ 6382452 ∧ x ≠ 7102839
def Wok (W : zWd) : Prop := (2 ≤ wP W ∧ wP W ≤ 97 ∧ ∀ d, 2 ≤ d → d < wP W → wP W % d ≠ 0) ∧ Eok (wA W) (we W) ∧ (W.2.2.1.length = wA W ∧ (∀ a, a < wA W → Nok (wn W a)) ∧ ∀ a b, a < b → b < wA W → wn W a ≠ wn W b) ∧ wL W ≤ 18 ∧ lf W (wL W) ≤ 200 ∧ ∀ L, L < wL W → 2 ≤ (lw W L).1 ∧ (lw W L).1 ≤ 7 ∧ Ce (wA W) (we W) (wP W) (lw W L).1 (lw W L).2
theorem Wok.lf {W : zWd} (h : Wok W) {L k : Nat} (hL : L < wL W) (hk : k < (lw W L).2.length) : _root_.Jvm.Pilot.CLeafWorldsLaw_law_r8483_d58aac.lf W L + k < 200 := by
  have h1 := lf_succ hL
  have h2 := lf_mono (W := W) (show L + 1 ≤ wL W from hL)
  have := h.2.2.2.2.1
  omega
theorem Wok.lf2 {W : zWd} (h : Wok W) {L : Nat} (hL : L < wL W) : _root_.Jvm.Pilot.CLeafWorldsLaw_law_r8483_d58aac.lf W L + (lw W L).2.length ≤ 200 := by
  have h1 := lf_succ hL
  have h2 := lf_mono (W := W) (show L + 1 ≤ wL W from hL)
  have := h.2.2.2.2.1
  omega
/-- a world in the class (slot rows) and in the reference (row b from an offset, names n) -/
def wqC (W : zWd) (f : Nat → Nat → Int32) (g : Nat → Nat → Int64) : Prop := f 9 0 = nI (wP W) ∧ f 9 1 = nI (wA W) ∧ f 9 4 = nI (wL W) ∧ (∀ a, a < wA W → f 1003 a = nI (we W a) ∧ g 1002 a = lN (wn W a)) ∧ (∀ L, L < wL W → f 1005 L = nI (lw W L).1) ∧ (∀ L, L ≤ wL W → f 1006 L = nI (lf W L)) ∧ (∀ L k, L < wL W → k < (lw W L).2.length → f 1007 (lf W L + k) = nI (ky ((lw W L).2.getD k zd).1) ∧ f 1008 (lf W L + k) = nI ((lw W L).2.getD k zd).2) ∧ ∀ m, 1 ≤ m → m ≤ 10 → g 1009 m = lN (tc W m)
def wqR (W : zWd) (b : Nat → Int32) (n : Nat → Int64) : Prop := b 0 = nI (wP W) ∧ b 1 = nI (wA W) ∧ b 2 = nI (wL W) ∧ (∀ a, a < wA W → b (4 + a) = nI (we W a) ∧ n a = lN (wn W a)) ∧ (∀ L, L < wL W → b (7 + L) = nI (lw W L).1) ∧ (∀ L, L ≤ wL W → b (25 + L) = nI (lf W L)) ∧ ∀ L k, L < wL W → k < (lw W L).2.length → b (44 + (lf W L + k)) = nI (cd ((lw W L).2.getD k zd).1) ∧ b (244 + (lf W L + k)) = nI ((lw W L).2.getD k zd).2
def wq : zW zWd := fun W f g b n => Wok W ∧ wqC W f g ∧ wqR W b n
theorem wqC.cong {W : zWd} {f f' : Nat → Nat → Int32} {g g' : Nat → Nat → Int64} (hf : ∀ a k, wI a = true → f a k = f' a k) (hg : ∀ a k, wJ a = true → g a k = g' a k) (h : wqC W f g) : wqC W f' g' := by
  obtain ⟨h1, h2, h3, h4, h5, h6, h7, h8⟩ := h
  exact ⟨(hf 9 0 rfl).symm.trans h1, (hf 9 1 rfl).symm.trans h2, (hf 9 4 rfl).symm.trans h3, fun a ha => ⟨(hf 1003 a rfl).symm.trans (h4 a ha).1, (hg 1002 a rfl).symm.trans (h4 a ha).2⟩, fun L hL => (hf 1005 L rfl).symm.trans (h5 L hL), fun L hL => (hf 1006 L rfl).symm.trans (h6 L hL), fun L k hL hk => ⟨(hf 1007 _ rfl).symm.trans (h7 L k hL hk).1, (hf 1008 _ rfl).symm.trans (h7 L k hL hk).2⟩, fun m a b => (hg 1009 m rfl).symm.trans (h8 m a b)⟩
theorem wqR.cong {W : zWd} (hW : Wok W) {b b' : Nat → Int32} {n n' : Nat → Int64} (hb : ∀ k, k < 444 → k ≠ 3 → b k = b' k) (hn : ∀ i, i < 3 → n i = n' i) (h : wqR W b n) : wqR W b' n' := by
  obtain ⟨h1, h2, h3, h4, h5, h6, h7⟩ := h
  have hA := hW.2.1.1
  have hL18 := hW.2.2.2.1
  exact ⟨(hb 0 (by omega) (by omega)).symm.trans h1, (hb 1 (by omega) (by omega)).symm.trans h2, (hb 2 (by omega) (by omega)).symm.trans h3, fun a ha => ⟨(hb _ (by omega) (by omega)).symm.trans (h4 a ha).1, (hn a (by omega)).symm.trans (h4 a ha).2⟩, fun L hL => (hb _ (by omega) (by omega)).symm.trans (h5 L hL), fun L hL => (hb _ (by omega) (by omega)).symm.trans (h6 L hL), fun L k hL hk => by
    have := hW.lf hL hk
    exact ⟨(hb _ (by omega) (by omega)).symm.trans (h7 L k hL hk).1, (hb _ (by omega) (by omega)).symm.trans (h7 L k hL hk).2⟩⟩
theorem wlo_wq : WLo wq := fun W f f' g g' b b' n n' hf hg hb hn h => ⟨h.1, h.2.1.cong hf hg, h.2.2.cong h.1 hb hn⟩
/-- sums: with room for the trees of the laws that may be added -/
def Uok (W : zWd) (lv : Nat) (U : List (List Nat)) : Prop := U.length ≤ 1200 ∧ ∀ L, L < wL W → (lw W L).1 = lv → ∀ p, p ∈ (lw W L).2 → p.1 ∈ U
def Sm (W : zWd) (lv : Nat) (c : List zT) : Prop := 1 ≤ lv ∧ lv ≤ 7 ∧ Ce (wA W) (we W) (wP W) lv c ∧ ∃ U, Uok W lv U ∧ ∀ p, p ∈ c → p.1 ∈ U
def sq : zQ2 zWd := fun W lv e f => ∃ c : List zT, c.length = e ∧ Sm W lv c ∧ ∀ k, k < e → f k = (nI (ky (c.getD k zd).1), nI (c.getD k zd).2, nI (cd (c.getD k zd).1), nI (c.getD k zd).2)
theorem lo_sq : Lo sq := fun W lv e f g hfg ⟨c, h1, h2, h3⟩ => ⟨c, h1, h2, fun k hk => (hfg k hk).symm.trans (h3 k hk)⟩
theorem Sm.len {W : zWd} {lv : Nat} {c : List zT} (h : Sm W lv c) : c.length ≤ 1200 := by
  obtain ⟨_, _, h3, U, h4, h5⟩ := h
  exact Nat.le_trans (len_U h3.1 h5) h4.1
/-- a sum out of the relation of both sides, and back -/
theorem SR.get {S : zS} {W : zWd} {j A off : Nat} (h : SR sq S W j A off) : ∃ lv c, Sm W lv c ∧ gI S 8 j 0 = nI lv ∧ gI S A 0 off = nI lv ∧ gI S 8 j 1 = nI c.length ∧ gI S A 0 (off + 1) = nI c.length ∧ ∀ k, k < c.length → gI S 902 j k = nI (ky (c.getD k zd).1) ∧ gI S 903 j k = nI (c.getD k zd).2 ∧ gI S A 0 (off + 2 + k) = nI (cd (c.getD k zd).1) ∧ gI S A 0 (off + 1302 + k) = nI (c.getD k zd).2 := by
  obtain ⟨lv, e, h1, h2, h3, h4, h5, c, rfl, h7, h8⟩ := h
  refine ⟨lv, c, h7, h1, h2, h3, h4, fun k hk => ?_⟩
  have := h8 k hk
  unfold rw4 at this
  exact ⟨congrArg (·.1) this, congrArg (·.2.1) this, congrArg (·.2.2.1) this, congrArg (·.2.2.2) this⟩
/-- what sums keep through calls that leave their rows alone -/
theorem SR.fg {α : Type} {SQ : zQ2 α} (hQ : Lo SQ) {T : Nat → Nat → Nat → Prop} {S S1 : zS} {E : α} {j A off : Nat} (h : SR SQ S E j A off) (hf : Fg T S S1) (hA : A ≠ 99999) (t8 : ∀ k, k < 2 → ¬ T 8 j k) (t9 : ∀ k, ¬ T 902 j k ∧ ¬ T 903 j k) (tA : ∀ k, off ≤ k → k < off + 2602 → ¬ T A 0 k) : SR SQ S1 E j A off :=
  h.cong hQ (hf.I (by omega) (t8 0 (by omega))) (hf.I (by omega) (t8 1 (by omega))) (hf.I hA (tA _ (by omega) (by omega))) (hf.I hA (tA _ (by omega) (by omega))) (fun e k _ he hk => by
    unfold rw4
    rw [hf.I (by omega) (t9 k).1, hf.I (by omega) (t9 k).2, hf.I hA (tA _ (by omega) (by omega)), hf.I hA (tA _ (by omega) (by omega))])
theorem TLs.fg {T : Nat → Nat → Nat → Prop} {S S1 : zS} (h : TLs S) (hf : Fg T S S1) (t : ∀ j, j < 19 → (∀ k, ¬ T 8 j 1 ∧ ¬ T 902 j k ∧ ¬ T 903 j k) ∨ TL S1 j) : TLs S1 := fun j hj => by
  rcases t j hj with z | z
  · exact (h j hj).cong (hf.N (by omega) (z 0).2.1) (hf.N (by omega) (z 0).2.2) (hf.I (by omega) (z 0).1)
  · exact z
theorem Ty.tl {S : zS} {j : Nat} {c : List zT} (h : Ty S j c) : TL S j := by
  obtain ⟨h1, _, m, h2, h3, h4, h5, h6⟩ := h
  exact ⟨m, c.length, h2, h3, h4, h5, h1, h6⟩
theorem Pst.fg {α : Type} {SQ : zQ2 α} (hQ : Lo SQ) {T : Nat → Nat → Nat → Prop} {S S1 : zS} {E : α} {h q : Nat} (hP : Pst SQ S E h q) (hf : Fg T S S1) (t1 : ¬ T 11 0 10 ∧ ¬ T 11 0 11 ∧ ¬ T 12 0 58) (t2 : ∀ j k, 3 ≤ j → j < 11 → (k < 2 → ¬ T 8 j k) ∧ ¬ T 902 j k ∧ ¬ T 903 j k) (t3 : ∀ k, ¬ T 1357 0 k) : Pst SQ S1 E h q := by
  obtain ⟨h1, h2, h3, h4, h5, h6⟩ := hP
  exact ⟨(hf.I (by omega) t1.1).trans h1, (hf.I (by omega) t1.2.2).trans h2, h3, (hf.I (by omega) t1.2.1).trans h4, h5, fun i hi => (h6 i hi).fg hQ hf (by omega) (fun k hk => (t2 _ k (by omega) (by omega)).1 hk) (fun k => (t2 _ k (by omega) (by omega)).2) (fun k _ _ => t3 k)⟩
theorem Fg.tcp {T : Nat → Nat → Nat → Prop} {S : zS} (hs : Sd S) {j i e n : Nat} (hj : j < 19) (h2 : gN S 902 j = n) (h3 : gN S 903 j = n) (hn : 1 ≤ n) (hn9 : n ≤ 1200) (he : e ≤ 1200) (ht : ∀ k, (k < 2 → T 8 j k) ∧ T 902 j k ∧ T 903 j k) : Fg T S (_root_.Jvm.Pilot.CLeafWorldsLaw_law_r8483_d58aac.tcp S j i e n) := by
  have hr := Fg.room8 hs hj h2 h3 hn hn9 he
  have h9 : ∀ a b k, (a = 902 ∨ a = 903) ∧ b = j → T a b k := fun a b k z => by
    obtain ⟨z1 | z1, z2⟩ := z
    · rw [z1, z2]; exact (ht k).2.1
    · rw [z1, z2]; exact (ht k).2.2
  refine ⟨sd_tcp hs, fun a b k ha hz => tcp_x ha (fun z => hz (by rw [z.1, z.2.1]; exact (ht k).1 z.2.2)) (fun z => hz (h9 a b k z)), fun a b k ha hz => tcp_J ha, fun a b ha hz => ?_, hr.2.2.2.2.1, hr.2.2.2.2.2⟩
  rw [tcp_N]
  exact gN_room8_x ha (fun z => hz (h9 a b 0 z))
