/-! laws brought into another world: the class -/
theorem nf_ce {W : zWd} (hW : Wok W) {n : Nat} (hn7 : n ≤ 7) {mk : Nat → Nat} {rl : Nat → Nat → Nat} {c c1 : List zT} (h : NfC W n mk rl c c1) : Ce (wA W) (we W) (wP W) n c1 := by
  obtain ⟨v, v1, a1, a2, a3, a4, rfl⟩ := h
  exact dn_ce hW hn7 a4 (Nat.le_refl _)
theorem ce_len {W : zWd} (hW : Wok W) {n : Nat} {c : List zT} (h : Ce (wA W) (we W) (wP W) n c) : c.length ≤ (tl W n).length := len_U h.1 (fun p hp => (tl_mem hW.2.1).mpr (h.1.2 p hp).1)
theorem nf_nms {W : zWd} {n : Nat} {mk : Nat → Nat} {rl : Nat → Nat → Nat} {c c1 : List zT} (h : NfC W n mk rl c c1) : NmS W n mk c1 := nf_nm h
/-- the images of acts, as the class holds them -/
def ImC (S : zS) (W : zWd) (im : Nat → List zT) : Prop := ∀ a, a < wA W → gI S 8 (a + 13) 0 = nI (we W a) ∧ Ty S (a + 13) (im a)
def ImW (W Wk : zWd) (im : Nat → List zT) : Prop := ∀ a, a < wA W → Ce (wA Wk) (we Wk) (wP Wk) (we W a) (im a)
def lzi (im : Nat → List zT) : Nat → zL := fun a => lz (im a)
theorem ImW.ok {W Wk : zWd} {im : Nat → List zT} (h : ImW W Wk im) : ImOk (wA W) (we W) (wA Wk) (we Wk) (lzi im) := fun a ha p hp => by
  obtain ⟨q, hq, e⟩ := lz_mem hp
  rw [e]; exact ((h a ha).1.2 q hq).1
def tBq (s a b k : Nat) : Prop := (a = 8 ∧ k ≤ 1 ∨ a = 902 ∨ a = 903) ∧ (b = 16 ∨ b = 17) ∨ a = 405 ∨ (a = 700 ∨ a = 701 ∨ a = 702) ∧ b = 4 ∨ a = 703 ∧ b = s
def tBrk (s a b k : Nat) : Prop := (a = 8 ∧ k ≤ 1 ∨ a = 902 ∨ a = 903) ∧ (b = 16 ∨ b = 17 ∨ b = 18) ∨ a = 405 ∨ (a = 700 ∨ a = 701 ∨ a = 702) ∧ b = 4 ∨ a = 703 ∧ b = s
theorem tBq_k {s : Nat} (a b k : Nat) (h : tBq s a b k) : tBrk s a b k := by unfold tBq at h; unfold tBrk; omega
theorem tBq_jm {s : Nat} (a b k : Nat) (h : tJm 4 17 a b k) : tBq s a b k := by
  unfold tJm tJn tTy tSh at h
  unfold tBq
  simp at h
  omega
theorem tBq_nm {s : Nat} (a b k : Nat) (h : tNm s 17 a b k) : tBq s a b k := by
  unfold tNm tTy at h
  unfold tBq
  omega
theorem ImC.fg {S S1 : zS} {W : zWd} {im : Nat → List zT} (hA3 : wA W ≤ 3) (h : ImC S W im) {T : Nat → Nat → Nat → Prop} (f : Fg T S S1) (t : ∀ b k, b < 16 → ¬ T 8 b k ∧ ¬ T 902 b k ∧ ¬ T 903 b k) : ImC S1 W im := fun a ha => ⟨(f.I (by omega) (t _ _ (by omega)).1).trans (h a ha).1, (h a ha).2.fg f (fun k => ⟨(t _ _ (by omega)).1, (t _ _ (by omega)).2.1, (t _ _ (by omega)).2.2⟩)⟩
theorem TL.fg4 {S S1 : zS} {j : Nat} (h : TL S j) {T : Nat → Nat → Nat → Prop} (f : Fg T S S1) (t : ¬ T 8 j 1 ∧ ¬ T 902 j 0 ∧ ¬ T 903 j 0) : TL S1 j := h.cong (f.N (by omega) t.2.1) (f.N (by omega) t.2.2) (f.I (by omega) t.1)

set_option maxRecDepth 100000 in
theorem lp_bring {W Wk : zWd} (hW : Wok W) (hK : Wok Wk) {im : Nat → List zT} (him : ImW W Wk im) {s : Nat} (hs4 : s < 4) {n0 : Nat} {mk : Nat → Nat → Nat} {rl : Nat → Nat → Nat → Nat} {n : Nat} (hn1 : 1 ≤ n) (hn7 : n ≤ 7) (hn0 : n ≤ n0) {T : Nat} (hT : T ≤ 13) {key : Int32} {Po : Option zV → zS → Prop} : ∀ (r : List Nat) (m k leaf L : Nat) (S : zS) (c : List zT), k + r.length = T → Fs (wA W) (we W) r m → L = leaf + m → leaf + lvs r = n → Sd S → (∀ i, i < r.length → gI S 405 0 (k + i) = nI (nd (r.getD i 0))) → WC S s Wk → CB S s Wk n0 mk rl → gI S 8 16 0 = nI L → Ty S 16 c → Ce (wA Wk) (we Wk) (wP Wk) L c → NmS Wk L (mk L) c → ImC S W im → TL S 17 → (∀ S1 c1, Fg (tBq s) S S1 → gI S1 8 16 0 = nI n → Ty S1 16 c1 → Ce (wA Wk) (we Wk) (wP Wk) n c1 → NmS Wk n (mk n) c1 → TL S1 17 → Cg (wP Wk) (Gn Wk n) (lz c1) (td (lzi im) r leaf (lz c)) → Ok mX3_bring 126 [some (zr 3 0), some (zi key), some (zi (nI n)), some (zr 0 s), some (zr 6 4), some (zi (nI (wP Wk))), some (zi (nI n)), some (zi (nI T)), some (zi (nI T)), none] [] S1 Po) → Ok mX3_bring 45 [some (zr 3 0), some (zi key), some (zi (nI n)), some (zr 0 s), some (zr 6 4), some (zi (nI (wP Wk))), some (zi (nI leaf)), some (zi (nI T)), some (zi (nI k)), none] [] S Po := by
  intro r
  have hA3 := hW.2.1.1
  have hP0 := hK.1.1
  induction r with
  | nil =>
    intro m k leaf L S c hk hf hL hn hs hrow hc hB h16 hty hce hnm hI hTL K
    have hm : m = 0 := hf
    obtain rfl : k = T := by simpa using hk
    have e1 : leaf = n := by simpa [lvs] using hn
    obtain rfl : L = n := by omega
    subst e1
    refine r_iload (q := 47) dX3_bring_45 rfl rfl ?_
    refine r_iload (q := 49) dX3_bring_47 rfl rfl ?_
    refine r_icmp_geN (q := 52) (t := 126) (by omega) (by omega) dX3_bring_49 (by decide) rfl (fun h49 => ?_) (fun h49 => absurd h49 (by omega))
    exact K S c (Fg.rf hs) h16 hty hce hnm hTL Cg.rf
  | cons x r ih =>
    intro m k leaf L S c hk hf hL hn hs hrow hc hB h16 hty hce hnm hI hTL K
    have hf1 := hf.1
    have hf2 := hf.2
    have hx := hrow 0 (by simp)
    rw [Nat.add_zero] at hx
    rw [List.length_cons] at hk
    by_cases h0 : x = 0
    · rw [if_pos h0] at hf2
      have hx : gI S 405 0 k = nI 3 := by rw [hx]; show nI (nd x) = _; rw [h0]; rfl
      have hn' : leaf + 1 + lvs r = n := by rw [lvs, if_pos h0] at hn; omega
      refine r_iload (q := 47) dX3_bring_45 rfl rfl ?_
      refine r_iload (q := 49) dX3_bring_47 rfl rfl ?_
      refine r_icmp_geN (q := 52) (t := 126) (by omega) (by omega) dX3_bring_49 (by decide) rfl (fun h49 => absurd h49 (by omega)) (fun h49 => ?_)
      refine r_aload_n (q := 53) dX3_bring_52 rfl rfl rfl ?_
      refine r_getr (q := 56) (some (405, 0)) ck3 dX3_bring_53 rfl (k := 5) (by decide) wt208 rfl (hs.e (by decide)) (hs.r (by decide) (by decide)) ?_
      refine r_iload (q := 58) dX3_bring_56 rfl rfl ?_
      refine r_ialdN (q := 59) 13 (by decide) rfl dX3_bring_58 rfl (hs.e (by decide)) (hs.n rfl (by decide)) (by omega) (by decide) ?_
      refine r_topi (y := nI 3) hx ?_
      refine r_istore (q := 61) (L' := [some (zr 3 0), some (zi key), some (zi (nI n)), some (zr 0 s), some (zr 6 4), some (zi (nI (wP Wk))), some (zi (nI leaf)), some (zi (nI T)), some (zi (nI k)), some (zi (nI 3))]) dX3_bring_59 rfl (by decide) rfl ?_
      refine r_iload (q := 63) dX3_bring_61 rfl rfl ?_
      refine r_aload_n (q := 64) dX3_bring_63 rfl rfl rfl ?_
      refine r_getr (q := 67) (some (400, 0)) ck3 dX3_bring_64 rfl (k := 0) (by decide) wt201 rfl (hs.e (by decide)) (hs.r (by decide) (by decide)) ?_
      refine r_alen (q := 68) (by decide) (by decide) dX3_bring_67 rfl (hs.e (by decide)) ?_
      refine r_topi (y := nI 3) (congrArg nI (hs.n rfl (by decide))) ?_
      refine r_icmp_ltN (q := 71) (t := 77) (by omega) (by omega) dX3_bring_68 (by decide) rfl (fun h68 => absurd h68 (by omega)) (fun h68 => ?_)
      refine r_iincN (q := 74) (L' := [some (zr 3 0), some (zi key), some (zi (nI n)), some (zr 0 s), some (zr 6 4), some (zi (nI (wP Wk))), some (zi (nI (leaf + 1))), some (zi (nI T)), some (zi (nI k)), some (zi (nI 3))]) 1 rfl dX3_bring_71 rfl rfl (by decide) rfl ?_
      refine r_goto (q := 120) dX3_bring_74 (by decide) ?_
      refine r_iincN (q := 123) (L' := [some (zr 3 0), some (zi key), some (zi (nI n)), some (zr 0 s), some (zr 6 4), some (zi (nI (wP Wk))), some (zi (nI (leaf + 1))), some (zi (nI T)), some (zi (nI (k + 1))), some (zi (nI 3))]) 1 rfl dX3_bring_120 rfl rfl (by decide) rfl ?_
      refine r_goto (q := 45) dX3_bring_123 (by decide) ?_
      have e0 : td (lzi im) (x :: r) leaf (lz c) = td (lzi im) r (leaf + 1) (lz c) := by rw [td, if_pos h0]
      rw [e0] at K
      refine r_mask [true, true, true, true, true, true, true, true, true, false] rfl ?_
      exact ih (m - 1) (k + 1) (leaf + 1) L S c (by omega) hf2 (by omega) hn' hs (fun i hi => by rw [show k + 1 + i = k + (i + 1) by omega]; exact hrow (i + 1) (by simp; omega)) hc hB h16 hty hce hnm hI hTL K
    · rw [if_neg h0] at hf2
      obtain ⟨a, rfl⟩ : ∃ a, x = a + 1 := ⟨x - 1, by omega⟩
      rw [Nat.add_sub_cancel] at hf2
      have hx : gI S 405 0 k = nI a := by rw [hx]; show nI (nd (a + 1)) = _; unfold nd; rw [if_neg (by omega), Nat.add_sub_cancel]
      have hn' : leaf + lvs r = n := by rw [lvs, if_neg h0] at hn; omega
      have ha : a < wA W := by omega
      have hea := hW.2.1.2 a ha
      have hcnt := Fs.cnt hW.2.1.two hf2.2
      have hL1 : L + we W a - 1 ≤ n := by omega
      have hT3 := (hB.2.2.2.1 (L + we W a - 1) (by omega) (by omega)).1.2.2.2.1
      obtain ⟨p1, p2⟩ := hI a ha
      have hima := him a ha
      obtain ⟨q, eq, q1, q2, q3, q4, q5, q6⟩ := hTL
      refine r_iload (q := 47) dX3_bring_45 rfl rfl ?_
      refine r_iload (q := 49) dX3_bring_47 rfl rfl ?_
      refine r_icmp_geN (q := 52) (t := 126) (by omega) (by omega) dX3_bring_49 (by decide) rfl (fun h49 => absurd h49 (by omega)) (fun h49 => ?_)
      refine r_aload_n (q := 53) dX3_bring_52 rfl rfl rfl ?_
      refine r_getr (q := 56) (some (405, 0)) ck3 dX3_bring_53 rfl (k := 5) (by decide) wt208 rfl (hs.e (by decide)) (hs.r (by decide) (by decide)) ?_
      refine r_iload (q := 58) dX3_bring_56 rfl rfl ?_
      refine r_ialdN (q := 59) 13 (by decide) rfl dX3_bring_58 rfl (hs.e (by decide)) (hs.n rfl (by decide)) (by omega) (by decide) ?_
      refine r_topi (y := nI a) hx ?_
      refine r_istore (q := 61) (L' := [some (zr 3 0), some (zi key), some (zi (nI n)), some (zr 0 s), some (zr 6 4), some (zi (nI (wP Wk))), some (zi (nI leaf)), some (zi (nI T)), some (zi (nI k)), some (zi (nI a))]) dX3_bring_59 rfl (by decide) rfl ?_
      refine r_iload (q := 63) dX3_bring_61 rfl rfl ?_
      refine r_aload_n (q := 64) dX3_bring_63 rfl rfl rfl ?_
      refine r_getr (q := 67) (some (400, 0)) ck3 dX3_bring_64 rfl (k := 0) (by decide) wt201 rfl (hs.e (by decide)) (hs.r (by decide) (by decide)) ?_
      refine r_alen (q := 68) (by decide) (by decide) dX3_bring_67 rfl (hs.e (by decide)) ?_
      refine r_topi (y := nI 3) (congrArg nI (hs.n rfl (by decide))) ?_
      refine r_icmp_ltN (q := 71) (t := 77) (by omega) (by omega) dX3_bring_68 (by decide) rfl (fun h68 => ?_) (fun h68 => absurd h68 (by omega))
      refine r_aload (q := 79) dX3_bring_77 rfl rfl ?_
      refine r_aload_n (q := 80) dX3_bring_79 rfl rfl rfl ?_
      refine r_getr (q := 83) (some (8, 16)) ck3 dX3_bring_80 rfl (k := 2) (by decide) wt205 rfl (hs.e (by decide)) (hs.r (by decide) (by decide)) ?_
      refine r_iload (q := 85) dX3_bring_83 rfl rfl ?_
      refine r_aload_n (q := 86) dX3_bring_85 rfl rfl rfl ?_
      refine r_getr (q := 89) (some (400, 0)) ck3 dX3_bring_86 rfl (k := 0) (by decide) wt201 rfl (hs.e (by decide)) (hs.r (by decide) (by decide)) ?_
      refine r_iload (q := 91) dX3_bring_89 rfl rfl ?_
      refine r_aaldN (q := 92) (some (8, a + 13)) 3 (by decide) (by decide) (by decide) dX3_bring_91 rfl (hs.e (by decide)) (hs.n rfl (by decide)) (show a < 3 by omega) (by decide) ((hs.r (by decide) (show a < 3 by omega)).trans (if_pos (show a < 3 by omega))) ?_
      refine r_aload_n (q := 93) dX3_bring_92 rfl rfl rfl ?_
      refine r_getr (q := 96) (some (8, 17)) ck3 dX3_bring_93 rfl (k := 3) (by decide) wt206 rfl (hs.e (by decide)) (hs.r (by decide) (by decide)) ?_
      refine r_iload (q := 98) dX3_bring_96 rfl rfl ?_
      refine r_callV (Mc := mX6_join) (q := 101) (As := [zr 8 16, zi (nI leaf), zr 8 (a + 13), zr 8 17, zi (nI (wP Wk))]) (st := []) ck6 dX3_bring_98 rfl rfl mkX6_join wt1072 wt945 wt946 rfl (Nat.le_of_ble_eq_true rfl) (Nat.le_of_ble_eq_true rfl) (by decide) (by decide) (by decide) (Or.inr ⟨Nat.le_of_ble_eq_true rfl, rfl, rfl⟩) (hs.e (by decide)) (ok_join (b := 4) (jo := 16) (ji := a + 13) (j := 17) (U := tl Wk (L + we W a - 1)) hs hK.2.1 (show 1 ≤ L by omega) (show 1 ≤ we W a by omega) (show L + we W a - 1 ≤ 7 by omega) (show leaf < L by omega) hP0 hK.1.2.1 (by decide) (by decide) (by omega) (by decide) (by decide) (by omega) (fun p hp => hce.1.2 p hp) (fun p hp => hima.1.2 p hp) (by omega) (fun p hp => (tl_mem hK.2.1).mpr (prds_tr (by omega) (fun q hq => (hce.1.2 q hq).1) (fun q hq => (hima.1.2 q hq).1) p hp)) ⟨h16, p1, hty, p2⟩ q1 q2 q3 q4) (fun r98 S98 hp98 => ?_)
      obtain ⟨rfl, f1, l17, t17⟩ := hp98
      have hs1 := f1.sd
      have hJn : ∀ a b k, tJm 4 17 a b k → (a = 8 ∧ k ≤ 1 ∨ a = 902 ∨ a = 903) ∧ b = 17 ∨ (a = 700 ∨ a = 701 ∨ a = 702) ∧ b = 4 := fun a b k z => by
        unfold tJm tJn tTy tSh at z
        simp at z
        omega
      have hc1 : WC S98 s Wk := hc.fg f1 (fun a k ha z => by have := hJn _ _ _ z; omega)
      have hB1 : CB S98 s Wk n0 mk rl := hB.fg f1 ⟨fun z => by have := hJn _ _ _ z; omega, fun x k a b z => by have := hJn _ _ _ z; omega⟩
      have hce1 : Ce (wA Wk) (we Wk) (wP Wk) (L + we W a - 1) (cl (adds (wP Wk) 1 [] (prds leaf c (im a)))) := (Re.adds hK.2.1 (by omega) (by omega) re_nil (fun p hp => prds_tr (by omega) (fun q hq => (hce.1.2 q hq).1) (fun q hq => (hima.1.2 q hq).1) p hp)).cl
      show Ok _ _ _ [] _ _
      refine r_aload_n (q := 102) dX3_bring_101 rfl rfl rfl ?_
      refine r_aload_n (q := 103) dX3_bring_102 rfl rfl rfl ?_
      refine r_getr (q := 106) (some (8, 17)) ck3 dX3_bring_103 rfl (k := 3) (by decide) wt206 rfl (hs1.e (by decide)) (hs1.r (by decide) (by decide)) ?_
      refine r_callV (Mc := mX0_normalise) (q := 109) (As := [zr 8 17]) (st := []) ck0 dX3_bring_106 rfl rfl mkX0_normalise wt1073 wt902 wt903 rfl (Nat.le_of_ble_eq_true rfl) (Nat.le_of_ble_eq_true rfl) (by decide) (by decide) (by decide) (Or.inr ⟨Nat.le_of_ble_eq_true rfl, rfl, rfl⟩) (hs1.e (show s < 4 by omega)) (ok_normalise hs1 hK hs4 hc1 hB1 (show 17 < 19 by decide) (show 1 ≤ L + we W a - 1 by omega) (by omega) (by omega) l17 t17 (fun p hp => hce1.1.2 p hp)) (fun r106 S106 hp106 => ?_)
      obtain ⟨rfl, f2, l17b, c1, hnf, t17b⟩ := hp106
      have hs2 := f2.sd
      have hNn : ∀ a b k, tNm s 17 a b k → (a = 8 ∧ k ≤ 1 ∨ a = 902 ∨ a = 903) ∧ b = 17 ∨ a = 703 ∧ b = s := fun a b k z => by
        unfold tNm tTy at z
        omega
      have hce2 := nf_ce hK (show L + we W a - 1 ≤ 7 by omega) hnf
      have hlen := ce_len hK hce2
      have hty2 : Ty S106 16 c := (hty.fg f1 (fun k => ⟨fun z => by have := hJn _ _ _ z; omega, fun z => by have := hJn _ _ _ z; omega, fun z => by have := hJn _ _ _ z; omega⟩)).fg f2 (fun k => ⟨fun z => by have := hNn _ _ _ z; omega, fun z => by have := hNn _ _ _ z; omega, fun z => by have := hNn _ _ _ z; omega⟩)
      obtain ⟨u1, u2, M, m1, m2, m3, m4, m5⟩ := hty2
      obtain ⟨v1, v2, O, o1, o2, o3, o4, o5⟩ := id t17b
      show Ok _ _ _ [] _ _
      refine r_aload_n (q := 110) dX3_bring_109 rfl rfl rfl ?_
      refine r_getr (q := 113) (some (8, 16)) ck3 dX3_bring_110 rfl (k := 2) (by decide) wt205 rfl (hs2.e (by decide)) (hs2.r (by decide) (by decide)) ?_
      refine r_aload_n (q := 114) dX3_bring_113 rfl rfl rfl ?_
      refine r_getr (q := 117) (some (8, 17)) ck3 dX3_bring_114 rfl (k := 3) (by decide) wt206 rfl (hs2.e (by decide)) (hs2.r (by decide) (by decide)) ?_
      refine r_callV (Mc := mX8_copy) (q := 120) (As := [zr 8 17]) (st := []) ck8 dX3_bring_117 rfl rfl mkX8_copy wt1074 wt708 wt709 rfl (Nat.le_of_ble_eq_true rfl) (Nat.le_of_ble_eq_true rfl) (by decide) (by decide) (by decide) (Or.inr ⟨Nat.le_of_ble_eq_true rfl, rfl, rfl⟩) (hs2.e (by decide)) (ok_X8_copy hs2 (show 16 < 19 by decide) m1 m2 (by omega) m4 (show c1.length ≤ 1200 by omega) (show 17 < 19 by decide) (by decide) v1 o1 o2 o5 o4) (fun r117 S117 hp117 => ?_)
      obtain ⟨rfl, hq117⟩ := hp117
      rw [hq117]
      have f3 : Fg (fun a b k => (a = 8 ∧ k ≤ 1 ∨ a = 902 ∨ a = 903) ∧ b = 16) S106 (tcp S106 16 17 c1.length M) := Fg.tcp hs2 (by decide) m1 m2 (by omega) m4 (by omega) (fun k => ⟨fun _ => by omega, by omega, by omega⟩)
      have hs3 := f3.sd
      have hty3 : Ty (tcp S106 16 17 c1.length M) 16 c1 := ty_copy (by decide) t17b m1 m2 m3 m4 (by omega)
      have l16 : gI (tcp S106 16 17 c1.length M) 8 16 0 = nI (L + we W a - 1) := tcp_0.trans l17b
      show Ok _ _ _ [] _ _
      refine r_iincN (q := 123) (L' := [some (zr 3 0), some (zi key), some (zi (nI n)), some (zr 0 s), some (zr 6 4), some (zi (nI (wP Wk))), some (zi (nI leaf)), some (zi (nI T)), some (zi (nI (k + 1))), some (zi (nI a))]) 1 rfl dX3_bring_120 rfl rfl (by decide) rfl ?_
      refine r_goto (q := 45) dX3_bring_123 (by decide) ?_
      have fA : Fg (tBq s) S (tcp S106 16 17 c1.length M) := ((f1.mono tBq_jm).tr (f2.mono tBq_nm)).tr (f3.mono fun a b k z => by unfold tBq; omega)
      have hImC : ImC (tcp S106 16 17 c1.length M) W im := ((hI.fg hA3 f1 (fun b k hb => ⟨fun z => by have := hJn _ _ _ z; omega, fun z => by have := hJn _ _ _ z; omega, fun z => by have := hJn _ _ _ z; omega⟩)).fg hA3 f2 (fun b k hb => ⟨fun z => by have := hNn _ _ _ z; omega, fun z => by have := hNn _ _ _ z; omega, fun z => by have := hNn _ _ _ z; omega⟩)).fg hA3 f3 (fun b k hb => ⟨by omega, by omega, by omega⟩)
      have hTL3 : TL (tcp S106 16 17 c1.length M) 17 := (t17b.tl).fg4 f3 ⟨by omega, by omega, by omega⟩
      refine r_mask [true, true, true, true, true, true, true, true, true, false] rfl ?_
      refine ih (m - 1 + we W a) (k + 1) leaf (L + we W a - 1) (tcp S106 16 17 c1.length M) c1 (by omega) hf2.2 (by omega) hn' hs3 (fun i hi => ?_) ((hc1.fg f2 (fun a k ha z => by have := hNn _ _ _ z; omega)).fg f3 (fun a k ha => by omega)) ((hB1.fg f2 ⟨fun z => by have := hNn _ _ _ z; omega, fun x k a b z => by have := hNn _ _ _ z; omega⟩).fg f3 ⟨by omega, fun x k a b => by omega⟩) l16 hty3 hce2 (nf_nm hnf) hImC hTL3 (fun S1 cf g1 g2 g3 g4 g5 g6 g7 => K S1 cf (fA.tr g1) g2 g3 g4 g5 g6 (g7.tr ?_))
      · exact (((f3.I (by omega) (by omega)).trans (f2.I (by omega) (fun z => by have := hNn _ _ _ z; omega))).trans (f1.I (by omega) (fun z => by have := hJn _ _ _ z; omega))).trans (by rw [show k + 1 + i = k + (i + 1) by omega]; exact hrow (i + 1) (by simp; omega))
      · have e0 : td (lzi im) ((a + 1) :: r) leaf (lz c) = td (lzi im) r leaf (jn leaf (lz c) (lzi im a)) := by rw [td, if_neg (by omega), Nat.add_sub_cancel]
        rw [e0, ← hn']
        have hLv : LvC Wk mk rl (L + we W a - 1) := (hB.2.2.2.2.2.2.2.2.2 _ (by omega) (by omega)).2
        exact td_cg hK him.ok r (m - 1 + we W a) leaf (L + we W a - 1) _ _ hf2.2 (by omega) ((nf_cg hK hLv (fun p hp => (hce1.1.2 p hp).1) hnf).tr (Cg.of li_join))

set_option maxRecDepth 100000 in
theorem ok_bring {W Wk : zWd} (hW : Wok W) (hK : Wok Wk) {im : Nat → List zT} (him : ImW W Wk im) {s : Nat} (hs4 : s < 4) {n0 : Nat} {mk : Nat → Nat → Nat} {rl : Nat → Nat → Nat → Nat} {n : Nat} (hn1 : 1 ≤ n) (hn7 : n ≤ 7) (hn0 : n ≤ n0) {t : List Nat} (ht : Tr (wA W) (we W) n t) {S : zS} (hs : Sd S) (hc : WC S s Wk) (hB : CB S s Wk n0 mk rl) (hI : ImC S W im) (hT6 : TL S 16) (hT7 : TL S 17) : Ok mX3_bring 0 (ent 10 [zr 3 0, zi (nI (ky t)), zi (nI n), zr 0 s, zr 6 4]) [] S (fun r S1 => r = none ∧ Fg (tBq s) S S1 ∧ ∃ c1, gI S1 8 16 0 = nI n ∧ Ty S1 16 c1 ∧ Ce (wA Wk) (we Wk) (wP Wk) n c1 ∧ NmS Wk n (mk n) c1 ∧ TL S1 17 ∧ Cg (wP Wk) (Gn Wk n) (lz c1) (tdT (lzi im) t)) := by
  show Ok mX3_bring 0 [some (zr 3 0), some (zi (nI (ky t))), some (zi (nI n)), some (zr 0 s), some (zr 6 4), none, none, none, none, none] [] S _
  refine r_aload_n (q := 1) dX3_bring_0 rfl rfl rfl ?_
  refine r_getr (q := 4) (some (9, s)) ck0 dX3_bring_1 rfl (k := 0) (by decide) wt376 rfl (hs.e (show s < 4 by omega)) (hs.r (show s < 4 by omega) (by decide)) ?_
  refine r_geti (q := 7) ck9 dX3_bring_4 rfl (k := 0) (by decide) wt292 (Or.inl rfl) (hs.e (show s < 4 by omega)) ?_
  refine r_topi (y := nI (wP Wk)) hc.1 ?_
  refine r_istore (q := 9) (L' := [some (zr 3 0), some (zi (nI (ky t))), some (zi (nI n)), some (zr 0 s), some (zr 6 4), some (zi (nI (wP Wk))), none, none, none, none]) dX3_bring_7 rfl (by decide) rfl ?_
  refine r_aload_n (q := 10) dX3_bring_9 rfl rfl rfl ?_
  refine r_getr (q := 13) (some (8, 16)) ck3 dX3_bring_10 rfl (k := 2) (by decide) wt205 rfl (hs.e (by decide)) (hs.r (by decide) (by decide)) ?_
  refine r_iconst (q := 14) (nI 1) dX3_bring_13 rfl (by decide) ?_
  refine r_callV (Mc := mX8_clear) (q := 17) (As := [zi (nI 1)]) (st := []) ck8 dX3_bring_14 rfl rfl mkX8_clear wt1065 wt603 wt604 rfl (Nat.le_of_ble_eq_true rfl) (Nat.le_of_ble_eq_true rfl) (by decide) (by decide) (by decide) (Or.inl rfl) (hs.e (by decide)) (ok_X8_clear hs (show 16 < 19 by decide) (nI 1)) (fun r14 S14 hp14 => ?_)
  obtain ⟨rfl, hq14⟩ := hp14
  rw [hq14]
  have f0 : Fg (fun a b k => a = 8 ∧ b = 16 ∧ k ≤ 1) S (sI (sI S 8 16 0 (nI 1)) 8 16 1 (nI 0)) := Fg.of22 hs rfl (fun a b k _ hz => by rw [gI_sI, if_neg (fun z => hz (by omega)), gI_sI, if_neg (fun z => hz (by omega))]) (fun _ _ _ _ _ => rfl)
  have hs0 := f0.sd
  have ty0 : Ty (sI (sI S 8 16 0 (nI 1)) 8 16 1 (nI 0)) 16 [] := by
    obtain ⟨x1, x2, x3, x4, x5, x6, x7, x8⟩ := hT6
    exact ⟨by rw [gI_sI, if_pos ⟨rfl, rfl, rfl⟩]; rfl, fun k hk => absurd hk (by simp), x1, x3, x4, x5, x6, by simp⟩
  have tr0 : Tr (wA Wk) (we Wk) 1 [0] := ⟨⟨by omega, by rw [if_pos rfl]; rfl⟩, rfl⟩
  have ky0 : ky [0] = 0 := by decide
  show Ok _ _ _ [] _ _
  refine r_aload_n (q := 18) dX3_bring_17 rfl rfl rfl ?_
  refine r_getr (q := 21) (some (8, 16)) ck3 dX3_bring_18 rfl (k := 2) (by decide) wt205 rfl (hs0.e (by decide)) (hs0.r (by decide) (by decide)) ?_
  refine r_iconst (q := 22) (nI 0) dX3_bring_21 rfl (by decide) ?_
  refine r_iconst (q := 23) (nI 1) dX3_bring_22 rfl (by decide) ?_
  refine r_iload (q := 25) dX3_bring_23 rfl rfl ?_
  refine r_callV (Mc := mX8_put) (q := 28) (As := [zi (nI 0), zi (nI 1), zi (nI (wP Wk))]) (st := []) ck8 dX3_bring_25 rfl rfl mkX8_put wt1070 wt610 wt611 rfl (Nat.le_of_ble_eq_true rfl) (Nat.le_of_ble_eq_true rfl) (by decide) (by decide) (by decide) (Or.inr ⟨Nat.le_of_ble_eq_true rfl, rfl, rfl⟩) (hs0.e (by decide)) (ky0 ▸ ok_X8_put (n := 1) (t := [0]) (c := []) (U := [[0]]) hs0 (show 16 < 19 by decide) hK.2.1 tr0 (by decide) ty0 ⟨re_nil, fun p hp => absurd hp List.not_mem_nil⟩ hK.1.1 hK.1.2.1 (by decide) (by simp) (fun p hp => absurd hp List.not_mem_nil) (nI 1)) (fun r25 S25 hp25 => ?_)
  obtain ⟨rfl, f1, ty1⟩ := hp25
  have hs1 := f1.sd
  have e1 : cl (addT (wP Wk) [0] (rsN (nI 1) (wP Wk)) []) = [([0], 1)] := by
      rw [rsN_nI (by decide) (by have := hK.1.1; omega), addT, Nat.mod_mod, Nat.mod_eq_of_lt (by have := hK.1.1; omega)]; rfl
  rw [e1] at ty1
  show Ok _ _ _ [] _ _
  refine r_iconst (q := 29) (nI 0) dX3_bring_28 rfl (by decide) ?_
  refine r_istore (q := 31) (L' := [some (zr 3 0), some (zi (nI (ky t))), some (zi (nI n)), some (zr 0 s), some (zr 6 4), some (zi (nI (wP Wk))), some (zi (nI 0)), none, none, none]) dX3_bring_29 rfl (by decide) rfl ?_
  refine r_iload_n (q := 32) dX3_bring_31 rfl rfl rfl ?_
  refine r_iload_n (q := 33) dX3_bring_32 rfl rfl rfl ?_
  refine r_aload_n (q := 34) dX3_bring_33 rfl rfl rfl ?_
  refine r_getr (q := 37) (some (405, 0)) ck3 dX3_bring_34 rfl (k := 5) (by decide) wt208 rfl (hs1.e (by decide)) (hs1.r (by decide) (by decide)) ?_
  refine r_callS (Mc := mX6_open) (q := 40) (As := [zi (nI (ky t)), zi (nI n), zr 405 0]) (st := []) dX3_bring_37 rfl rfl mkX6_open wt1071 wt746 rfl (Nat.le_of_ble_eq_true rfl) (Nat.le_of_ble_eq_true rfl) (by decide) (by decide) (by decide) (Or.inl rfl) hs1.some (ok_open_405 hs1 hW.2.1 ht hn7) (fun r37 S37 hp37 => ?_)
  obtain ⟨rfl, hq37⟩ := hp37
  rw [hq37]
  have f2 : Fg (fun a b k => a = 405) S25 (stR S25 405 0 (t.map nd)) := Fg.of22 hs1 rfl (fun a b k _ hz => gI_stR_x (fun z => hz z.1)) (fun _ _ _ _ _ => rfl)
  have hs2 := f2.sd
  show Ok _ _ _ [zi (nI t.length)] _ _
  refine r_istore (q := 42) (L' := [some (zr 3 0), some (zi (nI (ky t))), some (zi (nI n)), some (zr 0 s), some (zr 6 4), some (zi (nI (wP Wk))), some (zi (nI 0)), some (zi (nI t.length)), none, none]) dX3_bring_40 rfl (by decide) rfl ?_
  refine r_iconst (q := 43) (nI 0) dX3_bring_42 rfl (by decide) ?_
  refine r_istore (q := 45) (L' := [some (zr 3 0), some (zi (nI (ky t))), some (zi (nI n)), some (zr 0 s), some (zr 6 4), some (zi (nI (wP Wk))), some (zi (nI 0)), some (zi (nI t.length)), some (zi (nI 0)), none]) dX3_bring_43 rfl (by decide) rfl ?_
  have htl := ht.len hW.2.1
  have f02 : Fg (tBq s) S (stR S25 405 0 (t.map nd)) := ((f0.mono fun a b k z => by unfold tBq; omega).tr (f1.mono fun a b k z => by unfold tTy at z; unfold tBq; omega)).tr (f2.mono fun a b k z => by unfold tBq; omega)
  have hL1 := (hB.2.2.2.2.2.2.2.2.2 1 (by omega) (by omega)).2
  refine lp_bring hW hK him hs4 hn1 hn7 hn0 (T := t.length) (by omega) t 1 0 0 1 _ [([0], 1)] (by omega) ht.1 rfl (by rw [ht.2]; omega) hs2 (fun i hi => ?_) (hc.fg f02 (fun a k ha => by unfold tBq; omega)) (hB.fg f02 ⟨by unfold tBq; omega, fun x k a b => by unfold tBq; omega⟩) ?_ (ty1.fg f2 (fun k => ⟨by omega, by omega, by omega⟩)) ⟨⟨List.pairwise_singleton _ _, fun p hp => by rw [List.mem_singleton.mp hp]; exact ⟨tr0, by have := hK.1.1; show 1 < wP Wk; omega⟩⟩, fun p hp => by rw [List.mem_singleton.mp hp]; exact Nat.one_ne_zero⟩ (fun p hp => ?_) (hI.fg hW.2.1.1 f02 (fun b k hb => ⟨by unfold tBq; omega, by unfold tBq; omega, by unfold tBq; omega⟩)) (((hT7.fg4 f0 ⟨by omega, by omega, by omega⟩).fg4 f1 ⟨by unfold tTy; omega, by unfold tTy; omega, by unfold tTy; omega⟩).fg4 f2 ⟨by omega, by omega, by omega⟩) (fun S1 c1 g1 g2 g3 g4 g5 g6 g7 => ?_)
  · rw [gI_stR_k (by rw [List.length_map]; omega)]
    refine congrArg nI ?_
    rw [Nat.zero_add, List.getD_eq_getElem?_getD, List.getElem?_map, List.getD_eq_getElem?_getD, List.getElem?_eq_getElem hi]
    rfl
  · rw [f2.I (by omega) (by omega), f1.I (by omega) (by unfold tTy; omega), gI_sI, if_neg (by omega), gI_sI, if_pos ⟨rfl, rfl, rfl⟩]
  · rw [List.mem_singleton.mp hp]
    obtain ⟨j, hj, e⟩ := mem_idx ((tl_mem hK.2.1).mpr tr0)
    exact ⟨j, hj, e.symm, nm_one hK hL1 hj⟩
  · skip
    refine r_return dX3_bring_126 rfl ?_
    exact ⟨rfl, f02.tr g1, c1, g2, g3, g4, g5, g6, g7⟩

/-- whether a law is kept -/
def KpP (W Wk : zWd) (im : Nat → List zT) (l : Nat) : Prop := Id Wk (lw W l).1 (bd (tdT (lzi im)) (lz (lw W l).2))
noncomputable def kpB (W Wk : zWd) (im : Nat → List zT) (l : Nat) : Bool := @decide (KpP W Wk im l) (Classical.propDecidable _)
theorem kpB_t {W Wk : zWd} {im : Nat → List zT} {l : Nat} : kpB W Wk im l = true ↔ KpP W Wk im l := by unfold kpB; exact @decide_eq_true_iff _ (Classical.propDecidable _)
theorem bd_snoc {F : List Nat → zL} {u : zL} {p : List Nat × Int} : bd F (u ++ [p]) = bd F u ++ scl p.2 (F p.1) := by
  unfold bd
  rw [List.flatMap_append, List.flatMap_cons, List.flatMap_nil, List.append_nil]
theorem nms_puts {W : zWd} {n P b : Nat} {mk : Nat → Nat} {c l : List zT} (hc : NmS W n mk c) (hl : NmS W n mk l) : NmS W n mk (puts P b c l) := fun p hp => by
  have := mem_puts (P := P) (b := b) (U := c.map Prod.fst ++ l.map Prod.fst) (c := c) (l := l) (fun p hp => List.mem_append.mpr (Or.inl (List.mem_map.mpr ⟨p, hp, rfl⟩))) (fun p hp => List.mem_append.mpr (Or.inr (List.mem_map.mpr ⟨p, hp, rfl⟩))) p hp
  rcases List.mem_append.mp this with h | h
  · obtain ⟨q, hq, e⟩ := List.mem_map.mp h
    rw [← e]; exact hc q hq
  · obtain ⟨q, hq, e⟩ := List.mem_map.mp h
    rw [← e]; exact hl q hq

set_option maxRecDepth 100000 in
theorem lp_isKept {W Wk : zWd} {l cc : Nat}  (hW : Wok W) (hK : Wok Wk) {im : Nat → List zT} (him : ImW W Wk im) {s : Nat} (hs4 : s < 4) {n0 : Nat} {mk : Nat → Nat → Nat} {rl : Nat → Nat → Nat → Nat} (hn0 : (lw W l).1 ≤ n0) (hl : l < wL W) (hc4 : cc < 4) (hPP : wP W = wP Wk) {Po : Option zV → zS → Prop} : ∀ (d k : Nat) (S : zS) (c : List zT), k + d = (lw W l).2.length → Sd S → WC S cc W → WC S s Wk → CB S s Wk n0 mk rl → ImC S W im → TL S 16 → TL S 17 → Ty S 18 c → Ce (wA Wk) (we Wk) (wP Wk) (lw W l).1 c → NmS Wk (lw W l).1 (mk (lw W l).1) c → Cg (wP Wk) (Gn Wk (lw W l).1) (lz c) (bd (tdT (lzi im)) (lz ((lw W l).2.take k))) → (∀ S1 c1, Fg (tBrk s) S S1 → Ty S1 18 c1 → (c1 = [] ↔ KpP W Wk im l) → TL S1 16 → TL S1 17 → Ok mX3_isKept 82 [some (zr 3 0), some (zr 9 cc), some (zi (nI l)), some (zr 0 s), some (zr 6 4), some (zi (nI (lf W (l + 1))))] [] S1 Po) → Ok mX3_isKept 21 [some (zr 3 0), some (zr 9 cc), some (zi (nI l)), some (zr 0 s), some (zr 6 4), some (zi (nI (lf W l + k)))] [] S Po := by
  intro d
  obtain ⟨g1, g2, g3⟩ := hW.2.2.2.2.2 l hl
  have hlf1 : lf W (l + 1) = lf W l + (lw W l).2.length := lf_succ hl
  have hlf2 := hW.2.2.2.2.1
  have hlf3 := lf_mono (W := W) (show l + 1 ≤ wL W by omega)
  have h18 := hW.2.2.2.1
  induction d with
  | zero =>
    intro k S c hk hs hcW hc hB hI hT6 hT7 hty hce hnm hcg K
    have ek : k = (lw W l).2.length := by omega
    have e1 := hcW.2.2.2.2.2.1 (l + 1) (by omega)
    refine r_iload (q := 23) dX3_isKept_21 rfl rfl ?_
    refine r_aload_n (q := 24) dX3_isKept_23 rfl rfl rfl ?_
    refine r_getr (q := 27) (some (1006, cc)) ck9 dX3_isKept_24 rfl (k := 6) (by decide) wt324 rfl (hs.e (show cc < 4 by omega)) (hs.r (show cc < 4 by omega) (by decide)) ?_
    refine r_iload_n (q := 28) dX3_isKept_27 rfl rfl rfl ?_
    refine r_iconst (q := 29) (nI 1) dX3_isKept_28 rfl (by decide) ?_
    refine r_iaddN (q := 30) dX3_isKept_29 rfl ?_
    refine r_ialdN (q := 31) 19 (by decide) rfl dX3_isKept_30 rfl (hs.e (show cc < 4 by omega)) (hs.n rfl (show cc < 4 by omega)) (by omega) (by decide) ?_
    refine r_topi (y := nI (lf W (l + 1))) e1 ?_
    refine r_icmp_geN (q := 34) (t := 82) (by omega) (by omega) dX3_isKept_31 (by decide) rfl (fun h31 => ?_) (fun h31 => absurd h31 (by omega))
    have hLv : LvC Wk mk rl (lw W l).1 := (hB.2.2.2.2.2.2.2.2.2 _ (by omega) hn0).2
    rw [show lf W l + k = lf W (l + 1) by omega]
    refine K S c (Fg.rf hs) hty ?_ hT6 hT7
    rw [ek, List.take_length] at hcg
    exact nm_zero hK hLv hce hnm hcg
  | succ d ih =>
    intro k S c hk hs hcW hc hB hI hT6 hT7 hty hce hnm hcg K
    have e1 := hcW.2.2.2.2.2.1 (l + 1) (by omega)
    have e2 := hcW.2.2.2.2.1 l hl
    have hkl : k < (lw W l).2.length := by omega
    obtain ⟨e3, e4⟩ := hcW.2.2.2.2.2.2 l k hl hkl
    have hmem := mem_getD hkl
    obtain ⟨ht, hv⟩ := g3.1.2 _ hmem
    refine r_iload (q := 23) dX3_isKept_21 rfl rfl ?_
    refine r_aload_n (q := 24) dX3_isKept_23 rfl rfl rfl ?_
    refine r_getr (q := 27) (some (1006, cc)) ck9 dX3_isKept_24 rfl (k := 6) (by decide) wt324 rfl (hs.e (show cc < 4 by omega)) (hs.r (show cc < 4 by omega) (by decide)) ?_
    refine r_iload_n (q := 28) dX3_isKept_27 rfl rfl rfl ?_
    refine r_iconst (q := 29) (nI 1) dX3_isKept_28 rfl (by decide) ?_
    refine r_iaddN (q := 30) dX3_isKept_29 rfl ?_
    refine r_ialdN (q := 31) 19 (by decide) rfl dX3_isKept_30 rfl (hs.e (show cc < 4 by omega)) (hs.n rfl (show cc < 4 by omega)) (by omega) (by decide) ?_
    refine r_topi (y := nI (lf W (l + 1))) e1 ?_
    refine r_icmp_geN (q := 34) (t := 82) (by omega) (by omega) dX3_isKept_31 (by decide) rfl (fun h31 => absurd h31 (by omega)) (fun h31 => ?_)
    refine r_aload_n (q := 35) dX3_isKept_34 rfl rfl rfl ?_
    refine r_aload_n (q := 36) dX3_isKept_35 rfl rfl rfl ?_
    refine r_getr (q := 39) (some (1007, cc)) ck9 dX3_isKept_36 rfl (k := 7) (by decide) wt330 rfl (hs.e (show cc < 4 by omega)) (hs.r (show cc < 4 by omega) (by decide)) ?_
    refine r_iload (q := 41) dX3_isKept_39 rfl rfl ?_
    refine r_ialdN (q := 42) 200 (by decide) rfl dX3_isKept_41 rfl (hs.e (show cc < 4 by omega)) (hs.n rfl (show cc < 4 by omega)) (by omega) (by decide) ?_
    refine r_topi (y := nI (ky ((lw W l).2.getD k zd).1)) e3 ?_
    refine r_aload_n (q := 43) dX3_isKept_42 rfl rfl rfl ?_
    refine r_getr (q := 46) (some (1005, cc)) ck9 dX3_isKept_43 rfl (k := 5) (by decide) wt319 rfl (hs.e (show cc < 4 by omega)) (hs.r (show cc < 4 by omega) (by decide)) ?_
    refine r_iload_n (q := 47) dX3_isKept_46 rfl rfl rfl ?_
    refine r_ialdN (q := 48) 18 (by decide) rfl dX3_isKept_47 rfl (hs.e (show cc < 4 by omega)) (hs.n rfl (show cc < 4 by omega)) (by omega) (by decide) ?_
    refine r_topi (y := nI ((lw W l).1)) e2 ?_
    refine r_aload_n (q := 49) dX3_isKept_48 rfl rfl rfl ?_
    refine r_aload (q := 51) dX3_isKept_49 rfl rfl ?_
    refine r_callV (Mc := mX3_bring) (q := 54) (As := [zi (nI (ky ((lw W l).2.getD k zd).1)), zi (nI ((lw W l).1)), zr 0 s, zr 6 4]) (st := []) ck3 dX3_isKept_51 rfl rfl mkX3_bring wt1066 wt1068 wp58 rfl (Nat.le_of_ble_eq_true rfl) (Nat.le_of_ble_eq_true rfl) (by decide) (by decide) (by decide) (Or.inr ⟨Nat.le_of_ble_eq_true rfl, rfl, rfl⟩) (hs.e (by decide)) (ok_bring hW hK him hs4 (by omega) g2 hn0 ht hs hc hB hI hT6 hT7) (fun r51 S51 hp51 => ?_)
    obtain ⟨rfl, f1, c1, l16, t16, ce1, nm1, t17, cg1⟩ := hp51
    have hs1 := f1.sd
    have hty1 : Ty S51 18 c := hty.fg f1 (fun k => ⟨by unfold tBq; omega, by unfold tBq; omega, by unfold tBq; omega⟩)
    have hcW1 : WC S51 cc W := hcW.fg f1 (fun a k ha => by unfold tBq; omega)
    have e5 : gI S51 1008 cc (lf W l + k) = nI ((lw W l).2.getD k zd).2 := (hcW1.2.2.2.2.2.2 l k hl hkl).2
    have e6 : gI S51 9 cc 0 = nI (wP Wk) := hcW1.1.trans (by rw [hPP])
    have hvi : (nI ((lw W l).2.getD k zd).2).toInt = (((lw W l).2.getD k zd).2 : Int) := nI_toInt (by have := hK.1.2.1; omega)
    have hT3 := (hB.2.2.2.1 (lw W l).1 (by omega) hn0).1.2.2.2.1
    show Ok _ _ _ [] _ _
    refine r_aload_n (q := 55) dX3_isKept_54 rfl rfl rfl ?_
    refine r_getr (q := 58) (some (8, 18)) ck3 dX3_isKept_55 rfl (k := 4) (by decide) wt207 rfl (hs1.e (by decide)) (hs1.r (by decide) (by decide)) ?_
    refine r_aload_n (q := 59) dX3_isKept_58 rfl rfl rfl ?_
    refine r_getr (q := 62) (some (8, 16)) ck3 dX3_isKept_59 rfl (k := 2) (by decide) wt205 rfl (hs1.e (by decide)) (hs1.r (by decide) (by decide)) ?_
    refine r_aload_n (q := 63) dX3_isKept_62 rfl rfl rfl ?_
    refine r_getr (q := 66) (some (1008, cc)) ck9 dX3_isKept_63 rfl (k := 8) (by decide) wt335 rfl (hs1.e (show cc < 4 by omega)) (hs1.r (show cc < 4 by omega) (by decide)) ?_
    refine r_iload (q := 68) dX3_isKept_66 rfl rfl ?_
    refine r_ialdN (q := 69) 200 (by decide) rfl dX3_isKept_68 rfl (hs1.e (show cc < 4 by omega)) (hs1.n rfl (show cc < 4 by omega)) (by omega) (by decide) ?_
    refine r_topi (y := nI (((lw W l).2.getD k zd).2)) e5 ?_
    refine r_aload_n (q := 70) dX3_isKept_69 rfl rfl rfl ?_
    refine r_geti (q := 73) ck9 dX3_isKept_70 rfl (k := 0) (by decide) wt292 (Or.inl rfl) (hs1.e (show cc < 4 by omega)) ?_
    refine r_topi (y := nI (wP Wk)) e6 ?_
    refine r_callV (Mc := mX8_putAll) (q := 76) (As := [zr 8 16, zi (nI (((lw W l).2.getD k zd).2)), zi (nI (wP Wk))]) (st := []) ck8 dX3_isKept_73 rfl rfl mkX8_putAll wt1075 wt959 wt960 rfl (Nat.le_of_ble_eq_true rfl) (Nat.le_of_ble_eq_true rfl) (by decide) (by decide) (by decide) (Or.inr ⟨Nat.le_of_ble_eq_true rfl, rfl, rfl⟩) (hs1.e (by decide)) (ok_X8_putAll (j := 18) (i := 16) (U := tl Wk (lw W l).1) (b := ((lw W l).2.getD k zd).2) hs1 hK.2.1 g2 hK.1.1 hK.1.2.1 (by rw [hvi]; have := hK.1.2.1; omega) (by rw [rsN_nI (by have := hK.1.2.1; omega) (by have := hK.1.1; omega)]; exact Nat.mod_eq_of_lt (by omega)) (by omega) (by decide) (by decide) (by decide) (l := c1) (fun p hp => ce1.1.2 p hp) (fun p hp => (tl_mem hK.2.1).mpr (ce1.1.2 p hp).1) t16 hty1 hce (fun p hp => (tl_mem hK.2.1).mpr (hce.1.2 p hp).1)) (fun r73 S73 hp73 => ?_)
    obtain ⟨rfl, f2, ty2⟩ := hp73
    have hs2 := f2.sd
    show Ok _ _ _ [] _ _
    refine r_iincN (q := 79) (L' := [some (zr 3 0), some (zr 9 cc), some (zi (nI l)), some (zr 0 s), some (zr 6 4), some (zi (nI (lf W l + k + 1)))]) 1 rfl dX3_isKept_76 rfl rfl (by decide) rfl ?_
    refine r_goto (q := 21) dX3_isKept_79 (by decide) ?_
    have fA : Fg (tBrk s) S S73 := (f1.mono tBq_k).tr (f2.mono fun a b k z => by unfold tTy at z; unfold tBrk; omega)
    have hce2 := Ce.puts (b := ((lw W l).2.getD k zd).2) hK.2.1 (show 0 < wP Wk by have := hK.1.1; omega) g2 (l := c1) hce (fun p hp => (ce1.1.2 p hp).1)
    have hpe : puts (wP Wk) ((lw W l).2.getD k zd).2 c c1 = cl (adds (wP Wk) ((lw W l).2.getD k zd).2 c c1) := by
      rw [← puts_adds hK.2.1 (show 0 < wP Wk by have := hK.1.1; omega) g2 hce.1 (fun p hp => (ce1.1.2 p hp).1), cl_id hce.2]
    refine ih (k + 1) S73 (puts (wP Wk) ((lw W l).2.getD k zd).2 c c1) (by omega) hs2 (hcW1.fg f2 (fun a k ha => by unfold tTy; omega)) (hc.fg fA (fun a k ha => by unfold tBrk; omega)) (hB.fg fA ⟨by unfold tBrk; omega, fun x k a b => by unfold tBrk; omega⟩) (hI.fg hW.2.1.1 fA (fun b k hb => ⟨by unfold tBrk; omega, by unfold tBrk; omega, by unfold tBrk; omega⟩)) (t16.tl.fg4 f2 ⟨by unfold tTy; omega, by unfold tTy; omega, by unfold tTy; omega⟩) (t17.fg4 f2 ⟨by unfold tTy; omega, by unfold tTy; omega, by unfold tTy; omega⟩) ty2 hce2 (nms_puts hnm nm1) ?_ (fun S1 c2 a1 a2 a3 a4 a5 => K S1 c2 (fA.tr a1) a2 a3 a4 a5)
    rw [hpe, lz_snoc hkl, bd_snoc]
    exact (Cg.of li_adds).tr (hcg.app (cg1.sc _))

set_option maxRecDepth 100000 in
theorem ok_isKept {W Wk : zWd} {l cc : Nat}  (hW : Wok W) (hK : Wok Wk) {im : Nat → List zT} (him : ImW W Wk im) {s : Nat} (hs4 : s < 4) {n0 : Nat} {mk : Nat → Nat → Nat} {rl : Nat → Nat → Nat → Nat} (hn0 : (lw W l).1 ≤ n0) (hl : l < wL W) (hc4 : cc < 4) (hPP : wP W = wP Wk) {S : zS} (hs : Sd S) (hcW : WC S cc W) (hc : WC S s Wk) (hB : CB S s Wk n0 mk rl) (hI : ImC S W im) (hT6 : TL S 16) (hT7 : TL S 17) (hT8 : TL S 18) : Ok mX3_isKept 0 (ent 6 [zr 3 0, zr 9 cc, zi (nI l), zr 0 s, zr 6 4]) [] S (fun r S1 => r = some (zi (nI (b01 (kpB W Wk im l)))) ∧ Fg (tBrk s) S S1 ∧ TL S1 16 ∧ TL S1 17 ∧ TL S1 18) := by
  have e2 := hcW.2.2.2.2.1 l hl
  have h18 := hW.2.2.2.1
  obtain ⟨g1, g2, g3⟩ := hW.2.2.2.2.2 l hl
  have hlf1 : lf W (l + 1) = lf W l + (lw W l).2.length := lf_succ hl
  have hlf2 := hW.2.2.2.2.1
  have hlf3 := lf_mono (W := W) (show l + 1 ≤ wL W by omega)
  show Ok mX3_isKept 0 [some (zr 3 0), some (zr 9 cc), some (zi (nI l)), some (zr 0 s), some (zr 6 4), none] [] S _
  refine r_aload_n (q := 1) dX3_isKept_0 rfl rfl rfl ?_
  refine r_getr (q := 4) (some (8, 18)) ck3 dX3_isKept_1 rfl (k := 4) (by decide) wt207 rfl (hs.e (by decide)) (hs.r (by decide) (by decide)) ?_
  refine r_aload_n (q := 5) dX3_isKept_4 rfl rfl rfl ?_
  refine r_getr (q := 8) (some (1005, cc)) ck9 dX3_isKept_5 rfl (k := 5) (by decide) wt319 rfl (hs.e (show cc < 4 by omega)) (hs.r (show cc < 4 by omega) (by decide)) ?_
  refine r_iload_n (q := 9) dX3_isKept_8 rfl rfl rfl ?_
  refine r_ialdN (q := 10) 18 (by decide) rfl dX3_isKept_9 rfl (hs.e (show cc < 4 by omega)) (hs.n rfl (show cc < 4 by omega)) (by omega) (by decide) ?_
  refine r_topi (y := nI ((lw W l).1)) e2 ?_
  refine r_callV (Mc := mX8_clear) (q := 13) (As := [zi (nI ((lw W l).1))]) (st := []) ck8 dX3_isKept_10 rfl rfl mkX8_clear wt1065 wt603 wt604 rfl (Nat.le_of_ble_eq_true rfl) (Nat.le_of_ble_eq_true rfl) (by decide) (by decide) (by decide) (Or.inl rfl) (hs.e (by decide)) (ok_X8_clear hs (show 18 < 19 by decide) (nI (lw W l).1)) (fun r10 S10 hp10 => ?_)
  obtain ⟨rfl, hq10⟩ := hp10
  rw [hq10]
  have f0 : Fg (fun a b k => a = 8 ∧ b = 18 ∧ k ≤ 1) S (sI (sI S 8 18 0 (nI (lw W l).1)) 8 18 1 (nI 0)) := Fg.of22 hs rfl (fun a b k _ hz => by rw [gI_sI, if_neg (fun z => hz (by omega)), gI_sI, if_neg (fun z => hz (by omega))]) (fun _ _ _ _ _ => rfl)
  have hs0 := f0.sd
  have ty0 : Ty (sI (sI S 8 18 0 (nI (lw W l).1)) 8 18 1 (nI 0)) 18 [] := by
    obtain ⟨x1, x2, x3, x4, x5, x6, x7, x8⟩ := hT8
    exact ⟨by rw [gI_sI, if_pos ⟨rfl, rfl, rfl⟩]; rfl, fun k hk => absurd hk (by simp), x1, x3, x4, x5, x6, by simp⟩
  have e7 : gI (sI (sI S 8 18 0 (nI (lw W l).1)) 8 18 1 (nI 0)) 1006 cc l = nI (lf W l) := (f0.I (by omega) (by omega)).trans (hcW.2.2.2.2.2.1 l (by omega))
  show Ok _ _ _ [] _ _
  refine r_aload_n (q := 14) dX3_isKept_13 rfl rfl rfl ?_
  refine r_getr (q := 17) (some (1006, cc)) ck9 dX3_isKept_14 rfl (k := 6) (by decide) wt324 rfl (hs0.e (show cc < 4 by omega)) (hs0.r (show cc < 4 by omega) (by decide)) ?_
  refine r_iload_n (q := 18) dX3_isKept_17 rfl rfl rfl ?_
  refine r_ialdN (q := 19) 19 (by decide) rfl dX3_isKept_18 rfl (hs0.e (show cc < 4 by omega)) (hs0.n rfl (show cc < 4 by omega)) (by omega) (by decide) ?_
  refine r_topi (y := nI (lf W l)) e7 ?_
  refine r_istore (q := 21) (L' := [some (zr 3 0), some (zr 9 cc), some (zi (nI l)), some (zr 0 s), some (zr 6 4), some (zi (nI (lf W l)))]) dX3_isKept_19 rfl (by decide) rfl ?_
  have fB : Fg (tBrk s) S (sI (sI S 8 18 0 (nI (lw W l).1)) 8 18 1 (nI 0)) := f0.mono fun a b k z => by unfold tBrk; omega
  refine lp_isKept hW hK him hs4 hn0 hl hc4 hPP (lw W l).2.length 0 _ [] (by omega) hs0 (hcW.fg f0 (fun a k ha => by omega)) (hc.fg f0 (fun a k ha => by omega)) (hB.fg f0 ⟨by omega, fun x k a b => by omega⟩) (hI.fg hW.2.1.1 f0 (fun b k hb => ⟨by omega, by omega, by omega⟩)) (hT6.fg4 f0 ⟨by omega, by omega, by omega⟩) (hT7.fg4 f0 ⟨by omega, by omega, by omega⟩) ty0 ⟨re_nil, fun p hp => absurd hp List.not_mem_nil⟩ (fun p hp => absurd hp List.not_mem_nil) Cg.rf (fun S1 c1 a1 a2 a3 a4 a5 => ?_)
  have e8 : gI S1 8 18 1 = nI c1.length := a2.1
  have hlen : c1.length ≤ 1200 := by obtain ⟨_, _, m, _, _, _, m4, m5⟩ := a2; omega
  by_cases h0 : c1.length = 0
  · have hb : kpB W Wk im l = true := kpB_t.mpr (a3.mp (List.length_eq_zero_iff.mp h0))
    refine r_aload_n (q := 83) dX3_isKept_82 rfl rfl rfl ?_
    refine r_getr (q := 86) (some (8, 18)) ck3 dX3_isKept_83 rfl (k := 4) (by decide) wt207 rfl (a1.sd.e (by decide)) (a1.sd.r (by decide) (by decide)) ?_
    refine r_geti (q := 89) ck8 dX3_isKept_86 rfl (k := 1) (by decide) wt63 (Or.inl rfl) (a1.sd.e (by decide)) ?_
    refine r_topi (y := nI c1.length) e8 ?_
    refine r_if_neN (q := 92) (t := 96) (by omega) dX3_isKept_89 (by decide) rfl (fun h89 => absurd h89 (by omega)) (fun h89 => ?_)
    refine r_iconst (q := 93) (nI 1) dX3_isKept_92 rfl (by decide) ?_
    refine r_goto (q := 97) dX3_isKept_93 (by decide) ?_
    refine r_zreturn (by decide) dX3_isKept_97 rfl ?_
    exact ⟨by rw [hb]; rfl, fB.tr a1, a4, a5, a2.tl⟩
  · have hb : kpB W Wk im l = false := by
      cases z : kpB W Wk im l with
      | false => rfl
      | true => exact absurd (by rw [a3.mpr (kpB_t.mp z)]; rfl) h0
    refine r_aload_n (q := 83) dX3_isKept_82 rfl rfl rfl ?_
    refine r_getr (q := 86) (some (8, 18)) ck3 dX3_isKept_83 rfl (k := 4) (by decide) wt207 rfl (a1.sd.e (by decide)) (a1.sd.r (by decide) (by decide)) ?_
    refine r_geti (q := 89) ck8 dX3_isKept_86 rfl (k := 1) (by decide) wt63 (Or.inl rfl) (a1.sd.e (by decide)) ?_
    refine r_topi (y := nI c1.length) e8 ?_
    refine r_if_neN (q := 92) (t := 96) (by omega) dX3_isKept_89 (by decide) rfl (fun h89 => ?_) (fun h89 => absurd h89 (by omega))
    refine r_iconst (q := 97) (nI 0) dX3_isKept_96 rfl (by decide) ?_
    refine r_zreturn (by decide) dX3_isKept_97 rfl ?_
    exact ⟨by rw [hb]; rfl, fB.tr a1, a4, a5, a2.tl⟩

/-- the least that is false, from j on -/
def BrD (f : Nat → Bool) (n j : Nat) (x : Int32) : Prop := (x = -1 ∧ ∀ l, j ≤ l → l < n → f l = true) ∨ ∃ l, j ≤ l ∧ l < n ∧ f l = false ∧ (∀ i, j ≤ i → i < l → f i = true) ∧ x = nI l
theorem BrD.uniq {f : Nat → Bool} {n : Nat} {x y : Int32} (h : BrD f n 0 x) (g : BrD f n 0 y) : x = y := by
  rcases h with ⟨h1, h2⟩ | ⟨l, h1, h2, h3, h4, h5⟩ <;> rcases g with ⟨g1, g2⟩ | ⟨m, g1, g2, g3, g4, g5⟩
  · rw [h1, g1]
  · have := h2 m g1 g2
    rw [this] at g3; cases g3
  · have := g2 l h1 h2
    rw [this] at h3; cases h3
  · have : l = m := by
      rcases Nat.lt_trichotomy l m with q | q | q
      · have := g4 l h1 q
        rw [this] at h3; cases h3
      · exact q
      · have := h4 m g1 q
        rw [this] at g3; cases g3
    rw [h5, g5, this]
def cntK (f : Nat → Bool) (n : Nat) : Nat := sm (fun l => b01 (f l)) n
theorem cntK_le {f : Nat → Bool} : ∀ n, cntK f n ≤ n
  | 0 => Nat.le_refl _
  | n + 1 => by
    have := cntK_le (f := f) n
    show cntK f n + b01 (f n) ≤ n + 1
    unfold b01
    split <;> omega

set_option maxRecDepth 100000 in
theorem lp_bringLaws {W Wk : zWd} (hW : Wok W) (hK : Wok Wk) {im : Nat → List zT} (him : ImW W Wk im) {s : Nat} (hs4 : s < 4) {n0 : Nat} {mk : Nat → Nat → Nat} {rl : Nat → Nat → Nat → Nat} (hn0 : ∀ l, l < wL W → (lw W l).1 ≤ n0) {cc : Nat} (hc4 : cc < 4) (hPP : wP W = wP Wk) : ∀ (j kp : Nat) (x : Int32) (S : zS), x = nI j - 1 → j ≤ wL W → kp + cntK (kpB W Wk im) j = cntK (kpB W Wk im) (wL W) → Sd S → WC S cc W → WC S s Wk → CB S s Wk n0 mk rl → ImC S W im → TL S 16 → TL S 17 → TL S 18 → BrD (kpB W Wk im) (wL W) j (gI S 3 0 1) → Ok mX3_bringLaws 16 [some (zr 3 0), some (zr 9 cc), some (zr 0 s), some (zr 6 4), some (zi (nI kp)), some (zi x)] [] S (fun r S1 => r = some (zi (nI (cntK (kpB W Wk im) (wL W)))) ∧ Fg (fun a b k => tBrk s a b k ∨ a = 3 ∧ k = 1) S S1 ∧ BrD (kpB W Wk im) (wL W) 0 (gI S1 3 0 1) ∧ TL S1 16 ∧ TL S1 17 ∧ TL S1 18) := by
  intro j
  have h18 := hW.2.2.2.1
  have hcl := cntK_le (f := kpB W Wk im) (wL W)
  induction j with
  | zero =>
    intro kp x S hx hj hk hs hcW hc hB hI hT6 hT7 hT8 hbr
    have ek : kp = cntK (kpB W Wk im) (wL W) := hk
    refine r_iload (q := 18) dX3_bringLaws_16 rfl rfl ?_
    refine r_if_lt (q := 21) (t := 51) dX3_bringLaws_18 (by decide) rfl (fun h18 => ?_) (fun h18 => absurd h18 (by rw [hx]; decide))
    refine r_iload (q := 53) dX3_bringLaws_51 rfl rfl ?_
    refine r_ireturn dX3_bringLaws_53 rfl ?_
    exact ⟨by rw [ek], Fg.rf hs, hbr, hT6, hT7, hT8⟩
  | succ j ih =>
    intro kp x S hx hj hk hs hcW hc hB hI hT6 hT7 hT8 hbr
    have hcs : cntK (kpB W Wk im) (j + 1) = cntK (kpB W Wk im) j + b01 (kpB W Wk im j) := rfl
    have hx2 : x = nI j := hx.trans (nI_pred _)
    subst hx2
    cases hb : kpB W Wk im j with
    | true =>
      refine r_iload (q := 18) dX3_bringLaws_16 rfl rfl ?_
      refine r_if_ltN (q := 21) (t := 51) (by omega) dX3_bringLaws_18 (by decide) rfl ?_
      refine r_aload_n (q := 22) dX3_bringLaws_21 rfl rfl rfl ?_
      refine r_aload_n (q := 23) dX3_bringLaws_22 rfl rfl rfl ?_
      refine r_iload (q := 25) dX3_bringLaws_23 rfl rfl ?_
      refine r_aload_n (q := 26) dX3_bringLaws_25 rfl rfl rfl ?_
      refine r_aload_n (q := 27) dX3_bringLaws_26 rfl rfl rfl ?_
      refine r_callV (Mc := mX3_isKept) (q := 30) (As := [zr 9 cc, zi (nI j), zr 0 s, zr 6 4]) (st := []) ck3 dX3_bringLaws_27 rfl rfl mkX3_isKept wt1061 wt1063 wp57 rfl (Nat.le_of_ble_eq_true rfl) (Nat.le_of_ble_eq_true rfl) (by decide) (by decide) (by decide) (Or.inr ⟨Nat.le_of_ble_eq_true rfl, rfl, rfl⟩) (hs.e (by decide)) (ok_isKept hW hK him hs4 (hn0 j (by omega)) (by omega) hc4 hPP hs hcW hc hB hI hT6 hT7 hT8) (fun r27 S27 hp27 => ?_)
      obtain ⟨rfl, f1, t1, t2, t3⟩ := hp27
      rw [hb]
      have hs1 := f1.sd
      show Ok _ _ _ [zi (nI 1)] _ _
      refine r_if_eqN (q := 33) (t := 39) (by omega) dX3_bringLaws_30 (by decide) rfl (fun h30 => absurd h30 (by omega)) (fun h30 => ?_)
      refine r_iincN (q := 36) (L' := [some (zr 3 0), some (zr 9 cc), some (zr 0 s), some (zr 6 4), some (zi (nI (kp + 1))), some (zi (nI j))]) 1 rfl dX3_bringLaws_33 rfl rfl (by decide) rfl ?_
      refine r_goto (q := 45) dX3_bringLaws_36 (by decide) ?_
      skip
      refine r_iinc (q := 48) (L' := [some (zr 3 0), some (zr 9 cc), some (zr 0 s), some (zr 6 4), some (zi (nI (kp + 1))), some (zi ((nI j) + (-1)))]) ((nI j) + (-1)) dX3_bringLaws_45 rfl rfl (by decide) rfl rfl ?_
      refine r_goto (q := 16) dX3_bringLaws_48 (by decide) ?_
      refine Ok.mono (ih (kp + 1) _ S27 (Int32.sub_eq_add_neg _ _).symm (by omega) (by rw [hcs, hb] at hk; show kp + 1 + _ = _; unfold b01 at hk; rw [if_pos rfl] at hk; omega) hs1 (hcW.fg f1 (fun a k ha => by unfold tBrk; omega)) (hc.fg f1 (fun a k ha => by unfold tBrk; omega)) (hB.fg f1 ⟨by unfold tBrk; omega, fun x k a b => by unfold tBrk; omega⟩) (hI.fg hW.2.1.1 f1 (fun b k hb => ⟨by unfold tBrk; omega, by unfold tBrk; omega, by unfold tBrk; omega⟩)) t1 t2 t3 ?_) (fun r S1 z => ⟨z.1, (f1.mono fun a b k y => Or.inl y).tr z.2.1, z.2.2⟩)
      rw [f1.I (by omega) (by unfold tBrk; omega)]
      rcases hbr with ⟨b1, b2⟩ | ⟨l, b1, b2, b3, b4, b5⟩
      · exact Or.inl ⟨b1, fun l l1 l2 => by
          by_cases e : l = j
          · rw [e]; exact hb
          · exact b2 l (by omega) l2⟩
      · exact Or.inr ⟨l, by omega, b2, b3, fun i i1 i2 => by
          by_cases e : i = j
          · rw [e]; exact hb
          · exact b4 i (by omega) i2, b5⟩
    | false =>
      refine r_iload (q := 18) dX3_bringLaws_16 rfl rfl ?_
      refine r_if_ltN (q := 21) (t := 51) (by omega) dX3_bringLaws_18 (by decide) rfl ?_
      refine r_aload_n (q := 22) dX3_bringLaws_21 rfl rfl rfl ?_
      refine r_aload_n (q := 23) dX3_bringLaws_22 rfl rfl rfl ?_
      refine r_iload (q := 25) dX3_bringLaws_23 rfl rfl ?_
      refine r_aload_n (q := 26) dX3_bringLaws_25 rfl rfl rfl ?_
      refine r_aload_n (q := 27) dX3_bringLaws_26 rfl rfl rfl ?_
      refine r_callV (Mc := mX3_isKept) (q := 30) (As := [zr 9 cc, zi (nI j), zr 0 s, zr 6 4]) (st := []) ck3 dX3_bringLaws_27 rfl rfl mkX3_isKept wt1061 wt1063 wp57 rfl (Nat.le_of_ble_eq_true rfl) (Nat.le_of_ble_eq_true rfl) (by decide) (by decide) (by decide) (Or.inr ⟨Nat.le_of_ble_eq_true rfl, rfl, rfl⟩) (hs.e (by decide)) (ok_isKept hW hK him hs4 (hn0 j (by omega)) (by omega) hc4 hPP hs hcW hc hB hI hT6 hT7 hT8) (fun r27 S27 hp27 => ?_)
      obtain ⟨rfl, f1, t1, t2, t3⟩ := hp27
      rw [hb]
      have hs1 := f1.sd
      show Ok _ _ _ [zi (nI 0)] _ _
      refine r_if_eqN (q := 33) (t := 39) (by omega) dX3_bringLaws_30 (by decide) rfl (fun h30 => ?_) (fun h30 => absurd h30 (by omega))
      refine r_aload_n (q := 40) dX3_bringLaws_39 rfl rfl rfl ?_
      refine r_iload (q := 42) dX3_bringLaws_40 rfl rfl ?_
      refine r_puti (q := 45) ck3 dX3_bringLaws_42 rfl (k := 1) (by decide) wt203 (Or.inl rfl) rfl (hs1.e (by decide)) ?_
      skip
      refine r_iinc (q := 48) (L' := [some (zr 3 0), some (zr 9 cc), some (zr 0 s), some (zr 6 4), some (zi (nI kp)), some (zi ((nI j) + (-1)))]) ((nI j) + (-1)) dX3_bringLaws_45 rfl rfl (by decide) rfl rfl ?_
      refine r_goto (q := 16) dX3_bringLaws_48 (by decide) ?_
      have f2 : Fg (fun a b k => a = 3 ∧ b = 0 ∧ k = 1) S27 (sI S27 3 0 1 (nI j)) := Fg.of22 hs1 rfl (fun a b k _ hz => by rw [gI_sI, if_neg (fun z => hz (by omega))]) (fun _ _ _ _ _ => rfl)
      have fA : Fg (fun a b k => tBrk s a b k ∨ a = 3 ∧ k = 1) S (sI S27 3 0 1 (nI j)) := (f1.mono fun a b k y => Or.inl y).tr (f2.mono fun a b k y => by omega)
      refine Ok.mono (ih kp _ (sI S27 3 0 1 (nI j)) (Int32.sub_eq_add_neg _ _).symm (by omega) (by rw [hcs, hb] at hk; unfold b01 at hk; rw [if_neg (by decide)] at hk; omega) f2.sd (hcW.fg fA (fun a k ha => by unfold tBrk; omega)) (hc.fg fA (fun a k ha => by unfold tBrk; omega)) (hB.fg fA ⟨by unfold tBrk; omega, fun x k a b => by unfold tBrk; omega⟩) (hI.fg hW.2.1.1 fA (fun b k hb => ⟨by unfold tBrk; omega, by unfold tBrk; omega, by unfold tBrk; omega⟩)) (t1.fg4 f2 ⟨by omega, by omega, by omega⟩) (t2.fg4 f2 ⟨by omega, by omega, by omega⟩) (t3.fg4 f2 ⟨by omega, by omega, by omega⟩) ?_) (fun r S1 z => ⟨z.1, fA.tr z.2.1, z.2.2⟩)
      exact Or.inr ⟨j, Nat.le_refl _, by omega, hb, fun i i1 i2 => absurd i1 (by omega), by rw [gI_sI, if_pos ⟨rfl, rfl, rfl⟩]⟩

set_option maxRecDepth 100000 in
theorem ok_bringLaws {W Wk : zWd} (hW : Wok W) (hK : Wok Wk) {im : Nat → List zT} (him : ImW W Wk im) {s : Nat} (hs4 : s < 4) {n0 : Nat} {mk : Nat → Nat → Nat} {rl : Nat → Nat → Nat → Nat} (hn0 : ∀ l, l < wL W → (lw W l).1 ≤ n0) {cc : Nat} (hc4 : cc < 4) (hPP : wP W = wP Wk) {S : zS} (hs : Sd S) (hcW : WC S cc W) (hc : WC S s Wk) (hB : CB S s Wk n0 mk rl) (hI : ImC S W im) (hT6 : TL S 16) (hT7 : TL S 17) (hT8 : TL S 18) : Ok mX3_bringLaws 0 (ent 6 [zr 3 0, zr 9 cc, zr 0 s, zr 6 4]) [] S (fun r S1 => r = some (zi (nI (cntK (kpB W Wk im) (wL W)))) ∧ Fg (fun a b k => tBrk s a b k ∨ a = 3 ∧ k = 1) S S1 ∧ BrD (kpB W Wk im) (wL W) 0 (gI S1 3 0 1) ∧ TL S1 16 ∧ TL S1 17 ∧ TL S1 18) := by
  have h18 := hW.2.2.2.1
  show Ok mX3_bringLaws 0 [some (zr 3 0), some (zr 9 cc), some (zr 0 s), some (zr 6 4), none, none] [] S _
  refine r_iconst (q := 1) (nI 0) dX3_bringLaws_0 rfl (by decide) ?_
  refine r_istore (q := 3) (L' := [some (zr 3 0), some (zr 9 cc), some (zr 0 s), some (zr 6 4), some (zi (nI 0)), none]) dX3_bringLaws_1 rfl (by decide) rfl ?_
  refine r_aload_n (q := 4) dX3_bringLaws_3 rfl rfl rfl ?_
  refine r_iconst (q := 5) ((-1 : Int32)) dX3_bringLaws_4 rfl (by decide) ?_
  refine r_puti (q := 8) ck3 dX3_bringLaws_5 rfl (k := 1) (by decide) wt203 (Or.inl rfl) rfl (hs.e (by decide)) ?_
  refine r_aload_n (q := 9) dX3_bringLaws_8 rfl rfl rfl ?_
  refine r_geti (q := 12) ck9 dX3_bringLaws_9 rfl (k := 4) (by decide) wt311 (Or.inl rfl) (hs.e (show cc < 4 by omega)) ?_
  refine r_topi (y := gI S 9 cc 4) (by simp [gI_sI, gJ_sJ, gI_sJ, gJ_sI]) ?_
  refine r_topi (y := nI (wL W)) hcW.2.2.1 ?_
  refine r_iconst (q := 13) (nI 1) dX3_bringLaws_12 rfl (by decide) ?_
  refine r_isub (q := 14) dX3_bringLaws_13 rfl ?_
  refine r_istore (q := 16) (L' := [some (zr 3 0), some (zr 9 cc), some (zr 0 s), some (zr 6 4), some (zi (nI 0)), some (zi ((nI (wL W)) - (nI 1)))]) dX3_bringLaws_14 rfl (by decide) rfl ?_
  have f2 : Fg (fun a b k => a = 3 ∧ b = 0 ∧ k = 1) S (sI S 3 0 1 (-1 : Int32)) := Fg.of22 hs rfl (fun a b k _ hz => by rw [gI_sI, if_neg (fun z => hz (by omega))]) (fun _ _ _ _ _ => rfl)
  have fA : Fg (fun a b k => tBrk s a b k ∨ a = 3 ∧ k = 1) S (sI S 3 0 1 (-1 : Int32)) := f2.mono fun a b k y => by omega
  exact Ok.mono (lp_bringLaws hW hK him hs4 hn0 hc4 hPP (wL W) 0 _ (sI S 3 0 1 (-1 : Int32)) rfl (Nat.le_refl _) (Nat.zero_add _) f2.sd (hcW.fg fA (fun a k ha => by unfold tBrk; omega)) (hc.fg fA (fun a k ha => by unfold tBrk; omega)) (hB.fg fA ⟨by unfold tBrk; omega, fun x k a b => by unfold tBrk; omega⟩) (hI.fg hW.2.1.1 fA (fun b k hb => ⟨by unfold tBrk; omega, by unfold tBrk; omega, by unfold tBrk; omega⟩)) (hT6.fg4 f2 ⟨by omega, by omega, by omega⟩) (hT7.fg4 f2 ⟨by omega, by omega, by omega⟩) (hT8.fg4 f2 ⟨by omega, by omega, by omega⟩) (Or.inl ⟨by rw [gI_sI, if_pos ⟨rfl, rfl, rfl⟩], fun l l1 l2 => absurd l1 (by omega)⟩)) (fun r S1 z => ⟨z.1, fA.tr z.2.1, z.2.2⟩)

