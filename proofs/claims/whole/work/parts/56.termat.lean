def Tq (S : zS) (l : List Nat) : Prop := ∀ i, i < l.length → gI S 1359 0 i = nI (l.getD i 0)
def tWq (a b k : Nat) : Bool := (a == 1359 || a == 1360 || a == 1316 || a == 12 && k == 20) && b == 0
def Mq (S : zS) : List Nat → Prop
  | [] => True
  | l :: st => gI S 1360 0 st.length = nI l ∧ 1 ≤ l ∧ l ≤ 4 ∧ Mq S st
theorem Mq.cong {S S1 : zS} : ∀ {st : List Nat}, Mq S st → (∀ i, i < st.length → gI S1 1360 0 i = gI S 1360 0 i) → Mq S1 st
  | [], _, _ => trivial
  | l :: st, h, hc => ⟨(hc st.length (by simp)).trans h.1, h.2.1, h.2.2.1, h.2.2.2.cong fun i hi => hc i (by rw [List.length_cons]; omega)⟩
theorem Tq.snoc {S : zS} {l : List Nat} (h : Tq S l) (v : Nat) : Tq (sI S 1359 0 l.length (nI v)) (l ++ [v]) := fun i hi => by
  rw [List.length_append, List.length_singleton] at hi
  rw [gI_sI, getD_appN]
  by_cases h' : i = l.length
  · rw [if_pos ⟨rfl, rfl, h'⟩, if_neg (by omega), h', Nat.sub_self]; rfl
  · rw [if_neg (fun z => h' z.2.2), if_pos (by omega)]; exact h i (by omega)

set_option maxRecDepth 100000 in
theorem lp_rname {Po : Option zV → zS → Prop} {c : Int32} {x dp k : Nat} (hx48 : x < 2 ^ 48) : ∀ (d : Nat) (S : zS) (l : List Nat), d ≤ 5 → Sd S → Tq S l → l.length + (d + 1) ≤ 120 → (∀ S', Fr tWq S S' → (∀ a b z, a ≠ 1359 → gI S' a b z = gI S a b z) → Tq S' (l ++ nmF x (d + 1)) → Ok mX12_write 98 [some (zr 12 0), some (zi c), some (zi (nI ((l ++ nmF x (d + 1)).length))), some (zi (nI dp)), some (zi (nI k)), some (zl (lN x)), none, none] [] S' Po) → Ok mX12_write 51 [some (zr 12 0), some (zi c), some (zi (nI l.length)), some (zi (nI dp)), some (zi (nI k)), some (zl (lN x)), none, some (zi (nI (8 * d)))] [] S Po := by
  intro d
  induction d with
  | zero =>
    intro S l hd hs hx hl K
    have hb : x / 2 ^ (0) ≤ x := Nat.div_le_self _ _
    have hm := Nat.mod_lt (x / 2 ^ (0)) (show 0 < 256 by omega)
    refine r_iload (q := 53) dX12_write_51 rfl rfl ?_
    refine r_if_ltN (q := 56) (t := 98) (by omega) dX12_write_53 (by decide) rfl ?_
    refine r_lload (q := 58) dX12_write_56 rfl rfl ?_
    refine r_iload (q := 60) dX12_write_58 rfl rfl ?_
    refine r_lshr (q := 61) dX12_write_60 rfl ?_
    refine r_topl (y := lN (x / 2 ^ 0)) (lsr_N (by omega) (by omega)) ?_
    refine r_ldc2 (q := 64) (255 : Int64) dX12_write_61 rfl wt1746 ?_
    refine r_topl (y := lN 255) rfl ?_
    refine r_land (q := 65) dX12_write_64 rfl ?_
    refine r_topl (y := lN ((x / 2 ^ 0) % 256)) (wb_mask (k := 8) (by omega) (by decide)) ?_
    refine r_lconst (q := 66) (0 : Int64) dX12_write_65 rfl rfl ?_
    refine r_topl (y := lN 0) rfl ?_
    refine r_lcmp (q := 67) dX12_write_66 rfl ?_
    refine r_if_ne (q := 70) (t := 73) dX12_write_67 (by decide) rfl (fun h67 => ?_) (fun h67 => ?_)
    · skip
      have hne := (lcmp_ne (show x / 2 ^ (0) % 256 < 2 ^ 63 by omega) (by omega)).mp h67
      refine r_aload_n (q := 74) dX12_write_73 rfl rfl rfl ?_
      refine r_getr (q := 77) (some (1359, 0)) ck12 dX12_write_74 rfl (k := 59) (by decide) wt1337 rfl (hs.e (by decide)) (hs.r (by decide) (by decide)) ?_
      refine r_iload_n (q := 78) dX12_write_77 rfl rfl rfl ?_
      refine r_lload (q := 80) dX12_write_78 rfl rfl ?_
      refine r_iload (q := 82) dX12_write_80 rfl rfl ?_
      refine r_lshr (q := 83) dX12_write_82 rfl ?_
      refine r_topl (y := lN (x / 2 ^ 0)) (lsr_N (by omega) (by omega)) ?_
      refine r_ldc2 (q := 86) (255 : Int64) dX12_write_83 rfl wt1746 ?_
      refine r_topl (y := lN 255) rfl ?_
      refine r_land (q := 87) dX12_write_86 rfl ?_
      refine r_topl (y := lN ((x / 2 ^ 0) % 256)) (wb_mask (k := 8) (by omega) (by decide)) ?_
      refine r_l2i (q := 88) dX12_write_87 rfl ?_
      refine r_topi (y := nI ((x / 2 ^ 0) % 256)) (lN_i _) ?_
      refine r_iastN (q := 89) 120 (by decide) rfl dX12_write_88 rfl (hs.e (by decide)) (hs.n rfl (by decide)) (by omega) (by decide) ?_
      refine r_iincN (q := 92) (L' := [some (zr 12 0), some (zi c), some (zi (nI (l.length + 1))), some (zi (nI dp)), some (zi (nI k)), some (zl (lN x)), none, some (zi (nI 0))]) 1 rfl dX12_write_89 rfl rfl (by decide) rfl ?_
      refine r_iinc (q := 95) (L' := [some (zr 12 0), some (zi c), some (zi (nI (l.length + 1))), some (zi (nI dp)), some (zi (nI k)), some (zl (lN x)), none, some (zi (-8 : Int32))]) (-8 : Int32) dX12_write_92 rfl rfl (by decide) (by decide) rfl ?_
      refine r_goto (q := 51) dX12_write_95 (by decide) ?_
      refine r_iload (q := 53) dX12_write_51 rfl rfl ?_
      refine r_if_lt (q := 56) (t := 98) dX12_write_53 (by decide) rfl (fun h53 => ?_) (fun h53 => absurd h53 (by decide))
      refine r_mask [true, true, true, true, true, true, true, false] rfl ?_
      have e1 : nmF x 1 = [x / 2 ^ 0 % 256] := by rw [nmF, nmF, if_neg hne]; rfl
      have K' := K (sI S 1359 0 l.length (nI ((x / 2 ^ 0) % 256))) (Fr.rf.i rfl) (fun a b z hz => by rw [gI_sI, if_neg (fun q => hz q.1)]) (by rw [show (0 : Nat) + 1 = 1 from rfl, e1]; exact hx.snoc _)
      rw [show (0 : Nat) + 1 = 1 from rfl, e1, List.length_append] at K'
      exact K'
    · skip
      have heq : x / 2 ^ (0) % 256 = 0 := Decidable.byContradiction (fun z => h67 ((lcmp_ne (show x / 2 ^ (0) % 256 < 2 ^ 63 by omega) (by omega)).mpr z))
      refine r_goto (q := 92) dX12_write_70 (by decide) ?_
      refine r_iinc (q := 95) (L' := [some (zr 12 0), some (zi c), some (zi (nI l.length)), some (zi (nI dp)), some (zi (nI k)), some (zl (lN x)), none, some (zi (-8 : Int32))]) (-8 : Int32) dX12_write_92 rfl rfl (by decide) (by decide) rfl ?_
      refine r_goto (q := 51) dX12_write_95 (by decide) ?_
      refine r_iload (q := 53) dX12_write_51 rfl rfl ?_
      refine r_if_lt (q := 56) (t := 98) dX12_write_53 (by decide) rfl (fun h53 => ?_) (fun h53 => absurd h53 (by decide))
      refine r_mask [true, true, true, true, true, true, true, false] rfl ?_
      have e1 : nmF x 1 = [] := by rw [nmF, nmF, if_pos heq]; rfl
      have K' := K S Fr.rf (fun _ _ _ _ => rfl)
      rw [show (0 : Nat) + 1 = 1 from rfl, e1, List.append_nil] at K'
      exact K' hx
  | succ d ih =>
    intro S l hd hs hx hl K
    have hb : x / 2 ^ (8 * (d + 1)) ≤ x := Nat.div_le_self _ _
    have hm := Nat.mod_lt (x / 2 ^ (8 * (d + 1))) (show 0 < 256 by omega)
    refine r_iload (q := 53) dX12_write_51 rfl rfl ?_
    refine r_if_ltN (q := 56) (t := 98) (by omega) dX12_write_53 (by decide) rfl ?_
    refine r_lload (q := 58) dX12_write_56 rfl rfl ?_
    refine r_iload (q := 60) dX12_write_58 rfl rfl ?_
    refine r_lshr (q := 61) dX12_write_60 rfl ?_
    refine r_topl (y := lN (x / 2 ^ (8 * (d + 1)))) (lsr_N (by omega) (by omega)) ?_
    refine r_ldc2 (q := 64) (255 : Int64) dX12_write_61 rfl wt1746 ?_
    refine r_topl (y := lN 255) rfl ?_
    refine r_land (q := 65) dX12_write_64 rfl ?_
    refine r_topl (y := lN ((x / 2 ^ (8 * (d + 1))) % 256)) (wb_mask (k := 8) (by omega) (by decide)) ?_
    refine r_lconst (q := 66) (0 : Int64) dX12_write_65 rfl rfl ?_
    refine r_topl (y := lN 0) rfl ?_
    refine r_lcmp (q := 67) dX12_write_66 rfl ?_
    refine r_if_ne (q := 70) (t := 73) dX12_write_67 (by decide) rfl (fun h67 => ?_) (fun h67 => ?_)
    · skip
      have hne := (lcmp_ne (show x / 2 ^ (8 * (d + 1)) % 256 < 2 ^ 63 by omega) (by omega)).mp h67
      refine r_aload_n (q := 74) dX12_write_73 rfl rfl rfl ?_
      refine r_getr (q := 77) (some (1359, 0)) ck12 dX12_write_74 rfl (k := 59) (by decide) wt1337 rfl (hs.e (by decide)) (hs.r (by decide) (by decide)) ?_
      refine r_iload_n (q := 78) dX12_write_77 rfl rfl rfl ?_
      refine r_lload (q := 80) dX12_write_78 rfl rfl ?_
      refine r_iload (q := 82) dX12_write_80 rfl rfl ?_
      refine r_lshr (q := 83) dX12_write_82 rfl ?_
      refine r_topl (y := lN (x / 2 ^ (8 * (d + 1)))) (lsr_N (by omega) (by omega)) ?_
      refine r_ldc2 (q := 86) (255 : Int64) dX12_write_83 rfl wt1746 ?_
      refine r_topl (y := lN 255) rfl ?_
      refine r_land (q := 87) dX12_write_86 rfl ?_
      refine r_topl (y := lN ((x / 2 ^ (8 * (d + 1))) % 256)) (wb_mask (k := 8) (by omega) (by decide)) ?_
      refine r_l2i (q := 88) dX12_write_87 rfl ?_
      refine r_topi (y := nI ((x / 2 ^ (8 * (d + 1))) % 256)) (lN_i _) ?_
      refine r_iastN (q := 89) 120 (by decide) rfl dX12_write_88 rfl (hs.e (by decide)) (hs.n rfl (by decide)) (by omega) (by decide) ?_
      refine r_iincN (q := 92) (L' := [some (zr 12 0), some (zi c), some (zi (nI (l.length + 1))), some (zi (nI dp)), some (zi (nI k)), some (zl (lN x)), none, some (zi (nI (8 * (d + 1))))]) 1 rfl dX12_write_89 rfl rfl (by decide) rfl ?_
      refine r_idecN (q := 95) (L' := [some (zr 12 0), some (zi c), some (zi (nI (l.length + 1))), some (zi (nI dp)), some (zi (nI k)), some (zl (lN x)), none, some (zi (nI (8 * (d + 1) - 8)))]) 8 (by omega) rfl dX12_write_92 rfl rfl (by decide) rfl ?_
      refine r_goto (q := 51) dX12_write_95 (by decide) ?_
      rw [show 8 * (d + 1) - 8 = 8 * d by omega]
      rw [nmF, if_neg hne] at K
      have q := ih _ (l ++ [x / 2 ^ (8 * (d + 1)) % 256]) (by omega) (show Sd (sI S 1359 0 l.length (nI (x / 2 ^ (8 * (d + 1)) % 256))) from hs) (hx.snoc _) (by simp; omega) (fun S' f1 f2 f3 => by rw [List.append_assoc] at f3 ⊢; exact K S' ((Fr.rf.i rfl).tr f1) (fun a b z hz => by rw [f2 a b z hz, gI_sI, if_neg (fun q => hz q.1)]) f3)
      rw [List.length_append, List.length_singleton] at q
      exact q
    · skip
      have heq : x / 2 ^ (8 * (d + 1)) % 256 = 0 := Decidable.byContradiction (fun z => h67 ((lcmp_ne (show x / 2 ^ (8 * (d + 1)) % 256 < 2 ^ 63 by omega) (by omega)).mpr z))
      refine r_goto (q := 92) dX12_write_70 (by decide) ?_
      refine r_idecN (q := 95) (L' := [some (zr 12 0), some (zi c), some (zi (nI l.length)), some (zi (nI dp)), some (zi (nI k)), some (zl (lN x)), none, some (zi (nI (8 * (d + 1) - 8)))]) 8 (by omega) rfl dX12_write_92 rfl rfl (by decide) rfl ?_
      refine r_goto (q := 51) dX12_write_95 (by decide) ?_
      rw [show 8 * (d + 1) - 8 = 8 * d by omega]
      rw [nmF, if_pos heq, List.nil_append] at K
      exact ih S l (by omega) hs hx (by omega) K

set_option maxRecDepth 100000 in
theorem lp_rclo {Po : Option zV → zS → Prop} {c : Int32} {k : Nat} : ∀ (st : List Nat) (S : zS) (l : List Nat), Sd S → st.length ≤ 6 → Mq S st → Tq S l → l.length + st.length + 1 ≤ 120 → (∀ S', Fr tWq S S' → (∀ a b z, a ≠ 1359 → a ≠ 1360 → gI S' a b z = gI S a b z) → Tq S' (l ++ (clo st).1) → Mq S' (clo st).2 → Ok mX12_write 211 [some (zr 12 0), some (zi c), some (zi (nI ((l ++ (clo st).1).length))), some (zi (nI ((clo st).2.length))), some (zi (nI k)), none, none, none] [] S' Po) → Ok mX12_write 148 [some (zr 12 0), some (zi c), some (zi (nI l.length)), some (zi (nI st.length)), some (zi (nI k)), none, none, none] [] S Po := by
  intro st
  induction st with
  | nil =>
    intro S l hs h6 hm hx hl K
    rw [clo, List.append_nil] at K
    show Ok mX12_write 148 [some (zr 12 0), some (zi c), some (zi (nI l.length)), some (zi (nI 0)), some (zi (nI k)), none, none, none] [] S Po
    refine r_iload_n (q := 149) dX12_write_148 rfl rfl rfl ?_
    refine r_if_leN (q := 152) (t := 211) (by omega) dX12_write_149 (by decide) rfl (fun h149 => ?_) (fun h149 => absurd h149 (by omega))
    exact K S Fr.rf (fun _ _ _ _ _ => rfl) hx trivial
  | cons v st ih =>
    intro S l hs h6 hm hx hl K
    rw [List.length_cons] at h6 hl
    obtain ⟨m1, m2, m3, m4⟩ := hm
    show Ok mX12_write 148 [some (zr 12 0), some (zi c), some (zi (nI l.length)), some (zi (nI (st.length + 1))), some (zi (nI k)), none, none, none] [] S Po
    refine r_iload_n (q := 149) dX12_write_148 rfl rfl rfl ?_
    refine r_if_leN (q := 152) (t := 211) (by omega) dX12_write_149 (by decide) rfl (fun h149 => absurd h149 (by omega)) (fun h149 => ?_)
    refine r_aload_n (q := 153) dX12_write_152 rfl rfl rfl ?_
    refine r_getr (q := 156) (some (1360, 0)) ck12 dX12_write_153 rfl (k := 60) (by decide) wt1338 rfl (hs.e (by decide)) (hs.r (by decide) (by decide)) ?_
    refine r_iload_n (q := 157) dX12_write_156 rfl rfl rfl ?_
    refine r_iconst (q := 158) (nI 1) dX12_write_157 rfl (by decide) ?_
    refine r_isubN (q := 159) (by omega) dX12_write_158 rfl ?_
    refine r_topi (y := nI st.length) (congrArg nI (by omega)) ?_
    refine r_dup2 (q := 160) dX12_write_159 rfl rfl rfl ?_
    refine r_ialdN (q := 161) 8 (by decide) rfl dX12_write_160 rfl (hs.e (by decide)) (hs.n rfl (by decide)) (by omega) (by decide) ?_
    refine r_topi (y := nI v) m1 ?_
    refine r_iconst (q := 162) (nI 1) dX12_write_161 rfl (by decide) ?_
    refine r_isubN (q := 163) (by omega) dX12_write_162 rfl ?_
    refine r_iastN (q := 164) 8 (by decide) rfl dX12_write_163 rfl (hs.e (by decide)) (hs.n rfl (by decide)) (by omega) (by decide) ?_
    refine r_aload_n (q := 165) dX12_write_164 rfl rfl rfl ?_
    refine r_getr (q := 168) (some (1359, 0)) ck12 dX12_write_165 rfl (k := 59) (by decide) wt1337 rfl (hs.e (by decide)) (hs.r (by decide) (by decide)) ?_
    refine r_iload_n (q := 169) dX12_write_168 rfl rfl rfl ?_
    refine r_aload_n (q := 170) dX12_write_169 rfl rfl rfl ?_
    refine r_getr (q := 173) (some (1360, 0)) ck12 dX12_write_170 rfl (k := 60) (by decide) wt1338 rfl (hs.e (by decide)) (hs.r (by decide) (by decide)) ?_
    refine r_iload_n (q := 174) dX12_write_173 rfl rfl rfl ?_
    refine r_iconst (q := 175) (nI 1) dX12_write_174 rfl (by decide) ?_
    refine r_isubN (q := 176) (by omega) dX12_write_175 rfl ?_
    refine r_topi (y := nI st.length) (congrArg nI (by omega)) ?_
    refine r_ialdN (q := 177) 8 (by decide) rfl dX12_write_176 rfl (hs.e (by decide)) (hs.n rfl (by decide)) (by omega) (by decide) ?_
    refine r_topi (y := nI (v - 1)) (by repeat (first | rw [gI_sI, if_neg (by omega)] | rw [gI_sI, if_pos ⟨rfl, rfl, rfl⟩] | rw [gJ_sJ, if_neg (by omega)] | rw [gJ_sJ, if_pos ⟨rfl, rfl, rfl⟩] | rw [gI_sJ] | rw [gJ_sI])) ?_
    refine r_if_leN (q := 180) (t := 185) (by omega) dX12_write_177 (by decide) rfl (fun h177 => ?_) (fun h177 => ?_)
    · skip
      refine r_bipush (q := 187) (nI 41) dX12_write_185 rfl (by decide) ?_
      refine r_iastN (q := 188) 120 (by decide) rfl dX12_write_187 rfl (hs.e (by decide)) (hs.n rfl (by decide)) (by omega) (by decide) ?_
      refine r_iincN (q := 191) (L' := [some (zr 12 0), some (zi c), some (zi (nI (l.length + 1))), some (zi (nI (st.length + 1))), some (zi (nI k)), none, none, none]) 1 rfl dX12_write_188 rfl rfl (by decide) rfl ?_
      refine r_aload_n (q := 192) dX12_write_191 rfl rfl rfl ?_
      refine r_getr (q := 195) (some (1360, 0)) ck12 dX12_write_192 rfl (k := 60) (by decide) wt1338 rfl (hs.e (by decide)) (hs.r (by decide) (by decide)) ?_
      refine r_iload_n (q := 196) dX12_write_195 rfl rfl rfl ?_
      refine r_iconst (q := 197) (nI 1) dX12_write_196 rfl (by decide) ?_
      refine r_isubN (q := 198) (by omega) dX12_write_197 rfl ?_
      refine r_topi (y := nI st.length) (congrArg nI (by omega)) ?_
      refine r_ialdN (q := 199) 8 (by decide) rfl dX12_write_198 rfl (hs.e (by decide)) (hs.n rfl (by decide)) (by omega) (by decide) ?_
      refine r_topi (y := nI (v - 1)) (by repeat (first | rw [gI_sI, if_neg (by omega)] | rw [gI_sI, if_pos ⟨rfl, rfl, rfl⟩] | rw [gJ_sJ, if_neg (by omega)] | rw [gJ_sJ, if_pos ⟨rfl, rfl, rfl⟩] | rw [gI_sJ] | rw [gJ_sI])) ?_
      refine r_if_leN (q := 202) (t := 205) (by omega) dX12_write_199 (by decide) rfl (fun h199 => ?_) (fun h199 => absurd h199 (by omega))
      refine r_idecN (q := 208) (L' := [some (zr 12 0), some (zi c), some (zi (nI (l.length + 1))), some (zi (nI (st.length + 1 - 1))), some (zi (nI k)), none, none, none]) 1 (by omega) rfl dX12_write_205 rfl rfl (by decide) rfl ?_
      refine r_goto (q := 148) dX12_write_208 (by decide) ?_
      have e1 : clo (v :: st) = (41 :: (clo st).1, (clo st).2) := by rw [clo, if_neg (by omega)]
      rw [e1] at K
      have q := ih _ (l ++ [41]) (show Sd (sI (sI S 1360 0 st.length (nI (v - 1))) 1359 0 l.length (nI 41)) from hs) (by omega) (m4.cong fun i hi => by rw [gI_sI, if_neg (by omega), gI_sI, if_neg (by omega)]) (Tq.snoc (fun i hi => by rw [gI_sI, if_neg (by omega)]; exact hx i hi) 41) (by simp; omega) (fun S' f1 f2 f3 f4 => by rw [List.append_assoc, List.singleton_append] at f3 ⊢; exact K S' (((Fr.rf.i rfl).i rfl).tr f1) (fun a b z h1 h2 => by rw [f2 a b z h1 h2, gI_sI, if_neg (fun q => h1 q.1), gI_sI, if_neg (fun q => h2 q.1)]) f3 f4)
      rw [List.length_append, List.length_singleton] at q
      exact q
    · skip
      refine r_bipush (q := 182) (nI 44) dX12_write_180 rfl (by decide) ?_
      refine r_goto (q := 187) dX12_write_182 (by decide) ?_
      refine r_iastN (q := 188) 120 (by decide) rfl dX12_write_187 rfl (hs.e (by decide)) (hs.n rfl (by decide)) (by omega) (by decide) ?_
      refine r_iincN (q := 191) (L' := [some (zr 12 0), some (zi c), some (zi (nI (l.length + 1))), some (zi (nI (st.length + 1))), some (zi (nI k)), none, none, none]) 1 rfl dX12_write_188 rfl rfl (by decide) rfl ?_
      refine r_aload_n (q := 192) dX12_write_191 rfl rfl rfl ?_
      refine r_getr (q := 195) (some (1360, 0)) ck12 dX12_write_192 rfl (k := 60) (by decide) wt1338 rfl (hs.e (by decide)) (hs.r (by decide) (by decide)) ?_
      refine r_iload_n (q := 196) dX12_write_195 rfl rfl rfl ?_
      refine r_iconst (q := 197) (nI 1) dX12_write_196 rfl (by decide) ?_
      refine r_isubN (q := 198) (by omega) dX12_write_197 rfl ?_
      refine r_topi (y := nI st.length) (congrArg nI (by omega)) ?_
      refine r_ialdN (q := 199) 8 (by decide) rfl dX12_write_198 rfl (hs.e (by decide)) (hs.n rfl (by decide)) (by omega) (by decide) ?_
      refine r_topi (y := nI (v - 1)) (by repeat (first | rw [gI_sI, if_neg (by omega)] | rw [gI_sI, if_pos ⟨rfl, rfl, rfl⟩] | rw [gJ_sJ, if_neg (by omega)] | rw [gJ_sJ, if_pos ⟨rfl, rfl, rfl⟩] | rw [gI_sJ] | rw [gJ_sI])) ?_
      refine r_if_leN (q := 202) (t := 205) (by omega) dX12_write_199 (by decide) rfl (fun h199 => absurd h199 (by omega)) (fun h199 => ?_)
      refine r_goto (q := 211) dX12_write_202 (by decide) ?_
      have e1 : clo (v :: st) = ([44], (v - 1) :: st) := by rw [clo, if_pos (by omega)]
      rw [e1] at K
      have K' := K (sI (sI S 1360 0 st.length (nI (v - 1))) 1359 0 l.length (nI 44)) ((Fr.rf.i rfl).i rfl) (fun a b z h1 h2 => by rw [gI_sI, if_neg (fun q => h1 q.1), gI_sI, if_neg (fun q => h2 q.1)]) (Tq.snoc (fun i hi => by rw [gI_sI, if_neg (by omega)]; exact hx i hi) 44) ⟨by rw [gI_sI, if_neg (by omega), gI_sI, if_pos ⟨rfl, rfl, rfl⟩], by omega, by omega, m4.cong fun i hi => by rw [gI_sI, if_neg (by omega), gI_sI, if_neg (by omega)]⟩
      rw [List.length_append, List.length_singleton] at K'
      exact K'

set_option maxRecDepth 100000 in
theorem lp_rwrite {W : zWd} (hW : Wok W) {c : Int32} {cnt : Nat} (hcnt : cnt ≤ 13) : ∀ (t : List Nat) (S : zS) (st l : List Nat) (p m : Nat), Sd S → (∀ a, a < wA W → gI S 1306 0 (4 + a) = nI (we W a) ∧ gJ S 1308 0 a = lN (wn W a)) → gI S 12 0 20 = nI cnt → Fs (wA W) (we W) t m → p + t.length = cnt → (∀ i, i < t.length → gI S 1316 0 (p + i) = nI (t.getD i 0)) → Mq S st → Tq S l → st.length + acs t ≤ 6 → l.length + (8 * acs t + 2 * lvs t + st.length) ≤ 62 → Ok mX12_write 12 [some (zr 12 0), some (zi c), some (zi (nI l.length)), some (zi (nI st.length)), some (zi (nI p)), none, none, none] [] S (fun r S1 => r = some (zi (nI (l ++ tx (wn W) (we W) st t).length)) ∧ Fr tWq S S1 ∧ Tq S1 (l ++ tx (wn W) (we W) st t)) := by
  intro t
  induction t with
  | nil =>
    intro S st l p m hs he hc hf hp hr hm hx h6 hl
    obtain rfl : p = cnt := by simpa using hp
    refine r_iload (q := 14) dX12_write_12 rfl rfl ?_
    refine r_aload_n (q := 15) dX12_write_14 rfl rfl rfl ?_
    refine r_geti (q := 18) ck12 dX12_write_15 rfl (k := 20) (by decide) wt1298 (Or.inl rfl) (hs.e (by decide)) ?_
    refine r_topi (y := nI p) hc ?_
    refine r_icmp_geN (q := 21) (t := 217) (by omega) (by omega) dX12_write_18 (by decide) rfl (fun h18 => ?_) (fun h18 => absurd h18 (by omega))
    refine r_iload_n (q := 218) dX12_write_217 rfl rfl rfl ?_
    refine r_ireturn dX12_write_218 rfl ?_
    exact ⟨by rw [tx, List.append_nil], Fr.rf, by rw [tx, List.append_nil]; exact hx⟩
  | cons k r ih =>
    intro S st l p m hs he hc hf hp hr hm hx h6 hl
    have h1 := hf.1
    have h2 := hf.2
    have hE := hW.2.1
    have hA3 := hE.1
    have hk3 := Nat.le_trans (hf.tok k List.mem_cons_self) hE.1
    rw [List.length_cons] at hp
    have r0 : gI S 1316 0 p = nI k := by have := hr 0 (by simp); rw [Nat.add_zero] at this; exact this
    have hr' : ∀ i, i < r.length → gI S 1316 0 (p + 1 + i) = nI (r.getD i 0) := fun i hi => by have := hr (i + 1) (by simp; omega); rw [show p + 1 + i = p + (i + 1) by omega]; exact this
    rw [acs, lvs] at *
    rw [tx]
    by_cases h0 : k = 0
    · rw [if_pos h0] at h2 h6 hl ⊢
      rw [if_pos h0] at hl
      subst h0
      refine r_iload (q := 14) dX12_write_12 rfl rfl ?_
      refine r_aload_n (q := 15) dX12_write_14 rfl rfl rfl ?_
      refine r_geti (q := 18) ck12 dX12_write_15 rfl (k := 20) (by decide) wt1298 (Or.inl rfl) (hs.e (by decide)) ?_
      refine r_topi (y := nI cnt) hc ?_
      refine r_icmp_geN (q := 21) (t := 217) (by omega) (by omega) dX12_write_18 (by decide) rfl (fun h18 => absurd h18 (by omega)) (fun h18 => ?_)
      refine r_aload_n (q := 22) dX12_write_21 rfl rfl rfl ?_
      refine r_getr (q := 25) (some (1316, 0)) ck12 dX12_write_22 rfl (k := 16) (by decide) wt1294 rfl (hs.e (by decide)) (hs.r (by decide) (by decide)) ?_
      refine r_iload (q := 27) dX12_write_25 rfl rfl ?_
      refine r_ialdN (q := 28) 16 (by decide) rfl dX12_write_27 rfl (hs.e (by decide)) (hs.n rfl (by decide)) (by omega) (by decide) ?_
      refine r_topi (y := nI 0) r0 ?_
      refine r_if_leN (q := 31) (t := 137) (by omega) dX12_write_28 (by decide) rfl (fun h28 => ?_) (fun h28 => absurd h28 (by omega))
      refine r_aload_n (q := 138) dX12_write_137 rfl rfl rfl ?_
      refine r_getr (q := 141) (some (1359, 0)) ck12 dX12_write_138 rfl (k := 59) (by decide) wt1337 rfl (hs.e (by decide)) (hs.r (by decide) (by decide)) ?_
      refine r_iload_n (q := 142) dX12_write_141 rfl rfl rfl ?_
      refine r_bipush (q := 144) (nI 120) dX12_write_142 rfl (by decide) ?_
      refine r_iastN (q := 145) 120 (by decide) rfl dX12_write_144 rfl (hs.e (by decide)) (hs.n rfl (by decide)) (by omega) (by decide) ?_
      refine r_iincN (q := 148) (L' := [some (zr 12 0), some (zi c), some (zi (nI (l.length + 1))), some (zi (nI st.length)), some (zi (nI p)), none, none, none]) 1 rfl dX12_write_145 rfl rfl (by decide) rfl ?_
      have cl2 := clo_len st
      have q := lp_rclo (c := c) (k := p) st _ (l ++ [120]) (show Sd (sI S 1359 0 l.length (nI 120)) from hs) (by omega) (hm.cong fun i hi => by rw [gI_sI, if_neg (by omega)]) (hx.snoc 120) (by simp; omega) (Po := fun x S1 => x = some (zi (nI (l ++ 120 :: ((clo st).1 ++ tx (wn W) (we W) (clo st).2 r)).length)) ∧ Fr tWq S S1 ∧ Tq S1 (l ++ 120 :: ((clo st).1 ++ tx (wn W) (we W) (clo st).2 r))) (fun S' f1 f2 f3 f4 => ?_)
      · rw [List.length_append, List.length_singleton] at q; exact q
      have g : ∀ a b z, a ≠ 1359 → a ≠ 1360 → gI S' a b z = gI S a b z := fun a b z h1 h2 => by rw [f2 a b z h1 h2, gI_sI, if_neg (fun q => h1 q.1)]
      have fA : Fr tWq S S' := (Fr.rf.i rfl).tr f1
      refine r_iincN (q := 214) (L' := [some (zr 12 0), some (zi c), some (zi (nI ((l ++ [120] ++ (clo st).1).length))), some (zi (nI ((clo st).2.length))), some (zi (nI (p + 1))), none, none, none]) 1 rfl dX12_write_211 rfl rfl (by decide) rfl ?_
      refine r_goto (q := 12) dX12_write_214 (by decide) ?_
      refine Ok.mono (ih S' (clo st).2 (l ++ [120] ++ (clo st).1) (p + 1) _ (hs.fr fA) (fun a ha => ⟨(g _ _ _ (by omega) (by omega)).trans (he a ha).1, (fA.2.1 _ _ _ rfl).trans (he a ha).2⟩) ((g _ _ _ (by omega) (by omega)).trans hc) h2 (by omega) (fun i hi => (g _ _ _ (by omega) (by omega)).trans (hr' i hi)) f4 f3 (by omega) (by simp; omega)) (fun x S1 z => ?_)
      rw [show l ++ [120] ++ (clo st).1 ++ tx (wn W) (we W) (clo st).2 r = l ++ 120 :: ((clo st).1 ++ tx (wn W) (we W) (clo st).2 r) by simp] at z
      exact ⟨z.1, fA.tr z.2.1, z.2.2⟩
    · rw [if_neg h0] at h2 h6 hl ⊢
      rw [if_neg h0] at hl
      have hkA : k - 1 < wA W := by omega
      have hE2 := hE.2 (k - 1) hkA
      obtain ⟨e1, e2⟩ := he (k - 1) hkA
      have hN := hW.2.2.1.2.1 (k - 1) hkA
      have hl6 : (nmB (wn W (k - 1))).length ≤ 6 := nmF_len 6
      refine r_iload (q := 14) dX12_write_12 rfl rfl ?_
      refine r_aload_n (q := 15) dX12_write_14 rfl rfl rfl ?_
      refine r_geti (q := 18) ck12 dX12_write_15 rfl (k := 20) (by decide) wt1298 (Or.inl rfl) (hs.e (by decide)) ?_
      refine r_topi (y := nI cnt) hc ?_
      refine r_icmp_geN (q := 21) (t := 217) (by omega) (by omega) dX12_write_18 (by decide) rfl (fun h18 => absurd h18 (by omega)) (fun h18 => ?_)
      refine r_aload_n (q := 22) dX12_write_21 rfl rfl rfl ?_
      refine r_getr (q := 25) (some (1316, 0)) ck12 dX12_write_22 rfl (k := 16) (by decide) wt1294 rfl (hs.e (by decide)) (hs.r (by decide) (by decide)) ?_
      refine r_iload (q := 27) dX12_write_25 rfl rfl ?_
      refine r_ialdN (q := 28) 16 (by decide) rfl dX12_write_27 rfl (hs.e (by decide)) (hs.n rfl (by decide)) (by omega) (by decide) ?_
      refine r_topi (y := nI k) r0 ?_
      refine r_if_leN (q := 31) (t := 137) (by omega) dX12_write_28 (by decide) rfl (fun h28 => absurd h28 (by omega)) (fun h28 => ?_)
      refine r_aload_n (q := 32) dX12_write_31 rfl rfl rfl ?_
      refine r_getr (q := 35) (some (1308, 0)) ck12 dX12_write_32 rfl (k := 8) (by decide) wt1286 rfl (hs.e (by decide)) (hs.r (by decide) (by decide)) ?_
      refine r_aload_n (q := 36) dX12_write_35 rfl rfl rfl ?_
      refine r_getr (q := 39) (some (1316, 0)) ck12 dX12_write_36 rfl (k := 16) (by decide) wt1294 rfl (hs.e (by decide)) (hs.r (by decide) (by decide)) ?_
      refine r_iload (q := 41) dX12_write_39 rfl rfl ?_
      refine r_ialdN (q := 42) 16 (by decide) rfl dX12_write_41 rfl (hs.e (by decide)) (hs.n rfl (by decide)) (by omega) (by decide) ?_
      refine r_topi (y := nI k) r0 ?_
      refine r_iconst (q := 43) (nI 1) dX12_write_42 rfl (by decide) ?_
      refine r_isubN (q := 44) (by omega) dX12_write_43 rfl ?_
      refine r_laldN (q := 45) 6 (by decide) rfl dX12_write_44 rfl (hs.e (by decide)) (hs.n rfl (by decide)) (by omega) (by decide) ?_
      refine r_topl (y := lN (wn W (k - 1))) e2 ?_
      refine r_lstore (q := 47) (L' := [some (zr 12 0), some (zi c), some (zi (nI l.length)), some (zi (nI st.length)), some (zi (nI p)), some (zl (lN (wn W (k - 1)))), none, none]) dX12_write_45 rfl (by decide) rfl ?_
      refine r_bipush (q := 49) (nI 40) dX12_write_47 rfl (by decide) ?_
      refine r_istore (q := 51) (L' := [some (zr 12 0), some (zi c), some (zi (nI l.length)), some (zi (nI st.length)), some (zi (nI p)), some (zl (lN (wn W (k - 1)))), none, some (zi (nI 40))]) dX12_write_49 rfl (by decide) rfl ?_
      refine lp_rname hN.1 5 S l (by omega) hs hx (by omega) (fun S' f1 f2 f3 => ?_)
      have f3 : Tq S' (l ++ nmB (wn W (k - 1))) := f3
      have r0' : gI S' 1316 0 p = nI k := (f2 _ _ _ (by omega)).trans r0
      have e1' : gI S' 1306 0 (4 + (k - 1)) = nI (we W (k - 1)) := (f2 _ _ _ (by omega)).trans e1
      have hs' := hs.fr f1
      show Ok mX12_write 98 [some (zr 12 0), some (zi c), some (zi (nI ((l ++ nmB (wn W (k - 1))).length))), some (zi (nI st.length)), some (zi (nI p)), some (zl (lN (wn W (k - 1)))), none, none] [] S' _
      have hll : (l ++ nmB (wn W (k - 1))).length ≤ 110 := by simp; omega
      refine r_aload_n (q := 99) dX12_write_98 rfl rfl rfl ?_
      refine r_getr (q := 102) (some (1359, 0)) ck12 dX12_write_99 rfl (k := 59) (by decide) wt1337 rfl (hs'.e (by decide)) (hs'.r (by decide) (by decide)) ?_
      refine r_iload_n (q := 103) dX12_write_102 rfl rfl rfl ?_
      refine r_bipush (q := 105) (nI 40) dX12_write_103 rfl (by decide) ?_
      refine r_iastN (q := 106) 120 (by decide) rfl dX12_write_105 rfl (hs'.e (by decide)) (hs'.n rfl (by decide)) (by omega) (by decide) ?_
      refine r_iincN (q := 109) (L' := [some (zr 12 0), some (zi c), some (zi (nI ((l ++ nmB (wn W (k - 1))).length + 1))), some (zi (nI st.length)), some (zi (nI p)), some (zl (lN (wn W (k - 1)))), none, none]) 1 rfl dX12_write_106 rfl rfl (by decide) rfl ?_
      refine r_aload_n (q := 110) dX12_write_109 rfl rfl rfl ?_
      refine r_getr (q := 113) (some (1360, 0)) ck12 dX12_write_110 rfl (k := 60) (by decide) wt1338 rfl (hs'.e (by decide)) (hs'.r (by decide) (by decide)) ?_
      refine r_iload_n (q := 114) dX12_write_113 rfl rfl rfl ?_
      refine r_aload_n (q := 115) dX12_write_114 rfl rfl rfl ?_
      refine r_getr (q := 118) (some (1306, 0)) ck12 dX12_write_115 rfl (k := 6) (by decide) wt1284 rfl (hs'.e (by decide)) (hs'.r (by decide) (by decide)) ?_
      refine r_iconst (q := 119) (nI 4) dX12_write_118 rfl (by decide) ?_
      refine r_aload_n (q := 120) dX12_write_119 rfl rfl rfl ?_
      refine r_getr (q := 123) (some (1316, 0)) ck12 dX12_write_120 rfl (k := 16) (by decide) wt1294 rfl (hs'.e (by decide)) (hs'.r (by decide) (by decide)) ?_
      refine r_iload (q := 125) dX12_write_123 rfl rfl ?_
      refine r_ialdN (q := 126) 16 (by decide) rfl dX12_write_125 rfl (hs'.e (by decide)) (hs'.n rfl (by decide)) (by omega) (by decide) ?_
      refine r_topi (y := gI S' 1316 0 p) (by repeat (first | rw [gI_sI, if_neg (by omega)] | rw [gI_sI, if_pos ⟨rfl, rfl, rfl⟩] | rw [gJ_sJ, if_neg (by omega)] | rw [gJ_sJ, if_pos ⟨rfl, rfl, rfl⟩] | rw [gI_sJ] | rw [gJ_sI])) ?_
      refine r_topi (y := nI k) r0' ?_
      refine r_iaddN (q := 127) dX12_write_126 rfl ?_
      refine r_iconst (q := 128) (nI 1) dX12_write_127 rfl (by decide) ?_
      refine r_isubN (q := 129) (by omega) dX12_write_128 rfl ?_
      refine r_topi (y := nI (4 + (k - 1))) (congrArg nI (by omega)) ?_
      refine r_ialdN (q := 130) 3775 (by decide) rfl dX12_write_129 rfl (hs'.e (by decide)) (hs'.n rfl (by decide)) (by omega) (by decide) ?_
      refine r_topi (y := gI S' 1306 0 (4 + (k - 1))) (by repeat (first | rw [gI_sI, if_neg (by omega)] | rw [gI_sI, if_pos ⟨rfl, rfl, rfl⟩] | rw [gJ_sJ, if_neg (by omega)] | rw [gJ_sJ, if_pos ⟨rfl, rfl, rfl⟩] | rw [gI_sJ] | rw [gJ_sI])) ?_
      refine r_topi (y := nI (we W (k - 1))) e1' ?_
      refine r_iastN (q := 131) 8 (by decide) rfl dX12_write_130 rfl (hs'.e (by decide)) (hs'.n rfl (by decide)) (by omega) (by decide) ?_
      refine r_iincN (q := 134) (L' := [some (zr 12 0), some (zi c), some (zi (nI ((l ++ nmB (wn W (k - 1))).length + 1))), some (zi (nI (st.length + 1))), some (zi (nI p)), some (zl (lN (wn W (k - 1)))), none, none]) 1 rfl dX12_write_131 rfl rfl (by decide) rfl ?_
      refine r_goto (q := 211) dX12_write_134 (by decide) ?_
      refine r_iincN (q := 214) (L' := [some (zr 12 0), some (zi c), some (zi (nI ((l ++ nmB (wn W (k - 1))).length + 1))), some (zi (nI (st.length + 1))), some (zi (nI (p + 1))), some (zl (lN (wn W (k - 1)))), none, none]) 1 rfl dX12_write_211 rfl rfl (by decide) rfl ?_
      refine r_goto (q := 12) dX12_write_214 (by decide) ?_
      refine r_mask [true, true, true, true, true, false, false, false] rfl ?_
      have g : ∀ a b z, a ≠ 1359 → a ≠ 1360 → gI (sI (sI S' 1359 0 ((l ++ nmB (wn W (k - 1))).length) (nI 40)) 1360 0 st.length (nI (we W (k - 1)))) a b z = gI S a b z := fun a b z h1 h2 => by rw [gI_sI, if_neg (fun q => h2 q.1), gI_sI, if_neg (fun q => h1 q.1)]; exact f2 a b z h1
      have fA : Fr tWq S (sI (sI S' 1359 0 ((l ++ nmB (wn W (k - 1))).length) (nI 40)) 1360 0 st.length (nI (we W (k - 1)))) := (f1.i rfl).i rfl
      have q := ih (sI (sI S' 1359 0 ((l ++ nmB (wn W (k - 1))).length) (nI 40)) 1360 0 st.length (nI (we W (k - 1)))) (we W (k - 1) :: st) (l ++ nmB (wn W (k - 1)) ++ [40]) (p + 1) _ hs' (fun a ha => ⟨(g _ _ _ (by omega) (by omega)).trans (he a ha).1, (fA.2.1 _ _ _ rfl).trans (he a ha).2⟩) ((g _ _ _ (by omega) (by omega)).trans hc) h2.2 (by omega) (fun i hi => (g _ _ _ (by omega) (by omega)).trans (hr' i hi)) ⟨by rw [gI_sI, if_pos ⟨rfl, rfl, rfl⟩], by omega, by omega, hm.cong fun i hi => by rw [gI_sI, if_neg (by omega), gI_sI, if_neg (by omega)]; exact f2 _ _ _ (by omega)⟩ (fun i hi => by rw [gI_sI, if_neg (by omega)]; exact f3.snoc 40 i hi) (by simp; omega) (by simp; omega)
      rw [show List.length (l ++ nmB (wn W (k - 1)) ++ [40]) = List.length (l ++ nmB (wn W (k - 1))) + 1 from List.length_append] at q
      refine Ok.mono q (fun x S1 z => ?_)
      rw [show l ++ nmB (wn W (k - 1)) ++ [40] ++ tx (wn W) (we W) (we W (k - 1) :: st) r = l ++ (nmB (wn W (k - 1)) ++ 40 :: tx (wn W) (we W) (we W (k - 1) :: st) r) by simp] at z
      exact ⟨z.1, fA.tr z.2.1, z.2.2⟩

set_option maxRecDepth 100000 in
theorem ok_X12_write {S : zS} (hs : Sd S) {W : zWd} (hW : Wok W) {n : Nat} {t : List Nat} (ht : Tr (wA W) (we W) n t) (hn : n ≤ 7) (he : ∀ a, a < wA W → gI S 1306 0 (4 + a) = nI (we W a) ∧ gJ S 1308 0 a = lN (wn W a)) : Ok mX12_write 0 (ent 8 [zr 12 0, zi (nI (cd t))]) [] S (fun r S1 => r = some (zi (nI (tx (wn W) (we W) [] t).length)) ∧ Fr tWq S S1 ∧ Tq S1 (tx (wn W) (we W) [] t)) := by
  have hl := ht.len hW.2.1
  have hc := ht.1.cnt hW.2.1.two
  have h2 := ht.2
  have hb := cd_le (ht.tok hW.2.1) (by omega)
  show Ok mX12_write 0 [some (zr 12 0), some (zi (nI (cd t))), none, none, none, none, none, none] [] S _
  refine r_aload_n (q := 1) dX12_write_0 rfl rfl rfl ?_
  refine r_iload_n (q := 2) dX12_write_1 rfl rfl rfl ?_
  refine r_callV (Mc := mX12_tokens) (q := 5) (As := [zi (nI (cd t))]) (st := []) ck12 dX12_write_2 rfl rfl mkX12_tokens wt1649 wt1651 wp85 rfl (Nat.le_of_ble_eq_true rfl) (Nat.le_of_ble_eq_true rfl) (by decide) (by decide) (by decide) (Or.inl rfl) (hs.e (by decide)) (ok_X12_tokens hs (ht.tok hW.2.1) (by omega)) (fun r2 S2 hp2 => ?_)
  obtain ⟨rfl, hq2⟩ := hp2
  rw [hq2]
  show Ok _ _ _ [] _ _
  refine r_iconst (q := 6) (nI 0) dX12_write_5 rfl (by decide) ?_
  refine r_istore_n (q := 7) (L' := [some (zr 12 0), some (zi (nI (cd t))), some (zi (nI 0)), none, none, none, none, none]) dX12_write_6 rfl rfl (by decide) rfl ?_
  refine r_iconst (q := 8) (nI 0) dX12_write_7 rfl (by decide) ?_
  refine r_istore_n (q := 9) (L' := [some (zr 12 0), some (zi (nI (cd t))), some (zi (nI 0)), some (zi (nI 0)), none, none, none, none]) dX12_write_8 rfl rfl (by decide) rfl ?_
  refine r_iconst (q := 10) (nI 0) dX12_write_9 rfl (by decide) ?_
  refine r_istore (q := 12) (L' := [some (zr 12 0), some (zi (nI (cd t))), some (zi (nI 0)), some (zi (nI 0)), some (zi (nI 0)), none, none, none]) dX12_write_10 rfl (by decide) rfl ?_
  refine Ok.mono (lp_rwrite hW (cnt := t.length) (by omega) t (stR (sI S 12 0 20 (nI t.length)) 1316 0 t) [] [] 0 1 hs (fun a ha => ⟨by rw [gI_stR_x (by omega), gI_sI, if_neg (by omega)]; exact (he a ha).1, (he a ha).2⟩) (by rw [gI_stR_x (by omega), gI_sI, if_pos ⟨rfl, rfl, rfl⟩]) ht.1 (by omega) (fun i hi => by rw [Nat.zero_add]; exact gI_stR_k hi) trivial (fun i hi => absurd hi (by simp)) (by simp; omega) (by simp; omega)) (fun x S1 z => ⟨z.1, (Fr.tr (Fr.stR (Fr.i Fr.rf rfl) (fun _ => rfl)) z.2.1), z.2.2⟩)

def tWx (a b k : Nat) : Bool := tWc a b k || a == 1100 && b == 0
theorem tWx_c (a b k : Nat) (h : tWc a b k = true) : tWx a b k = true := by simp [tWx, h]

set_option maxRecDepth 100000 in
theorem ok_X10_write {S : zS} (hs : Sd S) {W : zWd} (hW : Wok W) {n : Nat} {t : List Nat} (ht : Tr (wA W) (we W) n t) (hn : n ≤ 7) {s : Nat} (hs4 : s < 4) (hA : gI S 9 s 1 = nI (wA W)) (he : ∀ a, a < wA W → gI S 1003 s a = nI (we W a) ∧ gJ S 1002 s a = lN (wn W a)) : Ok mX10_write 0 (ent 8 [zr 10 0, zr 9 s, zi (nI (ky t)), zi (nI n)]) [] S (fun r S1 => r = none ∧ Fr tWx S S1 ∧ Tx S1 (tx (wn W) (we W) [] t)) := by
  have hl := ht.len hW.2.1
  have hc := ht.1.cnt hW.2.1.two
  have h2 := ht.2
  have hb := cd_le (ht.tok hW.2.1) (by omega)
  show Ok mX10_write 0 [some (zr 10 0), some (zr 9 s), some (zi (nI (ky t))), some (zi (nI n)), none, none, none, none] [] S _
  refine r_aload_n (q := 1) dX10_write_0 rfl rfl rfl ?_
  refine r_iconst (q := 2) (nI 0) dX10_write_1 rfl (by decide) ?_
  refine r_puti (q := 5) ck10 dX10_write_2 rfl (k := 3) (by decide) wt183 (Or.inl rfl) rfl (hs.e (by decide)) ?_
  refine r_iconst (q := 6) (nI 0) dX10_write_5 rfl (by decide) ?_
  refine r_istore (q := 8) (L' := [some (zr 10 0), some (zr 9 s), some (zi (nI (ky t))), some (zi (nI n)), some (zi (nI 0)), none, none, none]) dX10_write_6 rfl (by decide) rfl ?_
  refine r_iload_n (q := 9) dX10_write_8 rfl rfl rfl ?_
  refine r_iload_n (q := 10) dX10_write_9 rfl rfl rfl ?_
  refine r_aload_n (q := 11) dX10_write_10 rfl rfl rfl ?_
  refine r_getr (q := 14) (some (1100, 0)) ck10 dX10_write_11 rfl (k := 0) (by decide) wt180 rfl (hs.e (by decide)) (hs.r (by decide) (by decide)) ?_
  refine r_callS (Mc := mX6_open) (q := 17) (As := [zi (nI (ky t)), zi (nI n), zr 1100 0]) (st := []) dX10_write_14 rfl rfl mkX6_open wt745 wt746 rfl (Nat.le_of_ble_eq_true rfl) (Nat.le_of_ble_eq_true rfl) (by decide) (by decide) (by decide) (Or.inl rfl) hs.some (ok_open_1100 (S := sI S 10 0 3 (nI 0)) hs hW.2.1 ht hn) (fun r14 S14 hp14 => ?_)
  obtain ⟨rfl, hq14⟩ := hp14
  rw [hq14]
  show Ok _ _ _ [zi (nI t.length)] _ _
  refine r_istore (q := 19) (L' := [some (zr 10 0), some (zr 9 s), some (zi (nI (ky t))), some (zi (nI n)), some (zi (nI 0)), some (zi (nI t.length)), none, none]) dX10_write_17 rfl (by decide) rfl ?_
  refine r_iconst (q := 20) (nI 0) dX10_write_19 rfl (by decide) ?_
  refine r_istore (q := 22) (L' := [some (zr 10 0), some (zr 9 s), some (zi (nI (ky t))), some (zi (nI n)), some (zi (nI 0)), some (zi (nI t.length)), some (zi (nI 0)), none]) dX10_write_20 rfl (by decide) rfl ?_
  refine Ok.mono (lp_write hW hs4 (cnt := t.length) (by omega) t (stR (sI S 10 0 3 (nI 0)) 1100 0 (t.map nd)) [] [] 0 1 hs (by rw [gI_stR_x (by omega), gI_sI, if_neg (by omega)]; exact hA) (fun a ha => ⟨by rw [gI_stR_x (by omega), gI_sI, if_neg (by omega)]; exact (he a ha).1, (he a ha).2⟩) ht.1 (by omega) (fun i hi => by rw [Nat.zero_add, gI_stR_k (by rw [List.length_map]; exact hi), getD_map hi]) trivial ⟨by rw [gI_stR_x (by omega), gI_sI, if_pos ⟨rfl, rfl, rfl⟩]; rfl, fun i hi => absurd hi (by simp)⟩ (by simp; omega) (by simp; omega)) (fun x S1 z => ⟨z.1, (Fr.tr (Fr.stR (Fr.i Fr.rf rfl) (fun _ => rfl)) (z.2.1.mono tWx_c)), z.2.2⟩)

set_option maxRecDepth 100000 in
theorem ok_byteOf_in {S : zS} (hs : Sd S) {W : zWd} (hW : Wok W) {n : Nat} {t : List Nat} (ht : Tr (wA W) (we W) n t) (hn : n ≤ 7) {s : Nat} (hs4 : s < 4) (hA : gI S 9 s 1 = nI (wA W)) (he : ∀ a, a < wA W → gI S 1003 s a = nI (we W a) ∧ gJ S 1002 s a = lN (wn W a)) {m : Nat} (hm : m < (tx (wn W) (we W) [] t).length) : Ok mX10_byteOf 0 (ent 5 [zr 10 0, zr 9 s, zi (nI (ky t)), zi (nI n), zi (nI m)]) [] S (fun r S1 => r = some (zi (nI ((tx (wn W) (we W) [] t).getD m 0))) ∧ Fr tWx S S1) := by
  have hl := ht.len hW.2.1
  have hc := ht.1.cnt hW.2.1.two
  have h2 := ht.2
  have hb := cd_le (ht.tok hW.2.1) (by omega)
  have hl64 := tx_len (nm := wn W) (e := we W) t []
  rw [List.length_nil] at hl64
  show Ok mX10_byteOf 0 [some (zr 10 0), some (zr 9 s), some (zi (nI (ky t))), some (zi (nI n)), some (zi (nI m))] [] S _
  refine r_aload_n (q := 1) dX10_byteOf_0 rfl rfl rfl ?_
  refine r_aload_n (q := 2) dX10_byteOf_1 rfl rfl rfl ?_
  refine r_iload_n (q := 3) dX10_byteOf_2 rfl rfl rfl ?_
  refine r_iload_n (q := 4) dX10_byteOf_3 rfl rfl rfl ?_
  refine r_callV (Mc := mX10_write) (q := 7) (As := [zr 9 s, zi (nI (ky t)), zi (nI n)]) (st := []) ck10 dX10_byteOf_4 rfl rfl mkX10_write wt741 wt743 wp23 rfl (Nat.le_of_ble_eq_true rfl) (Nat.le_of_ble_eq_true rfl) (by decide) (by decide) (by decide) (Or.inl rfl) (hs.e (by decide)) (ok_X10_write hs hW ht hn hs4 hA he) (fun r4 S4 hp4 => ?_)
  obtain ⟨rfl, f, x⟩ := hp4
  show Ok _ _ _ [] _ _
  refine r_iload (q := 9) dX10_byteOf_7 rfl rfl ?_
  refine r_if_ltN (q := 12) (t := 31) (by omega) dX10_byteOf_9 (by decide) rfl ?_
  refine r_iload (q := 14) dX10_byteOf_12 rfl rfl ?_
  refine r_aload_n (q := 15) dX10_byteOf_14 rfl rfl rfl ?_
  refine r_geti (q := 18) ck10 dX10_byteOf_15 rfl (k := 3) (by decide) wt183 (Or.inl rfl) ((hs.fr f).e (by decide)) ?_
  refine r_topi (y := nI ((tx (wn W) (we W) [] t).length)) x.1 ?_
  refine r_icmp_geN (q := 21) (t := 31) (by omega) (by omega) dX10_byteOf_18 (by decide) rfl (fun h18 => absurd h18 (by omega)) (fun h18 => ?_)
  refine r_aload_n (q := 22) dX10_byteOf_21 rfl rfl rfl ?_
  refine r_getr (q := 25) (some (1102, 0)) ck10 dX10_byteOf_22 rfl (k := 2) (by decide) wt182 rfl ((hs.fr f).e (by decide)) ((hs.fr f).r (by decide) (by decide)) ?_
  refine r_iload (q := 27) dX10_byteOf_25 rfl rfl ?_
  refine r_ialdN (q := 28) 64 (by decide) rfl dX10_byteOf_27 rfl ((hs.fr f).e (by decide)) ((hs.fr f).n rfl (by decide)) (by omega) (by decide) ?_
  refine r_topi (y := nI ((tx (wn W) (we W) [] t).getD m 0)) (x.2 m hm) ?_
  refine r_goto (q := 32) dX10_byteOf_28 (by decide) ?_
  refine r_ireturn dX10_byteOf_32 rfl ?_
  exact ⟨rfl, f⟩

set_option maxRecDepth 100000 in
theorem ok_byteOf_out {S : zS} (hs : Sd S) {W : zWd} (hW : Wok W) {n : Nat} {t : List Nat} (ht : Tr (wA W) (we W) n t) (hn : n ≤ 7) {s : Nat} (hs4 : s < 4) (hA : gI S 9 s 1 = nI (wA W)) (he : ∀ a, a < wA W → gI S 1003 s a = nI (we W a) ∧ gJ S 1002 s a = lN (wn W a)) {i : Int32} (hi : ¬ (0 ≤ i ∧ i < nI (tx (wn W) (we W) [] t).length)) : Ok mX10_byteOf 0 (ent 5 [zr 10 0, zr 9 s, zi (nI (ky t)), zi (nI n), zi i]) [] S (fun r S1 => r = some (zi (-1)) ∧ Fr tWx S S1) := by
  have hl := ht.len hW.2.1
  have hc := ht.1.cnt hW.2.1.two
  have h2 := ht.2
  have hb := cd_le (ht.tok hW.2.1) (by omega)
  have hl64 := tx_len (nm := wn W) (e := we W) t []
  rw [List.length_nil] at hl64
  show Ok mX10_byteOf 0 [some (zr 10 0), some (zr 9 s), some (zi (nI (ky t))), some (zi (nI n)), some (zi i)] [] S _
  refine r_aload_n (q := 1) dX10_byteOf_0 rfl rfl rfl ?_
  refine r_aload_n (q := 2) dX10_byteOf_1 rfl rfl rfl ?_
  refine r_iload_n (q := 3) dX10_byteOf_2 rfl rfl rfl ?_
  refine r_iload_n (q := 4) dX10_byteOf_3 rfl rfl rfl ?_
  refine r_callV (Mc := mX10_write) (q := 7) (As := [zr 9 s, zi (nI (ky t)), zi (nI n)]) (st := []) ck10 dX10_byteOf_4 rfl rfl mkX10_write wt741 wt743 wp23 rfl (Nat.le_of_ble_eq_true rfl) (Nat.le_of_ble_eq_true rfl) (by decide) (by decide) (by decide) (Or.inl rfl) (hs.e (by decide)) (ok_X10_write hs hW ht hn hs4 hA he) (fun r4 S4 hp4 => ?_)
  obtain ⟨rfl, f, x⟩ := hp4
  show Ok _ _ _ [] _ _
  refine r_iload (q := 9) dX10_byteOf_7 rfl rfl ?_
  refine r_if_lt (q := 12) (t := 31) dX10_byteOf_9 (by decide) rfl (fun h9 => ?_) (fun h9 => ?_)
  · skip
    refine r_iconst (q := 32) ((-1 : Int32)) dX10_byteOf_31 rfl (by decide) ?_
    refine r_ireturn dX10_byteOf_32 rfl ?_
    exact ⟨rfl, f⟩
  · skip
    refine r_iload (q := 14) dX10_byteOf_12 rfl rfl ?_
    refine r_aload_n (q := 15) dX10_byteOf_14 rfl rfl rfl ?_
    refine r_geti (q := 18) ck10 dX10_byteOf_15 rfl (k := 3) (by decide) wt183 (Or.inl rfl) ((hs.fr f).e (by decide)) ?_
    refine r_topi (y := nI ((tx (wn W) (we W) [] t).length)) x.1 ?_
    refine r_icmp_ge (q := 21) (t := 31) dX10_byteOf_18 (by decide) rfl (fun h18 => ?_) (fun h18 => ?_)
    · skip
      refine r_iconst (q := 32) ((-1 : Int32)) dX10_byteOf_31 rfl (by decide) ?_
      refine r_ireturn dX10_byteOf_32 rfl ?_
      exact ⟨rfl, f⟩
    · skip
      exact absurd ⟨Int32.not_lt.mp h9, Int32.not_le.mp h18⟩ hi

set_option maxRecDepth 100000 in
theorem ok_X11_termAt_in {S : zS} (hs : Sd S) {W : zWd} {cc lv : Nat} {c : List zT} (hcc : gI S 11 0 3 = nI cc) (hc4 : cc < 4) (hW : Wok W) (hC : wqC W (fun a k => gI S a cc k) (fun a k => gJ S a cc k)) (hS : Sm W lv c) (l1 : gI S 8 0 0 = nI lv) (hty : Ty S 0 c) {m : Nat} (hm : m < c.length) {i : Nat} (hi : i < (tx (wn W) (we W) [] (c.getD m zd).1).length) : Ok mX11_termAt 0 (ent 3 [zr 11 0, zi (nI m), zi (nI i)]) [] S (fun r S1 => r = some (zi (nI ((tx (wn W) (we W) [] (c.getD m zd).1).getD i 0))) ∧ Fr tWx S S1) := by
  have hlen := hS.len
  have htr := (hS.2.2.1.1.2 _ (mem_getD hm)).1
  obtain ⟨y1, y2, o, y3, y4, y5, y6, y7⟩ := hty
  show Ok mX11_termAt 0 [some (zr 11 0), some (zi (nI m)), some (zi (nI i))] [] S _
  refine r_iload_n (q := 1) dX11_termAt_0 rfl rfl rfl ?_
  refine r_if_ltN (q := 4) (t := 15) (by omega) dX11_termAt_1 (by decide) rfl ?_
  refine r_iload_n (q := 5) dX11_termAt_4 rfl rfl rfl ?_
  refine r_aload_n (q := 6) dX11_termAt_5 rfl rfl rfl ?_
  refine r_getr (q := 9) (some (8, 0)) ck11 dX11_termAt_6 rfl (k := 7) (by decide) wt429 rfl (hs.e (by decide)) (hs.r (by decide) (by decide)) ?_
  refine r_geti (q := 12) ck8 dX11_termAt_9 rfl (k := 1) (by decide) wt67 (Or.inl rfl) (hs.e (by decide)) ?_
  refine r_topi (y := nI c.length) y1 ?_
  refine r_icmp_ltN (q := 15) (t := 17) (by omega) (by omega) dX11_termAt_12 (by decide) rfl (fun h12 => ?_) (fun h12 => absurd h12 (by omega))
  refine r_aload_n (q := 18) dX11_termAt_17 rfl rfl rfl ?_
  refine r_getr (q := 21) (some (10, 0)) ck11 dX11_termAt_18 rfl (k := 15) (by decide) wt437 rfl (hs.e (by decide)) (hs.r (by decide) (by decide)) ?_
  refine r_aload_n (q := 22) dX11_termAt_21 rfl rfl rfl ?_
  refine r_callV (Mc := mX11_worldHere) (q := 25) (As := []) (st := [zr 10 0]) ck11 dX11_termAt_22 rfl rfl mkX11_worldHere wt678 wt680 wp20 rfl (Nat.le_of_ble_eq_true rfl) (Nat.le_of_ble_eq_true rfl) (by decide) (by decide) (by decide) (Or.inl rfl) (hs.e (by decide)) (ok_X11_worldHere hs hcc hc4) (fun r22 S22 hp22 => ?_)
  obtain ⟨rfl, hq22⟩ := hp22
  rw [hq22]
  show Ok _ _ _ [zr 9 cc, zr 10 0] _ _
  refine r_aload_n (q := 26) dX11_termAt_25 rfl rfl rfl ?_
  refine r_getr (q := 29) (some (8, 0)) ck11 dX11_termAt_26 rfl (k := 7) (by decide) wt429 rfl (hs.e (by decide)) (hs.r (by decide) (by decide)) ?_
  refine r_getr (q := 32) (some (902, 0)) ck8 dX11_termAt_29 rfl (k := 2) (by decide) wt73 rfl (hs.e (by decide)) (hs.r (by decide) (by decide)) ?_
  refine r_iload_n (q := 33) dX11_termAt_32 rfl rfl rfl ?_
  refine r_ialdN (q := 34) o (by decide) rfl dX11_termAt_33 rfl (hs.e (by decide)) y3 (by omega) (by omega) ?_
  refine r_topi (y := nI (ky (c.getD m zd).1)) (y2 m hm).1 ?_
  refine r_aload_n (q := 35) dX11_termAt_34 rfl rfl rfl ?_
  refine r_getr (q := 38) (some (8, 0)) ck11 dX11_termAt_35 rfl (k := 7) (by decide) wt429 rfl (hs.e (by decide)) (hs.r (by decide) (by decide)) ?_
  refine r_geti (q := 41) ck8 dX11_termAt_38 rfl (k := 0) (by decide) wt60 (Or.inl rfl) (hs.e (by decide)) ?_
  refine r_topi (y := nI lv) l1 ?_
  refine r_iload_n (q := 42) dX11_termAt_41 rfl rfl rfl ?_
  refine r_callV (Mc := mX10_byteOf) (q := 45) (As := [zr 9 cc, zi (nI (ky (c.getD m zd).1)), zi (nI lv), zi (nI i)]) (st := []) ck10 dX11_termAt_42 rfl rfl mkX10_byteOf wt737 wt738 wt739 rfl (Nat.le_of_ble_eq_true rfl) (Nat.le_of_ble_eq_true rfl) (by decide) (by decide) (by decide) (Or.inl rfl) (hs.e (by decide)) (ok_byteOf_in hs hW htr hS.2.1 hc4 hC.2.1 hC.2.2.2.1 hi) (fun r42 S42 hp42 => ?_)
  obtain ⟨rfl, f⟩ := hp42
  show Ok _ _ _ [zi (nI ((tx (wn W) (we W) [] (c.getD m zd).1).getD i 0))] _ _
  refine r_ireturn dX11_termAt_45 rfl ?_
  exact ⟨rfl, f⟩

def tWr (a b k : Nat) : Bool := tWq a b k || a == 12 && b == 0 && k == 0
theorem tWr_q (a b k : Nat) (h : tWq a b k = true) : tWr a b k = true := by simp [tWr, h]
set_option maxRecDepth 100000 in
theorem ok_X12_termAt_in {S : zS} (hs : Sd S) {W : zWd} {lv : Nat} {c : List zT} (hW : Wok W) (hR : wqR W (fun k => gI S 1306 0 k) (fun i => gJ S 1308 0 i)) (hS : Sm W lv c) (l4 : gI S 1306 0 1174 = nI c.length) (hr : ∀ k, k < c.length → gI S 1306 0 (1175 + k) = nI (cd (c.getD k zd).1)) {m : Nat} (hm : m < c.length) {i : Nat} (hi : i < (tx (wn W) (we W) [] (c.getD m zd).1).length) : Ok mX12_termAt 0 (ent 4 [zr 12 0, zi (nI m), zi (nI i)]) [] S (fun r S1 => r = some (zi (nI ((tx (wn W) (we W) [] (c.getD m zd).1).getD i 0))) ∧ Fr tWr S S1) := by
  have hlen := hS.len
  have htr := (hS.2.2.1.1.2 _ (mem_getD hm)).1
  have hl64 := tx_len (nm := wn W) (e := we W) (c.getD m zd).1 []
  rw [List.length_nil] at hl64
  have hcn := htr.1.cnt hW.2.1.two
  have hl7 := htr.2
  have hlv7 := hS.2.1
  show Ok mX12_termAt 0 [some (zr 12 0), some (zi (nI m)), some (zi (nI i)), none] [] S _
  refine r_aload_n (q := 1) dX12_termAt_0 rfl rfl rfl ?_
  refine r_iconst (q := 2) (nI 0) dX12_termAt_1 rfl (by decide) ?_
  refine r_puti (q := 5) ck12 dX12_termAt_2 rfl (k := 0) (by decide) wt1278 (Or.inl rfl) rfl (hs.e (by decide)) ?_
  refine r_iload_n (q := 6) dX12_termAt_5 rfl rfl rfl ?_
  refine r_iconst (q := 7) (nI 0) dX12_termAt_6 rfl (by decide) ?_
  refine r_aload_n (q := 8) dX12_termAt_7 rfl rfl rfl ?_
  refine r_getr (q := 11) (some (1306, 0)) ck12 dX12_termAt_8 rfl (k := 6) (by decide) wt1284 rfl (hs.e (by decide)) (hs.r (by decide) (by decide)) ?_
  refine r_sipush (q := 14) (nI 1174) dX12_termAt_11 rfl (by decide) ?_
  refine r_ialdN (q := 15) 3775 (by decide) rfl dX12_termAt_14 rfl (hs.e (by decide)) (hs.n rfl (by decide)) (by omega) (by decide) ?_
  refine r_topi (y := gI S 1306 0 1174) (by simp [gI_sI, gJ_sJ, gI_sJ, gJ_sI]) ?_
  refine r_topi (y := nI c.length) l4 ?_
  refine r_iconst (q := 16) (nI 1) dX12_termAt_15 rfl (by decide) ?_
  refine r_isubN (q := 17) (by omega) dX12_termAt_16 rfl ?_
  refine r_callS (Mc := mX12_isIn) (q := 20) (As := [zi (nI m), zi (nI 0), zi (nI (c.length - 1))]) (st := []) dX12_termAt_17 rfl rfl mkX12_isIn wt1614 wt1615 rfl (Nat.le_of_ble_eq_true rfl) (Nat.le_of_ble_eq_true rfl) (by decide) (by decide) (by decide) (Or.inl rfl) hs.some (ok_X12_isIn_in (S := sI S 12 0 0 (nI 0)) (Nat.zero_le m) (show m ≤ c.length - 1 by omega) (by omega)) (fun r17 S17 hp17 => ?_)
  obtain ⟨rfl, hq17⟩ := hp17
  rw [hq17]
  show Ok _ _ _ [zi (nI 1)] _ _
  refine r_if_neN (q := 23) (t := 25) (by omega) dX12_termAt_20 (by decide) rfl (fun h20 => ?_) (fun h20 => absurd h20 (by omega))
  refine r_aload_n (q := 26) dX12_termAt_25 rfl rfl rfl ?_
  refine r_aload_n (q := 27) dX12_termAt_26 rfl rfl rfl ?_
  refine r_getr (q := 30) (some (1306, 0)) ck12 dX12_termAt_27 rfl (k := 6) (by decide) wt1284 rfl (hs.e (by decide)) (hs.r (by decide) (by decide)) ?_
  refine r_sipush (q := 33) (nI 1175) dX12_termAt_30 rfl (by decide) ?_
  refine r_iload_n (q := 34) dX12_termAt_33 rfl rfl rfl ?_
  refine r_iaddN (q := 35) dX12_termAt_34 rfl ?_
  refine r_ialdN (q := 36) 3775 (by decide) rfl dX12_termAt_35 rfl (hs.e (by decide)) (hs.n rfl (by decide)) (by omega) (by decide) ?_
  refine r_topi (y := gI S 1306 0 (1175 + m)) (by simp [gI_sI, gJ_sJ, gI_sJ, gJ_sI]) ?_
  refine r_topi (y := nI (cd (c.getD m zd).1)) (hr m hm) ?_
  refine r_callV (Mc := mX12_write) (q := 39) (As := [zi (nI (cd (c.getD m zd).1))]) (st := []) ck12 dX12_termAt_36 rfl rfl mkX12_write wt1742 wt1744 wp98 rfl (Nat.le_of_ble_eq_true rfl) (Nat.le_of_ble_eq_true rfl) (by decide) (by decide) (by decide) (Or.inl rfl) (hs.e (by decide)) (ok_X12_write (S := sI S 12 0 0 (nI 0)) hs hW htr hS.2.1 (fun a ha => ⟨by rw [gI_sI, if_neg (by omega)]; exact (hR.2.2.2.1 a ha).1, (hR.2.2.2.1 a ha).2⟩)) (fun r36 S36 hp36 => ?_)
  obtain ⟨rfl, f, x⟩ := hp36
  show Ok _ _ _ [zi (nI ((tx (wn W) (we W) [] (c.getD m zd).1).length))] _ _
  refine r_istore_n (q := 40) (L' := [some (zr 12 0), some (zi (nI m)), some (zi (nI i)), some (zi (nI ((tx (wn W) (we W) [] (c.getD m zd).1).length)))]) dX12_termAt_39 rfl rfl (by decide) rfl ?_
  refine r_iload_n (q := 41) dX12_termAt_40 rfl rfl rfl ?_
  refine r_iconst (q := 42) (nI 0) dX12_termAt_41 rfl (by decide) ?_
  refine r_iload_n (q := 43) dX12_termAt_42 rfl rfl rfl ?_
  refine r_iconst (q := 44) (nI 1) dX12_termAt_43 rfl (by decide) ?_
  refine r_isubN (q := 45) (by omega) dX12_termAt_44 rfl ?_
  refine r_callS (Mc := mX12_isIn) (q := 48) (As := [zi (nI i), zi (nI 0), zi (nI (((tx (wn W) (we W) [] (c.getD m zd).1).length) - 1))]) (st := []) dX12_termAt_45 rfl rfl mkX12_isIn wt1614 wt1615 rfl (Nat.le_of_ble_eq_true rfl) (Nat.le_of_ble_eq_true rfl) (by decide) (by decide) (by decide) (Or.inl rfl) (Sd.fr (S := sI S 12 0 0 (nI 0)) hs f).some (ok_X12_isIn_in (S := S36) (Nat.zero_le i) (show i ≤ (tx (wn W) (we W) [] (c.getD m zd).1).length - 1 by omega) (by omega)) (fun r45 S45 hp45 => ?_)
  obtain ⟨rfl, hq45⟩ := hp45
  rw [hq45]
  show Ok _ _ _ [zi (nI 1)] _ _
  refine r_if_eqN (q := 51) (t := 60) (by omega) dX12_termAt_48 (by decide) rfl (fun h48 => absurd h48 (by omega)) (fun h48 => ?_)
  refine r_aload_n (q := 52) dX12_termAt_51 rfl rfl rfl ?_
  refine r_getr (q := 55) (some (1359, 0)) ck12 dX12_termAt_52 rfl (k := 59) (by decide) wt1337 rfl ((Sd.fr (S := sI S 12 0 0 (nI 0)) hs f).e (by decide)) ((Sd.fr (S := sI S 12 0 0 (nI 0)) hs f).r (by decide) (by decide)) ?_
  refine r_iload_n (q := 56) dX12_termAt_55 rfl rfl rfl ?_
  refine r_ialdN (q := 57) 120 (by decide) rfl dX12_termAt_56 rfl ((Sd.fr (S := sI S 12 0 0 (nI 0)) hs f).e (by decide)) ((Sd.fr (S := sI S 12 0 0 (nI 0)) hs f).n rfl (by decide)) (by omega) (by decide) ?_
  refine r_topi (y := nI ((tx (wn W) (we W) [] (c.getD m zd).1).getD i 0)) (x i hi) ?_
  refine r_goto (q := 61) dX12_termAt_57 (by decide) ?_
  refine r_ireturn dX12_termAt_61 rfl ?_
  exact ⟨rfl, (Fr.i Fr.rf rfl).tr (f.mono tWr_q)⟩

set_option maxRecDepth 100000 in
theorem ok_X11_termAt_out {S : zS} (hs : Sd S) {W : zWd} {cc lv : Nat} {c : List zT} (hcc : gI S 11 0 3 = nI cc) (hc4 : cc < 4) (hW : Wok W) (hC : wqC W (fun a k => gI S a cc k) (fun a k => gJ S a cc k)) (hS : Sm W lv c) (l1 : gI S 8 0 0 = nI lv) (hty : Ty S 0 c) {m : Nat} (hm : m < c.length) {i : Int32} (hi : ¬ (0 ≤ i ∧ i < nI (tx (wn W) (we W) [] (c.getD m zd).1).length)) : Ok mX11_termAt 0 (ent 3 [zr 11 0, zi (nI m), zi i]) [] S (fun r S1 => r = some (zi (-1)) ∧ Fr tWx S S1) := by
  have hlen := hS.len
  have htr := (hS.2.2.1.1.2 _ (mem_getD hm)).1
  obtain ⟨y1, y2, o, y3, y4, y5, y6, y7⟩ := hty
  show Ok mX11_termAt 0 [some (zr 11 0), some (zi (nI m)), some (zi i)] [] S _
  refine r_iload_n (q := 1) dX11_termAt_0 rfl rfl rfl ?_
  refine r_if_ltN (q := 4) (t := 15) (by omega) dX11_termAt_1 (by decide) rfl ?_
  refine r_iload_n (q := 5) dX11_termAt_4 rfl rfl rfl ?_
  refine r_aload_n (q := 6) dX11_termAt_5 rfl rfl rfl ?_
  refine r_getr (q := 9) (some (8, 0)) ck11 dX11_termAt_6 rfl (k := 7) (by decide) wt429 rfl (hs.e (by decide)) (hs.r (by decide) (by decide)) ?_
  refine r_geti (q := 12) ck8 dX11_termAt_9 rfl (k := 1) (by decide) wt67 (Or.inl rfl) (hs.e (by decide)) ?_
  refine r_topi (y := nI c.length) y1 ?_
  refine r_icmp_ltN (q := 15) (t := 17) (by omega) (by omega) dX11_termAt_12 (by decide) rfl (fun h12 => ?_) (fun h12 => absurd h12 (by omega))
  refine r_aload_n (q := 18) dX11_termAt_17 rfl rfl rfl ?_
  refine r_getr (q := 21) (some (10, 0)) ck11 dX11_termAt_18 rfl (k := 15) (by decide) wt437 rfl (hs.e (by decide)) (hs.r (by decide) (by decide)) ?_
  refine r_aload_n (q := 22) dX11_termAt_21 rfl rfl rfl ?_
  refine r_callV (Mc := mX11_worldHere) (q := 25) (As := []) (st := [zr 10 0]) ck11 dX11_termAt_22 rfl rfl mkX11_worldHere wt678 wt680 wp20 rfl (Nat.le_of_ble_eq_true rfl) (Nat.le_of_ble_eq_true rfl) (by decide) (by decide) (by decide) (Or.inl rfl) (hs.e (by decide)) (ok_X11_worldHere hs hcc hc4) (fun r22 S22 hp22 => ?_)
  obtain ⟨rfl, hq22⟩ := hp22
  rw [hq22]
  show Ok _ _ _ [zr 9 cc, zr 10 0] _ _
  refine r_aload_n (q := 26) dX11_termAt_25 rfl rfl rfl ?_
  refine r_getr (q := 29) (some (8, 0)) ck11 dX11_termAt_26 rfl (k := 7) (by decide) wt429 rfl (hs.e (by decide)) (hs.r (by decide) (by decide)) ?_
  refine r_getr (q := 32) (some (902, 0)) ck8 dX11_termAt_29 rfl (k := 2) (by decide) wt73 rfl (hs.e (by decide)) (hs.r (by decide) (by decide)) ?_
  refine r_iload_n (q := 33) dX11_termAt_32 rfl rfl rfl ?_
  refine r_ialdN (q := 34) o (by decide) rfl dX11_termAt_33 rfl (hs.e (by decide)) y3 (by omega) (by omega) ?_
  refine r_topi (y := nI (ky (c.getD m zd).1)) (y2 m hm).1 ?_
  refine r_aload_n (q := 35) dX11_termAt_34 rfl rfl rfl ?_
  refine r_getr (q := 38) (some (8, 0)) ck11 dX11_termAt_35 rfl (k := 7) (by decide) wt429 rfl (hs.e (by decide)) (hs.r (by decide) (by decide)) ?_
  refine r_geti (q := 41) ck8 dX11_termAt_38 rfl (k := 0) (by decide) wt60 (Or.inl rfl) (hs.e (by decide)) ?_
  refine r_topi (y := nI lv) l1 ?_
  refine r_iload_n (q := 42) dX11_termAt_41 rfl rfl rfl ?_
  refine r_callV (Mc := mX10_byteOf) (q := 45) (As := [zr 9 cc, zi (nI (ky (c.getD m zd).1)), zi (nI lv), zi i]) (st := []) ck10 dX11_termAt_42 rfl rfl mkX10_byteOf wt737 wt738 wt739 rfl (Nat.le_of_ble_eq_true rfl) (Nat.le_of_ble_eq_true rfl) (by decide) (by decide) (by decide) (Or.inl rfl) (hs.e (by decide)) (ok_byteOf_out hs hW htr hS.2.1 hc4 hC.2.1 hC.2.2.2.1 hi) (fun r42 S42 hp42 => ?_)
  obtain ⟨rfl, f⟩ := hp42
  show Ok _ _ _ [zi (-1 : Int32)] _ _
  refine r_ireturn dX11_termAt_45 rfl ?_
  exact ⟨rfl, f⟩

set_option maxRecDepth 100000 in
theorem ok_X12_termAt_out {S : zS} (hs : Sd S) {W : zWd} {lv : Nat} {c : List zT} (hW : Wok W) (hR : wqR W (fun k => gI S 1306 0 k) (fun i => gJ S 1308 0 i)) (hS : Sm W lv c) (l4 : gI S 1306 0 1174 = nI c.length) (hr : ∀ k, k < c.length → gI S 1306 0 (1175 + k) = nI (cd (c.getD k zd).1)) {m : Nat} (hm : m < c.length) {i : Int32} (hi : ¬ (0 ≤ i ∧ i < nI (tx (wn W) (we W) [] (c.getD m zd).1).length)) : Ok mX12_termAt 0 (ent 4 [zr 12 0, zi (nI m), zi i]) [] S (fun r S1 => r = some (zi (-1)) ∧ Fr tWr S S1) := by
  have hlen := hS.len
  have htr := (hS.2.2.1.1.2 _ (mem_getD hm)).1
  have hl64 := tx_len (nm := wn W) (e := we W) (c.getD m zd).1 []
  rw [List.length_nil] at hl64
  have hcn := htr.1.cnt hW.2.1.two
  have hl7 := htr.2
  have hlv7 := hS.2.1
  have hz2 : i ≤ nI (tx (wn W) (we W) [] (c.getD m zd).1).length - nI 1 → nI 0 ≤ i → i < nI (tx (wn W) (we W) [] (c.getD m zd).1).length := fun z _ => (le_pred (by omega)).mp z
  show Ok mX12_termAt 0 [some (zr 12 0), some (zi (nI m)), some (zi i), none] [] S _
  refine r_aload_n (q := 1) dX12_termAt_0 rfl rfl rfl ?_
  refine r_iconst (q := 2) (nI 0) dX12_termAt_1 rfl (by decide) ?_
  refine r_puti (q := 5) ck12 dX12_termAt_2 rfl (k := 0) (by decide) wt1278 (Or.inl rfl) rfl (hs.e (by decide)) ?_
  refine r_iload_n (q := 6) dX12_termAt_5 rfl rfl rfl ?_
  refine r_iconst (q := 7) (nI 0) dX12_termAt_6 rfl (by decide) ?_
  refine r_aload_n (q := 8) dX12_termAt_7 rfl rfl rfl ?_
  refine r_getr (q := 11) (some (1306, 0)) ck12 dX12_termAt_8 rfl (k := 6) (by decide) wt1284 rfl (hs.e (by decide)) (hs.r (by decide) (by decide)) ?_
  refine r_sipush (q := 14) (nI 1174) dX12_termAt_11 rfl (by decide) ?_
  refine r_ialdN (q := 15) 3775 (by decide) rfl dX12_termAt_14 rfl (hs.e (by decide)) (hs.n rfl (by decide)) (by omega) (by decide) ?_
  refine r_topi (y := gI S 1306 0 1174) (by simp [gI_sI, gJ_sJ, gI_sJ, gJ_sI]) ?_
  refine r_topi (y := nI c.length) l4 ?_
  refine r_iconst (q := 16) (nI 1) dX12_termAt_15 rfl (by decide) ?_
  refine r_isubN (q := 17) (by omega) dX12_termAt_16 rfl ?_
  refine r_callS (Mc := mX12_isIn) (q := 20) (As := [zi (nI m), zi (nI 0), zi (nI (c.length - 1))]) (st := []) dX12_termAt_17 rfl rfl mkX12_isIn wt1614 wt1615 rfl (Nat.le_of_ble_eq_true rfl) (Nat.le_of_ble_eq_true rfl) (by decide) (by decide) (by decide) (Or.inl rfl) hs.some (ok_X12_isIn_in (S := sI S 12 0 0 (nI 0)) (Nat.zero_le m) (show m ≤ c.length - 1 by omega) (by omega)) (fun r17 S17 hp17 => ?_)
  obtain ⟨rfl, hq17⟩ := hp17
  rw [hq17]
  show Ok _ _ _ [zi (nI 1)] _ _
  refine r_if_neN (q := 23) (t := 25) (by omega) dX12_termAt_20 (by decide) rfl (fun h20 => ?_) (fun h20 => absurd h20 (by omega))
  refine r_aload_n (q := 26) dX12_termAt_25 rfl rfl rfl ?_
  refine r_aload_n (q := 27) dX12_termAt_26 rfl rfl rfl ?_
  refine r_getr (q := 30) (some (1306, 0)) ck12 dX12_termAt_27 rfl (k := 6) (by decide) wt1284 rfl (hs.e (by decide)) (hs.r (by decide) (by decide)) ?_
  refine r_sipush (q := 33) (nI 1175) dX12_termAt_30 rfl (by decide) ?_
  refine r_iload_n (q := 34) dX12_termAt_33 rfl rfl rfl ?_
  refine r_iaddN (q := 35) dX12_termAt_34 rfl ?_
  refine r_ialdN (q := 36) 3775 (by decide) rfl dX12_termAt_35 rfl (hs.e (by decide)) (hs.n rfl (by decide)) (by omega) (by decide) ?_
  refine r_topi (y := gI S 1306 0 (1175 + m)) (by simp [gI_sI, gJ_sJ, gI_sJ, gJ_sI]) ?_
  refine r_topi (y := nI (cd (c.getD m zd).1)) (hr m hm) ?_
  refine r_callV (Mc := mX12_write) (q := 39) (As := [zi (nI (cd (c.getD m zd).1))]) (st := []) ck12 dX12_termAt_36 rfl rfl mkX12_write wt1742 wt1744 wp98 rfl (Nat.le_of_ble_eq_true rfl) (Nat.le_of_ble_eq_true rfl) (by decide) (by decide) (by decide) (Or.inl rfl) (hs.e (by decide)) (ok_X12_write (S := sI S 12 0 0 (nI 0)) hs hW htr hS.2.1 (fun a ha => ⟨by rw [gI_sI, if_neg (by omega)]; exact (hR.2.2.2.1 a ha).1, (hR.2.2.2.1 a ha).2⟩)) (fun r36 S36 hp36 => ?_)
  obtain ⟨rfl, f, x⟩ := hp36
  show Ok _ _ _ [zi (nI ((tx (wn W) (we W) [] (c.getD m zd).1).length))] _ _
  refine r_istore_n (q := 40) (L' := [some (zr 12 0), some (zi (nI m)), some (zi i), some (zi (nI ((tx (wn W) (we W) [] (c.getD m zd).1).length)))]) dX12_termAt_39 rfl rfl (by decide) rfl ?_
  refine r_iload_n (q := 41) dX12_termAt_40 rfl rfl rfl ?_
  refine r_iconst (q := 42) (nI 0) dX12_termAt_41 rfl (by decide) ?_
  refine r_iload_n (q := 43) dX12_termAt_42 rfl rfl rfl ?_
  refine r_iconst (q := 44) (nI 1) dX12_termAt_43 rfl (by decide) ?_
  refine r_isub (q := 45) dX12_termAt_44 rfl ?_
  refine r_callS (Mc := mX12_isIn) (q := 48) (As := [zi i, zi (nI 0), zi ((nI ((tx (wn W) (we W) [] (c.getD m zd).1).length)) - (nI 1))]) (st := []) dX12_termAt_45 rfl rfl mkX12_isIn wt1614 wt1615 rfl (Nat.le_of_ble_eq_true rfl) (Nat.le_of_ble_eq_true rfl) (by decide) (by decide) (by decide) (Or.inl rfl) (Sd.fr (S := sI S 12 0 0 (nI 0)) hs f).some (ok_X12_isIn_out (S := S36) (fun z => hi ⟨z.1, hz2 z.2 z.1⟩)) (fun r45 S45 hp45 => ?_)
  obtain ⟨rfl, hq45⟩ := hp45
  rw [hq45]
  show Ok _ _ _ [zi (nI 0)] _ _
  refine r_if_eqN (q := 51) (t := 60) (by omega) dX12_termAt_48 (by decide) rfl (fun h48 => ?_) (fun h48 => absurd h48 (by omega))
  refine r_iconst (q := 61) ((-1 : Int32)) dX12_termAt_60 rfl (by decide) ?_
  refine r_ireturn dX12_termAt_61 rfl ?_
  exact ⟨rfl, (Fr.i Fr.rf rfl).tr (f.mono tWr_q)⟩

set_option maxRecDepth 100000 in
theorem ok_X11_termAt_no {S : zS} (hs : Sd S) {e : Nat} (hte : gI S 8 0 1 = nI e) {a : Int32} (ha : ¬ (0 ≤ a ∧ a < nI e)) (i : Int32) : Ok mX11_termAt 0 (ent 3 [zr 11 0, zi a, zi i]) [] S (fun r S1 => r = some (zi (-1)) ∧ S1 = S) := by
  show Ok mX11_termAt 0 [some (zr 11 0), some (zi a), some (zi i)] [] S _
  refine r_iload_n (q := 1) dX11_termAt_0 rfl rfl rfl ?_
  refine r_if_lt (q := 4) (t := 15) dX11_termAt_1 (by decide) rfl (fun h1 => ?_) (fun h1 => ?_)
  · skip
    refine r_iconst (q := 16) ((-1 : Int32)) dX11_termAt_15 rfl (by decide) ?_
    refine r_ireturn dX11_termAt_16 rfl ?_
    exact ⟨rfl, rfl⟩
  · skip
    refine r_iload_n (q := 5) dX11_termAt_4 rfl rfl rfl ?_
    refine r_aload_n (q := 6) dX11_termAt_5 rfl rfl rfl ?_
    refine r_getr (q := 9) (some (8, 0)) ck11 dX11_termAt_6 rfl (k := 7) (by decide) wt429 rfl (hs.e (by decide)) (hs.r (by decide) (by decide)) ?_
    refine r_geti (q := 12) ck8 dX11_termAt_9 rfl (k := 1) (by decide) wt67 (Or.inl rfl) (hs.e (by decide)) ?_
    refine r_topi (y := nI e) hte ?_
    refine r_icmp_lt (q := 15) (t := 17) dX11_termAt_12 (by decide) rfl (fun h12 => ?_) (fun h12 => ?_)
    · skip
      exact absurd ⟨Int32.not_lt.mp h1, h12⟩ ha
    · skip
      refine r_iconst (q := 16) ((-1 : Int32)) dX11_termAt_15 rfl (by decide) ?_
      refine r_ireturn dX11_termAt_16 rfl ?_
      exact ⟨rfl, rfl⟩

set_option maxRecDepth 100000 in
theorem ok_X12_termAt_no {S : zS} (hs : Sd S) {e : Nat} (hte : gI S 1306 0 1174 = nI e) (he : e < 1073741824) {a : Int32} (ha : ¬ (0 ≤ a ∧ a < nI e)) (i : Int32) : Ok mX12_termAt 0 (ent 4 [zr 12 0, zi a, zi i]) [] S (fun r S1 => r = some (zi (-1)) ∧ S1 = sI S 12 0 0 (nI 0)) := by
  show Ok mX12_termAt 0 [some (zr 12 0), some (zi a), some (zi i), none] [] S _
  refine r_aload_n (q := 1) dX12_termAt_0 rfl rfl rfl ?_
  refine r_iconst (q := 2) (nI 0) dX12_termAt_1 rfl (by decide) ?_
  refine r_puti (q := 5) ck12 dX12_termAt_2 rfl (k := 0) (by decide) wt1278 (Or.inl rfl) rfl (hs.e (by decide)) ?_
  refine r_iload_n (q := 6) dX12_termAt_5 rfl rfl rfl ?_
  refine r_iconst (q := 7) (nI 0) dX12_termAt_6 rfl (by decide) ?_
  refine r_aload_n (q := 8) dX12_termAt_7 rfl rfl rfl ?_
  refine r_getr (q := 11) (some (1306, 0)) ck12 dX12_termAt_8 rfl (k := 6) (by decide) wt1284 rfl (hs.e (by decide)) (hs.r (by decide) (by decide)) ?_
  refine r_sipush (q := 14) (nI 1174) dX12_termAt_11 rfl (by decide) ?_
  refine r_ialdN (q := 15) 3775 (by decide) rfl dX12_termAt_14 rfl (hs.e (by decide)) (hs.n rfl (by decide)) (by omega) (by decide) ?_
  refine r_topi (y := gI S 1306 0 1174) (by simp [gI_sI, gJ_sJ, gI_sJ, gJ_sI]) ?_
  refine r_topi (y := nI e) hte ?_
  refine r_iconst (q := 16) (nI 1) dX12_termAt_15 rfl (by decide) ?_
  refine r_isub (q := 17) dX12_termAt_16 rfl ?_
  refine r_callS (Mc := mX12_isIn) (q := 20) (As := [zi a, zi (nI 0), zi ((nI e) - (nI 1))]) (st := []) dX12_termAt_17 rfl rfl mkX12_isIn wt1614 wt1615 rfl (Nat.le_of_ble_eq_true rfl) (Nat.le_of_ble_eq_true rfl) (by decide) (by decide) (by decide) (Or.inl rfl) hs.some (ok_X12_isIn_out (S := sI S 12 0 0 (nI 0)) (fun z => ha ⟨z.1, (le_pred he).mp z.2⟩)) (fun r17 S17 hp17 => ?_)
  obtain ⟨rfl, hq17⟩ := hp17
  rw [hq17]
  show Ok _ _ _ [zi (nI 0)] _ _
  refine r_if_neN (q := 23) (t := 25) (by omega) dX12_termAt_20 (by decide) rfl (fun h20 => absurd h20 (by omega)) (fun h20 => ?_)
  refine r_iconst (q := 24) ((-1 : Int32)) dX12_termAt_23 rfl (by decide) ?_
  refine r_ireturn dX12_termAt_24 rfl ?_
  exact ⟨rfl, rfl⟩

theorem pg_termAt {S : zS} (hs : Sd S) {W : zWd} {cc : Nat} (hcc : gI S 11 0 3 = nI cc) (hc4 : cc < 4) (hw : WR wq S W cc 1306 0 1308 0) (hA : SR sq S W 0 1306 1173) (hT : TLs S) (a i : Int32) : Pg mX11_termAt 3 [zr 11 0, zi a, zi i] mX12_termAt 4 [zr 12 0, zi a, zi i] S (fun S2 => ∃ S1, (S1 = S ∨ Fr tWx S S1) ∧ (S2 = sI S1 12 0 0 (nI 0) ∨ Fr tWr S1 S2)) := by
  obtain ⟨hW, hC, hR⟩ := hw.c
  obtain ⟨lv, c, hS, l1, l2, l3, l4, hrow⟩ := hA.get
  have hlen := hS.len
  have hty : Ty S 0 c := by
    obtain ⟨m, e9, m1, m2, m3, m4, m5, m6⟩ := hT 0 (by omega)
    have hcl : c.length = e9 := by
      have t1 := congrArg Int32.toInt (l3.symm.trans m5)
      rw [nI_toInt (by have := hS.len; omega), nI_toInt (by omega)] at t1
      omega
    exact ⟨l3, fun k hk => ⟨(hrow k hk).1, (hrow k hk).2.1⟩, m, m1, m2, m3, m4, by omega⟩
  by_cases ha : 0 ≤ a ∧ a < nI c.length
  · obtain ⟨m, hm, rfl⟩ := zz_of ha (by omega)
    have htr := (hS.2.2.1.1.2 _ (mem_getD hm)).1
    have hl64 := tx_len (nm := wn W) (e := we W) (c.getD m zd).1 []
    rw [List.length_nil] at hl64
    have hcn := htr.1.cnt hW.2.1.two
    have hl7 := htr.2
    have hlv7 := hS.2.1
    have hR1 : ∀ S1, Fr tWx S S1 → wqR W (fun k => gI S1 1306 0 k) (fun i => gJ S1 1308 0 i) := fun S1 f => hR.cong hW (fun k _ _ => (f.1 _ _ _ rfl).symm) (fun i _ => (f.2.1 _ _ _ rfl).symm)
    by_cases hi : 0 ≤ i ∧ i < nI (tx (wn W) (we W) [] (c.getD m zd).1).length
    · obtain ⟨j, hj, rfl⟩ := zz_of hi (by omega)
      refine Ok.mono (ok_X11_termAt_in hs hcc hc4 hW hC hS l1 hty hm hj) fun r S1 z => ⟨_, z.1, hs.fr z.2, ?_⟩
      exact Ok.mono (ok_X12_termAt_in (hs.fr z.2) hW (hR1 S1 z.2) hS ((z.2.1 _ _ _ rfl).trans l4) (fun k hk => (z.2.1 _ _ _ rfl).trans (hrow k hk).2.2.1) hm hj) fun r2 S2 y => ⟨y.1, S1, Or.inr z.2, Or.inr y.2⟩
    · refine Ok.mono (ok_X11_termAt_out hs hcc hc4 hW hC hS l1 hty hm hi) fun r S1 z => ⟨_, z.1, hs.fr z.2, ?_⟩
      exact Ok.mono (ok_X12_termAt_out (hs.fr z.2) hW (hR1 S1 z.2) hS ((z.2.1 _ _ _ rfl).trans l4) (fun k hk => (z.2.1 _ _ _ rfl).trans (hrow k hk).2.2.1) hm hi) fun r2 S2 y => ⟨y.1, S1, Or.inr z.2, Or.inr y.2⟩
  · exact Pg.mono (pg_get hs (ok_X11_termAt_no hs l3 ha i) (ok_X12_termAt_no hs l4 (by omega) ha i) rfl) fun S2 z => ⟨S, Or.inl rfl, Or.inl z⟩

