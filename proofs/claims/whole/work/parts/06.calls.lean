/-! RETURNS -/
section
variable {M : mD} {pc q : Nat} {L : List (Option zV)} {st : List zV} {S : zS} {Po : Option zV → zS → Prop}
theorem r_ireturn {x : Int32} (hd : decode (mb M) pc = .ok (.ireturn, 1)) (hr : mr M = some .int) (hp : Po (some (zi x)) S) (hth : Nat.beq (mg M / 10) 1 = false := by rfl) : Ok M pc L [zi x] S Po := by
  refine ⟨_, S, hp, Nat.le_refl _, Nat.le_refl _, fun _ _ h => h, ?_⟩
  intro X G adr0 adr E0 p0 q0 cx g1 g2 g3 g4 g5 g6 H locs ls hR hS hl
  obtain ⟨hx, hb, -, -, -, hrt, hlk, -⟩ := cx
  rw [zend_n (thN hth)]
  exact W.iret hx hb (hrt.trans hr) (fun t ht hW => ⟨⟨adr, rfl, by rw [ht]; exact hR, g6⟩, hS.F ht⟩) hS.2.2 hd hlk
theorem r_zreturn {x : Int32} (hx01 : x = 0 ∨ x = 1) (hd : decode (mb M) pc = .ok (.ireturn, 1)) (hr : mr M = some .boolean) (hp : Po (some (zi x)) S) (hth : Nat.beq (mg M / 10) 1 = false := by rfl) : Ok M pc L [zi x] S Po := by
  refine ⟨_, S, hp, Nat.le_refl _, Nat.le_refl _, fun _ _ h => h, ?_⟩
  intro X G adr0 adr E0 p0 q0 cx g1 g2 g3 g4 g5 g6 H locs ls hR hS hl
  obtain ⟨hx, hb, -, -, -, hrt, hlk, -⟩ := cx
  rw [zend_n (thN hth)]
  exact W.zret hx hb (hrt.trans hr) (by rcases hx01 with rfl | rfl <;> rfl) (fun t ht hW => ⟨⟨adr, rfl, by rw [ht]; exact hR, g6⟩, hS.F ht⟩) hS.2.2 hd hlk
theorem r_lreturn {x : Int64} (hd : decode (mb M) pc = .ok (.lreturn, 1)) (hr : mr M = some .long) (hp : Po (some (zl x)) S) (hth : Nat.beq (mg M / 10) 1 = false := by rfl) : Ok M pc L [zl x] S Po := by
  refine ⟨_, S, hp, Nat.le_refl _, Nat.le_refl _, fun _ _ h => h, ?_⟩
  intro X G adr0 adr E0 p0 q0 cx g1 g2 g3 g4 g5 g6 H locs ls hR hS hl
  obtain ⟨hx, hb, -, -, -, hrt, hlk, -⟩ := cx
  rw [zend_n (thN hth)]
  exact W.lret hx hb (hrt.trans hr) (fun t ht hW => ⟨⟨adr, rfl, by rw [ht]; exact hR, g6⟩, hS.F ht⟩) hS.2.2 hd hlk
theorem r_areturn {r : Option (Nat × Nat)} {rt : FieldType} (hd : decode (mb M) pc = .ok (.areturn, 1)) (hr : mr M = some rt) (hrt : (∃ n, rt = .object n) ∨ ∃ t, rt = .array t) (hp : Po (some (zq r)) S) (hth : Nat.beq (mg M / 10) 1 = false := by rfl) : Ok M pc L [zq r] S Po := by
  refine ⟨_, S, hp, Nat.le_refl _, Nat.le_refl _, fun _ _ h => h, ?_⟩
  intro X G adr0 adr E0 p0 q0 cx g1 g2 g3 g4 g5 g6 H locs ls hR hS hl
  obtain ⟨hx, hb, -, -, -, hrt', hlk, -⟩ := cx
  rw [zend_n (thN hth)]
  exact W.aret hx hb (hrt'.trans hr) hrt (by cases r with | none => exact Or.inl rfl | some p => exact Or.inr ⟨_, rfl⟩) (fun t ht hW => ⟨⟨adr, rfl, by rw [ht]; exact hR, g6⟩, hS.F ht⟩) hS.2.2 hd hlk
theorem r_return (hd : decode (mb M) pc = .ok (.return_, 1)) (hr : mr M = none) (hp : Po none S) (hth : Nat.beq (mg M / 10) 1 = false := by rfl) : Ok M pc L [] S Po := by
  refine ⟨_, S, hp, Nat.le_refl _, Nat.le_refl _, fun _ _ h => h, ?_⟩
  intro X G adr0 adr E0 p0 q0 cx g1 g2 g3 g4 g5 g6 H locs ls hR hS hl
  obtain ⟨hx, hb, -, -, -, hrt, hlk, -⟩ := cx
  rw [zend_n (thN hth)]
  exact W.vret hx hb (hrt.trans hr) (fun t ht hW => ⟨⟨adr, rfl, by rw [ht]; exact hR, g6⟩, hS.F ht⟩) hS.2.2 hd hlk
end
/-! ENTRY -/
def entL : List zV → List (Option zV)
  | [] => []
  | v :: vs => if zc v = 2 then some v :: none :: entL vs else some v :: entL vs
def ent (n : Nat) (vs : List zV) : List (Option zV) := entL vs ++ List.replicate (n - (entL vs).length) none
theorem ent_sl (adr : zA) : ∀ vs : List zV, (lg_sl (vs.map (tr adr))).length = (vs.map zc).sum
  | [] => rfl
  | v :: vs => by
    have ih := ent_sl adr vs
    unfold lg_sl at ih ⊢
    rw [List.map_cons, List.flatMap_cons, List.length_append, ih, List.map_cons, List.sum_cons, tr_cat]
    rcases v with x | x | x <;> simp [zc]
theorem entL_mem {adr : zA} : ∀ (vs : List zV) (n j : Nat) (v : zV), (entL vs)[j]? = some (some v) → (n + j, tr adr v) ∈ lv_args n (vs.map (tr adr))
  | [], n, j, v, h => by simp [entL] at h
  | w :: vs, n, j, v, h => by
    rw [List.map_cons]
    unfold lv_args
    rw [tr_cat]
    unfold entL at h
    by_cases hw : zc w = 2
    · rw [if_pos hw] at h ⊢
      match j, h with
      | 0, h => simp at h; subst h; exact List.mem_cons_self
      | 1, h => simp at h
      | j + 2, h =>
        refine List.mem_cons_of_mem _ ?_
        have := entL_mem (adr := adr) vs (n + 2) j v (by simpa using h)
        rwa [show n + (j + 2) = n + 2 + j by omega]
    · rw [if_neg hw] at h ⊢
      match j, h with
      | 0, h => simp at h; subst h; exact List.mem_cons_self
      | j + 1, h =>
        refine List.mem_cons_of_mem _ ?_
        have := entL_mem (adr := adr) vs (n + 1) j v (by simpa using h)
        rwa [show n + (j + 1) = n + 1 + j by omega]
theorem ent_has {adr : zA} {vs : List zV} {n : Nat} {ls : Array Slot} (h : lv_has ls n (lv_args 0 (vs.map (tr adr)))) : lv_has ls n (Lv adr (ent n vs)) := by
  refine ⟨h.1, h.2.1, fun q hq => ?_⟩
  obtain ⟨v, h1, h2⟩ := Lv_mem.mp hq
  obtain ⟨j, w⟩ := q
  simp only at h1 h2
  subst h2
  refine h.2.2 _ ?_
  unfold ent at h1
  by_cases hj : j < (entL vs).length
  · rw [List.getElem?_append_left hj] at h1
    have := entL_mem (adr := adr) vs 0 j v h1
    rwa [Nat.zero_add] at this
  · rw [List.getElem?_append_right (by omega), List.getElem?_replicate] at h1
    split at h1 <;> simp at h1
/-- what is fixed of a method that is called: its name, its code among the words -/
def mOK (M : mD) (n : Nat) : Prop := plainName (my M).cls = true ∧ mo M = (my M).cls ∧ Cond.code (my M) (mb M) (mn M) (mr M) ∈ GW ∧ ((my M).cls ≠ "java/lang/invoke/MethodHandle" ∧ (my M).cls ≠ "java/lang/invoke/VarHandle") ∧ (parseMethodDescriptor (my M).desc).map (fun d => d.parameters.length) = some n ∧ Cond.initialized (my M).cls ∈ GW ∧ ¬ (mo M = RL ∧ (my M).name = "law")
abbrev mW (M : mD) : List Cond := Cond.code (my M) (mb M) (mn M) (mr M) :: GW
def mRm (M : mD) (c s : Nat) : Room := { frames := mf M, cells := c, slots := s, locals := ml M }
def zPc (G : zG) (adr : zA) (S : zS) (As : List zV) : Array Value → State → Prop := va_Pc (As.map (tr adr)) (fun U => Rep G adr S U.heap ∧ Kx G U ∧ G.2.2 ≤ U.heap.size ∧ zZ G U U.heap)
theorem run_met {M : mD} {n : Nat} {As : List zV} {S S' : zS} {r : Option zV} (h : Runs M 0 (ent (mn M) As) [] S r S') (hm : mOK M n) (hA : (As.map zc).sum ≤ mn M) (l : Launch) (hst : l.stackTraces = false) (hth : mg M / 10 = 0) (G : zG) (adr : zA) :
    Met l (my M) (mW M) (mRm M (gC S' - gC S) (gQ S' - gQ S)) (zPc G adr S As) (zQ (mg M) G adr (gE S) r S') (gC S' - gC S) (gQ S' - gQ S) (fun q => G.2.2 ≤ q) := by
  obtain ⟨h1, h2, h3, h4, h5, h6, h7⟩ := hm
  refine Met.ofW (cc := mb M) (maxL := mn M) (ret := mr M) h1 rfl ?_
  intro p e s m args below meth c s₁ B hml hv
  obtain ⟨rfl, hR, hK, hbase, hzz⟩ := hv
  have hts := atoms_spec (ws := mW M) B.pre
  have htb : c.exceptionTable.toList = [] := by
    obtain ⟨meth9, c9, e1, e2, -, -, -, -, e7, -⟩ := Cond.code_spec B.named (hts _ List.mem_cons_self)
    cases Option.some.inj (e1.symm.trans B.method)
    cases Option.some.inj (e2.symm.trans (Stand.of_body B).code)
    rw [Array.isEmpty_iff.mp e7]
  have cx : Cx M (p, l, e, mRm M (gC S' - gC S) (gQ S' - gQ S), s, m, (As.map (tr adr)).toArray, below, meth, c) G :=
    ⟨B.exec, B.bytes, hml, by rw [h2]; exact findClass_of_methodNamed B.named, fun w hw => hts w (List.mem_cons_of_mem _ hw), B.returns, B.notSynchronized, fun z => (name_of_methodNamed B.named B.method).1.trans z, hK, hbase, Nat.le_refl _, Nat.le_refl _, fun z => absurd z h7, hst, hzz, fun _ => htb, fun z => absurd (hth.symm.trans z) (by decide)⟩
  have hl := lv_entry (As.map (tr adr)) (n := mn M) (by rw [ent_sl]; exact hA)
  rw [lg_entry_eq]
  have k := h.2.2.2 (p, l, e, mRm M (gC S' - gC S) (gQ S' - gQ S), s, m, (As.map (tr adr)).toArray, below, meth, c) G adr adr (gE S) (gC S) (gQ S) cx (Nat.le_refl _) (Nat.le_refl _) (Nat.le_refl _) (Nat.le_refl _) (fun _ _ h => h) kA.rf s.heap [] _ hR va_S.rf (ent_has hl)
  rw [zend_n (by omega), Nat.sub_self, Nat.sub_self] at k
  exact k
theorem zPc_blind {G : zG} {adr : zA} {S : zS} {As : List zV} : FrameBlind (zPc G adr S As) := by
  intro a U g mk h
  obtain ⟨h1, h2, h3, h4, h5⟩ := h
  exact ⟨h1, h2, Kx.same (U := U.calling g mk a) (show U.vm = (U.calling g mk a).vm from rfl) h3, h4, zZ.same (s := U) (U := U.calling g mk a) rfl h5 rfl⟩
theorem mW_good {M Mc : mD} {n : Nat} (hm : mOK Mc n) : GoodIn GW (mW Mc) := by
  intro w hw
  rcases List.mem_cons.mp hw with rfl | hw
  · exact ⟨hm.2.2.1, good_of_word (List.mem_filter.mp hm.2.2.1).2⟩
  · exact ⟨hw, good_of_word (List.mem_filter.mp hw).2⟩
/-- behind a call -/
theorem call_go {X : cX} {G : zG} {adr : zA} {S S1 : zS} {r1 : Option zV} {H : Heap} {locs : List Loc} {cells slots mc ms pc g : Nat} {Q : State → Prop} {ls : Array Slot} {stv restv : List Value} {av : Array Value}
    (hrun : va_Run (xp X) (xl X) (xe X) (xR X) (xs X) (xm X) (xa X) (xb X) (xh X) (xc X) H locs cells slots mc ms (F0 (xm X) pc ls stv) restv (zQ g G adr (gE S) r1 S1 av) (fun q => G.2.2 ≤ q)) (hS : va_S (fun q => G.2.2 ≤ q) (xs X).heap H locs)
    (kk : ∀ (H' : Heap) (locs' : List Loc) (adr' : zA), Rep G adr' S1 H' → kA g (gE S) adr adr' → va_S (fun q => G.2.2 ≤ q) (xs X).heap H' locs' → WX X H' locs' (cells + mc) (slots + ms) Q (pc + 3) ls ((r1.map (tr adr')).toList ++ restv)) : WX X H locs cells slots Q pc ls stv := by
  intro T hT XX
  obtain ⟨v, st₀, t, T', Lc, h0, X', hL, e1, e2, ⟨⟨adr', hv, hR', hk⟩, hz, hk2⟩, stp⟩ := hrun T hT XX
  cases hv
  rw [h0] at hz hk2
  obtain ⟨t2, a1, b1⟩ := kk T'.heap (locs ++ Lc) adr' (by rw [e1]; exact hR') hk
    ⟨Nat.le_trans hS.1 (by rw [e1]; exact hz), fun q h1 h2 => by rw [e1, hk2 q (Nat.lt_of_lt_of_le h1 hS.1) h2]; exact hS.2.1 q h1 h2, fun q hq => by
      rcases List.mem_append.mp hq with h | h
      · exact hS.2.2 q h
      · exact hL q h⟩ T' rfl X'
  exact ⟨t2, stp t2 a1, b1⟩
/-- values that stand where they stood -/
def ngv : zV → Bool
  | .inr (.inr (some p)) => !gw p.1
  | _ => true
def ngl (L : List (Option zV)) : Bool := L.all fun o => match o with
  | none => true
  | some v => ngv v
theorem tr_keep {g : Nat} {E0 : Nat → Nat → Bool} {adr adr' : zA} (hk : kA g E0 adr adr') {v : zV} (h : g = 0 ∨ g ≤ 1 ∧ ngv v = true) : tr adr' v = tr adr v := by
  rcases v with x | x | (_ | p)
  · rfl
  · rfl
  · rfl
  · show Value.ref _ = Value.ref _
    rw [hk p.1 p.2 (h.imp id fun z => by simpa [ngv] using z.2) (Or.inl (by omega))]
theorem trs_keep {g : Nat} {E0 : Nat → Nat → Bool} {adr adr' : zA} (hk : kA g E0 adr adr') {st : List zV} (h : g = 0 ∨ g ≤ 1 ∧ st.all ngv = true) : st.map (tr adr') = st.map (tr adr) := by
  apply List.map_congr_left
  intro v hv
  exact tr_keep hk (h.imp id fun z => ⟨z.1, List.all_eq_true.mp z.2 v hv⟩)
theorem Lv_keep {g : Nat} {E0 : Nat → Nat → Bool} {adr adr' : zA} (hk : kA g E0 adr adr') {L : List (Option zV)} {ls : Array Slot} {nL : Nat} (hl : lv_has ls nL (Lv adr L)) (h : g = 0 ∨ g ≤ 1 ∧ ngl L = true) : lv_has ls nL (Lv adr' L) := by
  refine ⟨hl.1, hl.2.1, fun q hq => ?_⟩
  obtain ⟨v, h1, h2⟩ := Lv_mem.mp hq
  rw [tr_keep hk (h.imp id fun z => ⟨z.1, by
    have := List.all_eq_true.mp z.2 (some v) (List.mem_of_getElem? h1)
    simpa using this⟩)] at h2
  exact hl.2.2 q (Lv_mem.mpr ⟨v, h1, h2⟩)
/-- a call, but for the machine's own part of it -/
theorem r_call {M Mc : mD} {pc q : Nat} {L : List (Option zV)} {st stk : List zV} {S : zS} {Po Po1 : Option zV → zS → Prop} {As : List zV} (hq : pc + 3 = q) (hg : mg Mc ≤ mg M) (hk : mg Mc = 0 ∨ mg Mc ≤ 1 ∧ (ngl L = true ∧ st.all ngv = true))
    (h : ∀ (r1 : Option zV) (S1 : zS), Runs Mc 0 (ent (mn Mc) As) [] S r1 S1 → ∀ (X : cX) (G : zG), Cx M X G → ∀ (adr : zA) (H : Heap) (locs : List Loc) (cells slots : Nat) (ls : Array Slot), Rep G adr S H → va_S (fun q => G.2.2 ≤ q) (xs X).heap H locs → lv_has ls (mn M) (Lv adr L) → cells + (gC S1 - gC S) ≤ (xR X).cells → slots + (gQ S1 - gQ S) ≤ (xR X).slots → ∃ av,
      va_Run (xp X) (xl X) (xe X) (xR X) (xs X) (xm X) (xa X) (xb X) (xh X) (xc X) H locs cells slots (gC S1 - gC S) (gQ S1 - gQ S) (F0 (xm X) pc ls (stk.map (tr adr))) (st.map (tr adr)) (zQ (mg Mc) G adr (gE S) r1 S1 av) (fun q => G.2.2 ≤ q))
    (h1 : Ok Mc 0 (ent (mn Mc) As) [] S Po1) (kk : ∀ r S1, Po1 r S1 → Ok M q L (r.toList ++ st) S1 Po) : Ok M pc L stk S Po := by
  subst hq
  obtain ⟨r1, S1, hp1, hr1⟩ := h1
  obtain ⟨r, S', hp, hC, hQ, hE, hr⟩ := kk r1 S1 hp1
  have c1 := hr1.1
  have c2 := hr1.2.1
  have c3 := hr1.2.2.1
  refine ⟨r, S', hp, by omega, by omega, fun a b z => hE a b (c3 a b z), ?_⟩
  intro X G adr0 adr E0 p0 q0 cx g1 g2 g3 g4 g5 g6 H locs ls hR hS hl
  obtain ⟨av, hrun⟩ := h r1 S1 hr1 X G cx adr H locs (gC S - p0) (gQ S - q0) ls hR hS hl (by omega) (by omega)
  refine call_go hrun hS fun H' locs' adr' hR' hk' hS' => ?_
  have := hr X G adr0 adr' E0 p0 q0 cx (by omega) (by omega) g3 g4 (fun a b z => c3 a b (g5 a b z)) (g6.trans hk' hg g5) H' locs' ls hR' hS' (Lv_keep hk' hl (hk.imp id fun z => ⟨z.1, z.2.1⟩))
  rw [show gC S - p0 + (gC S1 - gC S) = gC S1 - p0 by omega, show gQ S - q0 + (gQ S1 - gQ S) = gQ S1 - q0 by omega]
  rw [List.map_append, trs_keep hk' (hk.imp id fun z => ⟨z.1, z.2.2⟩)] at this
  rw [show (r1.map (tr adr')).toList = r1.toList.map (tr adr') by cases r1 <;> rfl]
  exact this
theorem f0_room {m : MethodId} {pc : Nat} {ls : Array Slot} {stv : List Value} {adr : zA} {st : List zV} (h : (st.map zc).sum ≤ 8) : 2 * (F0 m pc ls stv).monitorRoom + (((st.map (tr adr)).map fun v => v.category).sum) ≤ 8 := by
  rw [tr_cats]
  show 2 * 0 + _ ≤ 8
  omega
theorem callB_z {M Mc : mD} {n i : Nat} {X : cX} {G : zG} {c s : Nat} (cx : Cx M X G) (hm : mOK Mc n) (hw : Cond.methodLink (mo M) i (my Mc) ∈ GW) (hf : mf Mc + 1 ≤ mf M) (hl : 8 + (mn Mc + 11) + ml Mc ≤ ml M) : CallB (xR X) (xs X) (xa X) (mo M) i (my Mc) (mb Mc) (mn Mc) (mr Mc) (mW Mc) (mRm Mc c s) c s n := by
  obtain ⟨-, -, -, -, ht, -, -, -, -, -, hR1, hR2, -⟩ := cx
  have hm' := hm
  obtain ⟨h1, h2, h3, h4, h5, h6, -⟩ := hm
  exact callB_of n ht (mW_good (M := M) hm') rfl rfl rfl (ht _ h6) (ht _ hw) ⟨h4.1, h4.2, h5⟩ ⟨Nat.le_trans hf hR1, Nat.le_trans hl hR2⟩
/-- invokevirtual -/
theorem r_callV {M Mc : mD} {pc q a b i n N : Nat} {C : String} {T : u_T} {L : List (Option zV)} {st stk : List zV} {S : zS} {Po Po1 : Option zV → zS → Prop} {As : List zV} (hc : clsOK a C T N) (hd : decode (mb M) pc = .ok (.invokevirtual i, 3)) (hq : pc + 3 = q) (hst : stk = As.reverse ++ zr a b :: st) (hm : mOK Mc n) (hw : Cond.methodLink (mo M) i (my Mc) ∈ GW) (hwi : Cond.instanceMethod (my Mc) ∈ GW) (hws : Cond.selects C (my Mc) (my Mc) ∈ GW) (hn : As.length = n) (hA : ((zr a b :: As).map zc).sum ≤ mn Mc) (hW : (st.map zc).sum ≤ 8) (hf : mf Mc + 1 ≤ mf M) (hl : 8 + (mn Mc + 11) + ml Mc ≤ ml M) (hg : mg Mc ≤ mg M) (hk : mg Mc = 0 ∨ mg Mc ≤ 1 ∧ (ngl L = true ∧ st.all ngv = true)) (he : gE S a b = true)
    (h1 : Ok Mc 0 (ent (mn Mc) (zr a b :: As)) [] S Po1) (kk : ∀ r S1, Po1 r S1 → Ok M q L (r.toList ++ st) S1 Po) : Ok M pc L stk S Po := by
  refine r_call hq hg hk (fun r1 S1 hr1 X G cx adr H locs cells slots ls hR hS' hl' hcl hsl => ⟨(Value.ref (adr a b) :: As.map (tr adr)).toArray, ?_⟩) h1 kk
  have hM := run_met hr1 hm hA (xl X) cx.2.2.2.2.2.2.2.2.2.2.2.2.2.1 (by rcases hk with z | z <;> omega) G adr
  have cb := callB_z (c := gC S1 - gC S) (s := gQ S1 - gQ S) cx hm hw hf hl
  obtain ⟨hx, hb, hml, ho, ht, -, -, -, hK, hbs, -, -, -, -, hzz, -⟩ := cx
  have hP := rep_P hR he
  rw [cel_obj hc.2.1] at hP
  refine va_runV (As := As.map (tr adr)) (b := adr a b) ⟨hx, hb, hml, ho, ht⟩ hM ⟨cb, ht _ hwi, ht _ hws⟩ ⟨zPc_blind, va_recv hK.1 hP hc.1 (q0 := 0) rfl, fun U hU hW2 => ⟨rfl, by rw [hU]; exact hR, hK.warm hW2, ?_, hzz.go hW2 hU hS'⟩⟩ rfl (by rw [List.length_map]; exact hn) hl'.1 (by rw [hst]; simp [tr]) (f0_room hW) hd ⟨hcl, hsl⟩
  rw [hU]
  exact Nat.le_trans (hR.1 a b he).2 (Nat.le_of_lt ((hR.1 a b he).1.lt))
/-- invokestatic, of a class's own -/
theorem r_callS {M Mc : mD} {pc q i n : Nat} {L : List (Option zV)} {st stk : List zV} {S : zS} {Po Po1 : Option zV → zS → Prop} {As : List zV} (hd : decode (mb M) pc = .ok (.invokestatic i, 3)) (hq : pc + 3 = q) (hst : stk = As.reverse ++ st) (hm : mOK Mc n) (hw : Cond.methodLink (mo M) i (my Mc) ∈ GW) (hwi : Cond.static (my Mc) ∈ GW) (hn : As.length = n) (hA : (As.map zc).sum ≤ mn Mc) (hW : (st.map zc).sum ≤ 8) (hf : mf Mc + 1 ≤ mf M) (hl : 8 + (mn Mc + 11) + ml Mc ≤ ml M) (hg : mg Mc ≤ mg M) (hk : mg Mc = 0 ∨ mg Mc ≤ 1 ∧ (ngl L = true ∧ st.all ngv = true)) (hb0 : ∃ a b, gE S a b = true)
    (h1 : Ok Mc 0 (ent (mn Mc) As) [] S Po1) (kk : ∀ r S1, Po1 r S1 → Ok M q L (r.toList ++ st) S1 Po) : Ok M pc L stk S Po := by
  refine r_call hq hg hk (fun r1 S1 hr1 X G cx adr H locs cells slots ls hR hS' hl' hcl hsl => ⟨(As.map (tr adr)).toArray, ?_⟩) h1 kk
  have hM := run_met hr1 hm hA (xl X) cx.2.2.2.2.2.2.2.2.2.2.2.2.2.1 (by rcases hk with z | z <;> omega) G adr
  have cb := callB_z (c := gC S1 - gC S) (s := gQ S1 - gQ S) cx hm hw hf hl
  obtain ⟨hx, hb, hml, ho, ht, -, -, -, hK, hbs, -, -, -, -, hzz, -⟩ := cx
  refine va_runS (As := As.map (tr adr)) ⟨hx, hb, hml, ho, ht⟩ hM ⟨cb, ht _ hwi⟩ ⟨zPc_blind, fun U hU hW2 => ⟨rfl, by rw [hU]; exact hR, hK.warm hW2, ?_, hzz.go hW2 hU hS'⟩⟩ rfl (by rw [List.length_map]; exact hn) hl'.1 (by rw [hst]; simp) (f0_room hW) hd ⟨hcl, hsl⟩
  rw [hU]
  obtain ⟨a, b, he⟩ := hb0
  exact Nat.le_trans (hR.1 a b he).2 (Nat.le_of_lt ((hR.1 a b he).1.lt))
theorem callN_z {M Mc : mD} {n i : Nat} {host : String} {X : cX} {G : zG} {c s : Nat} (cx : Cx M X G) (hm : mOK Mc n) (hw : Cond.methodLinkNest (mo M) i (my Mc) host ∈ nestL) (hf : mf Mc + 1 ≤ mf M) (hl : 8 + (mn Mc + 11) + ml Mc ≤ ml M) : va_CN (xR X) (xs X) (xa X) (mo M) i (my Mc) host (mb Mc) (mn Mc) (mr Mc) (mW Mc) (mRm Mc c s) c s n := by
  obtain ⟨-, -, -, -, ht, -, -, -, hK, -, hR1, hR2, -⟩ := cx
  have hm' := hm
  obtain ⟨h1, h2, h3, h4, h5, h6, -⟩ := hm
  exact va_cnB n ht (mW_good (M := M) hm') rfl rfl rfl (hK.2.1 _ hw) (ht _ h6) ⟨h4.1, h4.2, h5⟩ ⟨Nat.le_trans hf hR1, Nat.le_trans hl hR2⟩
/-- invokestatic, of a nest mate's private method -/
theorem r_callSN {M Mc : mD} {pc q i n : Nat} {host : String} {L : List (Option zV)} {st stk : List zV} {S : zS} {Po Po1 : Option zV → zS → Prop} {As : List zV} (hd : decode (mb M) pc = .ok (.invokestatic i, 3)) (hq : pc + 3 = q) (hst : stk = As.reverse ++ st) (hm : mOK Mc n) (hw : Cond.methodLinkNest (mo M) i (my Mc) host ∈ nestL) (hwi : Cond.static (my Mc) ∈ GW) (hn : As.length = n) (hA : (As.map zc).sum ≤ mn Mc) (hW : (st.map zc).sum ≤ 8) (hf : mf Mc + 1 ≤ mf M) (hl : 8 + (mn Mc + 11) + ml Mc ≤ ml M) (hg : mg Mc ≤ mg M) (hk : mg Mc = 0 ∨ mg Mc ≤ 1 ∧ (ngl L = true ∧ st.all ngv = true)) (hb0 : ∃ a b, gE S a b = true)
    (h1 : Ok Mc 0 (ent (mn Mc) As) [] S Po1) (kk : ∀ r S1, Po1 r S1 → Ok M q L (r.toList ++ st) S1 Po) : Ok M pc L stk S Po := by
  refine r_call hq hg hk (fun r1 S1 hr1 X G cx adr H locs cells slots ls hR hS' hl' hcl hsl => ⟨(As.map (tr adr)).toArray, ?_⟩) h1 kk
  have hM := run_met hr1 hm hA (xl X) cx.2.2.2.2.2.2.2.2.2.2.2.2.2.1 (by rcases hk with z | z <;> omega) G adr
  have cb := callN_z (c := gC S1 - gC S) (s := gQ S1 - gQ S) cx hm hw hf hl
  obtain ⟨hx, hb, hml, ho, ht, -, -, -, hK, hbs, -, -, -, -, hzz, -⟩ := cx
  refine va_runSN (As := As.map (tr adr)) ⟨hx, hb, hml, ho, ht⟩ hM ⟨cb, ht _ hwi, trivial⟩ ⟨zPc_blind, fun U hU hW2 => ⟨rfl, by rw [hU]; exact hR, hK.warm hW2, ?_, hzz.go hW2 hU hS'⟩⟩ rfl (by rw [List.length_map]; exact hn) hl'.1 (by rw [hst]; simp) (f0_room hW) hd ⟨hcl, hsl⟩
  rw [hU]
  obtain ⟨a, b, he⟩ := hb0
  exact Nat.le_trans (hR.1 a b he).2 (Nat.le_of_lt ((hR.1 a b he).1.lt))
