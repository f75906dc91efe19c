theorem law_frame {s t : State} {o : Outcome} {L : List Loc} {k n : Nat} (h : FrameEnd s o t L k n) (hL : ∀ q ∈ L, s.heap.size ≤ q.base) (hk : k ≤ 601024) (hn : n ≤ 7293033) : Framed s o t [] 601024 7293033 := by
  obtain ⟨h1, h2, h3⟩ := h
  refine ⟨h1, h2, ?_⟩
  obtain ⟨g1, g2, g3, g4, g5, g6⟩ := h3
  refine ⟨g1, g2, by omega, g4, by omega, fun a c hc => ?_⟩
  obtain ⟨c', f1, f2, f3, f4⟩ := g6 a c hc
  refine ⟨c', f1, f2, f3, fun i _ => f4 i fun hm => ?_⟩
  have := hL _ hm
  have := (Array.getElem?_eq_some_iff.mp hc).1
  simp at *
  omega
theorem arr_prim {s : State} {args : Array Value} {ty : FieldType} (hr : refKind ty = false) (h : (Cond.arrayClass ty).before args s = true) : ∃ cA, ArrOfT s cA ty ∧ va_RA s cA ty := by
  obtain ⟨c, k, comp, h1, h2, h3⟩ := Cond.arrayClass_spec h
  refine ⟨c, fun n z => ⟨fun k h => (by cases h), k, h2, comp, h3⟩, ?_⟩
  cases ty <;> first | exact h1 | cases hr
theorem arr_obj {s : State} {args : Array Value} {C : String} (h : (Cond.arrayOver (.object C)).before args s = true) : ∃ cA, ArrOfT s cA (.object C) ∧ va_RA s cA (.object C) := by
  obtain ⟨comp, c, k, h1, h2, h3, h4, h5⟩ := Cond.arrayOver_spec h
  exact ⟨c, fun n z => ⟨fun k h => (by cases h), k, h3, comp, h4⟩, k, comp, h3, h4, h1, h5⟩
theorem arr_arr {s : State} {args : Array Value} {t : FieldType} (h : (Cond.arrayOver (.array t)).before args s = true) : ∃ cA, ArrOfT s cA (.array t) ∧ va_RA s cA (.array t) := by
  obtain ⟨comp, c, k, h1, h2, h3, h4⟩ := Cond.arrayOver_specA h
  exact ⟨c, fun n z => ⟨fun k h => (by cases h), k, h2, comp, h3⟩, h4⟩
/-! THE CLAIM OUT OF ONE WALK OF THE LAW'S BODY. Your part is whole_start (and what it stands on); all else here is the same for every law, but numbers. -/
def R_law : String := "LeafWorldsLaw"
def lw_P (b : Addr) (xs : List Int32) (args : Array Value) (s : State) : Prop := args = #[.ref b] ∧ s.IntsAt b xs ∧ xs.length ≤ 3072 ∧ (Jvm.Cond.and given_1 narrow_1).before args s = true
def lw_Q (_ : Array Value) (s : State) (o : Outcome) (t : State) : Prop := o = .returned (some (.int 1)) ∧ Framed s o t [] 601024 7293033
def lw_Z (below : List Frame) (a : Array Value) (s : State) : State → Prop := fun t => ∃ o, t.status = .running ∧ Ended t below o ∧ lw_Q a s o t
/-- the law's own end, with 1 on the stack, nothing written that was there before, its room as the claim has it -/
theorem lw_ret {p : Program} {l : Launch} {e : Env} {s : State} {m : MethodId} {below : List Frame} {meth : Method} {c : Code} {b : Nat} (hx : p.tables.exec = Jvm.exec) (hb : c.code = code) (hr : meth.sig.returnType = ret) (hlocks : meth.locks = false) {pc : Nat} {H : Heap} {ls : Array Slot} (hdg : decode code pc = .ok (.ireturn, 1)) : W p l e room_1 s m #[Value.ref b] below meth c H [] 601024 7293033 (lw_Z below #[Value.ref b] s) (F0 m pc ls [.int 1]) := by
  intro T hT X
  obtain ⟨fs, hret, hrun, hended, hW, hframe⟩ := X.leave (v := some (.int 1)) (hlocks := hlocks) (fun h => by rw [hr] at h; cases h)
  have hmeth' : T.vm.method? m = some meth := X.method'
  refine ⟨T.setFrames fs, ?_, .returned (some (.int 1)), hrun, hended, rfl, ⟨_, rfl⟩, hW, hframe⟩
  jvm_step X.here [X.here.top, hx, hb, hdg, hmeth', hr, ret, narrow_b1]
  (try refine ⟨rfl, ?_⟩); (try refine ⟨rfl, ?_⟩)
  first | (intro acts; rw [hret _ acts rfl rfl rfl]) | rw [hret _ _ rfl rfl rfl]
  exact Steps.refl _
/-- what holds at the law's entry: the machine, the code, the tables' words (any of lw_tbl by 'hts w (by decide +kernel)'), the script of L ints xs at the cell b, what the Statement gives of the start (any of its parts by flat_of_before) -/
def lw_At (p : Program) (s : State) (m : MethodId) (meth : Method) (c : Code) (b L : Nat) (xs : Nat → Int32) : Prop :=
  p.tables.exec = Jvm.exec ∧ c.code = code ∧ meth.sig.returnType = ret ∧ c.maxLocals = 8 ∧ s.vm.findClass R_law = some m.cls ∧ (∀ w ∈ lw_tbl, w.before #[Value.ref b] s = true) ∧ va_X b L xs s s.heap ∧ b < s.heap.size ∧ meth.locks = false ∧ (Jvm.Cond.and given_1 narrow_1).before #[Value.ref b] s = true

set_option maxRecDepth 100000 in
set_option maxHeartbeats 4000000 in
theorem whole_of (law_ok : ∀ (n : Nat) (f : Nat → Int32), n ≤ 3072 → Ok (mL_law n f) 0 [some (zr 77777 0), none, none, none, none, none, none, none] [] z0 (fun r S1 => r = some (zi (nI 1)) ∧ gC S1 ≤ 601024 ∧ gQ S1 ≤ 7293033)) {p : Program} {e : Env} {s : State} {m : MethodId} {below : List Frame} {meth : Method} {c : Code} (l : Launch) (hst : l.stackTraces = false) {b L : Nat} {xs : Nat → Int32} (hL : L ≤ 3072) (C0 : lw_At p s m meth c b L xs) : W p l e room_1 s m #[Value.ref b] below meth c s.heap [] 0 0 (lw_Z below #[Value.ref b] s) (entryFrame m ([Value.ref b] : List Value).toArray 8) := by
  obtain ⟨hx, hb, hr, hml, hown, hts, hX, hbl, hlocks, hgv⟩ := id C0
  have htg : ∀ w ∈ GW, w.before #[Value.ref b] s = true := fun w hw => hts w (List.mem_filter.mp hw).1
  obtain ⟨c0, i0, hKn0⟩ := u_known (C := RX0) (T := TX0) (N := 13) (n := 13) htg ck0.2.2.2.1 (htg _ wt281)
  obtain ⟨c1, i1, hKn1⟩ := u_known (C := RX1) (T := TX1) (N := 6) (n := 6) htg ck1.2.2.2.1 (htg _ wt223)
  obtain ⟨c2, i2, hKn2⟩ := u_known (C := RX2) (T := TX2) (N := 3) (n := 3) htg ck2.2.2.2.1 (htg _ wt264)
  obtain ⟨c3, i3, hKn3⟩ := u_known (C := RX3) (T := TX3) (N := 6) (n := 6) htg ck3.2.2.2.1 (htg _ wt194)
  obtain ⟨c4, i4, hKn4⟩ := u_known (C := RX4) (T := TX4) (N := 16) (n := 16) htg ck4.2.2.2.1 (htg _ wt114)
  obtain ⟨c5, i5, hKn5⟩ := u_known (C := RX5) (T := TX5) (N := 2) (n := 2) htg ck5.2.2.2.1 (htg _ wt248)
  obtain ⟨c6, i6, hKn6⟩ := u_known (C := RX6) (T := TX6) (N := 4) (n := 4) htg ck6.2.2.2.1 (htg _ wt92)
  obtain ⟨c7, i7, hKn7⟩ := u_known (C := RX7) (T := TX7) (N := 2) (n := 2) htg ck7.2.2.2.1 (htg _ wt32)
  obtain ⟨c8, i8, hKn8⟩ := u_known (C := RX8) (T := TX8) (N := 4) (n := 4) htg ck8.2.2.2.1 (htg _ wt50)
  obtain ⟨c9, i9, hKn9⟩ := u_known (C := RX9) (T := TX9) (N := 11) (n := 11) htg ck9.2.2.2.1 (htg _ wt283)
  obtain ⟨c10, i10, hKn10⟩ := u_known (C := RX10) (T := TX10) (N := 4) (n := 4) htg ck10.2.2.2.1 (htg _ wt175)
  obtain ⟨c11, i11, hKn11⟩ := u_known (C := RX11) (T := TX11) (N := 20) (n := 20) htg ck11.2.2.2.1 (htg _ wt22)
  obtain ⟨c12, i12, hKn12⟩ := u_known (C := RX12) (T := TX12) (N := 94) (n := 94) htg ck12.2.2.2.1 (htg _ wt1258)
  obtain ⟨dC, dI, hKc⟩ : ∃ (dC : Nat → ClassId) (dI : Nat → Nat → Nat), ∀ (k : Nat) (q : vw_C), vwCl[k]? = some q → u_Kn s q.1 q.2.1 q.2.2 (dC k) (dI k) := by
    refine ⟨fun k => if k = 0 then c0 else if k = 1 then c1 else if k = 2 then c2 else if k = 3 then c3 else if k = 4 then c4 else if k = 5 then c5 else if k = 6 then c6 else if k = 7 then c7 else if k = 8 then c8 else if k = 9 then c9 else if k = 10 then c10 else if k = 11 then c11 else c12, fun k => if k = 0 then i0 else if k = 1 then i1 else if k = 2 then i2 else if k = 3 then i3 else if k = 4 then i4 else if k = 5 then i5 else if k = 6 then i6 else if k = 7 then i7 else if k = 8 then i8 else if k = 9 then i9 else if k = 10 then i10 else if k = 11 then i11 else i12, ?_⟩
    intro k q hq
    match k, hq with
    | 0, hq => cases hq; exact hKn0
    | 1, hq => cases hq; exact hKn1
    | 2, hq => cases hq; exact hKn2
    | 3, hq => cases hq; exact hKn3
    | 4, hq => cases hq; exact hKn4
    | 5, hq => cases hq; exact hKn5
    | 6, hq => cases hq; exact hKn6
    | 7, hq => cases hq; exact hKn7
    | 8, hq => cases hq; exact hKn8
    | 9, hq => cases hq; exact hKn9
    | 10, hq => cases hq; exact hKn10
    | 11, hq => cases hq; exact hKn11
    | 12, hq => cases hq; exact hKn12
    | k + 13, hq => simp [vwCl] at hq
  obtain ⟨y0, ya0, yr0⟩ := arr_prim (ty := .byte) rfl (htg _ wt46)
  obtain ⟨y1, ya1, yr1⟩ := arr_prim (ty := .int) rfl (htg _ wt47)
  obtain ⟨y2, ya2, yr2⟩ := arr_prim (ty := .long) rfl (htg _ wt173)
  obtain ⟨y3, ya3, yr3⟩ := arr_prim (ty := .boolean) rfl (htg _ wt421)
  have o0 : (Cond.arrayOver (.object RX0)).before #[Value.ref b] s = true := (hts _ (tb_in (List.mem_of_getElem? (i := 30) (by decide +kernel))))
  have o7 : (Cond.arrayOver (.object RX7)).before #[Value.ref b] s = true := (hts _ (tb_in (List.mem_of_getElem? (i := 48) (by decide +kernel))))
  have o8 : (Cond.arrayOver (.object RX8)).before #[Value.ref b] s = true := (hts _ (tb_in (List.mem_of_getElem? (i := 90) (by decide +kernel))))
  have oi : (Cond.arrayOver (.array .int)).before #[Value.ref b] s = true := (hts _ (tb_in (List.mem_of_getElem? (i := 270) (by decide +kernel))))
  have ol : (Cond.arrayOver (.array .long)).before #[Value.ref b] s = true := (hts _ (tb_in (List.mem_of_getElem? (i := 254) (by decide +kernel))))
  obtain ⟨y4, ya4, yr4⟩ := arr_obj o0
  obtain ⟨y5, ya5, yr5⟩ := arr_obj o7
  obtain ⟨y6, ya6, yr6⟩ := arr_obj o8
  obtain ⟨y7, ya7, yr7⟩ := arr_arr oi
  obtain ⟨y8, ya8, yr8⟩ := arr_arr ol
  have hK : Kx ((dC, dI), fun k => if k = 100 then b else if k = 0 then y0 else if k = 1 then y1 else if k = 2 then y2 else if k = 3 then y3 else if k = 4 then y4 else if k = 5 then y5 else if k = 6 then y6 else if k = 7 then y7 else y8, s.heap.size) s := by
    refine ⟨⟨hKc, fun k q hq => ?_⟩, fun w hw => va_Nw.of (by have h2 := (List.mem_filter.mp hw).2; cases w <;> first | rfl | (simp [isNest] at h2)) (hts w (List.mem_filter.mp hw).1), va_AO.of o0, va_AO.of o7, va_AO.of o8, oi, ol⟩
    match k, hq with
    | 0, hq => cases hq; exact ⟨ya0, yr0⟩
    | 1, hq => cases hq; exact ⟨ya1, yr1⟩
    | 2, hq => cases hq; exact ⟨ya2, yr2⟩
    | 3, hq => cases hq; exact ⟨ya3, yr3⟩
    | 4, hq => cases hq; exact ⟨ya4, yr4⟩
    | 5, hq => cases hq; exact ⟨ya5, yr5⟩
    | 6, hq => cases hq; exact ⟨ya6, yr6⟩
    | 7, hq => cases hq; exact ⟨ya7, yr7⟩
    | 8, hq => cases hq; exact ⟨ya8, yr8⟩
    | k + 9, hq => simp [ztys] at hq
  obtain ⟨r, S', ⟨hr1, hC9, hQ9⟩, hC, hQ, hE, hrun⟩ := law_ok L xs hL
  subst hr1
  have hst2 : ∀ (k : Nat) (tx : String), (Cond.stringRef RX11 k tx).before #[Value.ref b] s = true → ∃ sa, vk_R RX11 k tx sa s := fun k tx h => by
    have h0 : (Cond.stringRef RX11 k tx).before #[] s = true := by
      first
        | exact h
        | (simp only [Cond.before, Cond.holds, Cond.value, State.names, State.poolOf?, State.resolvedAt?] at h ⊢; exact h)
    obtain ⟨cur, hcur⟩ : ∃ cur, s.vm.findClass RX11 = some cur := by
      have h1 := h0
      simp only [Cond.before, Cond.holds, Cond.value] at h1
      cases hc : s.vm.findClass RX11 with
      | none => simp [hc] at h1
      | some cur => exact ⟨cur, rfl⟩
    obtain ⟨-, -, -, sa, -, -, -, -, -, hev⟩ := Cond.stringRef_spec hcur h0
    exact ⟨sa, vk_R.of h0 hev⟩
  have hs1 := hst2 217 "no such term" (hts _ (tb_in (List.mem_of_getElem? (i := 1213) (by decide +kernel))))
  have hs2 := hst2 282 "not 1 to 7, or too many trees" (hts _ (tb_in (List.mem_of_getElem? (i := 1246) (by decide +kernel))))
  have hzz : zZ ((dC, dI), fun k => if k = 100 then b else if k = 0 then y0 else if k = 1 then y1 else if k = 2 then y2 else if k = 3 then y3 else if k = 4 then y4 else if k = 5 then y5 else if k = 6 then y6 else if k = 7 then y7 else y8, s.heap.size) s s.heap := ⟨vx_Zqof (args := #[Value.ref b]) (hts _ (tb_in (List.mem_of_getElem? (i := 1201) (by decide +kernel)))) (hts _ (tb_in (List.mem_of_getElem? (i := 17) (by decide +kernel)))) (flat_of_before _ hgv _ (by decide +kernel)) (fun a ha => Nat.not_le.mpr ha), vx_Zqof (args := #[Value.ref b]) (hts _ (tb_in (List.mem_of_getElem? (i := 1203) (by decide +kernel)))) (hts _ (tb_in (List.mem_of_getElem? (i := 17) (by decide +kernel)))) (flat_of_before _ hgv _ (by decide +kernel)) (fun a ha => Nat.not_le.mpr ha), fun w hw => va_tabs (by have h2 := (List.mem_filter.mp hw).2; rw [Bool.and_eq_true] at h2; exact h2.2) rfl (hts w (List.mem_filter.mp hw).1), hs1, hs2⟩
  have hl := lv_entry ([.ref b]) (n := 8) (Nat.le_of_ble_eq_true rfl)
  rw [lg_entry_eq]
  have hl2 := ent_has (adr := fun x y => if x = 77777 ∧ y = 0 then b else 0) (vs := [zr 77777 0]) (n := 8) hl
  have cx : Cx (mL_law L xs) (p, l, e, room_1, s, m, #[Value.ref b], below, meth, c) ((dC, dI), fun k => if k = 100 then b else if k = 0 then y0 else if k = 1 then y1 else if k = 2 then y2 else if k = 3 then y3 else if k = 4 then y4 else if k = 5 then y5 else if k = 6 then y6 else if k = 7 then y7 else y8, s.heap.size) :=
    ⟨hx, hb, hml, hown, htg, hr, hlocks, (fun z => absurd z (show ¬ ("law" : String) = "<init>" by decide)), hK, Nat.le_refl _, Nat.le_of_ble_eq_true rfl, Nat.le_of_ble_eq_true rfl, fun _ => ⟨hX, hbl, hbl⟩, hst, hzz, fun z => absurd ⟨rfl, rfl⟩ z.2, fun z => absurd z (show ¬ 2 / 10 = 2 by decide)⟩
  have k := hrun _ _ (fun x y => if x = 77777 ∧ y = 0 then b else 0) (fun x y => if x = 77777 ∧ y = 0 then b else 0) (fun _ _ => false) 0 0 cx (Nat.zero_le _) (Nat.zero_le _) (by rw [Nat.sub_zero]; exact hC9) (by rw [Nat.sub_zero]; exact hQ9) (fun _ _ z => by cases z) kA.rf s.heap [] _ ⟨(fun x y z => (by cases z)), (fun x y _ _ z => (by cases z)), (fun x y _ _ z => (by cases z)), rfl, rfl⟩ va_S.rf hl2
  rw [zend_n (show 2 / 10 ≠ 1 by decide)] at k
  intro T hT X
  obtain ⟨t, t1, o9, t2, t3, ⟨⟨adr', t4, -, -⟩, -⟩, Lz, t5, t6⟩ := k T hT X
  cases t4
  exact ⟨t, t1, _, t2, t3, rfl, law_frame t5 t6 (by rw [Nat.sub_zero]; exact hC9) (by rw [Nat.sub_zero]; exact hQ9)⟩

