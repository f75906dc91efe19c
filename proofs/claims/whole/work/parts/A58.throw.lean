section ZX
variable {p : Program} {l : Launch} {e : Env} {R : Room} {s : State} {m₀ : MethodId} {args : Array Value} {below : List Frame} {meth : Method} {c : Code} {W : State} {locs : List Loc} {cells slots : Nat}
set_option maxHeartbeats 1000000 in
theorem zx_ctor (X : Stand p l e R s m₀ args below meth c W locs cells slots) (hexec : p.tables.exec = Jvm.exec) (htr : e.platform.stackTraces = false) {own cls : String} {names : List String} {ic : Nat} {ix : Nat} {rx : ByteArray} (x0 : decode rx 0 = .ok (.aload_n 0, 1)) (x1 : decode rx 1 = .ok (.aload_n 1, 1)) (x2 : decode rx 2 = .ok (.invokespecial ix, 3)) (x5 : decode rx 5 = .ok (.return_, 1))
    (hown : s.vm.findClass own = some m₀.cls) (hcls : Bundle.fit cls = true) (hnames : ∀ n ∈ names, Bundle.fit n = true)
    (h : ∀ a ∈ Bundle.ownAtomsX own ic cls ix rx names, a.before args s = true)
    (hlocs : ∀ x ∈ locs, ∀ cell, s.heap[x.base]? = some cell → cell.vm.isStatics = false)
    {a : Addr} {cX : ClassId} {kX : Class} (hfoundX : s.vm.findClass cls = some cX) (hkX : s.vm.classes[cX]? = some kX) (hcell : W.heap[a]? = some (freshCell cX kX)) (hnew : s.heap.size ≤ a)
    {msg : Value} (hmsg : msg.isRef = true)
    {g : JFrame} (hg : g.method = m₀) (hsize : g.locals.size = c.maxLocals) (hlocked : g.locked = none) (hentered : g.entered = []) {rest : List Value} (hstack : g.stack = msg :: .ref a :: .ref a :: rest)
    (hd6 : decode c.code g.pc = .ok (.invokespecial ic, 3)) (hd9 : decode c.code (g.pc + 3) = .ok (.athrow, 1)) (hout : ∀ x ∈ c.exceptionTable.toList, covers x (g.pc + 3) = false)
    (hRframes : names.length + 3 < R.frames) (hRlocals : 2 * g.monitorRoom + ((Value.ref a :: rest).map fun v => v.category).sum + (13 * (names.length + 1) + 42) ≤ R.locals) (hlocks : meth.locks = false := by first | assumption | exact BodyLoose.notSynchronized (by assumption) | exact Body.notSynchronized (by assumption)) :
    ∃ U : State, Steps p.tables e below (W.setTop g) U ∧ U.status = .running ∧ Ended U below (.threw a) ∧ s.WarmedH U.vm ∧ s.sameButNew ({ U with vm := s.vm } : State) locs cells slots ∧
      ∃ ce, U.heap[a]? = some ce ∧ ce.cls = cX ∧ ce.vm = .none := by
  have howns : e.platform.frameOwnsMonitors = true := by rw [X.admits.platform]
  have hfin : e.platform.finalization = false := by rw [X.admits.platform]
  have hpl : e.platform.magicAccessors = ({} : Platform).magicAccessors := by rw [X.admits.platform]
  have a' : ∀ x, x ∈ Bundle.ownAtomsX own ic cls ix rx names → x.holds args s none s [] = true := fun x hx => h x hx
  obtain ⟨T, Z0, L, -, Y⟩ := ThrowableC.of_atoms (args := args) howns hfin hpl (fun x hx => h x (by simp [Bundle.ownAtomsX, hx]))
  obtain ⟨Z, M, LZ, LM, hnZ⟩ := Init0T.ofS_atoms (args := args) hpl L Y (fun x hx => h x (by simp [Bundle.ownAtomsX, hx]))
  obtain ⟨P1, Ps, hlen, L1, hL, hP1m, hlink1, hlink⟩ := Bundle.chainSX (args := args) hpl hnZ x0 x1 x2 x5 names cls hcls hnames (fun x hx => h x (by simp [Bundle.ownAtomsX, hx]))
  have hfound : s.vm.findClass cls = some P1.m.cls := findClass_of_methodNamed hP1m
  cases Option.some.inj (hfoundX.symm.trans hfound)
  obtain ⟨c1, kX', hc1, hk, hord, -, -, hn6⟩ := Cond.instantiable_spec (a' (.instantiable cls 6) (by simp [Bundle.ownAtomsX]))
  cases Option.some.inj (hc1.symm.trans hfound)
  cases Option.some.inj (hkX.symm.trans hk)
  have hsel0 : selectMethod e.platform s.vm P1.m.cls T.fill0 = .method T.fill0 := by
    obtain ⟨c2, r2, m2, q1, q2, q3, q4, -⟩ := Cond.selects_spec (a' (.selects cls Bundle.tFill0 Bundle.tFill0) (by simp [Bundle.ownAtomsX]))
    cases Option.some.inj (q1.symm.trans hfound)
    cases Option.some.inj (q2.symm.trans (State.methodFound?_of_named Y.fill0 (by decide)))
    cases Option.some.inj (q3.symm.trans Y.fill0)
    rw [Launch.admits_selectMethod X.admits]; exact q4
  have hselF : selectMethod e.platform s.vm P1.m.cls T.fill = .method T.fill := by
    obtain ⟨c2, r2, m2, q1, q2, q3, q4, -⟩ := Cond.selects_spec (a' (.selects cls Bundle.tFill Bundle.tFill) (by simp [Bundle.ownAtomsX]))
    cases Option.some.inj (q1.symm.trans hfound)
    cases Option.some.inj (q2.symm.trans (State.methodFound?_of_named Y.fill (by decide)))
    cases Option.some.inj (q3.symm.trans Y.fill)
    rw [Launch.admits_selectMethod X.admits]; exact q4
  obtain ⟨cellS0, hcS0, hiss⟩ := Y.statics
  obtain ⟨u0, hu0⟩ := Cond.staticRefV Y.unassigned L.unassignedStatic L.statics hcS0 hiss (a' (.isRef (.static Bundle.tN "UNASSIGNED_STACK" Bundle.steD)) (by simp [Bundle.ownAtomsX]))
  obtain ⟨sen, hsen⟩ := Cond.staticRefV Y.sentinel L.sentinelStatic L.statics hcS0 hiss (a' (.isRef (.static Bundle.tN "SUPPRESSED_SENTINEL" Bundle.listD)) (by simp [Bundle.ownAtomsX]))
  obtain ⟨ci198, i198, fB, hk198, hg198, ha198, hsB, -, hnB, htB, hffB⟩ := Cond.ownField (t := .object "java/lang/Object") Y.found L.cls (by decide +kernel) (a' (.fieldLink Bundle.tN 198 Bundle.tN "backtrace" "Ljava/lang/Object;") (by simp [Bundle.ownAtomsX])) (a' (.lays Bundle.tN Bundle.tN "backtrace" "Ljava/lang/Object;") (by simp [Bundle.ownAtomsX])) e.platform hpl
  obtain ⟨cellS, hcS', heS, -, hkeep⟩ := X.same.2.2.2.2.2 T.aS cellS0 hcS0
  have hcellS : W.heap[T.aS]? = some cellS := hcS'
  have hout' : ∀ i, (⟨T.aS, i⟩ : Loc) ∉ locs := fun i hmem => by
    have := hlocs _ hmem cellS0 hcS0
    rw [hiss] at this; cases this
  have hknownS : cellS.vm ≠ .unknown := by
    rw [heS]; intro hu
    rw [show cellS0.vm = .unknown from hu] at hiss
    cases hiss
  have hneS : T.aS ≠ a := Nat.ne_of_lt (Nat.lt_of_lt_of_le (Array.getElem?_eq_some_iff.mp hcS0).1 hnew)
  obtain ⟨iM, hffM⟩ := Y.msg
  obtain ⟨tyC, dC, hdC, hdnC⟩ := Cond.laysAt hfound hk Y.cause (a' (.lays cls Bundle.tN "cause" "Ljava/lang/Throwable;") (by simp [Bundle.ownAtomsX]))
  obtain ⟨tyS, dS, hdS, hdnS⟩ := Cond.laysAt hfound hk Y.stack (a' (.lays cls Bundle.tN "stackTrace" Bundle.steD) (by simp [Bundle.ownAtomsX]))
  obtain ⟨tyP, dP, hdP, hdnP⟩ := Cond.laysAt hfound hk Y.supp (a' (.lays cls Bundle.tN "suppressedExceptions" Bundle.listD) (by simp [Bundle.ownAtomsX]))
  obtain ⟨tyM, dM, hdM, hdnM⟩ := Cond.laysAt hfound hk hffM (a' (.lays cls Bundle.tN "detailMessage" "Ljava/lang/String;") (by simp [Bundle.ownAtomsX]))
  obtain ⟨tyB, dB, hdB, hdnB⟩ := Cond.laysAt hfound hk hffB (a' (.lays cls Bundle.tN "backtrace" "Ljava/lang/Object;") (by simp [Bundle.ownAtomsX]))
  have bC := Cond.laysApart hdB hdC hdnB hdnC (by rw [hnB, Y.causeName]; decide)
  have bS := Cond.laysApart hdB hdS hdnB hdnS (by rw [hnB, Y.stackName]; decide)
  have bP := Cond.laysApart hdB hdP hdnB hdnP (by rw [hnB, Y.suppName]; decide)
  have hskip : SkipFacts T e.platform s (fun u => u) u0 ((preparedCellV T.toThrowableT (freshCell P1.m.cls kX) a u0 sen).withEntry W.cur) :=
    ⟨{ ci198 := ci198, i198 := i198, fBack := fB }, ⟨hk198, hg198, ha198, hsB⟩, by
      have := fresh_default (c := P1.m.cls) tyB
      rw [htB] at this
      simpa [preparedCellV, Cell.setSlot, Cell.withEntry, Array.getElem?_setIfInBounds, bC, bS, bP, bC.symm, bS.symm, bP.symm, defaultValue] using this, fun _ _ => rfl⟩
  obtain ⟨tm, methC, cdC, kC, vm₁, hnC, -, -, -, -, -, -, -, hW₁, st1⟩ := Steps.initColdS (tb := p.tables) (e := e) (below := below) (s := s) (U := W) X.here hexec X.warmed hpl hown (t := Bundle.initS cls) rfl rfl (Bundle.fit_spec hcls).2
    (a' (.methodLink own ic (Bundle.initS cls)) (by simp [Bundle.ownAtomsX])) (h (.instanceMethod (Bundle.initS cls)) (by cases names <;> simp [Bundle.ownAtomsX, Bundle.chainSAtomsX, Bundle.passSAtoms])) (bytes := rx) (maxL := 2) (h (.code (Bundle.initS cls) rx 2 none) (by cases names <;> simp [Bundle.ownAtomsX, Bundle.chainSAtomsX, Bundle.passSAtoms]))
    (f := g) hg (a := a) (msg := msg) (rest := .ref a :: rest) hstack hd6
  cases Option.some.inj (hnC.symm.trans hP1m)
  have X₁ := X.noted hW₁
  obtain ⟨vm₂, X₂, st2⟩ := X₁.ctorMessageOffV hexec (g := { g with stack := .ref a :: rest }) hg hsize T L Z LZ M LM (P1 :: Ps)
    (fun P hP => by rcases List.mem_cons.mp hP with rfl | hP; exact L1; exact hL P hP) ⟨hlink1, hlink⟩ (u0 := u0) (sen := sen) (self := a) hmsg (cell := freshCell P1.m.cls kX) (cellS := cellS)
    hcell (fun _ => by simp) (by simp) rfl rfl hsel0 hselF hcellS hneS hknownS (by rw [hkeep _ (hout' _)]; exact hu0) (by rw [hkeep _ (hout' _)]; exact hsen)
    (Takes.of_laid hk hord tyC (by rw [Y.causeType]; rfl)) (Takes.of_laid hk hord tyS (by rw [Y.stackType]; exact fits_refV_array _ u0)) (Takes.of_laid hk hord tyP (by rw [Y.suppType]; exact fits_refV_object _ sen))
    (Takes.of_laid hk hord tyM (by rw [Y.msgType]; exact fits_refV_object _ ⟨msg, hmsg⟩)) Y.objLocals hskip htr [] hd6
    (by simp only [List.length_cons, hlen]; omega) (by simp only [List.length_cons, hlen]; exact hRlocals)
  obtain ⟨hwalk, hrun, hended, hWU, hsame⟩ := X₂.athrowLeaves hexec (g := { g with stack := .ref a :: rest, pc := g.pc + 3 }) hg hlocked hentered hout (a := a) (rest := rest) rfl hd9
  have hlt : a < ((W.setVm vm₁).setVm vm₂).heap.size := (Array.getElem?_eq_some_iff.mp hcell).1
  have hU := heapAt_setCell_self (s := (W.setVm vm₁).setVm vm₂) (plainBareV T.toThrowableT (freshCell P1.m.cls kX) a u0 sen msg) hlt
  refine ⟨_, st1 _ (fun acts => ?_), hrun, hended, hWU, hsame.weaken (fun y hy hlt' => ?_) (Nat.le_refl _) (Nat.le_refl _), _, hU, rfl, rfl⟩
  · rw [doInvoke_state]
    exact st2 _ hwalk
  · rcases List.mem_append.mp hy with h1 | h1
    · exact h1
    · exfalso
      have hb : y.base = a := by
        simp only [List.mem_cons, List.not_mem_nil, or_false] at h1
        rcases h1 with rfl | rfl | rfl | rfl | rfl <;> rfl
      rw [hb] at hlt'
      exact Nat.not_lt.mpr hnew hlt'
end ZX
def zx_at (own : String) (ic : Nat) (X : String) (ix : Nat) (rx : ByteArray) (names : List String) : List Cond := (Bundle.ownAtomsX own ic X ix rx names).filter vx_no
section ZY
variable {p : Program} {l : Launch} {e : Env} {R : Room} {s : State} {m : MethodId} {args : Array Value} {below : List Frame} {meth : Method} {c : Code} {H : Heap} {locs : List Loc} {cells slots : Nat} {Q : State → Prop}
variable {mc ms : Nat} {free : Addr → Prop} {A0 A1 : Nat → Prop} {H0 : Heap} {a : Array Value} {ls : Array _root_.Jvm.Slot} {st0 rest : List Value}
variable {Qc : Array Value → State → Outcome → State → Prop} {XC : String → State → State → Prop}
theorem zx_throwS {cc : ByteArray} {pc : Nat} (hexec : p.tables.exec = Jvm.exec) (hb : c.code = cc) (hl : l.stackTraces = false) {own cls text : String} {names : List String} {ik is ic mc ms sa : Nat} {A : Nat → Prop} {ix : Nat} {rx : ByteArray} (x0 : decode rx 0 = .ok (.aload_n 0, 1)) (x1 : decode rx 1 = .ok (.aload_n 1, 1)) (x2 : decode rx 2 = .ok (.invokespecial ix, 3)) (x5 : decode rx 5 = .ok (.return_, 1))
    (hown : s.vm.findClass own = some m.cls) (hcls : Bundle.fit cls = true) (hnames : ∀ n ∈ names, Bundle.fit n = true)
    (hk : (Cond.classLink own ik cls).before args s = true) (hini : (Cond.initialized cls).before args s = true) (hstr : vk_R own is text sa s) (hat : ∀ w ∈ zx_at own ic cls ix rx names, w.before args s = true)
    (hgood : ∀ w ∈ Cond.classLink own ik cls :: Cond.initialized cls :: zx_at own ic cls ix rx names, vx_ot w = true)
    (hU : vx_Zq Bundle.tN "UNASSIGNED_STACK" Bundle.steD A s s.heap) (hN : vx_Zq Bundle.tN "SUPPRESSED_SENTINEL" Bundle.listD A s s.heap) (hS : va_S A s.heap H locs) (hsize : ls.size = c.maxLocals)
    (d0 : decode cc pc = .ok (.new ik, 3)) (d3 : decode cc (pc + 3) = .ok (.dup, 1)) (d4 : decode cc (pc + 4) = .ok (.ldc is, 2)) (d6 : decode cc (pc + 6) = .ok (.invokespecial ic, 3)) (d9 : decode cc (pc + 9) = .ok (.athrow, 1))
    (hout : ∀ x ∈ c.exceptionTable.toList, covers x (pc + 9) = false)
    (hRframes : names.length + 3 < R.frames) (hRlocals : (rest.map fun v => v.category).sum + (13 * (names.length + 1) + 43) ≤ R.locals) (hRcells : cells + 1 ≤ R.cells) (hRslots : slots + 6 ≤ R.slots) (hlocks : meth.locks = false)
    (hx : ∀ t : State, s.vm.Alike t.vm → H.size ≤ t.heap.size → (∀ q : Nat, q < H.size → t.heap[q]? = H[q]?) → XC cls s t)
    (hf : ∀ z ∈ locs, free z.base) (hc : cells + 1 ≤ mc) (hs : slots + 6 ≤ ms) :
    W p l e R s m args below meth c H locs cells slots (vx_MQ below Qc XC args s mc ms free) (F0 m pc ls rest) := by
  intro T hT X
  have htr : e.platform.stackTraces = false := (show e.platform.stackTraces = l.stackTraces by rw [X.admits.platform]).trans hl
  have Y := vx_rebase X (R' := { frames := R.frames, locals := R.locals, cells := 1, slots := 6 }) (Nat.le_refl _) (Nat.le_refl _) hRcells hRslots
  obtain ⟨s', hA⟩ : ∃ z, z = (T.setVm s.vm).setFrames (.invoking m args :: below) := ⟨_, rfl⟩
  rw [← hA] at Y
  have hvm : s'.vm = s.vm := by rw [hA]; rfl
  have hhp : s'.heap = H := by rw [hA]; exact hT
  have hW0 : s.WarmedH s'.vm := by rw [hvm]; exact State.WarmedH.refl s
  have hat' : ∀ w ∈ zx_at own ic cls ix rx names, w.before args s' = true := fun w hw => vx_ot_at hW0 hvm.symm (hgood w (List.mem_cons_of_mem _ (List.mem_cons_of_mem _ hw))) (hat w hw)
  have hk' : (Cond.classLink own ik cls).before args s' = true := vx_ot_at hW0 hvm.symm (hgood _ List.mem_cons_self) hk
  have hini' : (Cond.initialized cls).before args s' = true := vx_ot_at hW0 hvm.symm (hgood _ (List.mem_cons_of_mem _ List.mem_cons_self)) hini
  have hU' : vx_Zq Bundle.tN "UNASSIGNED_STACK" Bundle.steD A s' s'.heap := by rw [hhp]; exact vx_Zq.moved hW0.alike (hU.kept hS.2.1)
  have hN' : vx_Zq Bundle.tN "SUPPRESSED_SENTINEL" Bundle.listD A s' s'.heap := by rw [hhp]; exact vx_Zq.moved hW0.alike (hN.kept hS.2.1)
  have h : ∀ w ∈ Bundle.ownAtomsX own ic cls ix rx names, w.before args s' = true := vx_own hat' (vx_isRefq hU'.1) (vx_isRefq hN'.1) hU'.2.word hN'.2.word
  have hown' : s'.vm.findClass own = some m.cls := by rw [hvm]; exact hown
  have hins : (Cond.instantiable cls 6).before args s' = true := h _ (by simp [Bundle.ownAtomsX])
  obtain ⟨vm₁, cX, kX, hfX, hkX, -, -, X₁, st1⟩ := Y.newCold hexec (own := own) (C := cls) (index := ik) (n := 6) hown' hk' hins hini'
    (g := F0 m pc ls rest) rfl (by rw [hb]; exact d0) (Nat.le_refl _) (Nat.le_refl _)
  generalize hT1 : (T.setVm vm₁).pushCell { cls := cX, slots := kX.instanceTypes.map defaultValue, vm := .none } = T1 at X₁ st1
  have hcat : (Value.ref T.heap.size).category = 1 := rfl
  have hcellA : T1.heap[T.heap.size]? = some (freshCell cX kX) := by rw [← hT1]; exact State.heap_pushCell_size _ _
  have d3' : decode c.code (pc + 3) = .ok (.dup, 1) := by rw [hb]; exact d3
  have d4' : decode c.code (pc + 4) = .ok (.ldc is, 2) := by rw [hb]; exact d4
  have hstr' : vk_R own is text sa s' := vk_R.warm hW0 hstr
  obtain ⟨U, hsteps, hrun, hend, hW, hsame, ce, hce, hO1, hO2⟩ := zx_ctor X₁ hexec htr x0 x1 x2 x5 (own := own) (cls := cls) (names := names) (ic := ic) hown' hcls hnames h (fun x hx => nomatch hx) hfX hkX hcellA (by rw [hhp, hT]; exact Nat.le_refl _) (msg := .ref sa) rfl
    (g := { method := m, pc := pc + 6, locals := ls, stack := .ref sa :: .ref T.heap.size :: .ref T.heap.size :: rest, locked := none }) rfl hsize rfl rfl (rest := rest) rfl
    (by rw [hb]; exact d6) (by rw [hb]; exact d9) hout hRframes (by simp only [List.map_cons, List.sum_cons, hcat]; omega) hlocks
  obtain ⟨f1, f2⟩ := vx_frame hsame
  rw [hhp] at f1 f2
  have hWs : s.WarmedH U.vm := State.WarmedH.trans hW0 hW
  have hcl : s.vm.findClass cls = some ce.cls := by
    have h9 := hfX
    rw [hvm] at h9
    rw [hO1]
    exact h9
  have hall : s.sameButNew ({ U with vm := s.vm } : State) locs mc ms := by
    subst hA
    obtain ⟨e1, e2⟩ := hsame
    rw [State.setFrames_setFrames] at e1
    have h2 : (T.setVm s.vm).sameButNew ({ U with vm := s.vm } : State) [] (0 + 1) (0 + 6) := ⟨e1, e2⟩
    have h3 := X.same.trans h2
    rw [List.append_nil] at h3
    exact h3.mono hc hs
  refine ⟨U, ?_, .threw T.heap.size, hrun, hend, Or.inr ⟨T.heap.size, rfl, cls, ce, locs, hx U hWs.alike f1 (fun q hq => f2 q hq (fun z hz => nomatch hz)), hce, hO2, hcl, hWs, hall, hf⟩⟩
  refine st1 _ ?_
  show Steps p.tables e below (T1.setTop { method := m, pc := pc + 3, locals := ls, stack := .ref T.heap.size :: rest, locked := none }) _
  jvm_step X₁.here [X₁.here.top, hexec, d3', Value.category]
  exact X₁.ldcString hexec (own := own) (text := text) (index := is) (a := sa) hown' hstr'.1 hstr'.2
    (g := { method := m, pc := pc + 4, locals := ls, stack := .ref T.heap.size :: .ref T.heap.size :: rest, locked := none }) rfl d4' _ hsteps
theorem zx_throwSW {cc : ByteArray} {pc : Nat} (hexec : p.tables.exec = Jvm.exec) (hb : c.code = cc) (hl : l.stackTraces = false) {own cls text : String} {names : List String} {ik is ic mc ms sa : Nat} {A : Nat → Prop} {ix : Nat} {rx : ByteArray} (x0 : decode rx 0 = .ok (.aload_n 0, 1)) (x1 : decode rx 1 = .ok (.aload_n 1, 1)) (x2 : decode rx 2 = .ok (.invokespecial ix, 3)) (x5 : decode rx 5 = .ok (.return_, 1))
    (hown : s.vm.findClass own = some m.cls) (hcls : Bundle.fit cls = true) (hnames : ∀ n ∈ names, Bundle.fit n = true)
    (hk : (Cond.classLink own ik cls).before args s = true) (hini : (Cond.initialized cls).before args s = true) (hstr : vk_R own is text sa s) (hat : ∀ w ∈ zx_at own ic cls ix rx names, w.before args s = true)
    (hgood : ∀ w ∈ Cond.classLink own ik cls :: Cond.initialized cls :: zx_at own ic cls ix rx names, vx_ot w = true)
    (hU : vx_Zq Bundle.tN "UNASSIGNED_STACK" Bundle.steD A s s.heap) (hN : vx_Zq Bundle.tN "SUPPRESSED_SENTINEL" Bundle.listD A s s.heap) (hS : va_S A s.heap H locs) (hsize : ls.size = c.maxLocals)
    (d0 : decode cc pc = .ok (.new ik, 3)) (d3 : decode cc (pc + 3) = .ok (.dup, 1)) (d4 : decode cc (pc + 4) = .ok (.ldc_w is, 3)) (d7 : decode cc (pc + 7) = .ok (.invokespecial ic, 3)) (d10 : decode cc (pc + 10) = .ok (.athrow, 1))
    (hout : ∀ x ∈ c.exceptionTable.toList, covers x (pc + 10) = false)
    (hRframes : names.length + 3 < R.frames) (hRlocals : (rest.map fun v => v.category).sum + (13 * (names.length + 1) + 43) ≤ R.locals) (hRcells : cells + 1 ≤ R.cells) (hRslots : slots + 6 ≤ R.slots) (hlocks : meth.locks = false)
    (hx : ∀ t : State, s.vm.Alike t.vm → H.size ≤ t.heap.size → (∀ q : Nat, q < H.size → t.heap[q]? = H[q]?) → XC cls s t)
    (hf : ∀ z ∈ locs, free z.base) (hc : cells + 1 ≤ mc) (hs : slots + 6 ≤ ms) :
    W p l e R s m args below meth c H locs cells slots (vx_MQ below Qc XC args s mc ms free) (F0 m pc ls rest) := by
  intro T hT X
  have htr : e.platform.stackTraces = false := (show e.platform.stackTraces = l.stackTraces by rw [X.admits.platform]).trans hl
  have Y := vx_rebase X (R' := { frames := R.frames, locals := R.locals, cells := 1, slots := 6 }) (Nat.le_refl _) (Nat.le_refl _) hRcells hRslots
  obtain ⟨s', hA⟩ : ∃ z, z = (T.setVm s.vm).setFrames (.invoking m args :: below) := ⟨_, rfl⟩
  rw [← hA] at Y
  have hvm : s'.vm = s.vm := by rw [hA]; rfl
  have hhp : s'.heap = H := by rw [hA]; exact hT
  have hW0 : s.WarmedH s'.vm := by rw [hvm]; exact State.WarmedH.refl s
  have hat' : ∀ w ∈ zx_at own ic cls ix rx names, w.before args s' = true := fun w hw => vx_ot_at hW0 hvm.symm (hgood w (List.mem_cons_of_mem _ (List.mem_cons_of_mem _ hw))) (hat w hw)
  have hk' : (Cond.classLink own ik cls).before args s' = true := vx_ot_at hW0 hvm.symm (hgood _ List.mem_cons_self) hk
  have hini' : (Cond.initialized cls).before args s' = true := vx_ot_at hW0 hvm.symm (hgood _ (List.mem_cons_of_mem _ List.mem_cons_self)) hini
  have hU' : vx_Zq Bundle.tN "UNASSIGNED_STACK" Bundle.steD A s' s'.heap := by rw [hhp]; exact vx_Zq.moved hW0.alike (hU.kept hS.2.1)
  have hN' : vx_Zq Bundle.tN "SUPPRESSED_SENTINEL" Bundle.listD A s' s'.heap := by rw [hhp]; exact vx_Zq.moved hW0.alike (hN.kept hS.2.1)
  have h : ∀ w ∈ Bundle.ownAtomsX own ic cls ix rx names, w.before args s' = true := vx_own hat' (vx_isRefq hU'.1) (vx_isRefq hN'.1) hU'.2.word hN'.2.word
  have hown' : s'.vm.findClass own = some m.cls := by rw [hvm]; exact hown
  have hins : (Cond.instantiable cls 6).before args s' = true := h _ (by simp [Bundle.ownAtomsX])
  obtain ⟨vm₁, cX, kX, hfX, hkX, -, -, X₁, st1⟩ := Y.newCold hexec (own := own) (C := cls) (index := ik) (n := 6) hown' hk' hins hini'
    (g := F0 m pc ls rest) rfl (by rw [hb]; exact d0) (Nat.le_refl _) (Nat.le_refl _)
  generalize hT1 : (T.setVm vm₁).pushCell { cls := cX, slots := kX.instanceTypes.map defaultValue, vm := .none } = T1 at X₁ st1
  have hcat : (Value.ref T.heap.size).category = 1 := rfl
  have hcellA : T1.heap[T.heap.size]? = some (freshCell cX kX) := by rw [← hT1]; exact State.heap_pushCell_size _ _
  have d3' : decode c.code (pc + 3) = .ok (.dup, 1) := by rw [hb]; exact d3
  have d4' : decode c.code (pc + 4) = .ok (.ldc_w is, 3) := by rw [hb]; exact d4
  have hstr' : vk_R own is text sa s' := vk_R.warm hW0 hstr
  obtain ⟨U, hsteps, hrun, hend, hW, hsame, ce, hce, hO1, hO2⟩ := zx_ctor X₁ hexec htr x0 x1 x2 x5 (own := own) (cls := cls) (names := names) (ic := ic) hown' hcls hnames h (fun x hx => nomatch hx) hfX hkX hcellA (by rw [hhp, hT]; exact Nat.le_refl _) (msg := .ref sa) rfl
    (g := { method := m, pc := pc + 7, locals := ls, stack := .ref sa :: .ref T.heap.size :: .ref T.heap.size :: rest, locked := none }) rfl hsize rfl rfl (rest := rest) rfl
    (by rw [hb]; exact d7) (by rw [hb]; exact d10) hout hRframes (by simp only [List.map_cons, List.sum_cons, hcat]; omega) hlocks
  obtain ⟨f1, f2⟩ := vx_frame hsame
  rw [hhp] at f1 f2
  have hWs : s.WarmedH U.vm := State.WarmedH.trans hW0 hW
  have hcl : s.vm.findClass cls = some ce.cls := by
    have h9 := hfX
    rw [hvm] at h9
    rw [hO1]
    exact h9
  have hall : s.sameButNew ({ U with vm := s.vm } : State) locs mc ms := by
    subst hA
    obtain ⟨e1, e2⟩ := hsame
    rw [State.setFrames_setFrames] at e1
    have h2 : (T.setVm s.vm).sameButNew ({ U with vm := s.vm } : State) [] (0 + 1) (0 + 6) := ⟨e1, e2⟩
    have h3 := X.same.trans h2
    rw [List.append_nil] at h3
    exact h3.mono hc hs
  refine ⟨U, ?_, .threw T.heap.size, hrun, hend, Or.inr ⟨T.heap.size, rfl, cls, ce, locs, hx U hWs.alike f1 (fun q hq => f2 q hq (fun z hz => nomatch hz)), hce, hO2, hcl, hWs, hall, hf⟩⟩
  refine st1 _ ?_
  show Steps p.tables e below (T1.setTop { method := m, pc := pc + 3, locals := ls, stack := .ref T.heap.size :: rest, locked := none }) _
  jvm_step X₁.here [X₁.here.top, hexec, d3', Value.category]
  exact X₁.ldcStringW hexec (own := own) (text := text) (index := is) (a := sa) hown' hstr'.1 hstr'.2
    (g := { method := m, pc := pc + 4, locals := ls, stack := .ref T.heap.size :: .ref T.heap.size :: rest, locked := none }) rfl d4' _ hsteps
end ZY
/-! THE THROW of term and undone, and the law's two methods that catch it -/
def nse : String := "java/util/NoSuchElementException"
def nms : List String := ["java/lang/RuntimeException", "java/lang/Exception"]
/-- an object more (the exception), with six slots -/
def bmp (S : zS) : zS := (S.1, S.2.1, S.2.2.1, S.2.2.2.1, S.2.2.2.2.1, gC S + 1, gQ S + 6)
theorem gI_bmp {S : zS} {a b k : Nat} : gI (bmp S) a b k = gI S a b k := rfl
theorem gJ_bmp {S : zS} {a b k : Nat} : gJ (bmp S) a b k = gJ S a b k := rfl
theorem gN_bmp {S : zS} {a b : Nat} : gN (bmp S) a b = gN S a b := rfl
theorem sd_bmp {S : zS} (h : Sd S) : Sd (bmp S) := ⟨h.1, h.2.1, h.2.2.1, h.2.2.2.1, fun m hm => h.2.2.2.2 m (by have : gC S + 1 ≤ m := hm; omega)⟩
theorem rep_ext {G : zG} {adr : zA} {S : zS} {H H1 : Heap} (hR : Rep G adr S H) (hq : ∀ q : Nat, q < H.size → H1[q]? = H[q]?) : Rep G adr S H1 :=
  ⟨fun a b he => ⟨(hR.1 a b he).1.kept (hq _ (hR.1 a b he).1.lt), (hR.1 a b he).2⟩, hR.2.1, hR.2.2.1, hR.2.2.2⟩
def tw (w : Cond) : Bool := decide (w ∈ GW) || decide (w ∈ faceL)
theorem tw_at {X : cX} (ht : ∀ w ∈ GW, w.before (xa X) (xs X) = true) (hf : ∀ w ∈ faceL, w.before #[] (xs X) = true) {w : Cond} (h : tw w = true) : w.before (xa X) (xs X) = true := by
  unfold tw at h
  rw [Bool.or_eq_true, decide_eq_true_iff, decide_eq_true_iff] at h
  rcases h with h | h
  · exact ht w h
  · have h2 := (List.mem_filter.mp h).2
    rw [Bool.and_eq_true] at h2
    exact va_tabs h2.2 rfl (hf w h)
theorem tw_ot {w : Cond} (h : tw w = true) : vx_ot w = true := by
  unfold tw at h
  unfold vx_ot
  rw [Bool.or_eq_true, decide_eq_true_iff, decide_eq_true_iff] at h
  rw [Bool.or_eq_true]
  rcases h with h | h
  · exact Or.inr (List.mem_filter.mp h).2
  · have h2 := (List.mem_filter.mp h).2
    rw [Bool.and_eq_true] at h2
    exact Or.inl h2.2
theorem tw_l : ∀ w ∈ Cond.classLink RX11 215 nse :: Cond.initialized nse :: zx_at RX11 219 nse 13 prog_24_method_4_code nms, tw w = true := List.all_eq_true.mp (by decide +kernel)
theorem tw_c : tw (Cond.castable nse nse) = true := by decide +kernel
theorem tw_k : tw (Cond.classLink RL 13 nse) = true := by decide +kernel
theorem zxc_of {M : mD} {G : zG} {X : cX} {adr0 adr : zA} {E0 : Nat → Nat → Bool} {S : zS} {H : Heap} {locs : List Loc} (hR : Rep G adr S H) (hS : va_S (fun q => G.2.2 ≤ q) (xs X).heap H locs) (g6 : kA (mg M) E0 adr0 adr) (t : State) (hz : H.size ≤ t.heap.size) (hq : ∀ q : Nat, q < H.size → t.heap[q]? = H[q]?) : zXC (mg M) G adr0 E0 (bmp S) nse (xs X) t :=
  ⟨⟨rfl, adr, rep_ext (S := bmp S) hR hq, g6⟩, Nat.le_trans hS.1 hz, fun q h1 h2 => (hq q (Nat.lt_of_lt_of_le h1 hS.1)).trans (hS.2.1 q h1 h2)⟩
/-- new, dup, ldc, invokespecial, athrow -/
theorem r_throwS {M : mD} {pc : Nat} {L : List (Option zV)} {st : List zV} {S : zS} {Po : Option zV → zS → Prop} (hth : mg M / 10 = 1) (hM : mo M = RX11) (hf : 6 ≤ mf M) (hl8 : 100 ≤ ml M) (hst : (st.map zc).sum ≤ 8)
    (d0 : decode (mb M) pc = .ok (.new 215, 3)) (d3 : decode (mb M) (pc + 3) = .ok (.dup, 1)) (d4 : decode (mb M) (pc + 4) = .ok (.ldc 217, 2)) (d6 : decode (mb M) (pc + 6) = .ok (.invokespecial 219, 3)) (d9 : decode (mb M) (pc + 9) = .ok (.athrow, 1)) (hp : Po none (bmp S)) : Ok M pc L st S Po := by
  refine ⟨none, bmp S, hp, Nat.le_succ _, Nat.le_add_right _ _, fun _ _ h => h, ?_⟩
  intro X G adr0 adr E0 p0 q0 cx g1 g2 g3 g4 g5 g6 H locs ls hR hS hl
  rw [zend_t hth]
  obtain ⟨hx, hb, hml, ho, ht, -, hlk, -, -, -, hR1, hR2, -, hst2, hzz, htb⟩ := cx
  obtain ⟨sa, hsa⟩ := hzz.2.2.2.1
  have hw : ∀ w ∈ Cond.classLink RX11 215 nse :: Cond.initialized nse :: zx_at RX11 219 nse 13 prog_24_method_4_code nms, w.before (xa X) (xs X) = true := fun w h => tw_at ht hzz.2.2.1 (tw_l w h)
  have htb0 := htb.1 ⟨by omega, fun z => absurd (hM.symm.trans z.1) (by decide)⟩
  have g3' : gC S + 1 - p0 ≤ (xR X).cells := g3
  have g4' : gQ S + 6 - q0 ≤ (xR X).slots := g4
  refine zx_throwS (cc := mb M) (own := RX11) (cls := nse) (text := "no such term") (names := nms) (ik := 215) (is := 217) (ic := 219) (sa := sa) (A := fun q => G.2.2 ≤ q) (ix := 13) (rx := prog_24_method_4_code) hx hb hst2 (by decide +kernel) (by decide +kernel) (by decide +kernel) (by decide +kernel) (by rw [← hM]; exact ho) (by decide +kernel) (by decide +kernel) (hw _ List.mem_cons_self) (hw _ (List.mem_cons_of_mem _ List.mem_cons_self)) hsa (fun w h => hw w (List.mem_cons_of_mem _ (List.mem_cons_of_mem _ h))) (fun w h => tw_ot (tw_l w h)) hzz.1 hzz.2.1 hS (hl.1.trans hml.symm) d0 d3 d4 d6 d9 (fun x hx => by rw [htb0] at hx; cases hx) (show 2 + 3 < (xR X).frames by omega) ?_ (by omega) (by omega) hlk (fun t _ hz hq => zxc_of hR hS g6 t hz hq) hS.2.2 ?_ ?_
  · rw [tr_cats]
    show (st.map zc).sum + (13 * (2 + 1) + 43) ≤ (xR X).locals
    omega
  · show gC S - p0 + 1 ≤ gC S + 1 - p0
    omega
  · show gQ S - q0 + 6 ≤ gQ S + 6 - q0
    omega
/-- .. with ldc_w -/
theorem r_throwSW {M : mD} {pc : Nat} {L : List (Option zV)} {st : List zV} {S : zS} {Po : Option zV → zS → Prop} (hth : mg M / 10 = 1) (hM : mo M = RX11) (hf : 6 ≤ mf M) (hl8 : 100 ≤ ml M) (hst : (st.map zc).sum ≤ 8)
    (d0 : decode (mb M) pc = .ok (.new 215, 3)) (d3 : decode (mb M) (pc + 3) = .ok (.dup, 1)) (d4 : decode (mb M) (pc + 4) = .ok (.ldc_w 282, 3)) (d7 : decode (mb M) (pc + 7) = .ok (.invokespecial 219, 3)) (d10 : decode (mb M) (pc + 10) = .ok (.athrow, 1)) (hp : Po none (bmp S)) : Ok M pc L st S Po := by
  refine ⟨none, bmp S, hp, Nat.le_succ _, Nat.le_add_right _ _, fun _ _ h => h, ?_⟩
  intro X G adr0 adr E0 p0 q0 cx g1 g2 g3 g4 g5 g6 H locs ls hR hS hl
  rw [zend_t hth]
  obtain ⟨hx, hb, hml, ho, ht, -, hlk, -, -, -, hR1, hR2, -, hst2, hzz, htb⟩ := cx
  obtain ⟨sa, hsa⟩ := hzz.2.2.2.2
  have hw : ∀ w ∈ Cond.classLink RX11 215 nse :: Cond.initialized nse :: zx_at RX11 219 nse 13 prog_24_method_4_code nms, w.before (xa X) (xs X) = true := fun w h => tw_at ht hzz.2.2.1 (tw_l w h)
  have htb0 := htb.1 ⟨by omega, fun z => absurd (hM.symm.trans z.1) (by decide)⟩
  have g3' : gC S + 1 - p0 ≤ (xR X).cells := g3
  have g4' : gQ S + 6 - q0 ≤ (xR X).slots := g4
  refine zx_throwSW (cc := mb M) (own := RX11) (cls := nse) (text := "not 1 to 7, or too many trees") (names := nms) (ik := 215) (is := 282) (ic := 219) (sa := sa) (A := fun q => G.2.2 ≤ q) (ix := 13) (rx := prog_24_method_4_code) hx hb hst2 (by decide +kernel) (by decide +kernel) (by decide +kernel) (by decide +kernel) (by rw [← hM]; exact ho) (by decide +kernel) (by decide +kernel) (hw _ List.mem_cons_self) (hw _ (List.mem_cons_of_mem _ List.mem_cons_self)) hsa (fun w h => hw w (List.mem_cons_of_mem _ (List.mem_cons_of_mem _ h))) (fun w h => tw_ot (tw_l w h)) hzz.1 hzz.2.1 hS (hl.1.trans hml.symm) d0 d3 d4 d7 d10 (fun x hx => by rw [htb0] at hx; cases hx) (show 2 + 3 < (xR X).frames by omega) ?_ (by omega) (by omega) hlk (fun t _ hz hq => zxc_of hR hS g6 t hz hq) hS.2.2 ?_ ?_
  · rw [tr_cats]
    show (st.map zc).sum + (13 * (2 + 1) + 43) ≤ (xR X).locals
    omega
  · show gC S - p0 + 1 ≤ gC S + 1 - p0
    omega
  · show gQ S - q0 + 6 ≤ gQ S + 6 - q0
    omega
/-- a method that throws, by its contract -/
theorem run_metT {M : mD} {n : Nat} {As : List zV} {S S' : zS} {r : Option zV} (h : Runs M 0 (ent (mn M) As) [] S r S') (hm : mOK M n) (hA : (As.map zc).sum ≤ mn M) (l : Launch) (hst : l.stackTraces = false) (hth : mg M / 10 = 1) (G : zG) (adr : zA) :
    vx_Met l (my M) (mW M) (mRm M (gC S' - gC S) (gQ S' - gQ S)) (zPc G adr S As) (fun _ _ _ _ => False) (zXC (mg M) G adr (gE S) S') (gC S' - gC S) (gQ S' - gQ S) (fun q => G.2.2 ≤ q) := by
  obtain ⟨h1, h2, h3, h4, h5, h6, h7⟩ := hm
  refine vx_ofW (cc := mb M) (maxL := mn M) (ret := mr M) h1 rfl ?_
  intro p e s m args below meth c s₁ B hml htb hv
  obtain ⟨rfl, hR, hK, hbase, hzz⟩ := hv
  have hts := atoms_spec (ws := mW M) B.pre
  have cx : Cx M (p, l, e, mRm M (gC S' - gC S) (gQ S' - gQ S), s, m, (As.map (tr adr)).toArray, below, meth, c) G :=
    ⟨B.exec, B.bytes, hml, by rw [h2]; exact findClass_of_methodNamed B.named, fun w hw => hts w (List.mem_cons_of_mem _ hw), B.returns, B.notSynchronized, fun z => (name_of_methodNamed B.named B.method).1.trans z, hK, hbase, Nat.le_refl _, Nat.le_refl _, fun z => absurd z h7, hst, hzz, fun _ => List.eq_nil_iff_forall_not_mem.mpr htb, fun z => absurd (hth.symm.trans z) (by decide)⟩
  have hl := lv_entry (As.map (tr adr)) (n := mn M) (by rw [ent_sl]; exact hA)
  rw [lg_entry_eq]
  have k := h.2.2.2 (p, l, e, mRm M (gC S' - gC S) (gQ S' - gQ S), s, m, (As.map (tr adr)).toArray, below, meth, c) G adr adr (gE S) (gC S) (gQ S) cx (Nat.le_refl _) (Nat.le_refl _) (Nat.le_refl _) (Nat.le_refl _) (fun _ _ h => h) kA.rf s.heap [] _ hR va_S.rf (ent_has hl)
  rw [zend_t hth, Nat.sub_self, Nat.sub_self] at k
  exact k
/-- a call that throws, in a method of the law that catches it: astore_3, iconst_1, ireturn -/
theorem r_catchV {M Mc : mD} {pc hp a b i n N : Nat} {C : String} {T : u_T} {L : List (Option zV)} {st stk : List zV} {S : zS} {Po Po1 : Option zV → zS → Prop} {As : List zV} {x : ExceptionTableEntry} (hc : clsOK a C T N) (hd : decode (mb M) pc = .ok (.invokevirtual i, 3)) (hst : stk = As.reverse ++ zr a b :: st) (hm : mOK Mc n) (hth : mg Mc / 10 = 1) (hw : Cond.methodLink (mo M) i (my Mc) ∈ GW) (hwi : Cond.instanceMethod (my Mc) ∈ GW) (hws : Cond.selects C (my Mc) (my Mc) ∈ GW) (hn : As.length = n) (hA : ((zr a b :: As).map zc).sum ≤ mn Mc) (hW : (st.map zc).sum ≤ 8) (hf : mf Mc + 1 ≤ mf M) (hl : 8 + (mn Mc + 11) + ml Mc ≤ ml M) (hg : mg Mc ≤ mg M) (he : gE S a b = true)
    (hM : mo M = RL) (hmg : mg M / 10 = 2) (hmn : mn M = 4) (hmr : mr M = some .int) (htab : tableOf (hhOf M) = [x]) (hcov : covers x pc = true) (hcat : x.catchType = 13) (hhp : x.handlerPc = hp) (e0 : decode (mb M) hp = .ok (.astore_n 3, 1)) (e1 : decode (mb M) (hp + 1) = .ok (.iconst 1, 1)) (e2 : decode (mb M) (hp + 1 + 1) = .ok (.ireturn, 1))
    (h1 : Ok Mc 0 (ent (mn Mc) (zr a b :: As)) [] S Po1) (kk : ∀ r S1, Po1 r S1 → Po (some (zi (nI 1))) S1) : Ok M pc L stk S Po := by
  obtain ⟨r1, S1, hp1, hr1⟩ := h1
  refine ⟨some (zi (nI 1)), S1, kk r1 S1 hp1, hr1.1, hr1.2.1, hr1.2.2.1, ?_⟩
  intro X G adr0 adr E0 p0 q0 cx g1 g2 g3 g4 g5 g6 H locs ls hR hS hl'
  have c1 := hr1.1
  have c2 := hr1.2.1
  have hM2 := run_metT hr1 hm hA (xl X) cx.2.2.2.2.2.2.2.2.2.2.2.2.2.1 hth G adr
  have cb := callB_z (c := gC S1 - gC S) (s := gQ S1 - gQ S) cx hm hw hf hl
  obtain ⟨hx, hb, hml, ho, ht, hrt, hlk, -, hK, hbs, -, -, -, -, hzz, htb⟩ := cx
  have hP := rep_P hR he
  rw [cel_obj hc.2.1] at hP
  have hrun := vx_runV (locs := locs) (cells := gC S - p0) (slots := gQ S - q0) (g := F0 (xm X) pc ls (stk.map (tr adr))) (rest := st.map (tr adr)) (As := As.map (tr adr)) (b := adr a b) (below := xb X) (meth := xh X) (e := xe X) ⟨hx, hb, hml, ho, ht⟩ hM2 ⟨cb, ht _ hwi, ht _ hws⟩ ⟨zPc_blind, va_recv hK.1 hP hc.1 (q0 := 0) rfl, fun U hU hW2 => ⟨rfl, by rw [hU]; exact hR, hK.warm hW2, by rw [hU]; exact Nat.le_trans (hR.1 a b he).2 (Nat.le_of_lt ((hR.1 a b he).1.lt)), hzz.go hW2 hU hS⟩⟩ rfl (by rw [List.length_map]; exact hn) hl'.1 (by rw [hst]; simp [tr]) (f0_room hW) hd ⟨by omega, by omega⟩
  intro T hT XX
  rcases hrun T hT XX with ⟨v, st₀, t, T', Lc, h0, X', hL, e1, e2, hF, stp⟩ | ⟨q, st₀, t, T', Lc, E, ce, h0, X', hL, e1', e2', hxc, hce, hcv, hcl, stp⟩
  · exact hF.elim
  · obtain ⟨⟨rfl, adr', hR', hk'⟩, hz, hk2⟩ := hxc
    rw [h0] at hz hk2
    have hS' : va_S (fun q => G.2.2 ≤ q) (xs X).heap T'.heap (locs ++ Lc) :=
      ⟨Nat.le_trans hS.1 (by rw [e1']; exact hz), fun q h1 h2 => by rw [e1', hk2 q (Nat.lt_of_lt_of_le h1 hS.1) h2]; exact hS.2.1 q h1 h2, fun q hq => by
        rcases List.mem_append.mp hq with h | h
        · exact hS.2.2 q h
        · exact hL q h⟩
    have hsp : (xc X).exceptionTable.toList = [] ++ x :: [] := (htb.2 hmg).trans htab
    have kA2 : kA (mg M) E0 adr0 adr' := g6.trans hk' hg g5
    have kw : W (xp X) (xl X) (xe X) (xR X) (xs X) (xm X) (xa X) (xb X) (xh X) (xc X) T'.heap (locs ++ Lc) (gC S - p0 + (gC S1 - gC S)) (gQ S - q0 + (gQ S1 - gQ S)) (zend M G X adr0 E0 p0 q0 (some (zi (nI 1))) S1) (F0 (xm X) x.handlerPc ls [.ref q]) := by
      rw [show gC S - p0 + (gC S1 - gC S) = gC S1 - p0 by omega, show gQ S - q0 + (gQ S1 - gQ S) = gQ S1 - q0 by omega, zend_n (by omega), hhp]
      refine lv_astore_n (k := 3) (i := 3) (nL := 4) (lv := []) hx hb e0 rfl ⟨hl'.1.trans hmn, hl'.2.1, fun q hq => nomatch hq⟩ (by decide) rfl fun ls' h' => ?_
      refine lv_iconst (v := nI 1) hx hb e1 (by decide) ?_
      exact W.iret hx hb (hrt.trans hmr) (fun t' ht hW => ⟨⟨adr', rfl, by rw [ht, e1']; exact hR', kA2⟩, hS'.F ht⟩) hS'.2.2 e2 hlk
    have kc := vx_catch (own := RL) (name := nse) (E := nse) (pc := pc) (rest := st.map (tr adr)) (by rw [← hM]; exact ho) [] x [] hsp (fun z hz => nomatch hz) hcov (by rw [hcat]; decide) (by rw [hcat]; exact tw_at ht hzz.2.2.1 tw_k) (tw_at ht hzz.2.2.1 tw_c) (by rw [e1']; exact hce) hcv hcl kw
    obtain ⟨t2, a1, b1⟩ := kc T' rfl X'
    exact ⟨t2, stp.trans a1, b1⟩
/-- a method of the law with a handler, by its contract -/
def mWW (M : mD) : List Cond := Cond.codeWith (my M) (mb M) (mn M) (mr M) (hhOf M) :: GW
theorem run_metW {M : mD} {As : List zV} {S S' : zS} {r : Option zV} (h : Runs M 0 (ent (mn M) As) [] S r S') (h1 : plainName (my M).cls = true) (h2 : mo M = (my M).cls) (h7 : ¬ (mo M = RL ∧ (my M).name = "law")) (hA : (As.map zc).sum ≤ mn M) (l : Launch) (hst : l.stackTraces = false) (hth : mg M / 10 = 2) (G : zG) (adr : zA) :
    Met l (my M) (mWW M) (mRm M (gC S' - gC S) (gQ S' - gQ S)) (zPc G adr S As) (zQ (mg M) G adr (gE S) r S') (gC S' - gC S) (gQ S' - gQ S) (fun q => G.2.2 ≤ q) := by
  refine MetFree.of_bodyS (code := mb M) (maxLocals := mn M) (ret := mr M) h1 ?_ ?_
  · intro args s m h hn
    obtain ⟨m9, meth, c, hn9, h1, h2, h3, h4, -, h5, h6, -⟩ := Cond.codeWith_spec (atoms_spec (ws := mWW M) h _ List.mem_cons_self)
    cases hn.symm.trans hn9
    exact ⟨meth, c, h1, h2, h3, h4, h5, h6⟩
  · intro p e s m args below meth c s₁ B hml hv _
    have hh0 : s₁.heap = s.heap := by rw [B.state]; rfl
    obtain ⟨rfl, hR, hK, hbase, hzz⟩ := hv
    have hts := atoms_spec (ws := mWW M) B.pre
    have htb := vx_table (x := my M) (y := my M) B (hts _ List.mem_cons_self)
    have cx : Cx M (p, l, e, mRm M (gC S' - gC S) (gQ S' - gQ S), s, m, (As.map (tr adr)).toArray, below, meth, c) G :=
      ⟨B.exec, B.bytes, hml, by rw [h2]; exact findClass_of_methodNamed B.named, fun w hw => hts w (List.mem_cons_of_mem _ hw), B.returns, B.notSynchronized, fun z => (name_of_methodNamed B.named B.method).1.trans z, hK, hbase, Nat.le_refl _, Nat.le_refl _, fun z => absurd z h7, hst, hzz, fun z => absurd hth z.1, fun _ => htb⟩
    have hl := lv_entry (As.map (tr adr)) (n := mn M) (by rw [ent_sl]; exact hA)
    have k := h.2.2.2 (p, l, e, mRm M (gC S' - gC S) (gQ S' - gQ S), s, m, (As.map (tr adr)).toArray, below, meth, c) G adr adr (gE S) (gC S) (gQ S) cx (Nat.le_refl _) (Nat.le_refl _) (Nat.le_refl _) (Nat.le_refl _) (fun _ _ h => h) kA.rf s.heap [] _ hR va_S.rf (ent_has hl)
    rw [zend_n (by omega), Nat.sub_self, Nat.sub_self] at k
    have k2 : W p l e (mRm M (gC S' - gC S) (gQ S' - gQ S)) s m (As.map (tr adr)).toArray below meth c s.heap [] 0 0 (MQ below (zQ (mg M) G adr (gE S) r S') (As.map (tr adr)).toArray s (gC S' - gC S) (gQ S' - gQ S) (fun q => G.2.2 ≤ q)) (entryFrame m (As.map (tr adr)).toArray (mn M)) := by
      rw [lg_entry_eq]
      exact k
    obtain ⟨t, a1, o, b1, b2, b3⟩ := k2 s₁ hh0 (Stand.of_body B)
    exact ⟨t, o, a1, b1, b2, b3⟩
theorem mWW_good {Mc : mD} (hm : Cond.codeWith (my Mc) (mb Mc) (mn Mc) (mr Mc) (hhOf Mc) ∈ GW) : GoodIn GW (mWW Mc) := by
  intro w hw
  rcases List.mem_cons.mp hw with rfl | hw
  · exact ⟨hm, good_of_word (List.mem_filter.mp hm).2⟩
  · exact ⟨hw, good_of_word (List.mem_filter.mp hw).2⟩
/-- invokestatic of such a method -/
theorem r_callSW {M Mc : mD} {pc q i n : Nat} {L : List (Option zV)} {st stk : List zV} {S : zS} {Po Po1 : Option zV → zS → Prop} {As : List zV} (hd : decode (mb M) pc = .ok (.invokestatic i, 3)) (hq : pc + 3 = q) (hst : stk = As.reverse ++ st) (hp1 : plainName (my Mc).cls = true) (hp2 : mo Mc = (my Mc).cls) (hp7 : ¬ (mo Mc = RL ∧ (my Mc).name = "law")) (hcw : Cond.codeWith (my Mc) (mb Mc) (mn Mc) (mr Mc) (hhOf Mc) ∈ GW) (hini : Cond.initialized (my Mc).cls ∈ GW) (hy : (my Mc).cls ≠ "java/lang/invoke/MethodHandle" ∧ (my Mc).cls ≠ "java/lang/invoke/VarHandle") (hnp : (parseMethodDescriptor (my Mc).desc).map (fun d => d.parameters.length) = some n) (hth : mg Mc / 10 = 2) (hw : Cond.methodLink (mo M) i (my Mc) ∈ GW) (hwi : Cond.static (my Mc) ∈ GW) (hn : As.length = n) (hA : (As.map zc).sum ≤ mn Mc) (hW : (st.map zc).sum ≤ 8) (hf : mf Mc + 1 ≤ mf M) (hl : 8 + (mn Mc + 11) + ml Mc ≤ ml M) (hg : 2 ≤ mg M) (hkL : exl S L) (hks : exs S st) (hb0 : ∃ a b, gE S a b = true)
    (h1 : Ok Mc 0 (ent (mn Mc) As) [] S Po1) (kk : ∀ r S1, Po1 r S1 → Ok M q L (r.toList ++ st) S1 Po) : Ok M pc L stk S Po := by
  subst hq
  obtain ⟨r1, S1, hp1', hr1⟩ := h1
  obtain ⟨r, S', hp, hC, hQ, hE, hr⟩ := kk r1 S1 hp1'
  have c1 := hr1.1
  have c2 := hr1.2.1
  have c3 := hr1.2.2.1
  refine ⟨r, S', hp, by omega, by omega, fun a b z => hE a b (c3 a b z), ?_⟩
  intro X G adr0 adr E0 p0 q0 cx g1 g2 g3 g4 g5 g6 H locs ls hR hS hl'
  have hM := run_metW hr1 hp1 hp2 hp7 hA (xl X) cx.2.2.2.2.2.2.2.2.2.2.2.2.2.1 hth G adr
  have cx0 := cx
  obtain ⟨hx, hb, hml, ho, ht, -, -, -, hK, hbs, hR1, hR2, -, -, hzz, -⟩ := cx
  have cb : vx_CSW (xR X) (xs X) (xa X) (mo M) i (my Mc) (mb Mc) (mn Mc) (mr Mc) (hhOf Mc) (mWW Mc) (mRm Mc (gC S1 - gC S) (gQ S1 - gQ S)) (gC S1 - gC S) (gQ S1 - gQ S) n :=
    ⟨⟨rfl, rfl, Nat.le_trans hf hR1, Nat.le_trans hl hR2, pay_in ht (mWW_good hcw), List.mem_cons_self⟩, ht _ hcw, ht _ hini, hy, fun sig h => by
      have h2 := hnp
      rw [h] at h2
      exact (Option.some.inj h2).symm, ht _ hw, ht _ hwi⟩
  have hbz : G.2.2 ≤ H.size := Nat.le_trans hbs hS.1
  have hrun := vx_runSW (locs := locs) (cells := gC S - p0) (slots := gQ S - q0) (g := F0 (xm X) pc ls (stk.map (tr adr))) (rest := st.map (tr adr)) (As := As.map (tr adr)) (below := xb X) (meth := xh X) (e := xe X) (c := xc X) (m := xm X) ⟨hx, hb, hml, ho, ht⟩ hM cb ⟨zPc_blind, fun U hU hW2 => ⟨rfl, by rw [hU]; exact hR, hK.warm hW2, by rw [hU]; exact hbz, hzz.go hW2 hU hS⟩⟩ rfl (by rw [List.length_map]; exact hn) hl'.1 (by rw [hst]; simp) (f0_room hW) hd ⟨by omega, by omega⟩
  refine call_go hrun hS fun H' locs' adr' hR' hk0 hS' => ?_
  have hk' : kA (mg M) (gE S) adr adr' := fun a b x y => hk0 a b (x.imp (fun z => by omega) id) (y.imp (fun z => by omega) id)
  have h7 : adr' 77777 0 = adr 77777 0 := hR'.2.2.2.2.trans hR.2.2.2.2.symm
  have hl2 : lv_has ls (mn M) (Lv adr' L) := by
    refine ⟨hl'.1, hl'.2.1, fun q hq => ?_⟩
    obtain ⟨v, h1, h2⟩ := Lv_mem.mp hq
    rw [tr_keep2 hk' h7 (exl_mem hkL (List.mem_of_getElem? h1))] at h2
    exact hl'.2.2 q (Lv_mem.mpr ⟨v, h1, h2⟩)
  have hst2 : st.map (tr adr') = st.map (tr adr) := by
    apply List.map_congr_left
    intro v hv
    exact tr_keep2 hk' h7 (exs_mem hks hv)
  have := hr X G adr0 adr' E0 p0 q0 cx0 (by omega) (by omega) g3 g4 (fun a b z => c3 a b (g5 a b z)) (g6.trans hk' (Nat.le_refl _) g5) H' locs' ls hR' hS' hl2
  rw [show gC S - p0 + (gC S1 - gC S) = gC S1 - p0 by omega, show gQ S - q0 + (gQ S1 - gQ S) = gQ S1 - q0 by omega]
  rw [List.map_append, hst2] at this
  rw [show (r1.map (tr adr')).toList = r1.toList.map (tr adr') by cases r1 <;> rfl]
  exact this
/-! the methods -/
def mX11_termT : mD := (RX11, cX11_term, 2, (Option.some Jvm.ClassFile.FieldType.int), yX11_term, 7, 160, 12, 0, fun _ => 0)
def mX11_undoneT : mD := (RX11, cX11_undone, 3, (Option.some Jvm.ClassFile.FieldType.long), yX11_undone, 7, 160, 12, 0, fun _ => 0)
theorem mkX11_termT : mOK mX11_termT 1 := mkX11_term
theorem mkX11_undoneT : mOK mX11_undoneT 1 := mkX11_undone
def mL_term : mD := (RL, cL_term, 4, some .int, yL_term, 8, 190, 22, 0, fun _ => 0)
def mL_undone : mD := (RL, cL_undone, 4, some .int, yL_undone, 8, 190, 22, 0, fun _ => 0)
set_option maxRecDepth 100000 in
theorem ok_termT {S : zS} (hs : Sd S) {e : Nat} (he : gI S 8 0 1 = nI e) {x : Int32} (hx : ¬ (0 ≤ x ∧ x < nI e)) : Ok mX11_termT 0 (ent 2 [zr 11 0, zi x]) [] S (fun r S1 => S1 = bmp S) := by
  show Ok mX11_termT 0 [some (zr 11 0), some (zi x)] [] S _
  have K : Ok mX11_termT 15 [some (zr 11 0), some (zi x)] [] S (fun r S1 => S1 = bmp S) := r_throwS rfl rfl (by decide) (by decide) (by decide) dX11_term_15 dX11_term_18 dX11_term_19 dX11_term_21 dX11_term_24 rfl
  refine r_iload_n (q := 1) dX11_term_0 rfl rfl rfl ?_
  refine r_if_lt (q := 4) (t := 15) dX11_term_1 (by decide) rfl (fun _ => K) (fun h1 => ?_)
  refine r_iload_n (q := 5) dX11_term_4 rfl rfl rfl ?_
  refine r_aload_n (q := 6) dX11_term_5 rfl rfl rfl ?_
  refine r_getr (q := 9) (some (8, 0)) ck11 dX11_term_6 rfl (k := 7) (by decide) wt429 rfl (hs.e (by decide)) (hs.r (by decide) (by decide)) ?_
  refine r_geti (q := 12) ck8 dX11_term_9 rfl (k := 1) (by decide) wt67 (Or.inl rfl) (hs.e (by decide)) ?_
  refine r_topi (y := nI e) he ?_
  refine r_icmp_lt (q := 15) (t := 25) dX11_term_12 (by decide) rfl (fun h2 => ?_) (fun _ => K)
  exact absurd ⟨Int32.not_lt.mp h1, h2⟩ hx
set_option maxRecDepth 100000 in
theorem ok_L_term_n {S : zS} (hs : Sd S) {e : Nat} (he : gI S 8 0 1 = nI e) {x : Int32} (hx : ¬ (0 ≤ x ∧ x < nI e)) : Ok mL_term 0 (ent 4 [zr 11 0, zi x, zr 5000 0]) [] S (fun r S1 => r = some (zi (nI 1)) ∧ S1 = bmp S) := by
  show Ok mL_term 0 [some (zr 11 0), some (zi x), some (zr 5000 0), none] [] S _
  refine r_aload_n (q := 1) dL_term_0 rfl rfl rfl ?_
  refine r_iconst (q := 2) (nI 0) dL_term_1 rfl (by decide) ?_
  refine r_aload_n (q := 3) dL_term_2 rfl rfl rfl ?_
  refine r_iload_n (q := 4) dL_term_3 rfl rfl rfl ?_
  exact r_catchV (Mc := mX11_termT) (hp := 12) (As := [zi x]) (st := [zi (nI 0), zr 5000 0]) (x := ⟨0, 9, 12, 13⟩) ck11 dL_term_4 rfl mkX11_termT rfl wt1170 wt1171 wt1172 rfl (Nat.le_of_ble_eq_true rfl) (Nat.le_of_ble_eq_true rfl) (by decide) (by decide) (by decide) (hs.e (by decide)) rfl rfl rfl rfl rfl (by decide) rfl rfl dL_term_12 dL_term_13 dL_term_14 (ok_termT hs he hx) (fun r S1 z => ⟨rfl, z⟩)
set_option maxRecDepth 100000 in
theorem ok_L_term_y {S : zS} (hs : Sd S) (h5 : gE S 5000 0 = true) (n5 : gN S 5000 0 = 1) {a e l : Nat} (hae : a < e) (he12 : e ≤ 1200) (he : gI S 8 0 1 = nI e) (hl : gN S 903 0 = l) (hel : e ≤ l) (hl12 : l ≤ 1200) : Ok mL_term 0 (ent 4 [zr 11 0, zi (nI a), zr 5000 0]) [] S (fun r S1 => r = some (zi (nI 0)) ∧ S1 = sJ S 5000 0 0 (gI S 903 0 a).toInt64) := by
  show Ok mL_term 0 [some (zr 11 0), some (zi (nI a)), some (zr 5000 0), none] [] S _
  refine r_aload_n (q := 1) dL_term_0 rfl rfl rfl ?_
  refine r_iconst (q := 2) (nI 0) dL_term_1 rfl (by decide) ?_
  refine r_aload_n (q := 3) dL_term_2 rfl rfl rfl ?_
  refine r_iload_n (q := 4) dL_term_3 rfl rfl rfl ?_
  refine r_callV (Mc := mX11_term) (q := 7) (As := [zi (nI a)]) (st := [zi (nI 0), zr 5000 0]) ck11 dL_term_4 rfl rfl mkX11_term wt1170 wt1171 wt1172 rfl (Nat.le_of_ble_eq_true rfl) (Nat.le_of_ble_eq_true rfl) (by decide) (by decide) (by decide) (Or.inl rfl) (hs.e (by decide)) (cm_term_y hs hae he12 he hl hel hl12) (fun r4 S4 hp4 => ?_)
  obtain ⟨rfl, rfl⟩ := hp4
  show Ok _ _ _ [zi (gI S4 903 0 a), zi (nI 0), zr 5000 0] _ _
  refine r_i2l (q := 8) dL_term_7 rfl ?_
  refine r_lastN (q := 9) 1 (by decide) rfl dL_term_8 rfl h5 n5 (by decide) (by decide) ?_
  refine r_goto (q := 15) dL_term_9 (by decide) ?_
  refine r_iconst (q := 16) (nI 0) dL_term_15 rfl (by decide) ?_
  refine r_ireturn dL_term_16 rfl ?_
  exact ⟨rfl, rfl⟩
