/-! ===== throws of a class whose own constructor passes on by another link than the library's rows know ===== -/
section VY
variable {p : Program} {l : Launch} {e : Env} {R : Room} {s : State} {m : MethodId} {args : Array Value} {below : List Frame} {meth : Method} {c : Code} {H : Heap} {locs : List Loc} {cells slots : Nat} {Q : State → Prop}
set_option maxHeartbeats 1000000 in
/-- 'new X(msg)' is run and thrown: stack traces off, X's constructor by its own bytes -/
theorem vy_ctor {V : State} (X : Stand p l e R s m args below meth c V locs cells slots) (hexec : p.tables.exec = Jvm.exec) (htr : e.platform.stackTraces = false) {own cls : String} {names : List String} {ic ix : Nat} {rx : ByteArray}
    (x0 : decode rx 0 = .ok (.aload_n 0, 1)) (x1 : decode rx 1 = .ok (.aload_n 1, 1)) (x2 : decode rx 2 = .ok (.invokespecial ix, 3)) (x5 : decode rx 5 = .ok (.return_, 1))
    (hown : s.vm.findClass own = some m.cls) (hcls : Bundle.fit cls = true) (hnames : ∀ n ∈ names, Bundle.fit n = true) (h : ∀ a ∈ Bundle.ownAtomsX own ic cls ix rx names, a.before args s = true)
    (hlocs : ∀ x ∈ locs, ∀ cell, s.heap[x.base]? = some cell → cell.vm.isStatics = false)
    {a : Addr} {cX : ClassId} {kX : Class} (hfX : s.vm.findClass cls = some cX) (hkX : s.vm.classes[cX]? = some kX) (hcell : V.heap[a]? = some (freshCell cX kX)) (hnew : s.heap.size ≤ a) {msg : Value} (hmsg : msg.isRef = true)
    {g : JFrame} (hg : g.method = m) (hsize : g.locals.size = c.maxLocals) (hlk : g.locked = none) (hen : g.entered = []) {rest : List Value} (hstack : g.stack = msg :: .ref a :: .ref a :: rest)
    (hd6 : decode c.code g.pc = .ok (.invokespecial ic, 3)) (hd9 : decode c.code (g.pc + 3) = .ok (.athrow, 1)) (hout : ∀ x ∈ c.exceptionTable.toList, covers x (g.pc + 3) = false)
    (hRf : names.length + 3 < R.frames) (hRl : 2 * g.monitorRoom + ((Value.ref a :: rest).map fun v => v.category).sum + (13 * (names.length + 1) + 42) ≤ R.locals) (hlocks : meth.locks = false) :
    ∃ U : State, Steps p.tables e below (V.setTop g) U ∧ U.status = .running ∧ Ended U below (.threw a) ∧ s.WarmedH U.vm ∧ s.sameButNew ({ U with vm := s.vm } : State) locs cells slots ∧
      ∃ ce, U.heap[a]? = some ce ∧ ce.vm = .none ∧ s.vm.findClass cls = some ce.cls := by
  have hpf := X.admits.platform
  have hpl : e.platform.magicAccessors = ({} : Platform).magicAccessors := by rw [hpf]
  have hh : ∀ x, x ∈ Bundle.ownAtomsX own ic cls ix rx names → x.holds args s none s [] = true := fun x hx => h x hx
  obtain ⟨T, Z0, L, -, Y⟩ := ThrowableC.of_atoms (args := args) (by rw [hpf]) (by rw [hpf]) hpl (fun x hx => h x (by simp [Bundle.ownAtomsX, hx]))
  obtain ⟨Z, M, LZ, LM, hnZ⟩ := Init0T.ofS_atoms (args := args) hpl L Y (fun x hx => h x (by simp [Bundle.ownAtomsX, hx]))
  obtain ⟨P1, Ps, hlen, L1, hL, hP1, hk1, hk2⟩ := Bundle.chainSX (args := args) hpl hnZ x0 x1 x2 x5 names cls hcls hnames (fun x hx => h x (by simp [Bundle.ownAtomsX, hx]))
  have hfd : s.vm.findClass cls = some P1.m.cls := findClass_of_methodNamed hP1
  cases Option.some.inj (hfX.symm.trans hfd)
  obtain ⟨c1, k1, hc1, hk, hord, -⟩ := Cond.instantiable_spec (hh (.instantiable cls 6) (by simp [Bundle.ownAtomsX]))
  cases Option.some.inj (hc1.symm.trans hfd)
  cases Option.some.inj (hkX.symm.trans hk)
  have sel : ∀ (y : MethodName) (q : MethodId), Cond.selects cls y y ∈ Bundle.ownAtomsX own ic cls ix rx names → s.methodNamed? y = some q → s.methodFound? y.cls y.name y.desc = some q → selectMethod e.platform s.vm P1.m.cls q = .method q := by
    intro y q hy h1 h2
    obtain ⟨c2, r2, m2, q1, q2, q3, q4, -⟩ := Cond.selects_spec (hh _ hy)
    cases Option.some.inj (q1.symm.trans hfd)
    cases Option.some.inj (q2.symm.trans h2)
    cases Option.some.inj (q3.symm.trans h1)
    rw [Launch.admits_selectMethod X.admits]
    exact q4
  have hs0 := sel Bundle.tFill0 T.fill0 (by simp [Bundle.ownAtomsX]) Y.fill0 (State.methodFound?_of_named Y.fill0 (by decide))
  have hsF := sel Bundle.tFill T.fill (by simp [Bundle.ownAtomsX]) Y.fill (State.methodFound?_of_named Y.fill (by decide))
  obtain ⟨cS0, hcS0, hiss⟩ := Y.statics
  obtain ⟨u0, hu0⟩ := Cond.staticRefV Y.unassigned L.unassignedStatic L.statics hcS0 hiss (hh (.isRef (.static Bundle.tN "UNASSIGNED_STACK" Bundle.steD)) (by simp [Bundle.ownAtomsX]))
  obtain ⟨sen, hsen⟩ := Cond.staticRefV Y.sentinel L.sentinelStatic L.statics hcS0 hiss (hh (.isRef (.static Bundle.tN "SUPPRESSED_SENTINEL" Bundle.listD)) (by simp [Bundle.ownAtomsX]))
  obtain ⟨cb, ib, fB, hb1, hb2, hb3, hb4, -, hnB, htB, hffB⟩ := Cond.ownField (t := .object "java/lang/Object") Y.found L.cls (by decide +kernel) (hh (.fieldLink Bundle.tN 198 Bundle.tN "backtrace" "Ljava/lang/Object;") (by simp [Bundle.ownAtomsX])) (hh (.lays Bundle.tN Bundle.tN "backtrace" "Ljava/lang/Object;") (by simp [Bundle.ownAtomsX])) e.platform hpl
  obtain ⟨cS, hcS, heS, -, hkeep⟩ := X.same.2.2.2.2.2 T.aS cS0 hcS0
  have hcS' : V.heap[T.aS]? = some cS := hcS
  have hoff : ∀ i, (⟨T.aS, i⟩ : Loc) ∉ locs := fun i hm => by
    have := hlocs _ hm cS0 hcS0
    rw [hiss] at this
    cases this
  have hkn : cS.vm ≠ .unknown := by
    rw [heS]
    intro hu
    rw [show cS0.vm = .unknown from hu] at hiss
    cases hiss
  have hne : T.aS ≠ a := Nat.ne_of_lt (Nat.lt_of_lt_of_le (Array.getElem?_eq_some_iff.mp hcS0).1 hnew)
  obtain ⟨iM, hffM⟩ := Y.msg
  obtain ⟨tC, dC, hdC, nC⟩ := Cond.laysAt hfd hk Y.cause (hh (.lays cls Bundle.tN "cause" "Ljava/lang/Throwable;") (by simp [Bundle.ownAtomsX]))
  obtain ⟨tS, dS, hdS, nS⟩ := Cond.laysAt hfd hk Y.stack (hh (.lays cls Bundle.tN "stackTrace" Bundle.steD) (by simp [Bundle.ownAtomsX]))
  obtain ⟨tP, dP, hdP, nP⟩ := Cond.laysAt hfd hk Y.supp (hh (.lays cls Bundle.tN "suppressedExceptions" Bundle.listD) (by simp [Bundle.ownAtomsX]))
  obtain ⟨tM, dM, hdM, nM⟩ := Cond.laysAt hfd hk hffM (hh (.lays cls Bundle.tN "detailMessage" "Ljava/lang/String;") (by simp [Bundle.ownAtomsX]))
  obtain ⟨tB, dB, hdB, nB⟩ := Cond.laysAt hfd hk hffB (hh (.lays cls Bundle.tN "backtrace" "Ljava/lang/Object;") (by simp [Bundle.ownAtomsX]))
  have bC := Cond.laysApart hdB hdC nB nC (by rw [hnB, Y.causeName]; decide)
  have bS := Cond.laysApart hdB hdS nB nS (by rw [hnB, Y.stackName]; decide)
  have bP := Cond.laysApart hdB hdP nB nP (by rw [hnB, Y.suppName]; decide)
  have hskip : SkipFacts T e.platform s (fun u => u) u0 ((preparedCellV T.toThrowableT (freshCell P1.m.cls kX) a u0 sen).withEntry V.cur) := by
    refine ⟨{ ci198 := cb, i198 := ib, fBack := fB }, ⟨hb1, hb2, hb3, hb4⟩, ?_, fun _ _ => rfl⟩
    have := fresh_default (c := P1.m.cls) tB
    rw [htB] at this
    simpa [preparedCellV, Cell.setSlot, Cell.withEntry, Array.getElem?_setIfInBounds, bC, bS, bP, bC.symm, bS.symm, bP.symm, defaultValue] using this
  obtain ⟨tm, mC, cC, kC, vm₁, hnC, -, -, -, -, -, -, -, hW₁, st1⟩ := Steps.initColdS (tb := p.tables) (e := e) (below := below) (s := s) (U := V) X.here hexec X.warmed hpl hown (t := Bundle.initS cls) rfl rfl (Bundle.fit_spec hcls).2
    (hh (.methodLink own ic (Bundle.initS cls)) (by simp [Bundle.ownAtomsX])) (h (.instanceMethod (Bundle.initS cls)) (by cases names <;> simp [Bundle.ownAtomsX, Bundle.chainSAtomsX, Bundle.passSAtoms])) (bytes := rx) (maxL := 2) (h (.code (Bundle.initS cls) rx 2 none) (by cases names <;> simp [Bundle.ownAtomsX, Bundle.chainSAtomsX, Bundle.passSAtoms]))
    (f := g) hg (a := a) (msg := msg) (rest := .ref a :: rest) hstack hd6
  cases Option.some.inj (hnC.symm.trans hP1)
  have X₁ := X.noted hW₁
  obtain ⟨vm₂, X₂, st2⟩ := X₁.ctorMessageOffV hexec (g := { g with stack := .ref a :: rest }) hg hsize T L Z LZ M LM (P1 :: Ps)
    (fun P hP => by rcases List.mem_cons.mp hP with rfl | hP; exact L1; exact hL P hP) ⟨hk1, hk2⟩ (u0 := u0) (sen := sen) (self := a) hmsg (cell := freshCell P1.m.cls kX) (cellS := cS)
    hcell (fun _ => by simp) (by simp) rfl rfl hs0 hsF hcS' hne hkn (by rw [hkeep _ (hoff _)]; exact hu0) (by rw [hkeep _ (hoff _)]; exact hsen)
    (Takes.of_laid hk hord tC (by rw [Y.causeType]; rfl)) (Takes.of_laid hk hord tS (by rw [Y.stackType]; exact fits_refV_array _ u0)) (Takes.of_laid hk hord tP (by rw [Y.suppType]; exact fits_refV_object _ sen))
    (Takes.of_laid hk hord tM (by rw [Y.msgType]; exact fits_refV_object _ ⟨msg, hmsg⟩)) Y.objLocals hskip htr [] hd6
    (by simp only [List.length_cons, hlen]; omega) (by simp only [List.length_cons, hlen]; exact hRl)
  obtain ⟨hwalk, hrun, hend, hWU, hsame⟩ := X₂.athrowLeaves hexec (g := { g with stack := .ref a :: rest, pc := g.pc + 3 }) hg hlk hen hout (a := a) (rest := rest) rfl hd9
  have hlt : a < ((V.setVm vm₁).setVm vm₂).heap.size := (Array.getElem?_eq_some_iff.mp hcell).1
  have hU := heapAt_setCell_self (s := (V.setVm vm₁).setVm vm₂) (plainBareV T.toThrowableT (freshCell P1.m.cls kX) a u0 sen msg) hlt
  refine ⟨_, st1 _ (fun acts => ?_), hrun, hend, hWU, hsame.weaken (fun y hy hy' => ?_) (Nat.le_refl _) (Nat.le_refl _), _, hU, rfl, hfd⟩
  · rw [doInvoke_state]
    exact st2 _ hwalk
  · rcases List.mem_append.mp hy with h1 | h1
    · exact h1
    · have hb : y.base = a := by
        simp only [List.mem_cons, List.not_mem_nil, or_false] at h1
        rcases h1 with rfl | rfl | rfl | rfl | rfl <;> rfl
      rw [hb] at hy'
      exact absurd hy' (Nat.not_lt.mpr hnew)
/-- 'throw new X("text")' out of a body; the text by a short or a wide index -/
theorem vy_throw {Qc : Array Value → State → Outcome → State → Prop} {XC : String → State → State → Prop} {free : Addr → Prop} {ls : Array Slot} {rest : List Value} {cc : ByteArray} {pc w : Nat} (hexec : p.tables.exec = Jvm.exec) (hb : c.code = cc) (hl : l.stackTraces = false) {own cls text : String} {names : List String} {ik is ic ix mc ms sa : Nat} {rx : ByteArray} {A : Nat → Prop}
    (x0 : decode rx 0 = .ok (.aload_n 0, 1)) (x1 : decode rx 1 = .ok (.aload_n 1, 1)) (x2 : decode rx 2 = .ok (.invokespecial ix, 3)) (x5 : decode rx 5 = .ok (.return_, 1))
    (hown : s.vm.findClass own = some m.cls) (hcls : Bundle.fit cls = true) (hnames : ∀ n ∈ names, Bundle.fit n = true)
    (hk : (Cond.classLink own ik cls).before args s = true) (gk : vx_ot (Cond.classLink own ik cls) = true) (hini : (Cond.initialized cls).before args s = true) (gi : vx_ot (Cond.initialized cls) = true) (hstr : vk_R own is text sa s) (hat : ∀ w ∈ (Bundle.ownAtomsX own ic cls ix rx names).filter vx_no, w.before args s = true)
    (hgood : ∀ w ∈ (Bundle.ownAtomsX own ic cls ix rx names).filter vx_no, vx_ot w = true)
    (hU : vx_Zq Bundle.tN "UNASSIGNED_STACK" Bundle.steD A s s.heap) (hN : vx_Zq Bundle.tN "SUPPRESSED_SENTINEL" Bundle.listD A s s.heap) (hS : va_S A s.heap H locs) (hsize : ls.size = c.maxLocals)
    (d0 : decode cc pc = .ok (.new ik, 3)) (d3 : decode cc (pc + 3) = .ok (.dup, 1)) (d4 : (decode cc (pc + 4) = .ok (.ldc is, 2) ∧ w = 6) ∨ (decode cc (pc + 4) = .ok (.ldc_w is, 3) ∧ w = 7)) (d6 : decode cc (pc + w) = .ok (.invokespecial ic, 3)) (d9 : decode cc (pc + w + 3) = .ok (.athrow, 1))
    (hout : ∀ x ∈ c.exceptionTable.toList, covers x (pc + w + 3) = false)
    (hRf : names.length + 3 < R.frames) (hRl : (rest.map fun v => v.category).sum + (13 * (names.length + 1) + 43) ≤ R.locals) (hRc : cells + 1 ≤ R.cells) (hRs : slots + 6 ≤ R.slots) (hlocks : meth.locks = false)
    (hx : ∀ t : State, s.vm.Alike t.vm → H.size ≤ t.heap.size → (∀ q : Nat, q < H.size → t.heap[q]? = H[q]?) → XC cls s t)
    (hf : ∀ z ∈ locs, free z.base) (hc : cells + 1 ≤ mc) (hs : slots + 6 ≤ ms) :
    W p l e R s m args below meth c H locs cells slots (vx_MQ below Qc XC args s mc ms free) (F0 m pc ls rest) := by
  intro T hT X
  have htr : e.platform.stackTraces = false := (show e.platform.stackTraces = l.stackTraces by rw [X.admits.platform]).trans hl
  have Y := vx_rebase X (R' := { frames := R.frames, locals := R.locals, cells := 1, slots := 6 }) (Nat.le_refl _) (Nat.le_refl _) hRc hRs
  obtain ⟨s', hA⟩ : ∃ z, z = (T.setVm s.vm).setFrames (.invoking m args :: below) := ⟨_, rfl⟩
  rw [← hA] at Y
  have hvm : s'.vm = s.vm := by rw [hA]; rfl
  have hhp : s'.heap = H := by rw [hA]; exact hT
  have hW0 : s.WarmedH s'.vm := by rw [hvm]; exact State.WarmedH.refl s
  have hk' : (Cond.classLink own ik cls).before args s' = true := vx_ot_at hW0 hvm.symm gk hk
  have hini' : (Cond.initialized cls).before args s' = true := vx_ot_at hW0 hvm.symm gi hini
  have hU' : vx_Zq Bundle.tN "UNASSIGNED_STACK" Bundle.steD A s' s'.heap := by rw [hhp]; exact vx_Zq.moved hW0.alike (hU.kept hS.2.1)
  have hN' : vx_Zq Bundle.tN "SUPPRESSED_SENTINEL" Bundle.listD A s' s'.heap := by rw [hhp]; exact vx_Zq.moved hW0.alike (hN.kept hS.2.1)
  have h : ∀ w ∈ Bundle.ownAtomsX own ic cls ix rx names, w.before args s' = true := vx_own (fun w hw => vx_ot_at hW0 hvm.symm (hgood w hw) (hat w hw)) (vx_isRefq hU'.1) (vx_isRefq hN'.1) hU'.2.word hN'.2.word
  have hown' : s'.vm.findClass own = some m.cls := by rw [hvm]; exact hown
  have hins : (Cond.instantiable cls 6).before args s' = true := h _ (by simp [Bundle.ownAtomsX])
  obtain ⟨vm₁, cX, kX, hfX, hkX, -, -, X₁, st1⟩ := Y.newCold hexec (own := own) (C := cls) (index := ik) (n := 6) hown' hk' hins hini'
    (g := F0 m pc ls rest) rfl (by rw [hb]; exact d0) (Nat.le_refl _) (Nat.le_refl _)
  generalize hT1 : (T.setVm vm₁).pushCell { cls := cX, slots := kX.instanceTypes.map defaultValue, vm := .none } = T1 at X₁ st1
  have hcat : (Value.ref T.heap.size).category = 1 := rfl
  have hcellA : T1.heap[T.heap.size]? = some (freshCell cX kX) := by rw [← hT1]; exact State.heap_pushCell_size _ _
  have d3' : decode c.code (pc + 3) = .ok (.dup, 1) := by rw [hb]; exact d3
  have hstr' : vk_R own is text sa s' := vk_R.warm hW0 hstr
  obtain ⟨U, hsteps, hrun, hend, hW, hsame, ce, hce, hO, hcl⟩ := vy_ctor X₁ hexec htr (own := own) (cls := cls) (names := names) (ic := ic) x0 x1 x2 x5 hown' hcls hnames h (fun x hx => nomatch hx) hfX hkX hcellA (by rw [hhp, hT]; exact Nat.le_refl _) (msg := .ref sa) rfl
    (g := { method := m, pc := pc + w, locals := ls, stack := .ref sa :: .ref T.heap.size :: .ref T.heap.size :: rest, locked := none }) rfl hsize rfl rfl (rest := rest) rfl
    (by rw [hb]; exact d6) (by rw [hb]; exact d9) hout hRf (by simp only [List.map_cons, List.sum_cons, hcat]; omega) hlocks
  obtain ⟨f1, f2⟩ := vx_frame hsame
  rw [hhp] at f1 f2
  have hWs : s.WarmedH U.vm := State.WarmedH.trans hW0 hW
  rw [hvm] at hcl
  have hall : s.sameButNew ({ U with vm := s.vm } : State) locs mc ms := by
    subst hA
    obtain ⟨e1, e2⟩ := hsame
    rw [State.setFrames_setFrames] at e1
    have h2 : (T.setVm s.vm).sameButNew ({ U with vm := s.vm } : State) [] (0 + 1) (0 + 6) := ⟨e1, e2⟩
    have h3 := X.same.trans h2
    rw [List.append_nil] at h3
    exact h3.mono hc hs
  refine ⟨U, ?_, .threw T.heap.size, hrun, hend, Or.inr ⟨T.heap.size, rfl, cls, ce, locs, hx U hWs.alike f1 (fun q hq => f2 q hq (fun z hz => nomatch hz)), hce, hO, hcl, hWs, hall, hf⟩⟩
  refine st1 _ ?_
  show Steps p.tables e below (T1.setTop { method := m, pc := pc + 3, locals := ls, stack := .ref T.heap.size :: rest, locked := none }) _
  jvm_step X₁.here [X₁.here.top, hexec, d3', Value.category]
  rcases d4 with ⟨d4, rfl⟩ | ⟨d4, rfl⟩
  · exact X₁.ldcString hexec (own := own) (text := text) (index := is) (a := sa) hown' hstr'.1 hstr'.2
      (g := { method := m, pc := pc + 4, locals := ls, stack := .ref T.heap.size :: .ref T.heap.size :: rest, locked := none }) rfl (by rw [hb]; exact d4) _ hsteps
  · exact X₁.ldcStringW hexec (own := own) (text := text) (index := is) (a := sa) hown' hstr'.1 hstr'.2
      (g := { method := m, pc := pc + 4, locals := ls, stack := .ref T.heap.size :: .ref T.heap.size :: rest, locked := none }) rfl (by rw [hb]; exact d4) _ hsteps
end VY
/-! ===== J: methods that may throw NoSuchElementException ===== -/
abbrev vyE : String := "java/util/NoSuchElementException"
def vyL : List Cond := Bundle.ownAtomsX "StairsInSteps" 145 "java/util/NoSuchElementException" 13 prog_32_method_4_code ["java/lang/RuntimeException", "java/lang/Exception"]
theorem vy_in : ∀ w ∈ vyL.filter vx_no, w ∈ lw_tbl := by decide +kernel
theorem vy_ot : ∀ w ∈ vyL.filter vx_no, vx_ot w = true := by decide +kernel
/-- the words of a throw that aren't good, nor of the heap -/
def jthw : List Cond := [.declares (Bundle.initS "java/lang/RuntimeException"), .declares (Bundle.initS "java/lang/Exception"), .declares (Bundle.initS Bundle.tN), .castable "java/util/NoSuchElementException" "java/util/NoSuchElementException"]
theorem vy_hw : ∀ w ∈ (vyL.filter vx_no).filter (fun w => !goodWord w), w ∈ jthw := by decide +kernel
def jthk (w : Cond) : Bool := match w with
  | .declares _ => true
  | .castable _ _ => true
  | _ => false
theorem jthw_all : ∀ w ∈ jthw, jthk w = true := by decide +kernel
/-- the texts that are thrown -/
def jstr : List (Nat × String) := [(143, "no such step"), (170, "nothing such of a step"), (199, "no such pilgrim"), (222, "nothing such of a pilgrim"), (439, "no such number")]
/-- what a throw stands on, beside the pool -/
def jV (A : Nat → Prop) (U : State) (H : Heap) : Prop := (∀ w ∈ jthw, va_Nw w U) ∧ (∀ q ∈ jstr, ∃ sa : Nat, vk_R "StairsInSteps" q.1 q.2 sa U) ∧ vx_Zq Bundle.tN "UNASSIGNED_STACK" Bundle.steD A U H ∧ vx_Zq Bundle.tN "SUPPRESSED_SENTINEL" Bundle.listD A U H
theorem jV.warm {A : Nat → Prop} {s U : State} {H : Heap} (hW : s.WarmedH U.vm) (h : jV A s H) : jV A U H := by
  refine ⟨fun w hw => ?_, fun q hq => ?_, vx_Zq.moved hW.alike h.2.2.1, vx_Zq.moved hW.alike h.2.2.2⟩
  · have h1 := h.1 w hw
    have h2 := jthw_all w hw
    cases w with
    | declares x => exact va_Nw.warmD hW h1
    | castable a b => exact va_Nw.warmC hW h1
    | _ => cases h2
  · obtain ⟨sa, hsa⟩ := h.2.1 q hq
    exact ⟨sa, vk_R.warm hW hsa⟩
theorem jV.kept {A : Nat → Prop} {U : State} {H H1 : Heap} (h : jV A U H) (hq : ∀ a : Nat, a < H.size → ¬ A a → H1[a]? = H[a]?) : jV A U H1 := ⟨h.1, h.2.1, h.2.2.1.kept hq, h.2.2.2.kept hq⟩
theorem jV.narrow {A B : Nat → Prop} {U : State} {H : Heap} (h : jV A U H) (hAB : ∀ q, B q → A q) : jV B U H := ⟨h.1, h.2.1, h.2.2.1.narrow hAB, h.2.2.2.narrow hAB⟩
abbrev jRx : Type := jZ → jI → jL → Prop
def jX (D : va_G) (cy : jC) (Rx : jRx) (A : Nat → Prop) : String → State → State → Prop := fun E st t =>
  E = vyE ∧ (∃ (Z : jZ) (I : jI) (L : jL), Rx Z I L ∧ va_P D vwCl (jw cy Z I L) t.heap ∧ va_K D vwCl (jtys cy) t ∧ va_D A (jw cy Z I L)) ∧ va_F A st t
/-- the start of a contract whose body stands on jV -/
def jPV (D : va_G) (cy : jC) (as : List Value) (Z : jZ) (I : jI) (L : jL) (sz : Nat) : Array Value → State → Prop := va_Pc as (fun U => U.heap.size = sz ∧ va_P D vwCl (jw cy Z I L) U.heap ∧ va_K D vwCl (jtys cy) U ∧ va_D (fun _ => True) (jw cy Z I L) ∧ jN U ∧ jV (va_A (jw cy Z I L) sz) U U.heap)
theorem jPV_blind {as : List Value} {D : va_G} {cy : jC} {Z : jZ} {I : jI} {L : jL} {sz : Nat} : FrameBlind (jPV D cy as Z I L sz) := by
  intro a U g mk q
  obtain ⟨q0, q1, qP, qK, qD, qN, qV⟩ := q
  exact ⟨q0, q1, qP, va_K.moved (u := U) (U := U.calling g mk a) (Vm.Alike.refl U.vm) qK, qD, jN_same (s := U) rfl qN, jV.warm (s := U) (U := U.calling g mk a) (State.WarmedH.refl U) qV⟩
/-- a contract of a method that may throw -/
def jCtX (l : Launch) (y : MethodName) (ws : List Cond) (rm : Room) (D : va_G) (cy : jC) (as : List Value) (Z : jZ) (I : jI) (L : jL) (Rt : jRt) (Rx : jRx) : Prop :=
  ∀ sz : Nat, vx_Met l y ws rm (jPV D cy as Z I L sz) (jQ D cy Rt (va_A (jw cy Z I L) sz)) (jX D cy Rx (va_A (jw cy Z I L) sz)) rm.cells rm.slots (va_A (jw cy Z I L) sz)
/-- a contract of a method with handlers: it stands on jV, and returns -/
def jCtH (l : Launch) (y : MethodName) (ws : List Cond) (rm : Room) (D : va_G) (cy : jC) (as : List Value) (Z : jZ) (I : jI) (L : jL) (Rt : jRt) : Prop :=
  ∀ sz : Nat, Met l y ws rm (jPV D cy as Z I L sz) (jQ D cy Rt (va_A (jw cy Z I L) sz)) rm.cells rm.slots (va_A (jw cy Z I L) sz)
/-- what holds along a body that may throw -/
def jEX (G : jG) (rm : Room) (Rt : jRt) (Rx : jRx) : Prop :=
  (gL G).stackTraces = false ∧ jV (gA G) (gS G) (gS G).heap ∧ (∀ x ∈ (gC G).exceptionTable.toList, False) ∧ gQ G = vx_MQ (gB G) (jQ (gD G) (gY G) Rt (gA G)) (jX (gD G) (gY G) Rx (gA G)) (gV G) (gS G) rm.cells rm.slots (gA G)
theorem vy_x0 : decode prog_32_method_4_code 0 = .ok (.aload_n 0, 1) := by decide +kernel
theorem vy_x1 : decode prog_32_method_4_code 1 = .ok (.aload_n 1, 1) := by decide +kernel
theorem vy_x2 : decode prog_32_method_4_code 2 = .ok (.invokespecial 13, 3) := by decide +kernel
theorem vy_x5 : decode prog_32_method_4_code 5 = .ok (.return_, 1) := by decide +kernel
theorem vy_fit : Bundle.fit "java/util/NoSuchElementException" = true ∧ ∀ n ∈ ["java/lang/RuntimeException", "java/lang/Exception"], Bundle.fit n = true := by decide +kernel
section JTHROW
variable {G : jG} {cc : ByteArray} {own : String} {Ts : List Cond} {nL : Nat} {ret : Option FieldType} {rm : Room} {Rt : jRt} {Rx : jRx} {pc : Nat} {lv : List (Nat × Value)} {st : List Value} {Z : jZ} {I : jI} {L : jL} {k n : Nat}
/-- a body that may throw -/
theorem jCtX_of {l : Launch} (hl0 : l.stackTraces = false) {y : MethodName} {ws ws' : List Cond} {rm : Room} {D : va_G} {cy : jC} {as : List Value} {Rt : jRt} {Rx : jRx} {cc : ByteArray} {maxL : Nat} {ret : Option FieldType} (hy : plainName y.cls = true) (hw : ws = Cond.code y cc maxL ret :: ws') (hlen : (lg_sl as).length ≤ maxL)
    (h : ∀ G : jG, gD G = D → gY G = cy → gL G = l → jE G cc y.cls ws maxL ret rm Rt → jEX G rm Rt Rx → jJ G maxL 0 (lv_args 0 as) [] Z I L 0 0) : jCtX l y ws rm D cy as Z I L Rt Rx := by
  intro sz
  refine vx_ofW (cc := cc) (maxL := maxL) (ret := ret) hy hw ?_
  intro p e s m args below meth c s₁ B hml hx hv
  obtain ⟨rfl, hsz, hP, hK, hD0, hN, hV⟩ := hv
  subst hsz
  have hD := hD0.self (sz := s.heap.size)
  have hown : s.vm.findClass y.cls = some m.cls := findClass_of_methodNamed B.named
  have hl := lv_entry as (n := maxL) hlen
  rw [lg_entry_eq]
  generalize (lg_sl as ++ List.replicate (maxL - (lg_sl as).length) Slot.unset).toArray = ls at hl ⊢
  have key := h ((p, l, e, (headSpec ws rm).room, s, m, as.toArray, below, meth, c), D, cy, [], va_A (jw cy Z I L) s.heap.size, vx_MQ below (jQ D cy Rt (va_A (jw cy Z I L) s.heap.size)) (jX D cy Rx (va_A (jw cy Z I L) s.heap.size)) as.toArray s rm.cells rm.slots (va_A (jw cy Z I L) s.heap.size)) rfl rfl rfl
    ⟨⟨B.exec, B.bytes, hml, hown, atoms_spec (ws := ws) B.pre⟩, hK, fun q h => Or.inr h, hN, B.returns, B.notSynchronized, rfl, fun t h => by obtain ⟨o, b1, b2, b3, b4⟩ := h; exact ⟨o, b1, b2, Or.inl ⟨b3, b4⟩⟩⟩ ⟨hl0, hV, hx, rfl⟩
  exact key s.heap [] ls hl hP hD va_S.rf
/-- a body with handlers -/
theorem jCtH_of {l : Launch} {y : MethodName} {ws ws' : List Cond} {rm : Room} {D : va_G} {cy : jC} {as : List Value} {Rt : jRt} {cc : ByteArray} {maxL : Nat} {ret : Option FieldType} {hh : List (Nat × Nat × Nat × Nat)} (hy : plainName y.cls = true) (hw : ws = Cond.codeWith y cc maxL ret hh :: ws') (hlen : (lg_sl as).length ≤ maxL)
    (h : ∀ G : jG, gD G = D → gY G = cy → gL G = l → jE G cc y.cls ws maxL ret rm Rt → jV (gA G) (gS G) (gS G).heap → (gC G).exceptionTable.toList = tableOf hh → jJ G maxL 0 (lv_args 0 as) [] Z I L 0 0) : jCtH l y ws rm D cy as Z I L Rt := by
  intro sz
  refine va_MetW (cc := cc) (maxL := maxL) (ret := ret) (hh := hh) hy hw ?_
  intro p e s m args below meth c s₁ B hml hv
  obtain ⟨rfl, hsz, hP, hK, hD0, hN, hV⟩ := hv
  subst hsz
  have hD := hD0.self (sz := s.heap.size)
  have hown : s.vm.findClass y.cls = some m.cls := findClass_of_methodNamed B.named
  have hl := lv_entry as (n := maxL) hlen
  have htb : c.exceptionTable.toList = tableOf hh := vx_table (x := y) B (atoms_spec (ws := ws) B.pre _ (by rw [hw]; exact List.mem_cons_self))
  rw [lg_entry_eq]
  generalize (lg_sl as ++ List.replicate (maxL - (lg_sl as).length) Slot.unset).toArray = ls at hl ⊢
  have key := h ((p, l, e, (headSpec ws rm).room, s, m, as.toArray, below, meth, c), D, cy, [], va_A (jw cy Z I L) s.heap.size, MQ below (jQ D cy Rt (va_A (jw cy Z I L) s.heap.size)) as.toArray s rm.cells rm.slots (va_A (jw cy Z I L) s.heap.size)) rfl rfl rfl
    ⟨⟨B.exec, B.bytes, hml, hown, atoms_spec (ws := ws) B.pre⟩, hK, fun q h => Or.inr h, hN, B.returns, B.notSynchronized, rfl, fun _ h => h⟩ hV htb
  exact key s.heap [] ls hl hP hD va_S.rf
/-- the throw -/
theorem j_throw {cd : Cond} (E : jE G cc "StairsInSteps" (cd :: jT) nL ret rm Rt) (EX : jEX G rm Rt Rx) {w is : Nat} {text : String} (hs : (is, text) ∈ jstr) (hk : Cond.classLink "StairsInSteps" 141 "java/util/NoSuchElementException" ∈ jT) (hi : Cond.initialized "java/util/NoSuchElementException" ∈ jT)
    (hR : 5 < rm.frames ∧ 90 ≤ rm.locals) (hst : st = []) (h1 : k + 1 ≤ rm.cells) (h2 : n + 6 ≤ rm.slots) (h : Rx Z I L)
    (d0 : decode cc pc = .ok (.new 141, 3)) (d3 : decode cc (pc + 3) = .ok (.dup, 1)) (d4 : (decode cc (pc + 4) = .ok (.ldc is, 2) ∧ w = 6) ∨ (decode cc (pc + 4) = .ok (.ldc_w is, 3) ∧ w = 7)) (d6 : decode cc (pc + w) = .ok (.invokespecial 145, 3)) (d9 : decode cc (pc + w + 3) = .ok (.athrow, 1)) : jJ G nL pc lv st Z I L k n := by
  intro H locs ls hl hP hD hS
  subst hst
  have eR := E.2.2.2.2.2.2.1
  obtain ⟨e1, eV, e3, e4⟩ := EX
  obtain ⟨sa, hsa⟩ := eV.2.1 _ hs
  rw [e4]
  refine vy_throw (Qc := jQ (gD G) (gY G) Rt (gA G)) (A := gA G) (cls := vyE) (text := text) (ix := 13) (rx := prog_32_method_4_code) (names := ["java/lang/RuntimeException", "java/lang/Exception"]) E.1.1 E.1.2.1 e1 vy_x0 vy_x1 vy_x2 vy_x5 E.1.2.2.2.1 vy_fit.1 vy_fit.2
    (E.1.2.2.2.2 _ (tw hk)) (by decide +kernel) (E.1.2.2.2.2 _ (tw hi)) (by decide +kernel) hsa ?_ vy_ot eV.2.2.1 eV.2.2.2 hS (hl.1.trans E.1.2.2.1.symm) d0 d3 d4 d6 d9 (fun x hx => (e3 x hx).elim) (by rw [eR]; exact hR.1) (by rw [eR]; exact Nat.le_trans (show (82 : Nat) ≤ 90 by omega) hR.2) (by rw [eR]; exact h1) (by rw [eR]; exact h2) E.2.2.2.2.2.1 ?_ hS.2.2 h1 h2
  · refine vx_hat (B := jthw) (fun w hw => ?_) vy_hw (fun w hw => ?_)
    · have hw' := List.mem_filter.mp hw
      exact E.1.2.2.2.2 _ (tw (jT_mem (vy_in w hw'.1) hw'.2))
    · have h3 := eV.1 w hw
      have h4 := jthw_all w hw
      cases w with
      | declares x => exact va_Nw.use rfl h3
      | castable a b => exact va_Nw.use rfl h3
      | _ => cases h4
  · intro t hvm hz hq
    refine ⟨rfl, ⟨Z, I, L, h, (j_cutP hP).kept (fun k9 q9 h9 => hq _ (vx_lt (j_cutP hP) h9)), va_K.moved hvm E.2.1, j_cutD hD⟩, Nat.le_trans hS.1 hz, fun q h3 h4 => ?_⟩
    rw [hq q (Nat.lt_of_lt_of_le h3 hS.1)]
    exact hS.2.1 q h3 h4
/-- a call of a method that may throw, in a body whose table has one row, which catches it -/
theorem j_callVX (E : jE G cc own Ts nL ret rm Rt) (hV : jV (gA G) (gS G) (gS G).heap) {hh : Nat × Nat × Nat × Nat} (htb : (gC G).exceptionTable.toList = tableOf [hh]) (hcv : hh.1 ≤ pc ∧ pc < hh.2.1) (hct : hh.2.2.2 ≠ 0) (hlk : Cond.classLink own hh.2.2.2 "java/util/NoSuchElementException" ∈ Ts)
    {y : MethodName} {ws ws' : List Cond} {rm' : Room} {bytes : ByteArray} {maxL : Nat} {ret' : Option FieldType} {C : String} {T : u_T} {N i b c na : Nat} {Rt' : jRt} {Rx' : jRx} (As rest : List Value)
    (hM : jCtX (gL G) y ws rm' (gD G) (gY G) (.ref b :: As) Z I L Rt' Rx') (hg : GoodIn Ts (wsV own i C y ws)) (hw : ws = Cond.code y bytes maxL ret' :: ws')
    (hd : y.cls = C ∧ y.cls ≠ "java/lang/invoke/MethodHandle" ∧ y.cls ≠ "java/lang/invoke/VarHandle" ∧ (parseMethodDescriptor y.desc).map (fun d => d.parameters.length) = some na)
    (hR : rm'.frames + 1 ≤ rm.frames ∧ 8 + (maxL + 11) + rm'.locals ≤ rm.locals) (hcl : vwCl[c]? = some (C, T, N)) (hc : c < 13) (hk : jk Z b c) (hn : As.length = na) (hst : st = As.reverse ++ .ref b :: rest) (hcat : (rest.map fun v => v.category).sum ≤ 8)
    (hf : k + rm'.cells ≤ rm.cells ∧ n + rm'.slots ≤ rm.slots) (d : decode cc pc = .ok (.invokevirtual i, 3))
    (kk : ∀ v Z' I' L', Rt' v Z' I' L' → jJ G nL (pc + 3) lv (v.toList ++ rest) Z' I' L' (k + rm'.cells) (n + rm'.slots))
    (kx : ∀ q Z' I' L', Rx' Z' I' L' → jJ G nL hh.2.2.1 lv [.ref q] Z' I' L' (k + rm'.cells) (n + rm'.slots)) : jJ G nL pc lv st Z I L k n := by
  intro H locs ls hl hP hD hS
  have eR := E.2.2.2.2.2.2.1
  obtain ⟨q, hq⟩ := jw_get (X := gX G) (cy := gY G) (I := I) (L := L) hk.1
  rw [jf_obj hk.2 hc] at hq
  have hfr : ∀ q, va_A (jw (gY G) Z I L) H.size q → gA G q := by
    intro q hq
    rcases hq with ⟨k9, e9, h9⟩ | h9
    · exact (j_cutD hD).2 k9 _ h9
    · exact E.2.2.1 q (Nat.le_trans hS.1 h9)
  have hrun := vx_runV (p := gP G) (l := gL G) (e := gE G) (R := gR G) (s := gS G) (m := gM G) (args := gV G) (below := gB G) (meth := gH G) (c := gC G) (H := H) (locs := locs) (cells := k) (slots := n) (g := F0 (gM G) pc ls st) (As := As) (rest := rest) E.1 (hM H.size) (cwV na E.1.2.2.2.2 hg hw rfl rfl hd (by rw [eR]; exact hR))
    ⟨jPV_blind, va_recv E.2.1 hP hcl hq, fun U hU hW => ⟨rfl, by rw [hU], by rw [hU]; exact j_cutP hP, va_K.moved hW.alike E.2.1, (j_cutD hD).weaken (fun _ _ _ _ => trivial), jN_warm hW E.2.2.2.1, by rw [hU]; exact ((hV.kept hS.2.1).narrow hfr).warm hW⟩⟩ rfl hn hl.1 hst (lv_room hcat) d (by rw [eR]; exact hf)
  intro T9 hT X
  rcases hrun T9 hT X with ⟨v, st₀, t, T', Lw, h0, X', hL, e1, e2, ⟨⟨v2, Z', I', L', hv, hp, hP', hK', hD'⟩, hz, hk9⟩, sp⟩ | ⟨q9, st₀, t, T', Lw, E9, ce, h0, X', hL, e1, e2, ⟨rfl, ⟨Z', I', L', hp, hP', hK', hD'⟩, hz, hk9⟩, hce, hcv9, hcl9, sp⟩
  · cases hv
    rw [h0] at hz hk9
    have hS' : va_S (gA G) (gS G).heap T'.heap (locs ++ Lw) := ⟨Nat.le_trans hS.1 (by rw [e1]; exact hz), fun q h1 h2 => by rw [e1, hk9 q (Nat.lt_of_lt_of_le h1 hS.1) (fun z => h2 (hfr q z))]; exact hS.2.1 q h1 h2, fun q hq => (List.mem_append.mp hq).elim (hS.2.2 q) (fun h => hfr _ (hL q h))⟩
    obtain ⟨hPn, hDn⟩ := j_join hP hD (H1 := t.heap) hk9 hfr hP' hD'
    obtain ⟨t2, a1, b1⟩ := kk v Z' I' L' hp T'.heap (locs ++ Lw) ls hl (by rw [e1]; exact hPn) hDn hS' T' rfl X'
    exact ⟨t2, sp t2 a1, b1⟩
  · rw [h0] at hz hk9
    have hS' : va_S (gA G) (gS G).heap T'.heap (locs ++ Lw) := ⟨Nat.le_trans hS.1 (by rw [e1]; exact hz), fun q h1 h2 => by rw [e1, hk9 q (Nat.lt_of_lt_of_le h1 hS.1) (fun z => h2 (hfr q z))]; exact hS.2.1 q h1 h2, fun q hq => (List.mem_append.mp hq).elim (hS.2.2 q) (fun h => hfr _ (hL q h))⟩
    obtain ⟨hPn, hDn⟩ := j_join hP hD (H1 := t.heap) hk9 hfr hP' hD'
    have hcs : (Cond.castable vyE vyE).before (gV G) (gS G) = true := va_Nw.use rfl (hV.1 _ (by decide))
    obtain ⟨t2, a1, b1⟩ := vx_catch (p := gP G) (l := gL G) (e := gE G) (R := gR G) (s := gS G) (m := gM G) (args := gV G) (below := gB G) (meth := gH G) (c := gC G) (H := T'.heap) (locs := locs ++ Lw) (cells := k + rm'.cells) (slots := n + rm'.slots) (Q := gQ G) (pc := pc) (ls := ls) (rest := rest) (own := own) (name := vyE) (E := vyE) (ce := ce) (q := q9) E.1.2.2.2.1 [] { startPc := hh.1, endPc := hh.2.1, handlerPc := hh.2.2.1, catchType := hh.2.2.2 } [] (by rw [htb]; rfl) (fun z hz => nomatch hz) (by simp [covers, hcv.1, hcv.2]) hct (E.1.2.2.2.2 _ hlk) hcs (by rw [e1]; exact hce) hcv9 hcl9
      (kx q9 Z' I' L' hp T'.heap (locs ++ Lw) ls hl (by rw [e1]; exact hPn) hDn hS') T' rfl X'
    exact ⟨t2, sp.trans a1, b1⟩
/-- a static call of a method with handlers -/
theorem j_callSH (E : jE G cc own Ts nL ret rm Rt) (hV : jV (gA G) (gS G) (gS G).heap) {y : MethodName} {ws ws' : List Cond} {rm' : Room} {bytes : ByteArray} {maxL : Nat} {ret' : Option FieldType} {hh : List (Nat × Nat × Nat × Nat)} {i na : Nat} {Rt' : jRt} (As rest : List Value)
    (hM : jCtH (gL G) y ws rm' (gD G) (gY G) As Z I L Rt') (hg : GoodIn Ts (va_wsS own i y ws)) (hw : ws = Cond.codeWith y bytes maxL ret' hh :: ws')
    (hd : y.cls ≠ "java/lang/invoke/MethodHandle" ∧ y.cls ≠ "java/lang/invoke/VarHandle" ∧ (parseMethodDescriptor y.desc).map (fun d => d.parameters.length) = some na)
    (hR : rm'.frames + 1 ≤ rm.frames ∧ 8 + (maxL + 11) + rm'.locals ≤ rm.locals) (hn : As.length = na) (hst : st = As.reverse ++ rest) (hcat : (rest.map fun v => v.category).sum ≤ 8)
    (hf : k + rm'.cells ≤ rm.cells ∧ n + rm'.slots ≤ rm.slots) (d : decode cc pc = .ok (.invokestatic i, 3))
    (kk : ∀ v Z' I' L', Rt' v Z' I' L' → jJ G nL (pc + 3) lv (v.toList ++ rest) Z' I' L' (k + rm'.cells) (n + rm'.slots)) : jJ G nL pc lv st Z I L k n := by
  intro H locs ls hl hP hD hS
  have eR := E.2.2.2.2.2.2.1
  have hfr : ∀ q, va_A (jw (gY G) Z I L) H.size q → gA G q := by
    intro q hq
    rcases hq with ⟨k9, e9, h9⟩ | h9
    · exact (j_cutD hD).2 k9 _ h9
    · exact E.2.2.1 q (Nat.le_trans hS.1 h9)
  have hrun := vx_runSW (p := gP G) (l := gL G) (e := gE G) (R := gR G) (s := gS G) (m := gM G) (args := gV G) (below := gB G) (meth := gH G) (c := gC G) (H := H) (locs := locs) (cells := k) (slots := n) (g := F0 (gM G) pc ls st) (As := As) (rest := rest) E.1 (hM H.size) (vx_cwSW na E.1.2.2.2.2 hg hw rfl rfl hd (by rw [eR]; exact hR))
    ⟨jPV_blind, fun U hU hW => ⟨rfl, by rw [hU], by rw [hU]; exact j_cutP hP, va_K.moved hW.alike E.2.1, (j_cutD hD).weaken (fun _ _ _ _ => trivial), jN_warm hW E.2.2.2.1, by rw [hU]; exact ((hV.kept hS.2.1).narrow hfr).warm hW⟩⟩ rfl hn hl.1 hst (lv_room hcat) d (by rw [eR]; exact hf)
  exact j_back E hrun hl hP hD hS kk
end JTHROW
